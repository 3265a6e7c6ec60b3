/-! ===== the machine of plain values: heaps, values, the rows of its steps ===== -/
abbrev AV : Type := Int ⊕ (Option Nat ⊕ Int)
abbrev vi (z : Int) : AV := .inl z
abbrev vq (r : Option Nat) : AV := .inr (.inl r)
abbrev vr (a : Nat) : AV := .inr (.inl (some a))
abbrev vn : AV := .inr (.inl none)
abbrev vl (z : Int) : AV := .inr (.inr z)
def zI (z : Int) : Int32 := Int32.ofInt z
def tv (v : AV) : Value := match v with
  | .inl z => .int (zI z)
  | .inr (.inl r) => va_rf r
  | .inr (.inr z) => .long (Int64.ofInt z)
/-- a heap: the addresses, their kinds, their lengths, the whole numbers and the references that they hold -/
abbrev Hp : Type := List Nat × (Nat → Nat) × (Nat → Nat) × (Nat → Int → Int) × (Nat → Int → Option Nat)
def hD (h : Hp) : List Nat := h.1
def hK (h : Hp) : Nat → Nat := h.2.1
def hN (h : Hp) : Nat → Nat := h.2.2.1
def hI (h : Hp) : Nat → Int → Int := h.2.2.2.1
def hP (h : Hp) : Nat → Int → Option Nat := h.2.2.2.2
def wI (h : Hp) (a : Nat) (k v : Int) : Hp := (h.1, h.2.1, h.2.2.1, (fun x j => if x = a ∧ j = k then v else h.2.2.2.1 x j), h.2.2.2.2)
def wP (h : Hp) (a : Nat) (k : Int) (v : Option Nat) : Hp := (h.1, h.2.1, h.2.2.1, h.2.2.2.1, (fun x j => if x = a ∧ j = k then v else h.2.2.2.2 x j))
def hNew (h : Hp) (a kd n : Nat) : Hp := (h.1 ++ [a], (fun x => if x = a then kd else h.2.1 x), (fun x => if x = a then n else h.2.2.1 x), (fun x j => if x = a then 0 else h.2.2.2.1 x j), (fun x j => if x = a then none else h.2.2.2.2 x j))
/-- n references from the place sp of x to the place dp of y -/
def hCp (h : Hp) (x : Nat) (sp : Int) (y : Nat) (dp n : Int) : Hp := (h.1, h.2.1, h.2.2.1, h.2.2.2.1, (fun a j => if a = y ∧ dp ≤ j ∧ j < dp + n then h.2.2.2.2 x (sp + (j - dp)) else h.2.2.2.2 a j))
def inR (z : Int) : Prop := -2147483648 ≤ z ∧ z < 2147483648
/-- a method: name, code, places for locals, answer, table of handlers -/
abbrev MI : Type := MethodName × ByteArray × Nat × Option FieldType × Option (List (Nat × Nat × Nat × Nat))
def mW (M : MI) : Cond := match M.2.2.2.2 with
  | none => .code M.1 M.2.1 M.2.2.1 M.2.2.2.1
  | some hh => .codeWith M.1 M.2.1 M.2.2.1 M.2.2.2.1 hh
def okM (M : MI) : Prop := mW M ∈ tb ∧ (plainName M.1.cls = true ∧ M.1.name ≠ "law") ∧ Cond.initialized M.1.cls ∈ tb ∧ (M.1.cls ≠ "java/lang/invoke/MethodHandle" ∧ M.1.cls ≠ "java/lang/invoke/VarHandle") ∧ M.2.2.1 ≤ 22
/-- a call site: its class, its entry, the method that is meant -/
def cV (own : String) (ix : Nat) (M : MI) (n : Nat) : Prop := okM M ∧ M.2.2.2.2 = none ∧ Cond.methodLink own ix M.1 ∈ tb ∧ Cond.instanceMethod M.1 ∈ tb ∧ Cond.selects M.1.cls M.1 M.1 ∈ tb ∧ (parseMethodDescriptor M.1.desc).map (fun d => d.parameters.length) = some n ∧ n < M.2.2.1
def cS (own : String) (ix : Nat) (M : MI) (n : Nat) : Prop := okM M ∧ M.2.2.2.2 = none ∧ Cond.methodLink own ix M.1 ∈ tb ∧ Cond.static M.1 ∈ tb ∧ (parseMethodDescriptor M.1.desc).map (fun d => d.parameters.length) = some n ∧ n < M.2.2.1 + 1
def cSX (own : String) (ix : Nat) (M : MI) (n : Nat) : Prop := okM M ∧ M.2.2.2.2 ≠ none ∧ Cond.methodLink own ix M.1 ∈ tb ∧ Cond.static M.1 ∈ tb ∧ (parseMethodDescriptor M.1.desc).map (fun d => d.parameters.length) = some n ∧ n < M.2.2.1 + 1
def cI (own : String) (ix : Nat) (M : MI) (n : Nat) : Prop := okM M ∧ M.2.2.2.2 = none ∧ Cond.methodLink own ix M.1 ∈ tb ∧ Cond.instanceMethod M.1 ∈ tb ∧ M.1.name = "<init>" ∧ M.2.2.2.1 = none ∧ (parseMethodDescriptor M.1.desc).map (fun d => d.parameters.length) = some n ∧ n < M.2.2.1
def cN (own : String) (ix : Nat) (M : MI) (host : String) (n : Nat) : Prop := okM M ∧ M.2.2.2.2 = none ∧ Cond.methodLinkNest own ix M.1 host ∈ lw_tbl ∧ Cond.instanceMethod M.1 ∈ tb ∧ M.1.name = "<init>" ∧ M.2.2.2.1 = none ∧ (parseMethodDescriptor M.1.desc).map (fun d => d.parameters.length) = some n ∧ n < M.2.2.1
-- fields: by the class' number, the field's number
def fT (ci k : Nat) : String × String × String × Bool := match ci with
  | 0 => TJx4a65c k | 1 => TX0 k | 2 => TX1 k | 3 => TX2 k | 4 => TX3 k | 5 => TX4 k | _ => TX5 k
def fY (ci k : Nat) : FieldType := match ci with
  | 0 => tyJx4a65c k | 1 => tyX0 k | 2 => tyX1 k | 3 => tyX2 k | 4 => tyX3 k | 5 => tyX4 k | _ => tyX5 k
def nF (ci : Nat) : Nat := match ci with
  | 0 => 3 | 1 => 5 | 2 => 4 | 3 => 8 | 4 => 7 | 5 => 6 | _ => 27
def cNm (ci : Nat) : String := match ci with
  | 0 => RJx4a65c | 1 => RX0 | 2 => RX1 | 3 => RX2 | 4 => RX3 | 5 => RX4 | _ => RX5
def isRT (ty : FieldType) : Bool := match ty with
  | .object _ => true
  | .array _ => true
  | _ => false
def isRf (ci k : Nat) : Bool := isRT (fY ci k)
/-- a field as an instruction names it -/
def fL (own : String) (ix ci k : Nat) : Prop := ci < 7 ∧ k < nF ci ∧ ∃ ref, Cond.fieldLink own ix ref (fT ci k).2.1 (fT ci k).2.2.1 ∈ tb ∧ (ref = (fT ci k).1 ∨ Cond.sameField ref (fT ci k).1 (fT ci k).2.1 (fT ci k).2.2.1 ∈ tb)
def catV (v : AV) : Nat := match v with
  | .inl _ => 1
  | .inr (.inl _) => 1
  | .inr (.inr _) => 2
/-- the whole numbers that a field takes -/
def okP (ci k : Nat) (x : Int) : Prop := fY ci k = .int ∨ (fY ci k = .boolean ∧ (x = 0 ∨ x = 1))
def finOk (M : MI) (ci k : Nat) : Prop := (fT ci k).2.2.2 = false ∨ ((fT ci k).2.2.2 = true ∧ M.1.name = "<init>" ∧ (fT ci k).1 = M.1.cls)
abbrev gcN : MethodName := ⟨"java/lang/Object", "getClass", "()Ljava/lang/Class;"⟩
theorem gc1 : Cond.methodLink RJ7 86 gcN ∈ tb := tbm2 55 (by decide +kernel) (by decide +kernel)
theorem gc2 : Cond.instanceMethod gcN ∈ tb := tbm2 56 (by decide +kernel) (by decide +kernel)
theorem gc3 : Cond.native gcN ∈ tb := tbm2 68 (by decide +kernel) (by decide +kernel)
theorem gc4 : Cond.selects "[Ljava/lang/Object;" gcN gcN ∈ tb := tbm6 6 (by decide +kernel) (by decide +kernel)
theorem gc5 : Cond.declares gcN ∈ tb := tbm6 7 (by decide +kernel) (by decide +kernel)
abbrev JT : Type := Nat → List (Option AV) → List AV → Hp → Nat → Nat → Prop
abbrev CT : Type := MI → List AV → Hp → Nat → Nat → (Option AV → Hp → Prop) → (String → Hp → Prop) → Prop
/-- what never moves: the shared empty row of lists, the script, its length, its numbers; the class of rows of objects, as an object -/
abbrev GX : Type := Nat × Nat × Nat × (Nat → Int) × Nat
/-- constants and locals -/
def Cl1 (b : ByteArray) (J : JT) : Prop :=
  (∀ (pc : Nat) ls st h c s (n : Int), decode b pc = .ok (.iconst n, 1) → J (pc + 1) ls (vi n :: st) h c s → J pc ls st h c s) ∧
  (∀ (pc : Nat) ls st h c s (n : Int), decode b pc = .ok (.bipush n, 2) → (Int8.ofInt n).toInt32 = zI n → J (pc + 2) ls (vi n :: st) h c s → J pc ls st h c s) ∧
  (∀ (pc : Nat) ls st h c s (n : Int), decode b pc = .ok (.sipush n, 3) → (Int16.ofInt n).toInt32 = zI n → J (pc + 3) ls (vi n :: st) h c s → J pc ls st h c s) ∧
  (∀ (pc : Nat) ls st h c s (n : Fin 2), decode b pc = .ok (.lconst n, 1) → J (pc + 1) ls (vl ((n : Nat) : Int) :: st) h c s → J pc ls st h c s) ∧
  (∀ (pc : Nat) ls st h c s, decode b pc = .ok (.aconst_null, 1) → J (pc + 1) ls (vn :: st) h c s → J pc ls st h c s) ∧
  (∀ (pc : Nat) ls st h c s (k : Fin 4) (i : Nat) (x : Int), decode b pc = .ok (.iload_n k, 1) → (k : Nat) = i → ls[i]? = some (some (vi x)) → J (pc + 1) ls (vi x :: st) h c s → J pc ls st h c s) ∧
  (∀ (pc : Nat) ls st h c s (i : Nat) (x : Int), decode b pc = .ok (.iload i, 2) → ls[i]? = some (some (vi x)) → J (pc + 2) ls (vi x :: st) h c s → J pc ls st h c s) ∧
  (∀ (pc : Nat) ls st h c s (k : Fin 4) (i : Nat) (r : Option Nat), decode b pc = .ok (.aload_n k, 1) → (k : Nat) = i → ls[i]? = some (some (vq r)) → J (pc + 1) ls (vq r :: st) h c s → J pc ls st h c s) ∧
  (∀ (pc : Nat) ls st h c s (i : Nat) (r : Option Nat), decode b pc = .ok (.aload i, 2) → ls[i]? = some (some (vq r)) → J (pc + 2) ls (vq r :: st) h c s → J pc ls st h c s) ∧
  (∀ (pc : Nat) ls st h c s (k : Fin 4) (i : Nat) (x : Int), decode b pc = .ok (.istore_n k, 1) → (k : Nat) = i → i < ls.length → J (pc + 1) (ls.set i (some (vi x))) st h c s → J pc ls (vi x :: st) h c s) ∧
  (∀ (pc : Nat) ls st h c s (i : Nat) (x : Int), decode b pc = .ok (.istore i, 2) → i < ls.length → J (pc + 2) (ls.set i (some (vi x))) st h c s → J pc ls (vi x :: st) h c s) ∧
  (∀ (pc : Nat) ls st h c s (k : Fin 4) (i : Nat) (r : Option Nat), decode b pc = .ok (.astore_n k, 1) → (k : Nat) = i → i < ls.length → J (pc + 1) (ls.set i (some (vq r))) st h c s → J pc ls (vq r :: st) h c s) ∧
  (∀ (pc : Nat) ls st h c s (i : Nat) (r : Option Nat), decode b pc = .ok (.astore i, 2) → i < ls.length → J (pc + 2) (ls.set i (some (vq r))) st h c s → J pc ls (vq r :: st) h c s) ∧
  (∀ (pc : Nat) ls st h c s (i : Nat) (n x : Int), decode b pc = .ok (.iinc i n, 3) → ls[i]? = some (some (vi x)) → J (pc + 3) (ls.set i (some (vi (x + n)))) st h c s → J pc ls st h c s)
/-- numbers and the stack -/
def Cl2 (b : ByteArray) (J : JT) : Prop :=
  (∀ (pc : Nat) ls st h c s (x y : Int), decode b pc = .ok (.iadd, 1) → J (pc + 1) ls (vi (x + y) :: st) h c s → J pc ls (vi y :: vi x :: st) h c s) ∧
  (∀ (pc : Nat) ls st h c s (x y : Int), decode b pc = .ok (.isub, 1) → J (pc + 1) ls (vi (x - y) :: st) h c s → J pc ls (vi y :: vi x :: st) h c s) ∧
  (∀ (pc : Nat) ls st h c s (x y : Int), decode b pc = .ok (.imul, 1) → J (pc + 1) ls (vi (x * y) :: st) h c s → J pc ls (vi y :: vi x :: st) h c s) ∧
  (∀ (pc : Nat) ls st h c s (x y : Int), decode b pc = .ok (.iand, 1) → J (pc + 1) ls (vi (zI x &&& zI y).toInt :: st) h c s → J pc ls (vi y :: vi x :: st) h c s) ∧
  (∀ (pc : Nat) ls st h c s (x y : Int), decode b pc = .ok (.ior, 1) → J (pc + 1) ls (vi (zI x ||| zI y).toInt :: st) h c s → J pc ls (vi y :: vi x :: st) h c s) ∧
  (∀ (pc : Nat) ls st h c s (x y : Int), decode b pc = .ok (.ixor, 1) → J (pc + 1) ls (vi (zI x ^^^ zI y).toInt :: st) h c s → J pc ls (vi y :: vi x :: st) h c s) ∧
  (∀ (pc : Nat) ls st h c s (x y : Int), decode b pc = .ok (.ishl, 1) → J (pc + 1) ls (vi (zI x <<< (zI y &&& 31)).toInt :: st) h c s → J pc ls (vi y :: vi x :: st) h c s) ∧
  (∀ (pc : Nat) ls st h c s (x y : Int), decode b pc = .ok (.ishr, 1) → J (pc + 1) ls (vi (zI x >>> (zI y &&& 31)).toInt :: st) h c s → J pc ls (vi y :: vi x :: st) h c s) ∧
  (∀ (pc : Nat) ls st h c s (x y : Int), decode b pc = .ok (.irem, 1) → 0 ≤ x → x < 2147483648 → 0 < y → y < 2147483648 → J (pc + 1) ls (vi (x % y) :: st) h c s → J pc ls (vi y :: vi x :: st) h c s) ∧
  (∀ (pc : Nat) ls st h c s (x : Int), decode b pc = .ok (.i2l, 1) → inR x → J (pc + 1) ls (vl x :: st) h c s → J pc ls (vi x :: st) h c s) ∧
  (∀ (pc : Nat) ls st h c s (x y : Int), decode b pc = .ok (.lcmp, 1) → inR x → inR y → J (pc + 1) ls (vi (if x = y then 0 else if y < x then 1 else -1) :: st) h c s → J pc ls (vl y :: vl x :: st) h c s) ∧
  (∀ (pc : Nat) ls st h c s (v : AV), decode b pc = .ok (.dup, 1) → catV v = 1 → J (pc + 1) ls (v :: v :: st) h c s → J pc ls (v :: st) h c s) ∧
  (∀ (pc : Nat) ls st h c s (v : AV), decode b pc = .ok (.pop, 1) → catV v = 1 → J (pc + 1) ls st h c s → J pc ls (v :: st) h c s) ∧
  (∀ (pc : Nat) ls st h c s (v w : AV), decode b pc = .ok (.dup_x1, 1) → catV v = 1 → catV w = 1 → J (pc + 1) ls (v :: w :: v :: st) h c s → J pc ls (v :: w :: st) h c s) ∧
  (∀ (pc : Nat) ls st h c s (v w : AV), decode b pc = .ok (.dup2, 1) → catV v = 1 → catV w = 1 → J (pc + 1) ls (v :: w :: v :: w :: st) h c s → J pc ls (v :: w :: st) h c s)
/-- branches -/
def Cl3 (b : ByteArray) (J : JT) : Prop :=
  (∀ (pc : Nat) ls st h c s (off : Int) (t : Nat), decode b pc = .ok (.goto off, 3) → (pc : Int) + off = (t : Int) → J t ls st h c s → J pc ls st h c s) ∧
  (∀ (pc : Nat) ls st h c s (off : Int) (t : Nat) (x : Int), decode b pc = .ok (.ifCond .eq off, 3) → (pc : Int) + off = (t : Int) → inR x → (x = 0 → J t ls st h c s) → (¬ x = 0 → J (pc + 3) ls st h c s) → J pc ls (vi x :: st) h c s) ∧
  (∀ (pc : Nat) ls st h c s (off : Int) (t : Nat) (x : Int), decode b pc = .ok (.ifCond .ne off, 3) → (pc : Int) + off = (t : Int) → inR x → (¬ x = 0 → J t ls st h c s) → (x = 0 → J (pc + 3) ls st h c s) → J pc ls (vi x :: st) h c s) ∧
  (∀ (pc : Nat) ls st h c s (off : Int) (t : Nat) (x : Int), decode b pc = .ok (.ifCond .lt off, 3) → (pc : Int) + off = (t : Int) → inR x → (x < 0 → J t ls st h c s) → (0 ≤ x → J (pc + 3) ls st h c s) → J pc ls (vi x :: st) h c s) ∧
  (∀ (pc : Nat) ls st h c s (off : Int) (t : Nat) (x : Int), decode b pc = .ok (.ifCond .ge off, 3) → (pc : Int) + off = (t : Int) → inR x → (0 ≤ x → J t ls st h c s) → (x < 0 → J (pc + 3) ls st h c s) → J pc ls (vi x :: st) h c s) ∧
  (∀ (pc : Nat) ls st h c s (off : Int) (t : Nat) (x : Int), decode b pc = .ok (.ifCond .gt off, 3) → (pc : Int) + off = (t : Int) → inR x → (0 < x → J t ls st h c s) → (x ≤ 0 → J (pc + 3) ls st h c s) → J pc ls (vi x :: st) h c s) ∧
  (∀ (pc : Nat) ls st h c s (off : Int) (t : Nat) (x : Int), decode b pc = .ok (.ifCond .le off, 3) → (pc : Int) + off = (t : Int) → inR x → (x ≤ 0 → J t ls st h c s) → (0 < x → J (pc + 3) ls st h c s) → J pc ls (vi x :: st) h c s) ∧
  (∀ (pc : Nat) ls st h c s (off : Int) (t : Nat) (x y : Int), decode b pc = .ok (.if_icmp .eq off, 3) → (pc : Int) + off = (t : Int) → inR x → inR y → (x = y → J t ls st h c s) → (¬ x = y → J (pc + 3) ls st h c s) → J pc ls (vi y :: vi x :: st) h c s) ∧
  (∀ (pc : Nat) ls st h c s (off : Int) (t : Nat) (x y : Int), decode b pc = .ok (.if_icmp .ne off, 3) → (pc : Int) + off = (t : Int) → inR x → inR y → (¬ x = y → J t ls st h c s) → (x = y → J (pc + 3) ls st h c s) → J pc ls (vi y :: vi x :: st) h c s) ∧
  (∀ (pc : Nat) ls st h c s (off : Int) (t : Nat) (x y : Int), decode b pc = .ok (.if_icmp .lt off, 3) → (pc : Int) + off = (t : Int) → inR x → inR y → (x < y → J t ls st h c s) → (y ≤ x → J (pc + 3) ls st h c s) → J pc ls (vi y :: vi x :: st) h c s) ∧
  (∀ (pc : Nat) ls st h c s (off : Int) (t : Nat) (x y : Int), decode b pc = .ok (.if_icmp .ge off, 3) → (pc : Int) + off = (t : Int) → inR x → inR y → (y ≤ x → J t ls st h c s) → (x < y → J (pc + 3) ls st h c s) → J pc ls (vi y :: vi x :: st) h c s) ∧
  (∀ (pc : Nat) ls st h c s (off : Int) (t : Nat) (x y : Int), decode b pc = .ok (.if_icmp .gt off, 3) → (pc : Int) + off = (t : Int) → inR x → inR y → (y < x → J t ls st h c s) → (x ≤ y → J (pc + 3) ls st h c s) → J pc ls (vi y :: vi x :: st) h c s) ∧
  (∀ (pc : Nat) ls st h c s (off : Int) (t : Nat) (x y : Int), decode b pc = .ok (.if_icmp .le off, 3) → (pc : Int) + off = (t : Int) → inR x → inR y → (x ≤ y → J t ls st h c s) → (y < x → J (pc + 3) ls st h c s) → J pc ls (vi y :: vi x :: st) h c s) ∧
  (∀ (pc : Nat) ls st h c s (off : Int) (t : Nat) (r : Option Nat), decode b pc = .ok (.ifnull off, 3) → (pc : Int) + off = (t : Int) → (r = none → J t ls st h c s) → (∀ a, r = some a → J (pc + 3) ls st h c s) → J pc ls (vq r :: st) h c s) ∧
  (∀ (pc : Nat) ls st h c s (off : Int) (t : Nat) (r : Option Nat), decode b pc = .ok (.ifnonnull off, 3) → (pc : Int) + off = (t : Int) → (∀ a, r = some a → J t ls st h c s) → (r = none → J (pc + 3) ls st h c s) → J pc ls (vq r :: st) h c s) ∧
  (∀ (pc : Nat) ls st h c s (off : Int) (t : Nat) (r q : Option Nat), decode b pc = .ok (.if_acmp .eq off, 3) → (pc : Int) + off = (t : Int) → (r = q → J t ls st h c s) → (¬ r = q → J (pc + 3) ls st h c s) → J pc ls (vq q :: vq r :: st) h c s) ∧
  (∀ (pc : Nat) ls st h c s (off : Int) (t : Nat) (r q : Option Nat), decode b pc = .ok (.if_acmp .ne off, 3) → (pc : Int) + off = (t : Int) → (¬ r = q → J t ls st h c s) → (r = q → J (pc + 3) ls st h c s) → J pc ls (vq q :: vq r :: st) h c s) ∧
  (∀ (pc : Nat) ls st h c s (df lo hi : Int) (offs : Array Int) (len : Nat) (off : Int) (t : Nat) (x : Int), decode b pc = .ok (.tableswitch df lo hi offs, len) → inR x → lo ≤ x → x ≤ hi → offs[(x - lo).toNat]? = some off → (pc : Int) + off = (t : Int) → J t ls st h c s → J pc ls (vi x :: st) h c s) ∧
  (∀ (pc : Nat) ls st h c s (df lo hi : Int) (offs : Array Int) (len : Nat) (t : Nat) (x : Int), decode b pc = .ok (.tableswitch df lo hi offs, len) → inR x → (x < lo ∨ hi < x) → (pc : Int) + df = (t : Int) → J t ls st h c s → J pc ls (vi x :: st) h c s)
def sDef : String := "DEFAULTCAPACITY_EMPTY_ELEMENTDATA"
/-- fields, new objects, casts -/
def Cl4 (gx : GX) (M : MI) (J : JT) : Prop :=
  (∀ (pc : Nat) ls st h c s (ix ci k a : Nat), decode M.2.1 pc = .ok (.getfield ix, 3) → fL M.1.cls ix ci k → isRf ci k = false → a ∈ hD h → hK h a = ci + 1 → J (pc + 3) ls (vi (hI h a k) :: st) h c s → J pc ls (vr a :: st) h c s) ∧
  (∀ (pc : Nat) ls st h c s (ix ci k a : Nat), decode M.2.1 pc = .ok (.getfield ix, 3) → fL M.1.cls ix ci k → isRf ci k = true → a ∈ hD h → hK h a = ci + 1 → J (pc + 3) ls (vq (hP h a k) :: st) h c s → J pc ls (vr a :: st) h c s) ∧
  (∀ (pc : Nat) ls st h c s (ix ci k a : Nat) (x : Int), decode M.2.1 pc = .ok (.putfield ix, 3) → fL M.1.cls ix ci k → finOk M ci k → okP ci k x → a ∈ hD h → hK h a = ci + 1 → J (pc + 3) ls st (wI h a k x) c s → J pc ls (vi x :: vr a :: st) h c s) ∧
  (∀ (pc : Nat) ls st h c s (ix ci k a : Nat) (r : Option Nat), decode M.2.1 pc = .ok (.putfield ix, 3) → fL M.1.cls ix ci k → finOk M ci k → isRf ci k = true → a ∈ hD h → hK h a = ci + 1 → J (pc + 3) ls st (wP h a k r) c s → J pc ls (vq r :: vr a :: st) h c s) ∧
  (∀ (pc : Nat) ls st h c s (ix : Nat), decode M.2.1 pc = .ok (.getstatic ix, 3) → Cond.fieldLink M.1.cls ix RJx4a65c sDef "[Ljava/lang/Object;" ∈ tb → J (pc + 3) ls (vr gx.1 :: st) h c s → J pc ls st h c s) ∧
  (∀ (pc : Nat) ls st h c s (ix ci : Nat), decode M.2.1 pc = .ok (.new ix, 3) → ci < 7 → Cond.classLink M.1.cls ix (cNm ci) ∈ tb → 1 ≤ c → nF ci ≤ s → (∀ q, q ∉ hD h → J (pc + 3) ls (vr q :: st) (hNew h q (ci + 1) (nF ci)) (c - 1) (s - nF ci)) → J pc ls st h c s) ∧
  (∀ (pc : Nat) ls st h c s (ix ci a : Nat), decode M.2.1 pc = .ok (.checkcast ix, 3) → ci < 7 → Cond.classLink M.1.cls ix (cNm ci) ∈ tb → a ∈ hD h → hK h a = ci + 1 → J (pc + 3) ls (vr a :: st) h c s → J pc ls (vr a :: st) h c s) ∧
  (∀ (pc : Nat) ls st h c s (ix a : Nat), decode M.2.1 pc = .ok (.invokespecial ix, 3) → Cond.methodLink M.1.cls ix Lib.objectInit ∈ tb → st.length ≤ 4 → J (pc + 3) ls st h c s → J pc ls (vr a :: st) h c s) ∧
  (∀ (pc : Nat) ls st h c s (ix : Nat), decode M.2.1 pc = .ok (.ldc ix, 2) → Cond.classLink M.1.cls ix "[Ljava/lang/Object;" ∈ tb → J (pc + 2) ls (vr gx.2.2.2.2 :: st) h c s → J pc ls st h c s) ∧
  (∀ (pc : Nat) ls st h c s (ix a : Nat), decode M.2.1 pc = .ok (.invokevirtual ix, 3) → Cond.methodLink M.1.cls ix gcN ∈ tb → a ∈ hD h → hK h a = 13 → st.length ≤ 4 → J (pc + 3) ls (vr gx.2.2.2.2 :: st) h c s → J pc ls (vr a :: st) h c s) ∧
  (∀ (pc : Nat) ls st h c s (ix : Nat) (n : Int), decode M.2.1 pc = .ok (.ldc ix, 2) → Cond.constant M.1.cls ix (zI n) ∈ tb → J (pc + 2) ls (vi n :: st) h c s → J pc ls st h c s)
/-- arrays -/
def Cl5 (gx : GX) (M : MI) (J : JT) : Prop :=
  (∀ (pc : Nat) ls st h c s (a : Nat), decode M.2.1 pc = .ok (.arraylength, 1) → a ∈ hD h → 10 ≤ hK h a → hK h a ≤ 14 → J (pc + 1) ls (vi (hN h a) :: st) h c s → J pc ls (vr a :: st) h c s) ∧
  (∀ (pc : Nat) ls st h c s, decode M.2.1 pc = .ok (.arraylength, 1) → J (pc + 1) ls (vi 0 :: st) h c s → J pc ls (vr gx.1 :: st) h c s) ∧
  (∀ (pc : Nat) ls st h c s, decode M.2.1 pc = .ok (.arraylength, 1) → J (pc + 1) ls (vi gx.2.2.1 :: st) h c s → J pc ls (vr gx.2.1 :: st) h c s) ∧
  (∀ (pc : Nat) ls st h c s (a : Nat) (i : Int), decode M.2.1 pc = .ok (.iaload, 1) → a ∈ hD h → hK h a = 10 → 0 ≤ i → i < hN h a → i < 2147483648 → J (pc + 1) ls (vi (hI h a i) :: st) h c s → J pc ls (vi i :: vr a :: st) h c s) ∧
  (∀ (pc : Nat) ls st h c s (i : Int), decode M.2.1 pc = .ok (.iaload, 1) → 0 ≤ i → i < gx.2.2.1 → i < 2147483648 → J (pc + 1) ls (vi (gx.2.2.2.1 i.toNat) :: st) h c s → J pc ls (vi i :: vr gx.2.1 :: st) h c s) ∧
  (∀ (pc : Nat) ls st h c s (a : Nat) (i : Int), decode M.2.1 pc = .ok (.baload, 1) → a ∈ hD h → hK h a = 11 → 0 ≤ i → i < hN h a → i < 2147483648 → J (pc + 1) ls (vi (hI h a i) :: st) h c s → J pc ls (vi i :: vr a :: st) h c s) ∧
  (∀ (pc : Nat) ls st h c s (a : Nat) (i : Int), decode M.2.1 pc = .ok (.laload, 1) → a ∈ hD h → hK h a = 12 → 0 ≤ i → i < hN h a → i < 2147483648 → J (pc + 1) ls (vl (hI h a i) :: st) h c s → J pc ls (vi i :: vr a :: st) h c s) ∧
  (∀ (pc : Nat) ls st h c s (a : Nat) (i : Int), decode M.2.1 pc = .ok (.aaload, 1) → a ∈ hD h → (hK h a = 13 ∨ hK h a = 14) → 0 ≤ i → i < hN h a → i < 2147483648 → J (pc + 1) ls (vq (hP h a i) :: st) h c s → J pc ls (vi i :: vr a :: st) h c s) ∧
  (∀ (pc : Nat) ls st h c s (a : Nat) (i x : Int), decode M.2.1 pc = .ok (.iastore, 1) → a ∈ hD h → hK h a = 10 → 0 ≤ i → i < hN h a → i < 2147483648 → J (pc + 1) ls st (wI h a i x) c s → J pc ls (vi x :: vi i :: vr a :: st) h c s) ∧
  (∀ (pc : Nat) ls st h c s (a : Nat) (i x : Int), decode M.2.1 pc = .ok (.bastore, 1) → a ∈ hD h → hK h a = 11 → 0 ≤ i → i < hN h a → i < 2147483648 → (x = 0 ∨ x = 1) → J (pc + 1) ls st (wI h a i x) c s → J pc ls (vi x :: vi i :: vr a :: st) h c s) ∧
  (∀ (pc : Nat) ls st h c s (a : Nat) (i x : Int), decode M.2.1 pc = .ok (.lastore, 1) → a ∈ hD h → hK h a = 12 → 0 ≤ i → i < hN h a → i < 2147483648 → J (pc + 1) ls st (wI h a i x) c s → J pc ls (vl x :: vi i :: vr a :: st) h c s) ∧
  (∀ (pc : Nat) ls st h c s (a v ci : Nat) (i : Int), decode M.2.1 pc = .ok (.aastore, 1) → a ∈ hD h → hK h a = 13 → 0 ≤ i → i < hN h a → i < 2147483648 → v ∈ hD h → hK h v = ci + 1 → ci < 7 → Cond.castable (cNm ci) "java/lang/Object" ∈ tb → J (pc + 1) ls st (wP h a i (some v)) c s → J pc ls (vr v :: vi i :: vr a :: st) h c s) ∧
  (∀ (pc : Nat) ls st h c s (a : Nat) (i : Int), decode M.2.1 pc = .ok (.aastore, 1) → a ∈ hD h → hK h a = 13 → 0 ≤ i → i < hN h a → i < 2147483648 → J (pc + 1) ls st (wP h a i none) c s → J pc ls (vn :: vi i :: vr a :: st) h c s) ∧
  (∀ (pc : Nat) ls st h c s (a v : Nat) (i : Int), decode M.2.1 pc = .ok (.aastore, 1) → a ∈ hD h → hK h a = 14 → 0 ≤ i → i < hN h a → i < 2147483648 → v ∈ hD h → hK h v = 2 → J (pc + 1) ls st (wP h a i (some v)) c s → J pc ls (vr v :: vi i :: vr a :: st) h c s) ∧
  (∀ (pc : Nat) ls st h c s (n : Int), decode M.2.1 pc = .ok (.newarray .int, 2) → 0 ≤ n → n ≤ 100000 → 1 ≤ c → n.toNat ≤ s → (∀ q, q ∉ hD h → J (pc + 2) ls (vr q :: st) (hNew h q 10 n.toNat) (c - 1) (s - n.toNat)) → J pc ls (vi n :: st) h c s) ∧
  (∀ (pc : Nat) ls st h c s (n : Int), decode M.2.1 pc = .ok (.newarray .boolean, 2) → 0 ≤ n → n ≤ 100000 → 1 ≤ c → n.toNat ≤ s → (∀ q, q ∉ hD h → J (pc + 2) ls (vr q :: st) (hNew h q 11 n.toNat) (c - 1) (s - n.toNat)) → J pc ls (vi n :: st) h c s) ∧
  (∀ (pc : Nat) ls st h c s (n : Int), decode M.2.1 pc = .ok (.newarray .long, 2) → 0 ≤ n → n ≤ 100000 → 1 ≤ c → n.toNat ≤ s → (∀ q, q ∉ hD h → J (pc + 2) ls (vr q :: st) (hNew h q 12 n.toNat) (c - 1) (s - n.toNat)) → J pc ls (vi n :: st) h c s) ∧
  (∀ (pc : Nat) ls st h c s (ix : Nat) (n : Int), decode M.2.1 pc = .ok (.anewarray ix, 3) → Cond.classLink M.1.cls ix "java/lang/Object" ∈ tb → 0 ≤ n → n ≤ 100000 → 1 ≤ c → n.toNat ≤ s → (∀ q, q ∉ hD h → J (pc + 3) ls (vr q :: st) (hNew h q 13 n.toNat) (c - 1) (s - n.toNat)) → J pc ls (vi n :: st) h c s) ∧
  (∀ (pc : Nat) ls st h c s (ix : Nat) (n : Int), decode M.2.1 pc = .ok (.anewarray ix, 3) → Cond.classLink M.1.cls ix RX0 ∈ tb → 0 ≤ n → n ≤ 100000 → 1 ≤ c → n.toNat ≤ s → (∀ q, q ∉ hD h → J (pc + 3) ls (vr q :: st) (hNew h q 14 n.toNat) (c - 1) (s - n.toNat)) → J pc ls (vi n :: st) h c s) ∧
  (∀ (pc : Nat) ls st h c s, (gx.1 ∉ hD h → J pc ls st h c s) → J pc ls st h c s)
/-- what comes behind a call -/
def aft (J : JT) (pc : Nat) (ls : List (Option AV)) (st : List AV) (c s : Nat) : Option AV → Hp → Prop := fun o h => match o with
  | some v => J (pc + 3) ls (v :: st) h c s
  | none => J (pc + 3) ls st h c s
/-- where a throw goes: to a row of the method's own table, or out -/
def cat0 (M : MI) (Qx : String → Hp → Prop) (J : JT) (pc : Nat) (ls : List (Option AV)) (c s : Nat) (E : String) (h : Hp) : Prop := match M.2.2.2.2 with
  | none => Qx E h
  | some hh => ∃ (pre : List (Nat × Nat × Nat × Nat)) (x : Nat × Nat × Nat × Nat) (suf : List (Nat × Nat × Nat × Nat)) (nm : String), hh = pre ++ x :: suf ∧ (∀ z ∈ pre, z.2.2.2 ≠ 0 ∧ ∃ n2, Cond.classLink M.1.cls z.2.2.2 n2 ∈ tb ∧ (E, n2) ∈ ([("java/lang/IllegalArgumentException", "java/lang/IndexOutOfBoundsException"), ("java/lang/IllegalStateException", "java/lang/IndexOutOfBoundsException"), ("java/lang/IllegalStateException", "java/lang/IllegalArgumentException")] : List (String × String))) ∧ x.1 ≤ pc ∧ pc < x.2.1 ∧ x.2.2.2 ≠ 0 ∧ Cond.classLink M.1.cls x.2.2.2 nm ∈ tb ∧ Cond.castable E nm ∈ tb ∧ ∀ q, J x.2.2.1 ls [vr q] h c s
/-- calls -/
def Cl6 (call : CT) (M : MI) (Qx : String → Hp → Prop) (J : JT) : Prop :=
  (∀ (pc : Nat) ls st h c s (ix ci : Nat) (N : MI) (a : Nat) (As : List AV) (c1 s1 : Nat), decode M.2.1 pc = .ok (.invokevirtual ix, 3) → cV M.1.cls ix N As.length → (∀ v ∈ As, catV v = 1) → ci < 7 → cNm ci = N.1.cls → a ∈ hD h → hK h a = ci + 1 → st.length ≤ 4 → c1 ≤ c → s1 ≤ s →
    call N (vr a :: As) h c1 s1 (aft J pc ls st (c - c1) (s - s1)) (cat0 M Qx J pc ls (c - c1) (s - s1)) → J pc ls (As.reverse ++ vr a :: st) h c s) ∧
  (∀ (pc : Nat) ls st h c s (ix : Nat) (N : MI) (As : List AV) (c1 s1 : Nat), decode M.2.1 pc = .ok (.invokestatic ix, 3) → cS M.1.cls ix N As.length → (∀ v ∈ As, catV v = 1) → st.length ≤ 4 → c1 ≤ c → s1 ≤ s →
    call N As h c1 s1 (aft J pc ls st (c - c1) (s - s1)) (cat0 M Qx J pc ls (c - c1) (s - s1)) → J pc ls (As.reverse ++ st) h c s) ∧
  (∀ (pc : Nat) ls st h c s (ix : Nat) (N : MI) (As : List AV) (c1 s1 : Nat), decode M.2.1 pc = .ok (.invokestatic ix, 3) → cSX M.1.cls ix N As.length → (∀ v ∈ As, catV v = 1) → st.length ≤ 4 → c1 ≤ c → s1 ≤ s →
    call N As h c1 s1 (aft J pc ls st (c - c1) (s - s1)) (cat0 M Qx J pc ls (c - c1) (s - s1)) → J pc ls (As.reverse ++ st) h c s) ∧
  (∀ (pc : Nat) ls st h c s (ix : Nat) (N : MI) (a : Nat) (As : List AV) (c1 s1 : Nat), decode M.2.1 pc = .ok (.invokespecial ix, 3) → cI M.1.cls ix N As.length → (∀ v ∈ As, catV v = 1) → st.length ≤ 4 → c1 ≤ c → s1 ≤ s →
    call N (vr a :: As) h c1 s1 (aft J pc ls st (c - c1) (s - s1)) (cat0 M Qx J pc ls (c - c1) (s - s1)) → J pc ls (As.reverse ++ vr a :: st) h c s) ∧
  (∀ (pc : Nat) ls st h c s (ix : Nat) (N : MI) (host : String) (a : Nat) (As : List AV) (c1 s1 : Nat), decode M.2.1 pc = .ok (.invokespecial ix, 3) → cN M.1.cls ix N host As.length → (∀ v ∈ As, catV v = 1) → st.length ≤ 4 → c1 ≤ c → s1 ≤ s →
    call N (vr a :: As) h c1 s1 (aft J pc ls st (c - c1) (s - s1)) (cat0 M Qx J pc ls (c - c1) (s - s1)) → J pc ls (As.reverse ++ vr a :: st) h c s)
/-- the library's own: Math.max, Math.min, System.arraycopy of references -/
def Cl7 (M : MI) (J : JT) : Prop :=
  (∀ (pc : Nat) ls st h c s (ix : Nat) (x y : Int), decode M.2.1 pc = .ok (.invokestatic ix, 3) → Cond.methodLink M.1.cls ix Lib.Math.max.name ∈ tb → inR x → inR y → st.length ≤ 4 → J (pc + 3) ls (vi (if x < y then y else x) :: st) h c s → J pc ls (vi y :: vi x :: st) h c s) ∧
  (∀ (pc : Nat) ls st h c s (ix : Nat) (x y : Int), decode M.2.1 pc = .ok (.invokestatic ix, 3) → Cond.methodLink M.1.cls ix Lib.Math.min.name ∈ tb → inR x → inR y → st.length ≤ 4 → J (pc + 3) ls (vi (if y < x then y else x) :: st) h c s → J pc ls (vi y :: vi x :: st) h c s) ∧
  (∀ (pc : Nat) ls st h c s (ix a0 a1 : Nat) (sp dp n : Int), decode M.2.1 pc = .ok (.invokestatic ix, 3) → Cond.methodLink M.1.cls ix arraycopyName ∈ tb → a0 ∈ hD h → hK h a0 = 13 → a1 ∈ hD h → hK h a1 = 13 → 0 ≤ sp → 0 ≤ dp → 0 ≤ n → sp + n ≤ hN h a0 → dp + n ≤ hN h a1 → sp + n < 2147483648 → dp + n < 2147483648 →
    (∀ i : Int, 0 ≤ i → i < n → ∀ y, hP h a0 (sp + i) = some y → y ∈ hD h ∧ ∃ ci, ci < 7 ∧ hK h y = ci + 1 ∧ Cond.castable (cNm ci) "java/lang/Object" ∈ tb) → st.length ≤ 1 → J (pc + 3) ls st (hCp h a0 sp a1 dp n) c s → J pc ls (vi n :: vi dp :: vr a1 :: vi sp :: vr a0 :: st) h c s)
def strs : List (String × Nat × String) := [("BlockFleet", 249, "no such rack"), ("BlockFleet", 39, "room is 1 to 12"), ("BlockFleet", 50, "there are 8 nodes"), ("BlockFleet", 239, "no such node"), ("BlockFleet", 241, "no such piece"), ("BlockFleet", 247, "no such cell"), ("BlockFleet", 92, "the node has no such cell"), ("BlockFleet", 100, "the limit is 0 to 3"), ("BlockFleet", 102, "seconds are 1 to 100"), ("BlockFleet", 104, "the second would be above 3000"), ("BlockFleet", 289, "there are 20 files"), ("BlockFleet", 243, "no such file"), ("BlockFleet", 253, "the file is not there"), ("BlockFleet", 142, "the file is not deleted"), ("BlockFleet", 251, "a number is 0 to 999"), ("BlockFleet", 300, "the piece cannot be written"), ("BlockFleet", 302, "the file would have 7 pieces"), ("BlockFleet", 255, "there would be 61 pieces"), ("BlockFleet", 311, "a new piece finds no place"), ("BlockFleet", 245, "no such place in the file"), ("BlockFleet", 166, "the primary has not so many cells"), ("BlockFleet", 201, "what is 0 to 5"), ("BlockFleet", 205, "no such copy"), ("BlockFleet", 208, "what is 0 to 2"), ("BlockFleet", 223, "what is 0 to 3")]
def exN : List String := ["java/lang/RuntimeException", "java/lang/Exception"]
/-- five instructions that make an exception with a text and throw it -/
def thr (M : MI) (pc : Nat) (E : String) : Prop := ∃ (ik is ic : Nat) (tx : String), Bundle.fit E = true ∧ (M.1.cls, is, tx) ∈ strs ∧ Cond.classLink M.1.cls ik E ∈ tb ∧ Cond.initialized E ∈ tb ∧ (∀ w ∈ vx_atS M.1.cls ic E exN, w ∈ tb) ∧ decode M.2.1 pc = .ok (.new ik, 3) ∧ decode M.2.1 (pc + 3) = .ok (.dup, 1) ∧
  ((decode M.2.1 (pc + 4) = .ok (.ldc is, 2) ∧ decode M.2.1 (pc + 6) = .ok (.invokespecial ic, 3) ∧ decode M.2.1 (pc + 9) = .ok (.athrow, 1)) ∨ (decode M.2.1 (pc + 4) = .ok (.ldc_w is, 3) ∧ decode M.2.1 (pc + 7) = .ok (.invokespecial ic, 3) ∧ decode M.2.1 (pc + 10) = .ok (.athrow, 1)))
/-- ends, and less room -/
def Cl8 (d : Nat) (M : MI) (Qr : Option AV → Hp → Prop) (Qx : String → Hp → Prop) (J : JT) : Prop :=
  (∀ (pc : Nat) ls h c s (x : Int), decode M.2.1 pc = .ok (.ireturn, 1) → (M.2.2.2.1 = some .int ∨ (M.2.2.2.1 = some .boolean ∧ (x = 0 ∨ x = 1))) → Qr (some (vi x)) h → J pc ls [vi x] h c s) ∧
  (∀ (pc : Nat) ls h c s (r : Option Nat) (ty : FieldType), decode M.2.1 pc = .ok (.areturn, 1) → M.2.2.2.1 = some ty → isRT ty = true → Qr (some (vq r)) h → J pc ls [vq r] h c s) ∧
  (∀ (pc : Nat) ls h c s, decode M.2.1 pc = .ok (.return_, 1) → M.2.2.2.1 = none → Qr none h → J pc ls [] h c s) ∧
  (∀ (pc : Nat) ls st h c s (E : String), thr M pc E → M.2.2.2.2 = none → 6 ≤ d → st.length ≤ 4 → 1 ≤ c → 6 ≤ s → Qx E h → J pc ls st h c s) ∧
  (∀ (pc : Nat) ls st h c s (c1 s1 : Nat), c1 ≤ c → s1 ≤ s → J pc ls st h c1 s1 → J pc ls st h c s)
def Cl (gx : GX) (d : Nat) (call : CT) (M : MI) (Qr : Option AV → Hp → Prop) (Qx : String → Hp → Prop) (J : JT) : Prop :=
  Cl1 M.2.1 J ∧ Cl2 M.2.1 J ∧ Cl3 M.2.1 J ∧ Cl4 gx M J ∧ Cl5 gx M J ∧ Cl6 call M Qx J ∧ Cl7 M J ∧ Cl8 d M Qr Qx J
/-- a method's run at depth d: from its arguments on, the room c, s; its ends: an answer, a throw -/
def aM (gx : GX) : Nat → CT
  | 0 => fun _ _ _ _ _ _ _ => False
  | d + 1 => fun M As h c s Qr Qx => ∀ J : JT, Cl gx (d + 1) (aM gx d) M Qr Qx J → J 0 (As.map some ++ List.replicate (M.2.2.1 - As.length) none) [] h c s
