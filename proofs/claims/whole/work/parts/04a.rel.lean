/-! ===== whole numbers ===== -/
theorem zI_add (x y : Int) : zI (x + y) = zI x + zI y := by unfold zI; exact Int32.ofInt_add x y
theorem zI_sub (x y : Int) : zI (x - y) = zI x - zI y := by unfold zI; exact Int32.ofInt_sub x y
theorem zI_mul (x y : Int) : zI (x * y) = zI x * zI y := by unfold zI; exact Int32.ofInt_mul x y
theorem zI_of (w : Int32) : zI w.toInt = w := by unfold zI; exact Int32.ofInt_toInt w
theorem zI_to {x : Int} (h : inR x) : (zI x).toInt = x := by
  unfold zI inR at *
  rw [Int32.toInt_ofInt]
  obtain ⟨h1, h2⟩ := h
  exact Int.bmod_eq_of_le (by simpa using h1) (by simpa using h2)
theorem zI_eq {x y : Int} (hx : inR x) (hy : inR y) : zI x = zI y ↔ x = y := by
  constructor
  · intro h
    have := congrArg Int32.toInt h
    rwa [zI_to hx, zI_to hy] at this
  · intro h; rw [h]
theorem zI_lt {x y : Int} (hx : inR x) (hy : inR y) : zI x < zI y ↔ x < y := by
  rw [Int32.lt_iff_toInt_lt, zI_to hx, zI_to hy]
theorem zI_le {x y : Int} (hx : inR x) (hy : inR y) : zI x ≤ zI y ↔ x ≤ y := by
  rw [Int32.le_iff_toInt_le, zI_to hx, zI_to hy]
theorem inR0 : inR 0 := ⟨by decide, by decide⟩
theorem zI_0 : (0 : Int32) = zI 0 := rfl
theorem zI_cl {i : Int} (h0 : 0 ≤ i) (h : i < 2147483648) : (zI i).toNatClampNeg = i.toNat := by
  show (zI i).toInt.toNat = i.toNat
  rw [zI_to ⟨by omega, h⟩]
theorem zI_vp {i : Int} {n : Nat} (h0 : 0 ≤ i) (h : i < 2147483648) (hn : i < n) : vp_in (zI i) n := by
  unfold vp_in
  rw [zI_cl h0 h]
  intro q
  rcases q with q | q
  · rw [zI_0, zI_lt ⟨by omega, h⟩ inR0] at q; omega
  · omega
theorem zI_nI (n : Nat) : zI (n : Int) = nI n := by
  unfold zI nI
  apply Int32.toBitVec_inj.mp
  simp
/-! ===== what a plain heap says of the machine's ===== -/
def fldV (ci : Nat) (h : Hp) (a : Nat) : List Value := (List.range (nF ci)).map (fun k => if isRf ci k = true then va_rf (hP h a k) else .int (zI (hI h a k)))
def cellE (cy : Nat → ClassId) (h : Hp) (a : Nat) : va_E :=
  if hK h a = 10 then .inl (cy 0, hN h a, .inl (fun j => zI (hI h a j)))
  else if hK h a = 11 then .inl (cy 1, hN h a, .inl (fun j => zI (hI h a j)))
  else if hK h a = 12 then .inl (cy 2, hN h a, .inr (.inl (fun j => Int64.ofInt (hI h a j))))
  else if hK h a = 13 then .inl (cy 3, hN h a, .inr (.inr (.inr (.inr (fun j => hP h a j)))))
  else if hK h a = 14 then .inl (cy 4, hN h a, .inr (.inr (.inr (.inr (fun j => hP h a j)))))
  else .inr (hK h a - 1, fldV (hK h a - 1) h a)
def tysOf (cy : Nat → ClassId) : List (ClassId × FieldType) := [(cy 0, .int), (cy 1, .boolean), (cy 2, .long), (cy 3, .object "java/lang/Object"), (cy 4, .object RX0)]
def vcl : List vw_C := [(RJx4a65c, TJx4a65c, 3), (RX0, TX0, 5), (RX1, TX1, 4), (RX2, TX2, 8), (RX3, TX3, 7), (RX4, TX4, 6), (RX5, TX5, 27)]
def exP : List (String × String) := [("java/lang/IllegalArgumentException", "java/lang/IndexOutOfBoundsException"), ("java/lang/IllegalStateException", "java/lang/IndexOutOfBoundsException"), ("java/lang/IllegalStateException", "java/lang/IllegalArgumentException")]
abbrev aB (s0 : State) : Nat → Prop := fun q => s0.heap.size ≤ q
/-- what holds at the law's start, and for ever -/
def Gl (l : Launch) (s0 : State) (a0 : Array Value) (D : va_G) (cy : Nat → ClassId) (gx : GX) : Prop :=
  l.stackTraces = false ∧ (∀ w ∈ lw_tbl, w.before a0 s0 = true) ∧ va_K D vcl (tysOf cy) s0 ∧
  va_Z RJx4a65c sDef "[Ljava/lang/Object;" (.ref gx.1) (aB s0) s0 s0.heap ∧ va_T (.object "java/lang/Object") gx.1 0 (fun _ => .null) (aB s0) s0 s0.heap ∧
  va_X gx.2.1 gx.2.2.1 (fun j => zI (gx.2.2.2.1 j)) s0 s0.heap ∧ gx.2.1 < s0.heap.size ∧ (gx.2.2.1 < 1000000 ∧ va_Mi "[Ljava/lang/Object;" gx.2.2.2.2 s0) ∧
  (∀ q ∈ strs, ∃ sa, vk_R q.1 q.2.1 q.2.2 sa s0) ∧
  vx_Zq Bundle.tN "UNASSIGNED_STACK" Bundle.steD (aB s0) s0 s0.heap ∧ vx_Zq Bundle.tN "SUPPRESSED_SENTINEL" Bundle.listD (aB s0) s0 s0.heap ∧
  (∀ pr ∈ exP, va_Nc pr.1 pr.2 s0)
def Rel (s0 : State) (D : va_G) (cy : Nat → ClassId) (h : Hp) (H : Heap) : Prop :=
  va_P D vcl (va_pl (hD h) (cellE cy h)) H ∧ va_D (aB s0) (va_pl (hD h) (cellE cy h)) ∧ s0.heap.size ≤ H.size ∧ ∀ q, q < s0.heap.size → H[q]? = s0.heap[q]?
def lvOf : Nat → List (Option AV) → List (Nat × Value)
  | _, [] => []
  | i, none :: t => lvOf (i + 1) t
  | i, some v :: t => (i, tv v) :: lvOf (i + 1) t
theorem lvOf_mem : ∀ (ls : List (Option AV)) (k : Nat) (q : Nat × Value), q ∈ lvOf k ls → ∃ (i : Nat) (v : AV), ls[i]? = some (some v) ∧ q = (k + i, tv v)
  | [], k, q, h => by cases h
  | none :: t, k, q, h => by
    obtain ⟨i, v, h1, h2⟩ := lvOf_mem t (k + 1) q h
    exact ⟨i + 1, v, by simpa using h1, by rw [h2]; congr 1; omega⟩
  | some v :: t, k, q, h => by
    rcases List.mem_cons.mp h with h | h
    · exact ⟨0, v, rfl, h⟩
    · obtain ⟨i, w, h1, h2⟩ := lvOf_mem t (k + 1) q h
      exact ⟨i + 1, w, by simpa using h1, by rw [h2]; congr 1; omega⟩
theorem lvOf_get : ∀ (ls : List (Option AV)) (k i : Nat) (v : AV), ls[i]? = some (some v) → (k + i, tv v) ∈ lvOf k ls
  | [], k, i, v, h => by simp at h
  | none :: t, k, 0, v, h => by simp at h
  | none :: t, k, i + 1, v, h => by
    have := lvOf_get t (k + 1) i v (by simpa using h)
    rw [show k + (i + 1) = k + 1 + i by omega]
    exact this
  | some w :: t, k, 0, v, h => by
    have e : w = v := by simpa using h
    rw [e]
    exact List.mem_cons_self
  | some w :: t, k, i + 1, v, h => by
    have := lvOf_get t (k + 1) i v (by simpa using h)
    rw [show k + (i + 1) = k + 1 + i by omega]
    exact List.mem_cons_of_mem _ this
theorem lv_get {lsA : Array Slot} {nL : Nat} {ls : List (Option AV)} (hl : lv_has lsA nL (lvOf 0 ls)) {i : Nat} {v : AV} (h : ls[i]? = some (some v)) : lsA[i]? = some (.val (tv v)) := by
  have := hl.2.2 _ (lvOf_get ls 0 i v h)
  simpa using this
theorem tv_cat (v : AV) : (tv v).category = catV v := by
  rcases v with z | r | z
  · rfl
  · cases r <;> rfl
  · rfl
/-- a stored value: what the locals are then -/
theorem lv_put {lsB : Array Slot} {nL : Nat} {ls : List (Option AV)} {i : Nat} {v : AV} (h : lv_has lsB nL ((i, tv v) :: (lvOf 0 ls).filter (fun q => !(q.1 == i) && !(q.1 + 1 == i && q.2.category == 2)))) (hc : ∀ (j : Nat) (w : AV), ls[j]? = some (some w) → catV w = 1) : lv_has lsB nL (lvOf 0 (ls.set i (some v))) := by
  refine ⟨h.1, h.2.1, fun q hq => ?_⟩
  obtain ⟨j, w, h1, h2⟩ := lvOf_mem _ _ _ hq
  rw [Nat.zero_add] at h2
  by_cases hj : i = j
  · subst hj
    have hw : w = v := by
      rw [List.getElem?_set] at h1
      split at h1
      · split at h1
        · exact (Option.some.inj (Option.some.inj h1)).symm
        · cases h1
      · rename_i q; exact absurd rfl q
    rw [h2, hw]
    exact h.2.2 (i, tv v) List.mem_cons_self
  · rw [List.getElem?_set_ne hj] at h1
    refine h.2.2 q (List.mem_cons_of_mem _ (List.mem_filter.mpr ⟨?_, ?_⟩))
    · rw [h2]; simpa using lvOf_get ls 0 j w h1
    · rw [h2]
      have hc1 : (tv w).category = 1 := by rw [tv_cat]; exact hc j w h1
      simp only [hc1]
      have : ¬ j = i := fun q => hj q.symm
      simp [this]
section SND
variable {p : Program} {l : Launch} {e : Env} {R : Room} {s s0 : State} {m : MethodId} {args a0 : Array Value} {below : List Frame} {meth : Method} {c : Code} {Q : State → Prop} {D : va_G} {cy : Nat → ClassId} {gx : GX} {M : MI}
/-- a word of the tables at any later state -/
theorem wd_at (hW : s0.WarmedH s.vm) {w : Cond} (hk : okW w = true) (h : w.before a0 s0 = true) (args : Array Value) : w.before args s = true := by
  unfold okW at hk
  rw [Bool.or_eq_true] at hk
  rcases hk with hk | hk
  · exact word_at hW (good_of_word hk) h
  · rw [Bool.and_eq_true] at hk
    have h1 : w.before a0 (s0.setVm s.vm) = true := Cond.before_shiftedFace (State.Shifted.of_warmed hW) w hk.2 h
    exact va_tabs hk.1 (rfl : (s0.setVm s.vm).vm = s.vm) h1
def noLong (ls : List (Option AV)) : Prop := ∀ (j : Nat) (w : AV), ls[j]? = some (some w) → catV w = 1
theorem noLong_set {ls : List (Option AV)} (h : noLong ls) {i : Nat} {v : AV} (hv : catV v = 1) : noLong (ls.set i (some v)) := by
  intro j w hj
  by_cases q : i = j
  · subst q
    rw [List.getElem?_set] at hj
    split at hj
    · split at hj
      · rw [← Option.some.inj (Option.some.inj hj)]; exact hv
      · cases hj
    · rename_i q; exact absurd rfl q
  · rw [List.getElem?_set_ne q] at hj
    exact h j w hj
/-- a point of a walk: whatever heap holds the plain heap, the machine comes to its end from there -/
def JW (p : Program) (l : Launch) (e : Env) (R : Room) (s : State) (m : MethodId) (args : Array Value) (below : List Frame) (meth : Method) (c : Code) (Q : State → Prop) (s0 : State) (D : va_G) (cy : Nat → ClassId) (nL : Nat) : JT := fun pc ls st h cc ss =>
  ∀ (H : Heap) (locs : List Loc) (cells slots : Nat) (lsA : Array Slot), Rel s0 D cy h H → va_S (aB s0) s.heap H locs → cells + cc ≤ R.cells → slots + ss ≤ R.slots → ls.length = nL → noLong ls → lv_has lsA nL (lvOf 0 ls) → W p l e R s m args below meth c H locs cells slots Q (F0 m pc lsA (st.map tv))
/-- what a walk stands on -/
def Cx (p : Program) (l : Launch) (e : Env) (s : State) (m : MethodId) (meth : Method) (c : Code) (s0 : State) (a0 : Array Value) (D : va_G) (cy : Nat → ClassId) (gx : GX) (M : MI) : Prop :=
  Gl l s0 a0 D cy gx ∧ p.tables.exec = Jvm.exec ∧ c.code = M.2.1 ∧ c.maxLocals = M.2.2.1 ∧ s.vm.findClass M.1.cls = some m.cls ∧ s0.WarmedH s.vm ∧ s0.heap.size ≤ s.heap.size ∧ (∀ q, q < s0.heap.size → s.heap[q]? = s0.heap[q]?) ∧ meth.locks = false ∧ (M.1.name = "<init>" → meth.name = "<init>") ∧ meth.sig.returnType = M.2.2.2.1 ∧ (M.1.name ≠ "law" → c.exceptionTable.toList = (match M.2.2.2.2 with | none => [] | some hh => tableOf hh))
theorem Cx.hts (C : Cx p l e s m meth c s0 a0 D cy gx M) : ∀ w ∈ tb, w.before args s = true := by
  obtain ⟨⟨-, hw, -⟩, -, -, -, -, hW, -⟩ := C
  intro w h
  obtain ⟨h1, h2⟩ := List.mem_filter.mp h
  exact wd_at hW h2 (hw w h1) args
theorem Cx.K (C : Cx p l e s m meth c s0 a0 D cy gx M) : va_K D vcl (tysOf cy) s := va_K.moved C.2.2.2.2.2.1.alike C.1.2.2.1
end SND
