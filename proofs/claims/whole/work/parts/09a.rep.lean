/-! ===== the class's heap and the table ===== -/
/-- what a place for a copy holds: j is the place, t the number of node and piece -/
def SV (A : Nat → Int → Nat) (g : GT) (h : Hp) (j t : Int) : Prop :=
  hI h (A 2 j) 1 = g 18 t ∧ hI h (A 2 j) 2 = g 19 t ∧ hI h (A 2 j) 3 = g 21 t ∧ ∀ c, 0 ≤ c → c < g 19 t → hI h (A 3 j) c = g 20 (4 * t + c)
/-- a node -/
def RN (A : Nat → Int → Nat) (u g : GT) (h : Hp) (n : Int) : Prop :=
  (A 0 n ∈ hD h ∧ hK h (A 0 n) = 4) ∧ (hP h (A 0 n) 2 = some (A 1 n) ∧ A 1 n ∈ hD h ∧ hK h (A 1 n) = 14 ∧ (hN h (A 1 n) : Int) = g 6 n) ∧
  (hI h (A 0 n) 0 = n ∧ hI h (A 0 n) 1 = g 5 n ∧ hI h (A 0 n) 3 = u 3 n ∧ hI h (A 0 n) 4 = g 7 n ∧ hI h (A 0 n) 5 = g 9 n ∧ (g 7 n = 0 → hI h (A 0 n) 6 = g 8 n) ∧ hI h (A 0 n) 7 = g 10 n)
/-- a place for a copy -/
def RS (A : Nat → Int → Nat) (u g : GT) (h : Hp) (n i : Int) : Prop :=
  hP h (A 1 n) i = some (A 2 (12 * n + i)) ∧ (A 2 (12 * n + i) ∈ hD h ∧ hK h (A 2 (12 * n + i)) = 2) ∧
  (hP h (A 2 (12 * n + i)) 4 = some (A 3 (12 * n + i)) ∧ A 3 (12 * n + i) ∈ hD h ∧ hK h (A 3 (12 * n + i)) = 10 ∧ hN h (A 3 (12 * n + i)) = 4) ∧
  ((u 0 (12 * n + i) = -1 ∧ hP h (A 2 (12 * n + i)) 0 = none) ∨
   ((0 ≤ u 0 (12 * n + i) ∧ u 0 (12 * n + i) < g 11 0) ∧ hP h (A 2 (12 * n + i)) 0 = some (A 4 (u 0 (12 * n + i))) ∧ SV A g h (12 * n + i) (60 * n + u 0 (12 * n + i))))
/-- a piece -/
def RQ (gx : GX) (A : Nat → Int → Nat) (u g : GT) (h : Hp) (p : Int) : Prop :=
  (A 4 p ∈ hD h ∧ hK h (A 4 p) = 5) ∧ (hI h (A 4 p) 0 = p ∧ hI h (A 4 p) 1 = g 12 p ∧ hI h (A 4 p) 2 = u 2 p ∧ hI h (A 4 p) 4 = g 14 p ∧ hI h (A 4 p) 5 = u 1 p) ∧
  hP h (A 4 p) 3 = (if g 13 p = -1 then none else some (A 0 (g 13 p))) ∧ (hP h (A 4 p) 6 = some (A 5 p) ∧ (u 6 p = 1 → hP h (A 5 p) 1 ≠ some gx.1)) ∧ LI gx h (A 5 p) (g 16 p) (fun k => some (A 0 (g 17 (8 * p + k))))
/-- a file -/
def RF (gx : GX) (A : Nat → Int → Nat) (u g : GT) (h : Hp) (f : Int) : Prop :=
  (A 6 f ∈ hD h ∧ hK h (A 6 f) = 3) ∧ (hI h (A 6 f) 0 = f ∧ hI h (A 6 f) 1 = u 4 f ∧ (g 23 f = 1 → hI h (A 6 f) 2 = g 24 f)) ∧
  hP h (A 6 f) 3 = some (A 7 f) ∧ LI gx h (A 7 f) (u 5 f) (fun k => some (A 4 (g 26 (6 * f + k))))
/-- the fleet; m pieces are in its list -/
def RX (gx : GX) (x : Nat) (A : Nat → Int → Nat) (m : Int) (g : GT) (h : Hp) : Prop :=
  (x ∈ hD h ∧ hK h x = 6) ∧ (hP h x 0 = some (A 8 0) ∧ hP h x 1 = some (A 8 1) ∧ hP h x 2 = some (A 8 2)) ∧ (hI h x 3 = g 1 0 ∧ hI h x 4 = g 2 0 ∧ hI h x 5 = g 3 0) ∧
  LI gx h (A 8 0) (g 4 0) (fun n => some (A 0 n)) ∧ LI gx h (A 8 1) m (fun p => some (A 4 p)) ∧ LI gx h (A 8 2) (g 22 0) (fun f => some (A 6 f))
/-- which names are in use -/
def VA (g : GT) (k : Nat) (j : Int) : Prop := match k with
  | 0 => 0 ≤ j ∧ j < g 4 0
  | 1 => 0 ≤ j ∧ j < g 4 0
  | 2 => 0 ≤ j ∧ j / 12 < g 4 0 ∧ j % 12 < g 6 (j / 12)
  | 3 => 0 ≤ j ∧ j / 12 < g 4 0 ∧ j % 12 < g 6 (j / 12)
  | 4 => 0 ≤ j ∧ j < g 11 0
  | 5 => 0 ≤ j ∧ j < g 11 0
  | 6 => 0 ≤ j ∧ j < g 22 0
  | 7 => 0 ≤ j ∧ j < g 22 0
  | 8 => 0 ≤ j ∧ j < 3
  | _ => False
def AP (A : Nat → Int → Nat) (g : GT) : Prop := ∀ k j k' j', VA g k j → VA g k' j' → A k j = A k' j' → k = k' ∧ j = j'
abbrev LK (k : Nat) : Prop := k = 5 ∨ k = 7 ∨ k = 8
def BK (A : Nat → Int → Nat) (g : GT) (h : Hp) : Prop := ∀ k j k' j' a, LK k → LK k' → VA g k j → VA g k' j' → a ∈ hD h → hP h (A k j) 1 = some a → hP h (A k' j') 1 = some a → k = k' ∧ j = j'
/-- the class's fleet x, its things named by A, holds the table g; u: 0 the piece in a place (-1: none), 1 the second of the last mending, 2 in how many files, 3 how many places are taken, 4 what a file is, 5 how many pieces are in its row, 6 whether a piece's list has its own row (1) -/
def Rp (gx : GX) (x : Nat) (A : Nat → Int → Nat) (u : GT) (m : Int) (g : GT) (h : Hp) : Prop :=
  gx.1 ∉ hD h ∧ RX gx x A m g h ∧ (∀ n, 0 ≤ n → n < g 4 0 → RN A u g h n) ∧ (∀ n i, 0 ≤ n → n < g 4 0 → 0 ≤ i → i < g 6 n → RS A u g h n i) ∧
  (∀ p, 0 ≤ p → p < g 11 0 → RQ gx A u g h p) ∧ (∀ f, 0 ≤ f → f < g 22 0 → RF gx A u g h f) ∧ AP A g ∧ BK A g h ∧
  (∀ k j, inR (g k j)) ∧ (∀ k j, inR (u k j)) ∧ (∀ n, 0 ≤ n → n < g 4 0 → 0 ≤ g 6 n ∧ g 6 n ≤ 12)
section RPs
variable {gx : GX} {x : Nat} {A : Nat → Int → Nat} {u u' : GT} {m m' : Int} {g g' : GT} {h h' : Hp} {S : Nat → Prop}
theorem Rp.gxn (R : Rp gx x A u m g h) : gx.1 ∉ hD h := R.1
theorem Rp.xx (R : Rp gx x A u m g h) : RX gx x A m g h := R.2.1
theorem Rp.n (R : Rp gx x A u m g h) {n : Int} (h0 : 0 ≤ n) (h1 : n < g 4 0) : RN A u g h n := R.2.2.1 n h0 h1
theorem Rp.s (R : Rp gx x A u m g h) {n i : Int} (h0 : 0 ≤ n) (h1 : n < g 4 0) (h2 : 0 ≤ i) (h3 : i < g 6 n) : RS A u g h n i := R.2.2.2.1 n i h0 h1 h2 h3
theorem Rp.q (R : Rp gx x A u m g h) {p : Int} (h0 : 0 ≤ p) (h1 : p < g 11 0) : RQ gx A u g h p := R.2.2.2.2.1 p h0 h1
theorem Rp.f (R : Rp gx x A u m g h) {f : Int} (h0 : 0 ≤ f) (h1 : f < g 22 0) : RF gx A u g h f := R.2.2.2.2.2.1 f h0 h1
theorem Rp.ap (R : Rp gx x A u m g h) : AP A g := R.2.2.2.2.2.2.1
theorem Rp.bk (R : Rp gx x A u m g h) : BK A g h := R.2.2.2.2.2.2.2.1
theorem Rp.rg (R : Rp gx x A u m g h) (k : Nat) (j : Int) : inR (g k j) := R.2.2.2.2.2.2.2.2.1 k j
theorem Rp.ru (R : Rp gx x A u m g h) (k : Nat) (j : Int) : inR (u k j) := R.2.2.2.2.2.2.2.2.2.1 k j
theorem Rp.room (R : Rp gx x A u m g h) {n : Int} (h0 : 0 ≤ n) (h1 : n < g 4 0) : 0 ≤ g 6 n ∧ g 6 n ≤ 12 := R.2.2.2.2.2.2.2.2.2.2 n h0 h1
theorem VA.s {n i : Int} {k : Nat} (hk : k = 2 ∨ k = 3) (h0 : 0 ≤ n) (h1 : n < g 4 0) (h2 : 0 ≤ i) (h3 : i < g 6 n) (h4 : g 6 n ≤ 12) : VA g k (12 * n + i) := by
  have e1 : (12 * n + i) / 12 = n := by omega
  have e2 : (12 * n + i) % 12 = i := by omega
  rcases hk with rfl | rfl
  · show 0 ≤ 12 * n + i ∧ (12 * n + i) / 12 < g 4 0 ∧ (12 * n + i) % 12 < g 6 ((12 * n + i) / 12)
    rw [e1, e2]; exact ⟨by omega, h1, h3⟩
  · show 0 ≤ 12 * n + i ∧ (12 * n + i) / 12 < g 4 0 ∧ (12 * n + i) % 12 < g 6 ((12 * n + i) / 12)
    rw [e1, e2]; exact ⟨by omega, h1, h3⟩
/-! what other changes leave -/
theorem LI.ot {l : Nat} {n : Int} {f : Int → Option Nat} (L : LI gx h l n f) (O : OT h h' S) (h0 : ¬ S l) (h1 : ∀ a, hP h l 1 = some a → a ∈ hD h → ¬ S a) : LI gx h' l n f := by
  obtain ⟨⟨a1, a2⟩, b1, b2, b3, b4⟩ := L
  obtain ⟨o1, o2, o3, o4⟩ := O l a1
  obtain ⟨oi, op⟩ := o4 h0
  refine ⟨⟨o1, o2.trans a2⟩, (oi 2).trans b1, b2, b3, ?_⟩
  rcases b4 with z | ⟨a, c1, c2, c3, c4, c5, c6⟩
  · exact Or.inl ⟨z.1, (op 1).trans z.2⟩
  · obtain ⟨p1, p2, p3, p4⟩ := O a c2
    obtain ⟨pi, pp⟩ := p4 (h1 a c1 c2)
    exact Or.inr ⟨a, (op 1).trans c1, p1, p2.trans c3, by rw [p3]; exact c4, by rw [p3]; exact c5, fun i i0 i1 => (pp i).trans (c6 i i0 i1)⟩
theorem LI.c {l : Nat} {n : Int} {f f' : Int → Option Nat} (L : LI gx h l n f) (e : ∀ i, 0 ≤ i → i < n → f' i = f i) : LI gx h l n f' := by
  obtain ⟨a, b1, b2, b3, b4⟩ := L
  refine ⟨a, b1, b2, b3, b4.imp id ?_⟩
  rintro ⟨a, c1, c2, c3, c4, c5, c6⟩
  exact ⟨a, c1, c2, c3, c4, c5, fun i i0 i1 => (c6 i i0 i1).trans (e i i0 i1).symm⟩
theorem RN.ot {n : Int} (R : RN A u g h n) (O : OT h h' S) (h0 : ¬ S (A 0 n)) : RN A u g h' n := by
  obtain ⟨⟨a1, a2⟩, ⟨b1, b2, b3, b4⟩, c⟩ := R
  obtain ⟨o1, o2, o3, o4⟩ := O _ a1
  obtain ⟨oi, op⟩ := o4 h0
  refine ⟨⟨o1, o2.trans a2⟩, ⟨(op 2).trans b1, (O _ b2).1, (O _ b2).2.1.trans b3, by rw [(O _ b2).2.2.1]; exact b4⟩, ?_⟩
  simp only [oi]
  exact c
theorem RN.c {n : Int} (R : RN A u g h n) (e : ∀ k, (k = 5 ∨ k = 6 ∨ k = 7 ∨ k = 8 ∨ k = 9 ∨ k = 10) → g' k n = g k n) (e3 : u' 3 n = u 3 n) : RN A u' g' h n := by
  unfold RN at R ⊢
  rw [e 5 (by omega), e 6 (by omega), e 7 (by omega), e 8 (by omega), e 9 (by omega), e 10 (by omega), e3]
  exact R
theorem RS.ot {n i : Int} (R : RS A u g h n i) (hn : A 1 n ∈ hD h) (O : OT h h' S) (h0 : ¬ S (A 1 n)) (h1 : ¬ S (A 2 (12 * n + i))) (h2 : ¬ S (A 3 (12 * n + i))) : RS A u g h' n i := by
  obtain ⟨r1, ⟨a1, a2⟩, ⟨b1, b2, b3, b4⟩, c⟩ := R
  have o1 := O _ hn
  have o2 := O _ a1
  have o3 := O _ b2
  have i2 := (o2.2.2.2 h1).1
  have p2 := (o2.2.2.2 h1).2
  have i3 := (o3.2.2.2 h2).1
  refine ⟨((o1.2.2.2 h0).2 i).trans r1, ⟨o2.1, o2.2.1.trans a2⟩, ⟨(p2 4).trans b1, o3.1, o3.2.1.trans b3, o3.2.2.1.trans b4⟩, ?_⟩
  unfold SV at c ⊢
  simp only [i2, p2, i3]
  exact c
theorem RS.c {n i : Int} (R : RS A u g h n i) (h0 : u' 0 (12 * n + i) = u 0 (12 * n + i)) (hp : g 11 0 ≤ g' 11 0)
    (e : ∀ t, t = 60 * n + u 0 (12 * n + i) → 0 ≤ u 0 (12 * n + i) → u 0 (12 * n + i) < g 11 0 → g' 18 t = g 18 t ∧ g' 19 t = g 19 t ∧ g' 21 t = g 21 t ∧ ∀ c, 0 ≤ c → c < g 19 t → g' 20 (4 * t + c) = g 20 (4 * t + c)) : RS A u' g' h n i := by
  obtain ⟨r1, r2, r3, c⟩ := R
  unfold RS
  rw [h0]
  refine ⟨r1, r2, r3, c.imp id ?_⟩
  rintro ⟨⟨c1, c2⟩, c3, c4, c5, c6, c7⟩
  obtain ⟨e1, e2, e3, e4⟩ := e _ rfl c1 c2
  refine ⟨⟨c1, by omega⟩, c3, c4.trans e1.symm, c5.trans e2.symm, c6.trans e3.symm, fun k k0 k1 => ?_⟩
  rw [e2] at k1
  exact (c7 k k0 k1).trans (e4 k k0 k1).symm
theorem RQ.ot {p : Int} (R : RQ gx A u g h p) (O : OT h h' S) (h0 : ¬ S (A 4 p)) (h1 : ¬ S (A 5 p)) (h2 : ∀ a, hP h (A 5 p) 1 = some a → a ∈ hD h → ¬ S a) : RQ gx A u g h' p := by
  obtain ⟨⟨a1, a2⟩, b, c1, c2, c3⟩ := R
  obtain ⟨o1, o2, o3, o4⟩ := O _ a1
  obtain ⟨oi, op⟩ := o4 h0
  refine ⟨⟨o1, o2.trans a2⟩, ?_, (op 3).trans c1, ⟨(op 6).trans c2.1, fun z => by rw [((O _ c3.1.1).2.2.2 h1).2 1]; exact c2.2 z⟩, c3.ot O h1 h2⟩
  simp only [oi]
  exact b
theorem RQ.c {p : Int} (R : RQ gx A u g h p) (e : ∀ k, (k = 12 ∨ k = 13 ∨ k = 14 ∨ k = 16) → g' k p = g k p) (e17 : ∀ k, 0 ≤ k → k < g 16 p → g' 17 (8 * p + k) = g 17 (8 * p + k)) (e1 : u' 1 p = u 1 p) (e2 : u' 2 p = u 2 p) (e6 : u' 6 p = u 6 p) : RQ gx A u' g' h p := by
  unfold RQ at R ⊢
  rw [e 12 (by omega), e 13 (by omega), e 14 (by omega), e 16 (by omega), e1, e2, e6]
  exact ⟨R.1, R.2.1, R.2.2.1, R.2.2.2.1, R.2.2.2.2.c (fun i i0 i1 => by rw [e17 i i0 i1])⟩
theorem RF.ot {f : Int} (R : RF gx A u g h f) (O : OT h h' S) (h0 : ¬ S (A 6 f)) (h1 : ¬ S (A 7 f)) (h2 : ∀ a, hP h (A 7 f) 1 = some a → a ∈ hD h → ¬ S a) : RF gx A u g h' f := by
  obtain ⟨⟨a1, a2⟩, b, c2, c3⟩ := R
  obtain ⟨o1, o2, o3, o4⟩ := O _ a1
  obtain ⟨oi, op⟩ := o4 h0
  refine ⟨⟨o1, o2.trans a2⟩, ?_, (op 3).trans c2, c3.ot O h1 h2⟩
  simp only [oi]
  exact b
theorem RF.c {f : Int} (R : RF gx A u g h f) (e4 : u' 4 f = u 4 f) (e5 : u' 5 f = u 5 f) (e : g' 23 f = 1 → g 23 f = 1 ∧ g' 24 f = g 24 f) (e26 : ∀ k, 0 ≤ k → k < u 5 f → g' 26 (6 * f + k) = g 26 (6 * f + k)) : RF gx A u' g' h f := by
  unfold RF at R ⊢
  rw [e4, e5]
  exact ⟨R.1, ⟨R.2.1.1, R.2.1.2.1, fun z => (R.2.1.2.2 (e z).1).trans (e z).2.symm⟩, R.2.2.1, R.2.2.2.c (fun i i0 i1 => by rw [e26 i i0 i1])⟩
theorem RX.ot (R : RX gx x A m g h) (O : OT h h' S) (h0 : ¬ S x) (h1 : ∀ j, 0 ≤ j → j < 3 → ¬ S (A 8 j)) (h2 : ∀ j, 0 ≤ j → j < 3 → ∀ a, hP h (A 8 j) 1 = some a → a ∈ hD h → ¬ S a) : RX gx x A m g h' := by
  obtain ⟨⟨a1, a2⟩, b, c, l1, l2, l3⟩ := R
  obtain ⟨o1, o2, o3, o4⟩ := O _ a1
  obtain ⟨oi, op⟩ := o4 h0
  refine ⟨⟨o1, o2.trans a2⟩, ?_, ?_, l1.ot O (h1 0 (by decide) (by decide)) (h2 0 (by decide) (by decide)), l2.ot O (h1 1 (by decide) (by decide)) (h2 1 (by decide) (by decide)), l3.ot O (h1 2 (by decide) (by decide)) (h2 2 (by decide) (by decide))⟩
  · simp only [op]; exact b
  · simp only [oi]; exact c
theorem RX.c (R : RX gx x A m g h) (e : ∀ k, (k = 1 ∨ k = 2 ∨ k = 3 ∨ k = 4 ∨ k = 22) → g' k 0 = g k 0) : RX gx x A m g' h := by
  unfold RX at R ⊢
  rw [e 1 (by omega), e 2 (by omega), e 3 (by omega), e 4 (by omega), e 22 (by omega)]
  exact R
theorem VA.c (e : ∀ k j, (k = 4 ∨ k = 6 ∨ k = 11 ∨ k = 22) → g' k j = g k j) (k : Nat) (j : Int) : VA g' k j ↔ VA g k j := by
  unfold VA
  split <;> first | rw [e 4 _ (by omega), e 6 _ (by omega)] | rw [e 4 _ (by omega)] | rw [e 11 _ (by omega)] | rw [e 22 _ (by omega)] | exact Iff.rfl
theorem AP.c (R : AP A g) (e : ∀ k j, (k = 4 ∨ k = 6 ∨ k = 11 ∨ k = 22) → g' k j = g k j) : AP A g' := fun k j k' j' a b => R k j k' j' ((VA.c e k j).mp a) ((VA.c e k' j').mp b)
theorem BK.c (R : BK A g h) (e : ∀ k j, (k = 4 ∨ k = 6 ∨ k = 11 ∨ k = 22) → g' k j = g k j) : BK A g' h := fun k j k' j' a l l' b c => R k j k' j' a l l' ((VA.c e k j).mp b) ((VA.c e k' j').mp c)
/-- a list that is named is one -/
theorem Rp.li (R : Rp gx x A u m g h) {k : Nat} {j : Int} (l : LK k) (v : VA g k j) : ∃ n f, LI gx h (A k j) n f := by
  rcases l with rfl | rfl | rfl
  · exact ⟨_, _, (R.q v.1 v.2).2.2.2.2⟩
  · exact ⟨_, _, (R.f v.1 v.2).2.2.2⟩
  · have hj : j = 0 ∨ j = 1 ∨ j = 2 := by have a := v.1; have b : j < 3 := v.2; omega
    rcases hj with rfl | rfl | rfl
    · exact ⟨_, _, R.xx.2.2.2.1⟩
    · exact ⟨_, _, R.xx.2.2.2.2.1⟩
    · exact ⟨_, _, R.xx.2.2.2.2.2⟩
theorem LI.bk {l : Nat} {n : Int} {f : Int → Option Nat} (L : LI gx h l n f) {a : Nat} (e : hP h l 1 = some a) (ha : a ≠ gx.1) : a ∈ hD h ∧ hK h a = 13 := by
  rcases L.2.2.2.2 with z | ⟨b, c1, c2, c3, -⟩
  · exact absurd (Option.some.inj (e.symm.trans z.2)) ha
  · have : a = b := Option.some.inj (e.symm.trans c1)
    rw [this]; exact ⟨c2, c3⟩
theorem LI.k13 {l : Nat} {n : Int} {f : Int → Option Nat} (L : LI gx h l n f) (hg : gx.1 ∉ hD h) {a : Nat} (e : hP h l 1 = some a) (ha : a ∈ hD h) : hK h a = 13 := (L.bk e (fun z => hg (z ▸ ha))).2
/-- changes of objects that are neither lists nor rows: the rows behind lists stay apart -/
theorem BK.ot (R : Rp gx x A u m g h) (O : OT h h' S) (D : hD h' = hD h) (hs : ∀ b, hK h b = 1 → ¬ S b) : BK A g h' := by
  intro k j k' j' a l l' v v' ha e e'
  obtain ⟨n1, f1, L1⟩ := R.li l v
  obtain ⟨n2, f2, L2⟩ := R.li l' v'
  have o1 := ((O _ L1.1.1).2.2.2 (hs _ L1.1.2)).2 1
  have o2 := ((O _ L2.1.1).2.2.2 (hs _ L2.1.2)).2 1
  exact R.bk k j k' j' a l l' v v' (D ▸ ha) (o1 ▸ e) (o2 ▸ e')
/-! the parts that a change does not reach, by their kinds -/
theorem Rp.tX (R : Rp gx x A u m g h) (O : OT h h' S) (hs : ∀ b, hK h b = 6 ∨ hK h b = 1 ∨ hK h b = 13 → ¬ S b) (e : ∀ k, (k = 1 ∨ k = 2 ∨ k = 3 ∨ k = 4 ∨ k = 22) → g' k 0 = g k 0) : RX gx x A m g' h' := by
  refine (R.xx.ot O (hs _ (Or.inl R.xx.1.2)) (fun j j0 j1 => ?_) (fun j j0 j1 a ea ha => ?_)).c e
  · obtain ⟨n1, f1, L1⟩ := R.li (k := 8) (Or.inr (Or.inr rfl)) ⟨j0, j1⟩
    exact hs _ (Or.inr (Or.inl L1.1.2))
  · obtain ⟨n1, f1, L1⟩ := R.li (k := 8) (Or.inr (Or.inr rfl)) ⟨j0, j1⟩
    exact hs _ (Or.inr (Or.inr (L1.k13 R.gxn ea ha)))
theorem Rp.tN (R : Rp gx x A u m g h) (O : OT h h' S) (hs : ∀ b, hK h b = 4 → ¬ S b) {n : Int} (h0 : 0 ≤ n) (h1 : n < g 4 0) (e : ∀ k, (k = 5 ∨ k = 6 ∨ k = 7 ∨ k = 8 ∨ k = 9 ∨ k = 10) → g' k n = g k n) (e3 : u' 3 n = u 3 n) : RN A u' g' h' n :=
  ((R.n h0 h1).ot O (hs _ (R.n h0 h1).1.2)).c e e3
theorem Rp.tS (R : Rp gx x A u m g h) (O : OT h h' S) (hs : ∀ b, hK h b = 14 ∨ hK h b = 2 ∨ hK h b = 10 → ¬ S b) {n i : Int} (h0 : 0 ≤ n) (h1 : n < g 4 0) (h2 : 0 ≤ i) (h3 : i < g 6 n) (hu : u' 0 (12 * n + i) = u 0 (12 * n + i)) (hp : g 11 0 ≤ g' 11 0)
    (e : ∀ t, t = 60 * n + u 0 (12 * n + i) → 0 ≤ u 0 (12 * n + i) → u 0 (12 * n + i) < g 11 0 → g' 18 t = g 18 t ∧ g' 19 t = g 19 t ∧ g' 21 t = g 21 t ∧ ∀ c, 0 ≤ c → c < g 19 t → g' 20 (4 * t + c) = g 20 (4 * t + c)) : RS A u' g' h' n i := by
  have s := R.s h0 h1 h2 h3
  have n1 := (R.n h0 h1).2.1
  exact (s.ot n1.2.1 O (hs _ (Or.inl n1.2.2.1)) (hs _ (Or.inr (Or.inl s.2.1.2))) (hs _ (Or.inr (Or.inr s.2.2.1.2.2.1)))).c hu hp e
theorem Rp.tQ (R : Rp gx x A u m g h) (O : OT h h' S) (hs : ∀ b, hK h b = 5 ∨ hK h b = 1 ∨ hK h b = 13 → ¬ S b) {p : Int} (h0 : 0 ≤ p) (h1 : p < g 11 0) (e : ∀ k, (k = 12 ∨ k = 13 ∨ k = 14 ∨ k = 16) → g' k p = g k p) (e17 : ∀ k, 0 ≤ k → k < g 16 p → g' 17 (8 * p + k) = g 17 (8 * p + k)) (e1 : u' 1 p = u 1 p) (e2 : u' 2 p = u 2 p) (e6 : u' 6 p = u 6 p) : RQ gx A u' g' h' p := by
  have q := R.q h0 h1
  exact (q.ot O (hs _ (Or.inl q.1.2)) (hs _ (Or.inr (Or.inl q.2.2.2.2.1.2))) (fun a ea ha => hs _ (Or.inr (Or.inr (q.2.2.2.2.k13 R.gxn ea ha))))).c e e17 e1 e2 e6
theorem Rp.tF (R : Rp gx x A u m g h) (O : OT h h' S) (hs : ∀ b, hK h b = 3 ∨ hK h b = 1 ∨ hK h b = 13 → ¬ S b) {f : Int} (h0 : 0 ≤ f) (h1 : f < g 22 0) (e4 : u' 4 f = u 4 f) (e5 : u' 5 f = u 5 f) (e : g' 23 f = 1 → g 23 f = 1 ∧ g' 24 f = g 24 f) (e26 : ∀ k, 0 ≤ k → k < u 5 f → g' 26 (6 * f + k) = g 26 (6 * f + k)) : RF gx A u' g' h' f := by
  have q := R.f h0 h1
  exact (q.ot O (hs _ (Or.inl q.1.2)) (hs _ (Or.inr (Or.inl q.2.2.2.1.2))) (fun a ea ha => hs _ (Or.inr (Or.inr (q.2.2.2.k13 R.gxn ea ha))))).c e4 e5 e e26
/-- column 0 of the table is the reference's alone -/
theorem Rp.up0 (R : Rp gx x A u m g h) {y : Int} (hy : inR y) : Rp gx x A u m (up g 0 0 y) h := by
  have e : ∀ k j, k ≠ 0 → up g 0 0 y k j = g k j := fun k j hk => up_ne hk
  refine ⟨R.gxn, R.xx.c (fun k hk => e k 0 (by omega)), fun n h0 h1 => ?_, fun n i h0 h1 h2 h3 => ?_, fun p h0 h1 => ?_, fun f h0 h1 => ?_, R.ap.c (fun k j hk => e k j (by omega)), R.bk.c (fun k j hk => e k j (by omega)), fun k j => ?_, R.ru, fun n h0 h1 => ?_⟩
  · rw [e 4 0 (by decide)] at h1
    exact (R.n h0 h1).c (fun k hk => e k n (by omega)) rfl
  · rw [e 4 0 (by decide)] at h1
    rw [e 6 n (by decide)] at h3
    exact (R.s h0 h1 h2 h3).c rfl (by rw [e 11 0 (by decide)]; exact Int.le_refl _) (fun t _ _ _ => ⟨e 18 t (by decide), e 19 t (by decide), e 21 t (by decide), fun c _ _ => e 20 _ (by decide)⟩)
  · rw [e 11 0 (by decide)] at h1
    exact (R.q h0 h1).c (fun k hk => e k p (by omega)) (fun k _ _ => e 17 _ (by decide)) rfl rfl rfl
  · rw [e 22 0 (by decide)] at h1
    exact (R.f h0 h1).c rfl rfl (fun z => ⟨(e 23 f (by decide)).symm.trans z, e 24 f (by decide)⟩) (fun k _ _ => e 26 _ (by decide))
  · unfold up
    split
    · exact hy
    · exact R.rg k j
  · rw [e 4 0 (by decide)] at h1
    rw [e 6 n (by decide)]
    exact R.room h0 h1
end RPs
