/-! ===== a change of one list, new objects ===== -/
section LSs
variable {gx : GX} {x : Nat} {A A' : Nat → Int → Nat} {u u' : GT} {m m' : Int} {g g' : GT} {h h' : Hp} {S : Nat → Prop}
theorem Rp.nsk (R : Rp gx x A u m g h) {k0 : Nat} {j0 : Int} (l0 : LK k0) (v0 : VA g k0 j0) {b : Nat} (hb : b ∈ hD h) (hk : hK h b ≠ 1) (hk2 : hK h b ≠ 13) : ¬ (b = A k0 j0 ∨ hP h (A k0 j0) 1 = some b) := by
  obtain ⟨n1, f1, L1⟩ := R.li l0 v0
  rintro (z | z)
  · exact hk (z ▸ L1.1.2)
  · exact hk2 (L1.k13 R.gxn z hb)
theorem Rp.nsl (R : Rp gx x A u m g h) {k0 k : Nat} {j0 j : Int} (l0 : LK k0) (v0 : VA g k0 j0) (l : LK k) (v : VA g k j) (ne : ¬ (k = k0 ∧ j = j0)) : ¬ (A k j = A k0 j0 ∨ hP h (A k0 j0) 1 = some (A k j)) := by
  obtain ⟨n1, f1, L1⟩ := R.li l0 v0
  obtain ⟨n2, f2, L2⟩ := R.li l v
  rintro (z | z)
  · exact ne (R.ap k j k0 j0 v v0 z)
  · have := L1.k13 R.gxn z L2.1.1
    rw [L2.1.2] at this
    exact absurd this (by decide)
theorem Rp.nsb (R : Rp gx x A u m g h) {k0 k : Nat} {j0 j : Int} (l0 : LK k0) (v0 : VA g k0 j0) (l : LK k) (v : VA g k j) (ne : ¬ (k = k0 ∧ j = j0)) {a : Nat} (ea : hP h (A k j) 1 = some a) (ha : a ∈ hD h) : ¬ (a = A k0 j0 ∨ hP h (A k0 j0) 1 = some a) := by
  obtain ⟨n1, f1, L1⟩ := R.li l0 v0
  obtain ⟨n2, f2, L2⟩ := R.li l v
  rintro (z | z)
  · have := L2.k13 R.gxn ea ha
    rw [z, L1.1.2] at this
    exact absurd this (by decide)
  · exact ne (R.bk k j k0 j0 a l l0 v v0 ha ea z)
theorem BK.lc (R : Rp gx x A u m g h) {k0 : Nat} {j0 : Int} (l0 : LK k0) (v0 : VA g k0 j0) {n : Int} {f : Int → Option Nat} (L : LC gx h h' (A k0 j0) n f) (hg : gx.1 ∉ hD h') : BK A g h' := by
  have key : ∀ k j, LK k → VA g k j → ¬ (k = k0 ∧ j = j0) → ∀ a, a ∈ hD h' → hP h' (A k j) 1 = some a → hP h (A k j) 1 = some a ∧ a ∈ hD h := by
    intro k j l v ne a ha e
    obtain ⟨n2, f2, L2⟩ := R.li l v
    rw [((L.2.1 _ L2.1.1).2.2.2 (R.nsl l0 v0 l v ne)).2 1] at e
    exact ⟨e, (L2.bk e (fun z => hg (z ▸ ha))).1⟩
  have other : ∀ k j, LK k → VA g k j → ¬ (k = k0 ∧ j = j0) → ∀ a, a ∈ hD h' → hP h' (A k j) 1 = some a → hP h' (A k0 j0) 1 = some a → False := by
    intro k j l v ne a ha e e0
    obtain ⟨e2, ha2⟩ := key k j l v ne a ha e
    rcases L.2.2 with z | ⟨q, z, zq, -⟩
    · rw [z] at e0
      exact ne (R.bk k j k0 j0 a l l0 v v0 ha2 e2 e0)
    · have : q = a := Option.some.inj (z.symm.trans e0)
      exact zq (this ▸ ha2)
  intro k j k' j' a l l' v v' ha e e'
  by_cases c : k = k0 ∧ j = j0
  · by_cases c' : k' = k0 ∧ j' = j0
    · exact ⟨c.1.trans c'.1.symm, c.2.trans c'.2.symm⟩
    · obtain ⟨rfl, rfl⟩ := c
      exact (other k' j' l' v' c' a ha e' e).elim
  · by_cases c' : k' = k0 ∧ j' = j0
    · obtain ⟨rfl, rfl⟩ := c'
      exact (other k j l v c a ha e e').elim
    · obtain ⟨e1, h1⟩ := key k j l v c a ha e
      obtain ⟨e2, -⟩ := key k' j' l' v' c' a ha e'
      exact R.bk k j k' j' a l l' v v' h1 e1 e2
theorem Rp.lN (R : Rp gx x A u m g h) {k0 : Nat} {j0 : Int} (l0 : LK k0) (v0 : VA g k0 j0) {nn : Int} {f : Int → Option Nat} (L : LC gx h h' (A k0 j0) nn f) {n : Int} (h0 : 0 ≤ n) (h1 : n < g 4 0) : RN A u g h' n :=
  (R.n h0 h1).ot L.2.1 (R.nsk l0 v0 (R.n h0 h1).1.1 (by rw [(R.n h0 h1).1.2]; decide) (by rw [(R.n h0 h1).1.2]; decide))
theorem Rp.lS (R : Rp gx x A u m g h) {k0 : Nat} {j0 : Int} (l0 : LK k0) (v0 : VA g k0 j0) {nn : Int} {f : Int → Option Nat} (L : LC gx h h' (A k0 j0) nn f) {n i : Int} (h0 : 0 ≤ n) (h1 : n < g 4 0) (h2 : 0 ≤ i) (h3 : i < g 6 n) : RS A u g h' n i := by
  have s := R.s h0 h1 h2 h3
  have n1 := (R.n h0 h1).2.1
  exact s.ot n1.2.1 L.2.1 (R.nsk l0 v0 n1.2.1 (by rw [n1.2.2.1]; decide) (by rw [n1.2.2.1]; decide)) (R.nsk l0 v0 s.2.1.1 (by rw [s.2.1.2]; decide) (by rw [s.2.1.2]; decide)) (R.nsk l0 v0 s.2.2.1.2.1 (by rw [s.2.2.1.2.2.1]; decide) (by rw [s.2.2.1.2.2.1]; decide))
theorem Rp.lQ (R : Rp gx x A u m g h) {k0 : Nat} {j0 : Int} (l0 : LK k0) (v0 : VA g k0 j0) {nn : Int} {f : Int → Option Nat} (L : LC gx h h' (A k0 j0) nn f) {p : Int} (h0 : 0 ≤ p) (h1 : p < g 11 0) (ne : ¬ (5 = k0 ∧ p = j0)) : RQ gx A u g h' p := by
  have q := R.q h0 h1
  exact q.ot L.2.1 (R.nsk l0 v0 q.1.1 (by rw [q.1.2]; decide) (by rw [q.1.2]; decide)) (R.nsl l0 v0 (Or.inl rfl) ⟨h0, h1⟩ ne) (fun a ea ha => R.nsb l0 v0 (Or.inl rfl) ⟨h0, h1⟩ ne ea ha)
theorem Rp.lF (R : Rp gx x A u m g h) {k0 : Nat} {j0 : Int} (l0 : LK k0) (v0 : VA g k0 j0) {nn : Int} {f : Int → Option Nat} (L : LC gx h h' (A k0 j0) nn f) {p : Int} (h0 : 0 ≤ p) (h1 : p < g 22 0) (ne : ¬ (7 = k0 ∧ p = j0)) : RF gx A u g h' p := by
  have q := R.f h0 h1
  exact q.ot L.2.1 (R.nsk l0 v0 q.1.1 (by rw [q.1.2]; decide) (by rw [q.1.2]; decide)) (R.nsl l0 v0 (Or.inr (Or.inl rfl)) ⟨h0, h1⟩ ne) (fun a ea ha => R.nsb l0 v0 (Or.inr (Or.inl rfl)) ⟨h0, h1⟩ ne ea ha)
theorem Rp.lX (R : Rp gx x A u m g h) {k0 : Nat} {j0 : Int} (l0 : LK k0) (v0 : VA g k0 j0) {nn : Int} {f : Int → Option Nat} (L : LC gx h h' (A k0 j0) nn f) (ne : k0 ≠ 8) : RX gx x A m g h' :=
  R.xx.ot L.2.1 (R.nsk l0 v0 R.xx.1.1 (by rw [R.xx.1.2]; decide) (by rw [R.xx.1.2]; decide)) (fun j a b => R.nsl l0 v0 (Or.inr (Or.inr rfl)) ⟨a, b⟩ (fun z => ne z.1.symm)) (fun j a b c ec hc => R.nsb l0 v0 (Or.inr (Or.inr rfl)) ⟨a, b⟩ (fun z => ne z.1.symm) ec hc)
/-- the copies of a piece -/
theorem Rp.wH (R : Rp gx x A u m g h) {p0 nn : Int} {f : Int → Option Nat} (h0 : 0 ≤ p0) (h1 : p0 < g 11 0) (L : LC gx h h' (A 5 p0) nn f) (hg : gx.1 ∉ hD h') (hc : ∀ p, 0 ≤ p → p < g 11 0 → g 16 p ≤ 8)
    (en : g' 16 p0 = nn) (ef : ∀ k, 0 ≤ k → k < nn → f k = some (A 0 (g' 17 (8 * p0 + k)))) (eg : ∀ k j, ¬ ((k = 16 ∧ j = p0) ∨ (k = 17 ∧ 8 * p0 ≤ j ∧ j < 8 * p0 + 8)) → g' k j = g k j) (rg : ∀ k j, inR (g' k j)) : Rp gx x A u m g' h' := by
  have v0 : VA g 5 p0 := ⟨h0, h1⟩
  have l0 : LK 5 := Or.inl rfl
  have e4 := eg 4 0 (by omega)
  have e11 := eg 11 0 (by omega)
  have e22 := eg 22 0 (by omega)
  refine ⟨hg, (R.lX l0 v0 L (by decide)).c (fun k hk => eg k 0 (by omega)), fun n a0 a1 => ?_, fun n i a0 a1 a2 a3 => ?_, fun p a0 a1 => ?_, fun f a0 a1 => ?_, R.ap.c (fun k j hk => eg k j (by omega)), (BK.lc R l0 v0 L hg).c (fun k j hk => eg k j (by omega)), rg, R.ru, fun n a0 a1 => ?_⟩
  · rw [e4] at a1
    exact (R.lN l0 v0 L a0 a1).c (fun k hk => eg k n (by omega)) rfl
  · rw [e4] at a1
    rw [eg 6 n (by omega)] at a3
    exact (R.lS l0 v0 L a0 a1 a2 a3).c rfl (by omega) (fun t _ _ _ => ⟨eg 18 t (by omega), eg 19 t (by omega), eg 21 t (by omega), fun c _ _ => eg 20 _ (by omega)⟩)
  · rw [e11] at a1
    by_cases z : p = p0
    · subst z
      have q := R.q a0 a1
      obtain ⟨o1, o2, o3, o4⟩ := L.2.1 _ q.1.1
      obtain ⟨oi, op⟩ := o4 (R.nsk l0 v0 q.1.1 (by rw [q.1.2]; decide) (by rw [q.1.2]; decide))
      refine ⟨⟨o1, o2.trans q.1.2⟩, ?_, ?_, ⟨(op 6).trans q.2.2.2.1.1, fun z => ?_⟩, ?_⟩
      · rw [oi, oi, oi, oi, oi, eg 12 p (by omega), eg 14 p (by omega)]; exact q.2.1
      · rw [op, eg 13 p (by omega)]; exact q.2.2.1
      · rcases L.2.2 with y | ⟨q9, y, y1, y2⟩
        · rw [y]; exact q.2.2.2.1.2 z
        · rw [y]; exact fun w => hg (Option.some.inj w ▸ y2)
      · rw [en]; exact L.1.c (fun i i0 i1 => (ef i i0 i1).symm)
    · have c1 := hc p a0 a1
      exact (R.lQ l0 v0 L a0 a1 (fun y => z y.2)).c (fun k hk => eg k p (by omega)) (fun k _ _ => eg 17 _ (by omega)) rfl rfl rfl
  · rw [e22] at a1
    exact (R.lF l0 v0 L a0 a1 (fun y => absurd y.1 (by decide))).c rfl rfl (fun z => ⟨(eg 23 f (by omega)).symm.trans z, eg 24 f (by omega)⟩) (fun k _ _ => eg 26 _ (by omega))
  · rw [e4] at a1
    rw [eg 6 n (by omega)]
    exact R.room a0 a1
/-- the row of a file -/
theorem Rp.wR (R : Rp gx x A u m g h) {f0 nn : Int} {f : Int → Option Nat} (h0 : 0 ≤ f0) (h1 : f0 < g 22 0) (L : LC gx h h' (A 7 f0) nn f) (hg : gx.1 ∉ hD h') (hc : ∀ f, 0 ≤ f → f < g 22 0 → u 5 f ≤ 6)
    (en : u' 5 f0 = nn) (ef : ∀ k, 0 ≤ k → k < nn → f k = some (A 4 (g' 26 (6 * f0 + k)))) (eg : ∀ k j, ¬ (k = 25 ∨ (k = 26 ∧ 6 * f0 ≤ j ∧ j < 6 * f0 + 6)) → g' k j = g k j) (eu : ∀ k j, ¬ (k = 5 ∧ j = f0) → u' k j = u k j) (rg : ∀ k j, inR (g' k j)) (ru : ∀ k j, inR (u' k j)) : Rp gx x A u' m g' h' := by
  have v0 : VA g 7 f0 := ⟨h0, h1⟩
  have l0 : LK 7 := Or.inr (Or.inl rfl)
  have e4 := eg 4 0 (by omega)
  have e11 := eg 11 0 (by omega)
  have e22 := eg 22 0 (by omega)
  refine ⟨hg, (R.lX l0 v0 L (by decide)).c (fun k hk => eg k 0 (by omega)), fun n a0 a1 => ?_, fun n i a0 a1 a2 a3 => ?_, fun p a0 a1 => ?_, fun f a0 a1 => ?_, R.ap.c (fun k j hk => eg k j (by omega)), (BK.lc R l0 v0 L hg).c (fun k j hk => eg k j (by omega)), rg, ru, fun n a0 a1 => ?_⟩
  · rw [e4] at a1
    exact (R.lN l0 v0 L a0 a1).c (fun k hk => eg k n (by omega)) (eu 3 n (by omega))
  · rw [e4] at a1
    rw [eg 6 n (by omega)] at a3
    exact (R.lS l0 v0 L a0 a1 a2 a3).c (eu 0 _ (by omega)) (by omega) (fun t _ _ _ => ⟨eg 18 t (by omega), eg 19 t (by omega), eg 21 t (by omega), fun c _ _ => eg 20 _ (by omega)⟩)
  · rw [e11] at a1
    exact (R.lQ l0 v0 L a0 a1 (fun y => absurd y.1 (by decide))).c (fun k hk => eg k p (by omega)) (fun k _ _ => eg 17 _ (by omega)) (eu 1 p (by omega)) (eu 2 p (by omega)) (eu 6 p (by omega))
  · rw [e22] at a1
    by_cases z : f = f0
    · subst z
      have q := R.f a0 a1
      obtain ⟨o1, o2, o3, o4⟩ := L.2.1 _ q.1.1
      obtain ⟨oi, op⟩ := o4 (R.nsk l0 v0 q.1.1 (by rw [q.1.2]; decide) (by rw [q.1.2]; decide))
      refine ⟨⟨o1, o2.trans q.1.2⟩, ?_, (op 3).trans q.2.2.1, ?_⟩
      · rw [oi, oi, oi, eu 4 f (by omega), eg 23 f (by omega), eg 24 f (by omega)]; exact q.2.1
      · rw [en]; exact L.1.c (fun i i0 i1 => (ef i i0 i1).symm)
    · have c1 := hc f a0 a1
      exact (R.lF l0 v0 L a0 a1 (fun y => z y.2)).c (eu 4 f (by omega)) (eu 5 f (by omega)) (fun z => ⟨(eg 23 f (by omega)).symm.trans z, eg 24 f (by omega)⟩) (fun k _ _ => eg 26 _ (by omega))
  · rw [e4] at a1
    rw [eg 6 n (by omega)]
    exact R.room a0 a1
/-- the list of all pieces -/
theorem Rp.wA (R : Rp gx x A u m g h) {f : Int → Option Nat} (L : LC gx h h' (A 8 1) m' f) (hg : gx.1 ∉ hD h') (ef : ∀ k, 0 ≤ k → k < m' → f k = some (A 4 k)) : Rp gx x A u m' g h' := by
  have v0 : VA g 8 1 := ⟨by decide, by decide⟩
  have l0 : LK 8 := Or.inr (Or.inr rfl)
  refine ⟨hg, ?_, fun n a0 a1 => R.lN l0 v0 L a0 a1, fun n i a0 a1 a2 a3 => R.lS l0 v0 L a0 a1 a2 a3, fun p a0 a1 => R.lQ l0 v0 L a0 a1 (fun y => absurd y.1 (by decide)), fun f a0 a1 => R.lF l0 v0 L a0 a1 (fun y => absurd y.1 (by decide)), R.ap, BK.lc R l0 v0 L hg, R.rg, R.ru, R.2.2.2.2.2.2.2.2.2.2⟩
  obtain ⟨a, b, c, l1, l2, l3⟩ := R.xx
  obtain ⟨o1, o2, o3, o4⟩ := L.2.1 _ a.1
  obtain ⟨oi, op⟩ := o4 (R.nsk l0 v0 a.1 (by rw [a.2]; decide) (by rw [a.2]; decide))
  refine ⟨⟨o1, o2.trans a.2⟩, ?_, ?_, ?_, L.1.c (fun i i0 i1 => (ef i i0 i1).symm), ?_⟩
  · rw [op, op, op]; exact b
  · rw [oi, oi, oi]; exact c
  · exact l1.ot L.2.1 (R.nsl l0 v0 l0 ⟨by decide, by decide⟩ (by omega)) (fun c ec hc => R.nsb l0 v0 l0 ⟨by decide, by decide⟩ (by omega) ec hc)
  · exact l3.ot L.2.1 (R.nsl l0 v0 l0 ⟨by decide, by decide⟩ (by omega)) (fun c ec hc => R.nsb l0 v0 l0 ⟨by decide, by decide⟩ (by omega) ec hc)
end LSs
