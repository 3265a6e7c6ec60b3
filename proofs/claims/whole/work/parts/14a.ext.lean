/-! ===== new things in the class's heap ===== -/
section EXs
variable {gx : GX} {x : Nat} {A A' : Nat → Int → Nat} {u u' : GT} {m m' : Int} {g g' : GT} {h h' : Hp} {S : Nat → Prop}
theorem RN.a {n : Int} (R : RN A u g h n) (e0 : A' 0 n = A 0 n) (e1 : A' 1 n = A 1 n) : RN A' u g h n := by
  unfold RN at R ⊢
  rw [e0, e1]
  exact R
theorem RS.a {n i : Int} (R : RS A u g h n i) (e1 : A' 1 n = A 1 n) (e2 : A' 2 (12 * n + i) = A 2 (12 * n + i)) (e3 : A' 3 (12 * n + i) = A 3 (12 * n + i)) (e4 : 0 ≤ u 0 (12 * n + i) → u 0 (12 * n + i) < g 11 0 → A' 4 (u 0 (12 * n + i)) = A 4 (u 0 (12 * n + i))) : RS A' u g h n i := by
  unfold RS SV at R ⊢
  rw [e1, e2, e3]
  refine ⟨R.1, R.2.1, R.2.2.1, R.2.2.2.imp id (fun z => ?_)⟩
  rw [e4 z.1.1 z.1.2]
  exact z
theorem RQ.a {p : Int} (R : RQ gx A u g h p) (e4 : A' 4 p = A 4 p) (e5 : A' 5 p = A 5 p) (e13 : g 13 p ≠ -1 → A' 0 (g 13 p) = A 0 (g 13 p)) (e17 : ∀ k, 0 ≤ k → k < g 16 p → A' 0 (g 17 (8 * p + k)) = A 0 (g 17 (8 * p + k))) : RQ gx A' u g h p := by
  unfold RQ at R ⊢
  rw [e4, e5]
  refine ⟨R.1, R.2.1, ?_, R.2.2.2.1, R.2.2.2.2.c (fun i i0 i1 => by rw [e17 i i0 i1])⟩
  rw [R.2.2.1]
  split
  · rfl
  · rename_i c
    rw [e13 c]
theorem RF.a {f : Int} (R : RF gx A u g h f) (e6 : A' 6 f = A 6 f) (e7 : A' 7 f = A 7 f) (e26 : ∀ k, 0 ≤ k → k < u 5 f → A' 4 (g 26 (6 * f + k)) = A 4 (g 26 (6 * f + k))) : RF gx A' u g h f := by
  unfold RF at R ⊢
  rw [e6, e7]
  exact ⟨R.1, R.2.1, R.2.2.1, R.2.2.2.c (fun i i0 i1 => by rw [e26 i i0 i1])⟩
theorem RX.a (R : RX gx x A m g h) (e8 : ∀ j, A' 8 j = A 8 j) (e0 : ∀ n, 0 ≤ n → n < g 4 0 → A' 0 n = A 0 n) (e4 : ∀ p, 0 ≤ p → p < m → A' 4 p = A 4 p) (e6 : ∀ f, 0 ≤ f → f < g 22 0 → A' 6 f = A 6 f) : RX gx x A' m g h := by
  unfold RX at R ⊢
  rw [e8, e8, e8]
  exact ⟨R.1, R.2.1, R.2.2.1, R.2.2.2.1.c (fun i i0 i1 => by rw [e0 i i0 i1]), R.2.2.2.2.1.c (fun i i0 i1 => by rw [e4 i i0 i1]), R.2.2.2.2.2.c (fun i i0 i1 => by rw [e6 i i0 i1])⟩
/-- a named thing is there -/
theorem Rp.mem (R : Rp gx x A u m g h) {k : Nat} {j : Int} (v : VA g k j) : A k j ∈ hD h := by
  match k, v with
  | 0, v => exact (R.n v.1 v.2).1.1
  | 1, v => exact (R.n v.1 v.2).2.1.2.1
  | 2, v =>
    have s := R.s (n := j / 12) (i := j % 12) (by have := v.1; omega) v.2.1 (by omega) v.2.2
    unfold RS at s
    rw [show 12 * (j / 12) + j % 12 = j by omega] at s
    exact s.2.1.1
  | 3, v =>
    have s := R.s (n := j / 12) (i := j % 12) (by have := v.1; omega) v.2.1 (by omega) v.2.2
    unfold RS at s
    rw [show 12 * (j / 12) + j % 12 = j by omega] at s
    exact s.2.2.1.2.1
  | 4, v => exact (R.q v.1 v.2).1.1
  | 5, v => exact (R.q v.1 v.2).2.2.2.2.1.1
  | 6, v => exact (R.f v.1 v.2).1.1
  | 7, v => exact (R.f v.1 v.2).2.2.2.1.1
  | 8, v =>
    obtain ⟨n1, f1, L1⟩ := R.li (k := 8) (Or.inr (Or.inr rfl)) v
    exact L1.1.1
  | _ + 9, v => exact absurd v id
theorem Rp.bkot (R : Rp gx x A u m g h) (O : OT h h' (fun _ => False)) {k : Nat} {j : Int} (l : LK k) (v : VA g k j) : hP h' (A k j) 1 = hP h (A k j) 1 := by
  obtain ⟨n1, f1, L1⟩ := R.li l v
  exact ((O _ L1.1.1).2.2.2 id).2 1
/-- what is made and not kept changes nothing -/
theorem Rp.gar (R : Rp gx x A u m g h) (O : OT h h' (fun _ => False)) (hg : gx.1 ∉ hD h') : Rp gx x A u m g h' := by
  have nf : ∀ {b : Nat}, ¬ (fun _ => False) b := fun z => z
  refine ⟨hg, R.xx.ot O (fun z => z) (fun _ _ _ z => z) (fun _ _ _ _ _ _ z => z), fun n a b => (R.n a b).ot O (fun z => z), fun n i a b c d => (R.s a b c d).ot (R.n a b).2.1.2.1 O (fun z => z) (fun z => z) (fun z => z), fun p a b => (R.q a b).ot O (fun z => z) (fun z => z) (fun _ _ _ z => z), fun f a b => (R.f a b).ot O (fun z => z) (fun z => z) (fun _ _ _ z => z), R.ap, ?_, R.rg, R.ru, R.2.2.2.2.2.2.2.2.2.2⟩
  intro k j k' j' a l l' v v' ha e e'
  obtain ⟨n1, f1, L1⟩ := R.li l v
  rw [R.bkot O l v] at e
  rw [R.bkot O l' v'] at e'
  have hm := (L1.bk e (fun z => hg (z ▸ ha))).1
  exact R.bk k j k' j' a l l' v v' hm e e'
/-- a new piece, in no list yet -/
def A4 (A : Nat → Int → Nat) (p : Int) (q l : Nat) : Nat → Int → Nat := fun k j => if k = 4 ∧ j = p then q else if k = 5 ∧ j = p then l else A k j
def U4 (u : GT) (p : Int) : GT := up (up (up u 1 p (-1)) 2 p 1) 6 p 0
theorem A4_ne {A : Nat → Int → Nat} {p : Int} {q l : Nat} {k : Nat} {j : Int} (h : ¬ ((k = 4 ∨ k = 5) ∧ j = p)) : A4 A p q l k j = A k j := by
  unfold A4
  rw [if_neg (fun z => h ⟨Or.inl z.1, z.2⟩), if_neg (fun z => h ⟨Or.inr z.1, z.2⟩)]
theorem A4_4 {A : Nat → Int → Nat} {p : Int} {q l : Nat} : A4 A p q l 4 p = q := if_pos ⟨rfl, rfl⟩
theorem A4_5 {A : Nat → Int → Nat} {p : Int} {q l : Nat} : A4 A p q l 5 p = l := by
  unfold A4
  rw [if_neg (fun z => absurd z.1 (by decide)), if_pos ⟨rfl, rfl⟩]
theorem U4_ne {u : GT} {p : Int} {k : Nat} {j : Int} (h : ¬ ((k = 1 ∨ k = 2 ∨ k = 6) ∧ j = p)) : U4 u p k j = u k j := by
  unfold U4 up
  rw [if_neg (by omega), if_neg (by omega), if_neg (by omega)]
theorem np_e (g : GT) {k : Nat} {j : Int} (h : ¬ (k = 11 ∧ j = 0)) (h2 : ¬ ((k = 12 ∨ k = 13 ∨ k = 14 ∨ k = 16) ∧ j = g 11 0)) : npG g k j = g k j := by
  unfold npG elG up
  rw [if_neg (by omega), if_neg (by omega), if_neg (by omega), if_neg (by omega), if_neg (by omega)]
theorem Rp.extP (R : Rp gx x A u m g h) {q l : Nat} (O : OT h h' (fun _ => False)) (hg : gx.1 ∉ hD h') (hq : q ∉ hD h) (hl : l ∉ hD h) (hql : q ≠ l) (hm : m ≤ g 11 0) (np0 : 0 ≤ g 11 0) (np : g 11 0 < 60)
    (hre : ∀ f k, 0 ≤ f → f < g 22 0 → 0 ≤ k → k < u 5 f → g 26 (6 * f + k) < g 11 0) (qD : q ∈ hD h' ∧ hK h' q = 5) (qI : hI h' q 0 = g 11 0 ∧ hI h' q 1 = 1 ∧ hI h' q 2 = 1 ∧ hI h' q 4 = -1 ∧ hI h' q 5 = -1) (qP : hP h' q 3 = none) (ql : hP h' q 6 = some l)
    (L : LI gx h' l 0 (fun _ => none)) (Lg : hP h' l 1 = some gx.1) : Rp gx x (A4 A (g 11 0) q l) (U4 u (g 11 0)) m (npG g) h' := by
  obtain ⟨p0, hp0⟩ : ∃ p0, p0 = g 11 0 := ⟨_, rfl⟩
  rw [← hp0] at hm np0 np hre qI ⊢
  have R' := R.gar O hg
  have e11 : npG g 11 0 = p0 + 1 := by rw [np_11, hp0]
  have eg : ∀ k j, ¬ (k = 11 ∧ j = 0) → ¬ ((k = 12 ∨ k = 13 ∨ k = 14 ∨ k = 16) ∧ j = p0) → npG g k j = g k j := fun k j a b => np_e g a (by rw [← hp0]; exact b)
  have e4 := eg 4 0 (by omega) (by omega)
  have e22 := eg 22 0 (by omega) (by omega)
  have eA : ∀ k j, ¬ ((k = 4 ∨ k = 5) ∧ j = p0) → A4 A p0 q l k j = A k j := fun k j a => A4_ne a
  have eU : ∀ k j, ¬ ((k = 1 ∨ k = 2 ∨ k = 6) ∧ j = p0) → U4 u p0 k j = u k j := fun k j a => U4_ne a
  have split : ∀ k j, VA (npG g) k j → VA g k j ∨ ((k = 4 ∨ k = 5) ∧ j = p0) := by
    intro k j v
    match k, v with
    | 0, v => exact Or.inl ⟨v.1, by have b := v.2; rw [e4] at b; exact b⟩
    | 1, v => exact Or.inl ⟨v.1, by have b := v.2; rw [e4] at b; exact b⟩
    | 2, v =>
      have b := v.2
      rw [e4, eg 6 _ (by omega) (by omega)] at b
      exact Or.inl ⟨v.1, b⟩
    | 3, v =>
      have b := v.2
      rw [e4, eg 6 _ (by omega) (by omega)] at b
      exact Or.inl ⟨v.1, b⟩
    | 4, v =>
      have b : j < npG g 11 0 := v.2
      have a : 0 ≤ j := v.1
      rw [e11] at b
      by_cases c : j = p0
      · exact Or.inr ⟨Or.inl rfl, c⟩
      · exact Or.inl ⟨a, by omega⟩
    | 5, v =>
      have b : j < npG g 11 0 := v.2
      have a : 0 ≤ j := v.1
      rw [e11] at b
      by_cases c : j = p0
      · exact Or.inr ⟨Or.inr rfl, c⟩
      · exact Or.inl ⟨a, by omega⟩
    | 6, v => exact Or.inl ⟨v.1, by have b := v.2; rw [e22] at b; exact b⟩
    | 7, v => exact Or.inl ⟨v.1, by have b := v.2; rw [e22] at b; exact b⟩
    | 8, v => exact Or.inl v
    | _ + 9, v => exact absurd v id
  have old : ∀ k j, VA g k j → ¬ ((k = 4 ∨ k = 5) ∧ j = p0) := by
    rintro k j v ⟨z | z, e⟩
    · subst z; have b : j < g 11 0 := v.2; omega
    · subst z; have b : j < g 11 0 := v.2; omega
  refine ⟨hg, (R'.xx.a (fun j => eA 8 j (by omega)) (fun n a b => eA 0 n (by omega)) (fun p a b => eA 4 p (by omega)) (fun f a b => eA 6 f (by omega))).c (fun k hk => eg k 0 (by omega) (by omega)), fun n a0 a1 => ?_, fun n i a0 a1 a2 a3 => ?_, fun p a0 a1 => ?_, fun f a0 a1 => ?_, ?_, ?_, fun k j => ?_, fun k j => ?_, fun n a0 a1 => ?_⟩
  · rw [e4] at a1
    exact ((R'.n a0 a1).a (eA 0 n (by omega)) (eA 1 n (by omega))).c (fun k hk => eg k n (by omega) (by omega)) (eU 3 n (by omega))
  · rw [e4] at a1
    rw [eg 6 n (by omega) (by omega)] at a3
    exact ((R'.s a0 a1 a2 a3).a (eA 1 n (by omega)) (eA 2 _ (by omega)) (eA 3 _ (by omega)) (fun z z1 => eA 4 _ (by omega))).c (eU 0 _ (by omega)) (by omega) (fun t _ _ _ => ⟨eg 18 t (by omega) (by omega), eg 19 t (by omega) (by omega), eg 21 t (by omega) (by omega), fun c _ _ => eg 20 _ (by omega) (by omega)⟩)
  · rw [e11] at a1
    by_cases c : p = p0
    · subst c
      unfold RQ
      rw [A4_4, A4_5]
      have n16 : npG g 16 p = 0 := by rw [np_16, if_pos hp0]
      have n12 : npG g 12 p = 1 := by rw [np_12, if_pos hp0]
      have n13 : npG g 13 p = -1 := by rw [np_13, if_pos hp0]
      have n14 : npG g 14 p = -1 := by rw [np_14, if_pos hp0]
      have u1 : U4 u p 1 p = -1 := by unfold U4; rw [up_ne (by decide), up_ne (by decide), up_self]
      have u2 : U4 u p 2 p = 1 := by unfold U4; rw [up_ne (by decide), up_self]
      have u6 : U4 u p 6 p = 0 := by unfold U4; rw [up_self]
      rw [n16, n12, n13, n14, u1, u2, u6, if_pos rfl]
      exact ⟨qD, qI, qP, ⟨ql, fun z => absurd z (by decide)⟩, L.c (fun i i0 i1 => by omega)⟩
    · have b : p < g 11 0 := by omega
      exact ((R'.q a0 b).a (eA 4 p (by omega)) (eA 5 p (by omega)) (fun _ => eA 0 _ (by omega)) (fun k _ _ => eA 0 _ (by omega))).c (fun k hk => eg k p (by omega) (by omega)) (fun k _ _ => eg 17 _ (by omega) (by omega)) (eU 1 p (by omega)) (eU 2 p (by omega)) (eU 6 p (by omega))
  · rw [e22] at a1
    exact ((R'.f a0 a1).a (eA 6 f (by omega)) (eA 7 f (by omega)) (fun k k0 k1 => eA 4 _ (by have := hre f k a0 a1 k0 k1; omega))).c (eU 4 f (by omega)) (eU 5 f (by omega)) (fun z => ⟨(eg 23 f (by omega) (by omega)).symm.trans z, eg 24 f (by omega) (by omega)⟩) (fun k _ _ => eg 26 _ (by omega) (by omega))
  · have new : ∀ k j, (k = 4 ∨ k = 5) ∧ j = p0 → A4 A p0 q l k j ∉ hD h := by
      rintro k j ⟨z | z, e⟩
      · subst z; subst e; rw [A4_4]; exact hq
      · subst z; subst e; rw [A4_5]; exact hl
    intro k j k' j' v v' e
    rcases split k j v with a | a <;> rcases split k' j' v' with b | b
    · rw [eA k j (old k j a), eA k' j' (old k' j' b)] at e
      exact R.ap k j k' j' a b e
    · rw [eA k j (old k j a)] at e
      exact absurd (e ▸ R.mem a) (new k' j' b)
    · rw [eA k' j' (old k' j' b)] at e
      exact absurd (e ▸ R.mem b) (new k j a)
    · obtain ⟨a1, rfl⟩ := a
      obtain ⟨b1, rfl⟩ := b
      rcases a1 with rfl | rfl <;> rcases b1 with rfl | rfl
      · exact ⟨rfl, rfl⟩
      · rw [A4_4, A4_5] at e; exact absurd e hql
      · rw [A4_4, A4_5] at e; exact absurd e.symm hql
      · exact ⟨rfl, rfl⟩
  · have key : ∀ k j, LK k → VA (npG g) k j → ∀ a, a ∈ hD h' → hP h' (A4 A p0 q l k j) 1 = some a → VA g k j ∧ hP h (A k j) 1 = some a ∧ a ∈ hD h := by
      intro k j lk v a ha e
      rcases split k j v with b | b
      · rw [eA k j (old k j b), R.bkot O lk b] at e
        obtain ⟨n1, f1, L1⟩ := R.li lk b
        exact ⟨b, e, (L1.bk e (fun z => hg (z ▸ ha))).1⟩
      · obtain ⟨b1, rfl⟩ := b
        have k5 : k = 5 := by rcases lk with z | z | z <;> omega
        subst k5
        rw [A4_5, Lg] at e
        exact absurd (Option.some.inj e ▸ ha) hg
    intro k j k' j' a lk lk' v v' ha e e'
    obtain ⟨b1, b2, b3⟩ := key k j lk v a ha e
    obtain ⟨c1, c2, -⟩ := key k' j' lk' v' a ha e'
    exact R.bk k j k' j' a lk lk' b1 c1 b3 b2 c2
  · unfold npG elG
    exact rgu (rgu (rgu (rgu (rgu R.rg ⟨by omega, by omega⟩) inR1) inRn1) inRn1) inR0 k j
  · unfold U4
    exact rgu (rgu (rgu R.ru inRn1) inR1) inR0 k j
  · rw [e4] at a1
    rw [eg 6 n (by omega) (by omega)]
    exact R.room a0 a1
/-- a list with something in it has its row -/
theorem Rp.h6 (R : Rp gx x A u m g h) {q : Int} (q0 : 0 ≤ q) (q1 : q < g 11 0) (hc : 0 < g 16 q) : Rp gx x A (up u 6 q 1) m g h := by
  refine ⟨R.gxn, R.xx, fun n a b => (R.n a b).c (fun _ _ => rfl) (up_ne (by decide)), fun n i a b c d => (R.s a b c d).c (up_ne (by decide)) (Int.le_refl _) (fun t _ _ _ => ⟨rfl, rfl, rfl, fun _ _ _ => rfl⟩), fun p a b => ?_, fun f a b => (R.f a b).c (up_ne (by decide)) (up_ne (by decide)) (fun z => ⟨z, rfl⟩) (fun _ _ _ => rfl), R.ap, R.bk, R.rg, rgu R.ru inR1, R.2.2.2.2.2.2.2.2.2.2⟩
  by_cases c : p = q
  · subst c
    have r := R.q a b
    unfold RQ at r ⊢
    rw [up_ne (by decide), up_ne (by decide), up_self]
    refine ⟨r.1, r.2.1, r.2.2.1, ⟨r.2.2.2.1.1, fun _ z => ?_⟩, r.2.2.2.2⟩
    obtain ⟨a9, e9, m9, -⟩ := r.2.2.2.2.arr hc
    rw [e9] at z
    exact R.gxn (Option.some.inj z ▸ m9)
  · exact (R.q a b).c (fun _ _ => rfl) (fun _ _ _ => rfl) (up_ne (by decide)) (up_ne (by decide)) (up_off c)
end EXs
theorem iw_np {g : GT} (W : IW g) (h : g 11 0 < 60) : IW (npG g) := by
  have b2 := W.b.np
  have e : ∀ k, k ≠ 11 ∧ k ≠ 12 ∧ k ≠ 13 ∧ k ≠ 14 ∧ k ≠ 16 → ∀ j, npG g k j = g k j := fun k hk j => np_ne g hk j
  refine ⟨iv1_np W.i h, fun n q a b c d z => ?_, fun q q0 q1 hq => ?_, W.w.c (fun k hk => e k (by omega)), W.n.c (e 18 (by decide))⟩
  · rw [e 4 (by decide), np_11] at z
    rw [e 18 (by decide)]
    exact W.z n q a b c d (by omega)
  · rw [np_11] at q1
    rw [np_13] at hq ⊢
    by_cases c : q = g 11 0
    · rw [if_pos c] at hq; exact absurd rfl hq
    · rw [if_neg c] at hq ⊢
      rw [np_16, if_neg c, e 17 (by decide)]
      exact W.p q q0 (by omega) hq
theorem CI.np {u u' g : GT} (C : CI u g) (W : IW g) (h : g 11 0 < 60) (e0 : ∀ j, u' 0 j = u 0 j) (e3 : ∀ j, u' 3 j = u 3 j) : CI u' (npG g) := by
  have b1 := W.b.nn
  have b2 := W.b.np
  have e : ∀ k, k ≠ 11 ∧ k ≠ 12 ∧ k ≠ 13 ∧ k ≠ 14 ∧ k ≠ 16 → ∀ j, npG g k j = g k j := fun k hk j => np_ne g hk j
  unfold CI
  rw [e 4 (by decide), np_11]
  simp only [e0, e3, e 6 (by decide), e 18 (by decide)]
  refine ⟨C.1, fun n p a b c d z => ?_, C.2.2.1, fun n a b => (C.tk a b).trans (load_np W.b W.z h a (by omega)).symm⟩
  by_cases q : p = g 11 0
  · have := W.z n p a (by omega) c (by omega) (Or.inr (by omega))
    omega
  · exact C.cov a b c (by omega) z
