/-! ===== the class: new files ===== -/
def AF (A : Nat → Int → Nat) (f0 : Int) (q l : Nat) : Nat → Int → Nat := fun k j => if k = 6 ∧ j = f0 then q else if k = 7 ∧ j = f0 then l else A k j
def UF (u : GT) (f0 : Int) : GT := up (up u 4 f0 0) 5 f0 0
/-- a table with one file more, of which nothing is read yet -/
def EF (g g' : GT) : Prop := g' 22 0 = g 22 0 + 1 ∧ g' 23 (g 22 0) = 0 ∧ (∀ k j, ¬ (k = 22 ∧ j = 0) → ¬ ((k = 23 ∨ k = 25) ∧ j = g 22 0) → ¬ (k = 26 ∧ 6 * g 22 0 ≤ j ∧ j < 6 * g 22 0 + 6) → g' k j = g k j) ∧ ∀ k j, inR (g' k j)
section EFs
variable {gx : GX} {x : Nat} {A : Nat → Int → Nat} {u : GT} {m : Int} {g g' : GT} {h h1 h' : Hp}
theorem AF_e {f0 : Int} {q l : Nat} {k : Nat} {j : Int} (h : ¬ ((k = 6 ∨ k = 7) ∧ j = f0)) : AF A f0 q l k j = A k j := by
  unfold AF
  rw [if_neg (by omega), if_neg (by omega)]
theorem AF_6 {f0 : Int} {q l : Nat} : AF A f0 q l 6 f0 = q := if_pos ⟨rfl, rfl⟩
theorem AF_7 {f0 : Int} {q l : Nat} : AF A f0 q l 7 f0 = l := by
  unfold AF
  rw [if_neg (by omega), if_pos ⟨rfl, rfl⟩]
theorem UF_e {f0 : Int} {k : Nat} {j : Int} (h : ¬ ((k = 4 ∨ k = 5) ∧ j = f0)) : UF u f0 k j = u k j := by
  unfold UF up
  rw [if_neg (by omega), if_neg (by omega)]
theorem Rp.extF (R : Rp gx x A u m g h) (hf0 : 0 ≤ g 22 0) (hc : ∀ f, 0 ≤ f → f < g 22 0 → u 5 f ≤ 6) {q l : Nat} (O : OT h h1 (fun _ => False)) (hg1 : gx.1 ∉ hD h1) (hg : gx.1 ∉ hD h')
    (hq : q ∉ hD h) (hl : l ∉ hD h) (hql : q ≠ l) (qD : q ∈ hD h1 ∧ hK h1 q = 3) (qI : hI h1 q 0 = g 22 0 ∧ hI h1 q 1 = 0) (ql : hP h1 q 3 = some l) (Ll : LI gx h1 l 0 (fun _ => none)) (Lg : hP h1 l 1 = some gx.1)
    (L : LC gx h1 h' (A 8 2) (g 22 0 + 1) (fun j => if j = g 22 0 then some q else some (A 6 j))) (E : EF g g') : Rp gx x (AF A (g 22 0) q l) (UF u (g 22 0)) m g' h' := by
  obtain ⟨e22, e23, eg, rg⟩ := E
  obtain ⟨f0, hf⟩ : ∃ f0, f0 = g 22 0 := ⟨_, rfl⟩
  rw [← hf] at qI L e22 e23 eg hf0 hc ⊢
  have R1 := R.gar O hg1
  have e4 := eg 4 0 (by omega) (by omega) (by omega)
  have e11 := eg 11 0 (by omega) (by omega) (by omega)
  have eA : ∀ k j, ¬ ((k = 6 ∨ k = 7) ∧ j = f0) → AF A f0 q l k j = A k j := fun k j c => AF_e c
  have eU : ∀ k j, ¬ ((k = 4 ∨ k = 5) ∧ j = f0) → UF u f0 k j = u k j := fun k j c => UF_e c
  have v0 : VA g 8 2 := ⟨by decide, by decide⟩
  have l0 : LK 8 := Or.inr (Or.inr rfl)
  have keep : ∀ z, z ∈ hD h1 → hK h1 z ≠ 13 → z ≠ A 8 2 → z ∈ hD h' ∧ hK h' z = hK h1 z ∧ hN h' z = hN h1 z ∧ (∀ j, hI h' z j = hI h1 z j) ∧ (∀ j, hP h' z j = hP h1 z j) := fun z hz k13 nz => by
    obtain ⟨o1, o2, o3, o4⟩ := L.2.1 z hz
    obtain ⟨oi, op⟩ := o4 (fun y => by
      rcases y with y | y
      · exact nz y
      · exact k13 (R1.xx.2.2.2.2.2.k13 R1.gxn y hz))
    exact ⟨o1, o2, o3, oi, op⟩
  have k8 := R1.xx.2.2.2.2.2.1
  have m8 := R.xx.2.2.2.2.2.1.1
  have kq := keep q qD.1 (by rw [qD.2]; decide) (fun z => hq (z ▸ m8))
  have kl := keep l Ll.1.1 (by rw [Ll.1.2]; decide) (fun z => hl (z ▸ m8))
  have Ll' : LI gx h' l 0 (fun _ => none) := by
    obtain ⟨⟨a1, a2⟩, a3, a4, a5, a6⟩ := Ll
    refine ⟨⟨kl.1, kl.2.1.trans a2⟩, (kl.2.2.2.1 2).trans a3, a4, a5, ?_⟩
    rcases a6 with z | ⟨y, c1, c2, c3, c4, c5, c6⟩
    · exact Or.inl ⟨z.1, (kl.2.2.2.2 1).trans z.2⟩
    · exact Or.inl ⟨rfl, (kl.2.2.2.2 1).trans Lg⟩
  have Lg' : hP h' l 1 = some gx.1 := (kl.2.2.2.2 1).trans Lg
  have split : ∀ k j, VA g' k j → VA g k j ∨ ((k = 6 ∨ k = 7) ∧ j = f0) := by
    intro k j v
    match k, v with
    | 0, v => exact Or.inl ⟨v.1, by have c := v.2; rw [e4] at c; exact c⟩
    | 1, v => exact Or.inl ⟨v.1, by have c := v.2; rw [e4] at c; exact c⟩
    | 2, v =>
      have b := v.2
      rw [e4, eg 6 _ (by omega) (by omega) (by omega)] at b
      exact Or.inl ⟨v.1, b⟩
    | 3, v =>
      have b := v.2
      rw [e4, eg 6 _ (by omega) (by omega) (by omega)] at b
      exact Or.inl ⟨v.1, b⟩
    | 4, v => exact Or.inl ⟨v.1, by have c := v.2; rw [e11] at c; exact c⟩
    | 5, v => exact Or.inl ⟨v.1, by have c := v.2; rw [e11] at c; exact c⟩
    | 6, v =>
      have b : j < g' 22 0 := v.2
      have a : 0 ≤ j := v.1
      rw [e22] at b
      by_cases c : j = f0
      · exact Or.inr ⟨Or.inl rfl, c⟩
      · exact Or.inl ⟨a, by omega⟩
    | 7, v =>
      have b : j < g' 22 0 := v.2
      have a : 0 ≤ j := v.1
      rw [e22] at b
      by_cases c : j = f0
      · exact Or.inr ⟨Or.inr rfl, c⟩
      · exact Or.inl ⟨a, by omega⟩
    | 8, v => exact Or.inl v
    | _ + 9, v => exact absurd v id
  have old : ∀ k j, VA g k j → ¬ ((k = 6 ∨ k = 7) ∧ j = f0) := by
    rintro k j v ⟨z | z, e⟩
    · subst z; have b : j < g 22 0 := v.2; omega
    · subst z; have b : j < g 22 0 := v.2; omega
  refine ⟨hg, ?_, fun n a0 a1 => ?_, fun n i a0 a1 a2 a3 => ?_, fun p a0 a1 => ?_, fun f a0 a1 => ?_, ?_, ?_, rg, fun k j => ?_, fun n a0 a1 => ?_⟩
  · obtain ⟨xa, xb, xc, x1, x2, x3⟩ := R1.xx
    obtain ⟨o1, o2, o3, oi, op⟩ := keep x xa.1 (by rw [xa.2]; decide) (fun z => by have y := xa.2; rw [z, k8.2] at y; omega)
    refine ⟨⟨o1, o2.trans xa.2⟩, ?_, ?_, ?_, ?_, ?_⟩
    · rw [op, op, op, eA 8 0 (by omega), eA 8 1 (by omega), eA 8 2 (by omega)]; exact xb
    · rw [oi, oi, oi, eg 1 0 (by omega) (by omega) (by omega), eg 2 0 (by omega) (by omega) (by omega), eg 3 0 (by omega) (by omega) (by omega)]; exact xc
    · rw [e4, eA 8 0 (by omega)]
      refine (x1.ot L.2.1 (R1.nsl l0 v0 l0 ⟨by decide, by decide⟩ (by omega)) (fun c ec hc => R1.nsb l0 v0 l0 ⟨by decide, by decide⟩ (by omega) ec hc)).c (fun i i0 i1 => ?_)
      rw [eA 0 i (by omega)]
    · rw [eA 8 1 (by omega)]
      refine (x2.ot L.2.1 (R1.nsl l0 v0 l0 ⟨by decide, by decide⟩ (by omega)) (fun c ec hc => R1.nsb l0 v0 l0 ⟨by decide, by decide⟩ (by omega) ec hc)).c (fun i i0 i1 => ?_)
      rw [eA 4 i (by omega)]
    · rw [e22, eA 8 2 (by omega)]
      refine L.1.c (fun i i0 i1 => ?_)
      by_cases c : i = f0
      · rw [if_pos c, c, AF_6]
      · rw [if_neg c, eA 6 i (by omega)]
  · rw [e4] at a1
    exact ((R1.lN l0 v0 L a0 a1).a (eA 0 n (by omega)) (eA 1 n (by omega))).c (fun k hk => eg k n (by omega) (by omega) (by omega)) (eU 3 n (by omega))
  · rw [e4] at a1
    rw [eg 6 n (by omega) (by omega) (by omega)] at a3
    exact ((R1.lS l0 v0 L a0 a1 a2 a3).a (eA 1 n (by omega)) (eA 2 _ (by omega)) (eA 3 _ (by omega)) (fun _ _ => eA 4 _ (by omega))).c (eU 0 _ (by omega)) (by omega) (fun t _ _ _ => ⟨eg 18 t (by omega) (by omega) (by omega), eg 19 t (by omega) (by omega) (by omega), eg 21 t (by omega) (by omega) (by omega), fun c _ _ => eg 20 _ (by omega) (by omega) (by omega)⟩)
  · rw [e11] at a1
    exact ((R1.lQ l0 v0 L a0 a1 (fun z => absurd z.1 (by decide))).a (eA 4 p (by omega)) (eA 5 p (by omega)) (fun _ => eA 0 _ (by omega)) (fun k _ _ => eA 0 _ (by omega))).c (fun k hk => eg k p (by omega) (by omega) (by omega)) (fun k _ _ => eg 17 _ (by omega) (by omega) (by omega)) (eU 1 p (by omega)) (eU 2 p (by omega)) (eU 6 p (by omega))
  · rw [e22] at a1
    by_cases c : f = f0
    · subst c
      unfold RF
      have u4 : UF u f 4 f = 0 := by unfold UF; rw [up_ne (by decide), up_self]
      have u5 : UF u f 5 f = 0 := by unfold UF; rw [up_self]
      rw [AF_6, AF_7, u4, u5, e23]
      refine ⟨⟨kq.1, kq.2.1.trans qD.2⟩, ⟨(kq.2.2.2.1 0).trans qI.1, (kq.2.2.2.1 1).trans qI.2, fun z => absurd z (by decide)⟩, (kq.2.2.2.2 3).trans ql, Ll'.c (fun i i0 i1 => by omega)⟩
    · have c1 : f < g 22 0 := by omega
      have h6 := hc f a0 (by omega)
      exact ((R1.lF l0 v0 L a0 c1 (fun z => absurd z.1 (by decide))).a (eA 6 f (by omega)) (eA 7 f (by omega)) (fun k _ _ => eA 4 _ (by omega))).c (eU 4 f (by omega)) (eU 5 f (by omega)) (fun z => ⟨(eg 23 f (by omega) (by omega) (by omega)).symm.trans z, eg 24 f (by omega) (by omega) (by omega)⟩) (fun k k0 k1 => eg 26 _ (by omega) (by omega) (by omega))
  · have new : ∀ k j, (k = 6 ∨ k = 7) ∧ j = f0 → AF A f0 q l k j ∉ hD h := by
      rintro k j ⟨z | z, e⟩
      · subst z; subst e; rw [AF_6]; exact hq
      · subst z; subst e; rw [AF_7]; exact hl
    intro k j k' j' v v' e
    rcases split k j v with a | a <;> rcases split k' j' v' with b | b
    · rw [eA k j (old k j a), eA k' j' (old k' j' b)] at e
      exact R.ap k j k' j' a b e
    · rw [eA k j (old k j a)] at e
      exact absurd (e ▸ R.mem a) (new k' j' b)
    · rw [eA k' j' (old k' j' b)] at e
      exact absurd (e ▸ R.mem b) (new k j a)
    · obtain ⟨a1, rfl⟩ := a
      obtain ⟨b1, rfl⟩ := b
      rcases a1 with rfl | rfl <;> rcases b1 with rfl | rfl
      · exact ⟨rfl, rfl⟩
      · rw [AF_6, AF_7] at e; exact absurd e hql
      · rw [AF_6, AF_7] at e; exact absurd e.symm hql
      · exact ⟨rfl, rfl⟩
  · have BKg := BK.lc R1 l0 v0 L hg
    intro k j k' j' y lk lk' v v' hy e e'
    have one : ∀ k j, LK k → VA g' k j → hP h' (AF A f0 q l k j) 1 = some y → VA g k j := fun k j lk v e => by
      rcases split k j v with b | b
      · exact b
      · obtain ⟨b1, rfl⟩ := b
        have k7 : k = 7 := by rcases lk with z | z | z <;> omega
        subst k7
        rw [AF_7, Lg'] at e
        exact absurd (Option.some.inj e ▸ hy) hg
    have w := one k j lk v e
    have w' := one k' j' lk' v' e'
    rw [eA k j (old k j w)] at e
    rw [eA k' j' (old k' j' w')] at e'
    exact BKg k j k' j' y lk lk' w w' hy e e'
  · unfold UF
    exact rgu (rgu R.ru inR0) inR0 k j
  · rw [e4] at a1
    rw [eg 6 n (by omega) (by omega) (by omega)]
    exact R.room a0 a1
end EFs
theorem fw_add {g g' : GT} (f0 : 0 ≤ g 22 0) (e22 : g' 22 0 = g 22 0 + 1) (e23 : ∀ q, q ≠ g 22 0 → g' 23 q = g 23 q) (e23n : g' 23 (g 22 0) = 0) {p : Int} (ec : ∀ q, 0 ≤ q → q < g 22 0 → fcG g' p q = fcG g p q) : fwG g' p (-1) = fwG g p (-1) + fcG g' p (g 22 0) := by
  unfold fwG
  rw [e22, sumI_s _ f0, e23n, if_pos ⟨by decide, by omega⟩, sumI_cg (f := fun q => if g 23 q ≠ 2 ∧ q ≠ -1 then fcG g p q else 0) (fun q q0 q1 => by rw [e23 q (by omega), ec q q0 q1])]
/-- a table with one file more keeps what the reference keeps -/
theorem iw_ef {g g' : GT} (W : IW g) (E : EF g g') (h : g 22 0 < 20) (h25 : 0 ≤ g' 25 (g 22 0) ∧ g' 25 (g 22 0) ≤ 6) (h26 : ∀ k, 0 ≤ k → k < g' 25 (g 22 0) → 0 ≤ g' 26 (6 * g 22 0 + k) ∧ g' 26 (6 * g 22 0 + k) < g 11 0) : IW g' := by
  have B := W.b
  have I := W.i
  have b3 := B.nf
  obtain ⟨e22, e23, eg, -⟩ := E
  have e : ∀ k, k ≠ 22 ∧ k ≠ 23 ∧ k ≠ 25 ∧ k ≠ 26 → ∀ j, g' k j = g k j := fun k hk j => eg k j (by omega) (by omega) (by omega)
  have BN : BD g' := by
    refine ⟨by rw [e 4 (by decide)]; exact B.nn, by rw [e 11 (by decide)]; exact B.np, by rw [e22]; omega, fun n => by rw [e 7 (by decide)]; exact B.isup n, fun n => by rw [e 9 (by decide)]; exact B.ct n, fun p => by rw [e 15 (by decide)]; exact B.2.2.2.2.2.1 p, fun p h0 h1 => ?_, fun p k h0 h1 h2 h3 => ?_, fun f h0 h1 => ?_, fun f k h0 h1 h2 h3 => ?_, fun p h0 h1 => ?_⟩
    · rw [e 11 (by decide)] at h1; rw [e 16 (by decide)]; exact B.cp p h0 h1
    · rw [e 11 (by decide)] at h1; rw [e 16 (by decide)] at h3; rw [e 17 (by decide), e 4 (by decide)]; exact B.cy p k h0 h1 h2 h3
    · rw [e22] at h1
      by_cases c : f = g 22 0
      · rw [c]; exact h25
      · rw [eg 25 f (by omega) (by omega) (by omega)]; exact B.rw f h0 (by omega)
    · rw [e22] at h1
      rw [e 11 (by decide)]
      by_cases c : f = g 22 0
      · rw [c] at h3 ⊢; exact h26 k h2 h3
      · rw [eg 25 f (by omega) (by omega) (by omega)] at h3
        have := B.rw f h0 (by omega)
        rw [eg 26 _ (by omega) (by omega) (by omega)]; exact B.re f k h0 (by omega) h2 h3
    · rw [e 11 (by decide)] at h1; rw [e 13 (by decide)]; exact B.pr p h0 h1
  refine iw_iv W ⟨BN, dc_same I.2.1 (fun k hk j => e k (by omega) j), cl_same I.2.2.1 (fun j => e 19 (by decide) j), fun p n h0 h1 h2 => ?_, fun p h0 h1 => ?_⟩ (fun k hk j => e k (by omega) j)
  · rw [e 11 (by decide)] at h1
    rw [e 18 (by decide), e 12 (by decide)]
    exact I.2.2.2.1 p n h0 h1 ((KN.c (fun j => e 16 (by decide) j) (fun j => e 17 (by decide) j) p n).mp h2)
  · rw [e 11 (by decide)] at h1
    rw [e 12 (by decide)]
    exact I.2.2.2.2 p h0 h1
theorem fl_e (g : GT) {k : Nat} {j : Int} (h : ¬ (k = 22 ∧ j = 0)) (h2 : ¬ ((k = 23 ∨ k = 25) ∧ j = g 22 0)) : flG g k j = g k j := by
  unfold flG up
  rw [if_neg (by omega), if_neg (by omega), if_neg (by omega)]
theorem fl_22 (g : GT) : flG g 22 0 = g 22 0 + 1 := by unfold flG; rw [up_self]
theorem fl_23 (g : GT) (j : Int) : flG g 23 j = if j = g 22 0 then 0 else g 23 j := by unfold flG; rw [up_ne (by decide), up_ne (by decide), up_at]
theorem fl_25 (g : GT) (j : Int) : flG g 25 j = if j = g 22 0 then 0 else g 25 j := by unfold flG; rw [up_ne (by decide), up_at, up_ne (by decide)]
theorem ef_fl {g : GT} (rg : ∀ k j, inR (g k j)) (b3 : 0 ≤ g 22 0 ∧ g 22 0 ≤ 20) : EF g (flG g) :=
  ⟨fl_22 g, by rw [fl_23, if_pos rfl], fun k j a b _ => fl_e g a b, fun k j => by unfold flG; exact rgu (rgu (rgu rg inR0) inR0) ⟨by omega, by omega⟩ k j⟩
theorem sn_26 {g : GT} {f : Int} (f0 : 0 ≤ f) (f1 : f < g 22 0) (h25 : g 25 f ≤ 6) {i : Int} (i0 : 0 ≤ i) (i1 : i ≤ g 25 f) (j : Int) : itrI (snF f) i (sn1 g f) 26 j = if 6 * g 22 0 ≤ j ∧ j < 6 * g 22 0 + i then g 26 (6 * f + (j - 6 * g 22 0)) else g 26 j := by
  have e1 : ∀ j, sn1 g f 26 j = g 26 j := fun j => by unfold sn1; rw [up_ne (by decide), up_ne (by decide)]
  have key : ∀ m : Nat, (m : Int) ≤ g 25 f → ∀ j, itrI (snF f) m (sn1 g f) 26 j = if 6 * g 22 0 ≤ j ∧ j < 6 * g 22 0 + m then g 26 (6 * f + (j - 6 * g 22 0)) else g 26 j := by
    intro m
    induction m with
    | zero =>
      intro _ j
      rw [if_neg (by omega)]
      exact e1 j
    | succ m ih =>
      intro hm j
      rw [show ((m + 1 : Nat) : Int) = (m : Int) + 1 by omega, itrI_s _ _ (by omega)]
      have a22 := sn_i g f m 22 (by decide) 0
      have a26 := ih (by omega)
      obtain ⟨s, hs⟩ : ∃ s, s = itrI (snF f) m (sn1 g f) := ⟨_, rfl⟩
      rw [← hs] at a22 a26 ⊢
      show up s 26 (6 * s 22 0 + m) (s 26 (6 * f + m)) 26 j = _
      have b26 : s 26 (6 * f + m) = g 26 (6 * f + m) := by rw [a26, if_neg (by omega)]
      rw [a22, sn1_22, up_at, b26, a26 j]
      by_cases c : j = 6 * g 22 0 + m
      · rw [if_pos c, if_pos (by omega), show 6 * f + (j - 6 * g 22 0) = 6 * f + m by omega]
      · rw [if_neg c]
        by_cases d : 6 * g 22 0 ≤ j ∧ j < 6 * g 22 0 + m
        · rw [if_pos d, if_pos (by omega)]
        · rw [if_neg d, if_neg (by omega)]
  have := key i.toNat (by omega) j
  rwa [Int.toNat_of_nonneg i0] at this
theorem sg_26 {g : GT} {f : Int} (f0 : 0 ≤ f) (f1 : f < g 22 0) (h25 : 0 ≤ g 25 f ∧ g 25 f ≤ 6) (j : Int) : snG g f 26 j = if 6 * g 22 0 ≤ j ∧ j < 6 * g 22 0 + g 25 f then g 26 (6 * f + (j - 6 * g 22 0)) else g 26 j := by
  unfold snG
  rw [up_ne (by decide)]
  exact sn_26 f0 f1 h25.2 h25.1 (Int.le_refl _) j
theorem sg_22 (g : GT) (f : Int) : snG g f 22 0 = g 22 0 + 1 := by unfold snG; rw [up_self]
theorem sg_e (g : GT) (f : Int) {k : Nat} (h : k ≠ 22 ∧ k ≠ 26) (j : Int) : snG g f k j = if (k = 23 ∧ j = g 22 0) then 0 else if (k = 25 ∧ j = g 22 0) then g 25 f else g k j := by
  unfold snG
  rw [up_ne h.1, sn_i g f _ k h.2]
  unfold sn1 up
  by_cases a : k = 25 ∧ j = g 22 0
  · rw [if_pos a, if_neg (by omega), if_pos a]
  · rw [if_neg a]
    by_cases b : k = 23 ∧ j = g 22 0
    · rw [if_pos b, if_pos b]
    · rw [if_neg b, if_neg b, if_neg a]
theorem ef_sn {g : GT} (rg : ∀ k j, inR (g k j)) (b3 : 0 ≤ g 22 0 ∧ g 22 0 ≤ 20) {f : Int} (f0 : 0 ≤ f) (f1 : f < g 22 0) (h25 : 0 ≤ g 25 f ∧ g 25 f ≤ 6) : EF g (snG g f) := by
  refine ⟨sg_22 g f, by rw [sg_e g f (by decide), if_pos ⟨rfl, rfl⟩], fun k j a b c => ?_, fun k j => ?_⟩
  · by_cases d : k = 22 ∨ k = 26
    · rcases d with rfl | rfl
      · unfold snG
        rw [up_off (fun z => a ⟨rfl, z⟩), sn_i g f _ 22 (by decide), sn1_22]
      · rw [sg_26 f0 f1 h25, if_neg (by omega)]
    · rw [sg_e g f (by omega), if_neg (by omega), if_neg (by omega)]
  · by_cases d : k = 22 ∨ k = 26
    · rcases d with rfl | rfl
      · unfold snG
        rw [up_at]
        split
        · exact ⟨by omega, by omega⟩
        · rw [sn_i g f _ 22 (by decide), sn1_22]; exact rg _ _
      · rw [sg_26 f0 f1 h25]
        split <;> exact rg _ _
    · rw [sg_e g f (by omega)]
      split
      · exact inR0
      · split <;> exact rg _ _

set_option maxRecDepth 100000 in
set_option maxHeartbeats 4000000 in
theorem C_X1_init {gx : GX} {d : Nat} {Qr : Option AV → Hp → Prop} {Qx : String → Hp → Prop} {q : Nat} {i : Int} {h : Hp} (hq : q ∈ hD h) (hk : hK h q = 3) (K : ∀ l h1, l ∉ hD h → OT h h1 (fun b => b = q) → (q ∈ hD h1 ∧ hK h1 q = 3) → (hI h1 q 0 = i ∧ hI h1 q 1 = 0) → hP h1 q 3 = some l → LI gx h1 l 0 (fun _ => none) → hP h1 l 1 = some gx.1 → Qr none h1) : aM gx (d + 4) mX1_init [vr q, vi i] h 1 3 Qr Qx := by
  intro J C
  show J 0 [some (vr q), some (vi i)] [] h 1 3
  refine r_aload_n C dX1_init_0 (i := 0) rfl rfl ?_
  refine r_objI C dX1_init_1 lX1_3 (Nat.le_of_ble_eq_true rfl) ?_
  refine r_aload_n C dX1_init_4 (i := 0) rfl rfl ?_
  refine r_iconst C dX1_init_5 ?_
  refine r_putI C dX1_init_6 fX1_9 (Or.inl rfl) (Or.inl rfl) hq hk ?_
  refine r_aload_n C dX1_init_9 (i := 0) rfl rfl ?_
  refine r_iconst C dX1_init_10 ?_
  refine r_putI C dX1_init_11 fX1_15 (Or.inl rfl) (Or.inl rfl) hq hk ?_
  refine r_aload_n C dX1_init_14 (i := 0) rfl rfl ?_
  refine r_new C dX1_init_15 (ci := 0) (by decide) kX1_18 (Nat.le_refl _) (by decide) (fun l hl => ?_)
  have hl' : l ∉ hD h := hl
  have ql : q ≠ l := fun z => hl' (z ▸ hq)
  refine r_dup C dX1_init_18 rfl ?_
  refine r_callI C dX1_init_19 sX1_20 (As := []) (fun v hv => by cases hv) (Nat.le_of_ble_eq_true rfl) (Nat.zero_le _) (Nat.zero_le _) (C_AL_init (List.mem_append.mpr (Or.inr (List.mem_singleton.mpr rfl))) (if_pos rfl) ?_)
  have hq2 : q ∈ hD (hNew h l 1 3) := List.mem_append.mpr (Or.inl hq)
  have hk2 : hK (hNew h l 1 3) q = 3 := (if_neg ql).trans hk
  refine r_putP C dX1_init_22 fX1_21 (Or.inr ⟨rfl, rfl, rfl⟩) rfl hq2 hk2 ?_
  refine r_aload_n C dX1_init_25 (i := 0) rfl rfl ?_
  refine r_iload_n C dX1_init_26 (i := 1) rfl rfl ?_
  refine r_putI C dX1_init_27 fX1_25 (Or.inr ⟨rfl, rfl, rfl⟩) (Or.inl rfl) hq2 hk2 ?_
  refine r_ret C dX1_init_30 rfl ?_
  refine K l _ hl' ?_ ⟨hq2, hk2⟩ ⟨?_, ?_⟩ ?_ ⟨⟨?_, ?_⟩, ?_, by decide, by decide, Or.inl ⟨rfl, ?_⟩⟩ ?_
  · intro b hb
    have bl : b ≠ l := fun z => hl' (z ▸ hb)
    refine ⟨List.mem_append.mpr (Or.inl hb), if_neg bl, if_neg bl, fun nb => ⟨fun j => ?_, fun j => ?_⟩⟩
    · simp only [i_wi, i_wp, i_nw]; simp [nb, bl]
    · simp only [p_wp, p_wi, p_nw]; simp [nb, bl]
  · simp only [i_wi, i_wp, i_nw]; simp [ql]
  · simp only [i_wi, i_wp, i_nw]; simp [ql]
  · simp only [p_wp, p_wi, p_nw]; simp
  · exact List.mem_append.mpr (Or.inr (List.mem_singleton.mpr rfl))
  · exact if_pos rfl
  · simp only [i_wi, i_wp, i_nw]; simp [ql.symm]
  · simp only [p_wp, p_wi, p_nw]; simp [ql.symm]
  · simp only [p_wp, p_wi, p_nw]; simp [ql.symm]

set_option maxRecDepth 100000 in
set_option maxHeartbeats 4000000 in
theorem C_X4_addFile {gx : GX} {d : Nat} {Qr : Option AV → Hp → Prop} {Qx : String → Hp → Prop} {x : Nat} {A : Nat → Int → Nat} {u : GT} {m : Int} {g : GT} {h : Hp} (R : Rp gx x A u m g h) (b3 : 0 ≤ g 22 0 ∧ g 22 0 ≤ 20) (hc : ∀ f, 0 ≤ f → f < g 22 0 → u 5 f ≤ 6) (K : g 22 0 < 20 → ∀ q l h1, (∀ g', EF g g' → Rp gx x (AF A (g 22 0) q l) (UF u (g 22 0)) m g' h1) → Qr (some (vr q)) h1) (kx : ¬ g 22 0 < 20 → Qx "java/lang/IllegalStateException" h) : aM gx (d + 7) mX4_addFile [vr x] h 3 160 Qr Qx := by
  intro J C
  show J 0 [some (vr x), none] [] h 3 160
  refine r_aload_n C dX4_addFile_0 (i := 0) rfl rfl ?_
  refine c_5_2 C dX4_addFile_1 fX4_19 R  ?_
  refine c_szF C dX4_addFile_4 sX4_44 R  (Nat.le_of_ble_eq_true rfl) ?_
  refine r_bipush C dX4_addFile_7 (by decide) ?_
  refine r_ic_lt C dX4_addFile_9 (t := 23) (by decide) (by first | assumption | exact R.rg _ _ | exact R.ru _ _ | (unfold inR; omega)) (by first | assumption | exact R.rg _ _ | exact R.ru _ _ | (unfold inR; omega)) (fun c9 => ?_) (fun c9 => ?_)
  · skip
    refine r_new C dX4_addFile_23 (ci := 2) (by decide) kX4_114 (Nat.le_of_ble_eq_true rfl) (Nat.le_of_ble_eq_true rfl) (fun q hq => ?_)
    refine r_gxn C (fun hgq => ?_)
    have R0 := R
    have OTq : OT h (hNew h q 3 4) (fun _ => False) := OT.nw hq 3 4
    have R := R0.gar OTq hgq
    have hqD : q ∈ hD (hNew h q 3 4) := List.mem_append.mpr (Or.inr (List.mem_singleton.mpr rfl))
    have hqK : hK (hNew h q 3 4) q = 3 := if_pos rfl
    refine r_dup C dX4_addFile_26 rfl ?_
    refine r_aload_n C dX4_addFile_27 (i := 0) rfl rfl ?_
    refine c_5_2 C dX4_addFile_28 fX4_19 R  ?_
    refine c_szF C dX4_addFile_31 sX4_44 R  (Nat.le_of_ble_eq_true rfl) ?_
    refine r_callI C dX4_addFile_34 sX4_291 (As := [vi (g 22 0)]) (fun v hv => by rw [List.mem_singleton.mp hv]; rfl) (Nat.le_of_ble_eq_true rfl) (c1 := 1) (s1 := 3) (Nat.le_of_ble_eq_true rfl) (Nat.le_of_ble_eq_true rfl) (C_X1_init hqD hqK (fun l h1 hl O1 qD qI ql Ll Lg => ?_))
    refine r_gxn C (fun hg1 => ?_)
    have hlh : l ∉ hD h := fun z => hl (List.mem_append.mpr (Or.inl z))
    have hlq : q ≠ l := fun z => hl (z ▸ hqD)
    have OT1 : OT h h1 (fun _ => False) := OTq.tr2 O1 (fun b hb e => hq (e ▸ hb))
    have R1 := R0.gar OT1 hg1
    refine r_astore_n C dX4_addFile_37 (i := 1) rfl (Nat.le_of_ble_eq_true rfl) ?_
    dsimp only [List.set]
    have R := R1
    refine r_aload_n C dX4_addFile_38 (i := 0) rfl rfl ?_
    refine c_5_2 C dX4_addFile_39 fX4_19 R  ?_
    refine r_aload_n C dX4_addFile_42 (i := 1) rfl rfl ?_
    have LA := R1.xx.2.2.2.2.2
    have hE : ∀ j, 0 ≤ j → j < g 22 0 → ∀ y, (fun f => some (A 6 f)) j = some y → y ∈ hD h1 ∧ ∃ ci, ci < 7 ∧ hK h1 y = ci + 1 ∧ Cond.castable (cNm ci) "java/lang/Object" ∈ tb := fun j j0 j1 y hy => by
      have n := (R1.f j0 j1).1
      have e : A 6 j = y := Option.some.inj hy
      rw [← e]
      exact ⟨n.1, 2, by decide, n.2, castO_2⟩
    refine r_callV C (As := [vr q]) dX4_addFile_43 sX4_58 (fun v hv => by rw [List.mem_singleton.mp hv]; rfl) (ci := 0) (by decide) rfl LA.1.1 LA.1.2 (Nat.le_of_ble_eq_true rfl) (c1 := 1) (s1 := 150) (Nat.le_of_ble_eq_true rfl) (Nat.le_of_ble_eq_true rfl) (C_AL_add1g LA (by omega) qD.1 qD.2 (by decide) castO_2 hE (fun h2 L2 => ?_))
    refine r_gxn C (fun hg2 => ?_)
    refine r_pop C dX4_addFile_46 rfl ?_
    refine r_aload_n C dX4_addFile_47 (i := 1) rfl rfl ?_
    refine r_aret C dX4_addFile_48 rfl rfl ?_
    exact K (by omega) q l h2 (fun g' E => R0.extF b3.1 hc OT1 hg1 hg2 hq hlh hlq qD qI ql Ll Lg L2 E)
  · skip
    refine r_thr C tX4_addFile_12 rfl (by omega) (Nat.le_of_ble_eq_true rfl) (by omega) (by omega) ?_
    exact kx (by omega)

set_option maxRecDepth 100000 in
set_option maxHeartbeats 4000000 in
theorem C_X4_file {gx : GX} {d : Nat} {Qr : Option AV → Hp → Prop} {Qx : String → Hp → Prop} {x : Nat} {A : Nat → Int → Nat} {u g : GT} {h : Hp} (Z : Rs gx x A u g h) (K : g 22 0 ≠ 20 → ∀ A' u' h1, Rs gx x A' u' (flG g) h1 → Qr (some (vi (g 22 0))) h1) (kx : ¬ g 22 0 ≠ 20 → Qx "java/lang/IllegalStateException" h) : aM gx (d + 8) mX4_file [vr x] h 10 200 Qr Qx := by
  intro J C
  show J 0 [some (vr x)] [] h 10 200
  have R := Z.1.1; have W := Z.1.2.1; have Ci := Z.1.2.2; have F := Z.2.1; have I := W.i; have B := W.b; have b1 := B.nn; have b2 := B.np; have b3 := B.nf; have Zd := Z.1.z
  have hc : ∀ f, 0 ≤ f → f < g 22 0 → u 5 f ≤ 6 := fun q a b => by
    have br := B.rw q a b
    rw [(F.2 q a b).2]
    unfold rwG
    split <;> omega
  refine r_aload_n C dX4_file_0 (i := 0) rfl rfl ?_
  refine c_VX0 C dX4_file_1 sX4_109 rfl R   (Nat.le_of_ble_eq_true rfl) 3 160 (by omega) (by omega) (C_X4_addFile R b3 hc (fun h20 q l h1 HR => ?_) (fun hn => kx (by omega)))
  · skip
    have R2 := HR (flG g) (ef_fl R.rg b3)
    obtain ⟨A', hA⟩ : ∃ A', A' = AF A (g 22 0) q l := ⟨_, rfl⟩
    rw [← hA] at R2
    have eq : A' 6 (g 22 0) = q := by rw [hA]; exact AF_6
    rw [← eq]
    have f22 := fl_22 g
    have R0 := R
    have R := R2
    refine c_2_0 C dX4_file_4 fX4_113 R (by omega) (by omega) ?_
    refine r_iret C dX4_file_7 (Or.inl rfl) ?_
    have ne : ∀ k, k ≠ 22 ∧ k ≠ 23 ∧ k ≠ 25 → ∀ j, flG g k j = g k j := fun k hk j => fl_e g (by omega) (by omega)
    have uo : ∀ k, k ≠ 4 ∧ k ≠ 5 → ∀ j, UF u (g 22 0) k j = u k j := fun k hk j => UF_e (by omega)
    have W2 := iw_ef W (ef_fl R0.rg b3) h20 (by rw [fl_25, if_pos rfl]; omega) (fun k k0 k1 => by rw [fl_25, if_pos rfl] at k1; omega)
    have C2 : CI (UF u (g 22 0)) (flG g) := Ci.same (uo 0 (by decide)) (uo 3 (by decide)) (fun n p _ _ => by rw [ne 18 (by decide)]) (ne 4 (by decide) 0) (ne 6 (by decide)) (ne 11 (by decide) 0) (R0.rvl b2.1)
    have F2 : CF (UF u (g 22 0)) (flG g) := by
      refine ⟨fun p a b => ?_, fun f a b => ?_⟩
      · rw [ne 11 (by decide)] at b
        have e := fw_add (g := g) (g' := flG g) b3.1 f22 (fun q hq => by rw [fl_23, if_neg hq]) (by rw [fl_23, if_pos rfl]) (p := p) (fun q q0 q1 => fc_cg (by rw [fl_25, if_neg (by omega)]) (fun k _ _ => ne 26 (by decide) _))
        have z : fcG (flG g) p (g 22 0) = 0 := fc_z (fun k k0 k1 => by rw [fl_25, if_pos rfl] at k1; omega)
        rw [e, z, uo 2 (by decide), F.1 p a b]
        omega
      · rw [f22] at b
        unfold rwG
        rw [fl_23, fl_25]
        by_cases c : f = g 22 0
        · rw [if_pos c, if_pos c, if_neg (by decide), c]
          unfold UF
          rw [up_self, up_ne (by decide), up_self]
          exact ⟨rfl, rfl⟩
        · rw [if_neg c, if_neg c, UF_e (by omega), UF_e (by omega)]
          exact F.2 f a (by omega)
    have Z2 : Rs gx x A' (UF u (g 22 0)) (flG g) h1 := by
      show Rt gx x _ (flG g 11 0) (flG g 1 0) _ _ _
      rw [ne 11 (by decide), ne 1 (by decide)]
      exact ⟨⟨R2, W2, C2⟩, F2, fun p p0 p1 => (uo 6 (by decide) p).trans (Z.2.2.1 p p0 p1), fun p p0 p1 => by rw [uo 1 (by decide)]; exact Z.2.2.2 p p0 p1⟩
    exact K (by omega) _ _ _ Z2

set_option maxRecDepth 100000 in
set_option maxHeartbeats 4000000 in
theorem C_X4_snapshot {gx : GX} {d : Nat} {Qr : Option AV → Hp → Prop} {Qx : String → Hp → Prop} {x : Nat} {A : Nat → Int → Nat} {u g : GT} {h : Hp} {f : Int} (Z : Rs gx x A u g h) (hf : inR f) (K : flP g f → g 23 f = 0 ∧ g 22 0 ≠ 20 → ∀ A' u' h1, Rs gx x A' u' (snG g f) h1 → Qr (some (vi (g 22 0))) h1) (kx1 : ¬ flP g f → Qx "java/lang/IndexOutOfBoundsException" h) (kx2 : flP g f → ¬ (g 23 f = 0 ∧ g 22 0 ≠ 20) → Qx "java/lang/IllegalStateException" h) : aM gx (d + 8) mX4_snapshot [vr x, vi f] h 20 400 Qr Qx := by
  intro J C
  show J 0 [some (vr x), some (vi f), none, none, none, none] [] h 20 400
  have R := Z.1.1; have W := Z.1.2.1; have Ci := Z.1.2.2; have F := Z.2.1; have I := W.i; have B := W.b; have b1 := B.nn; have b2 := B.np; have b3 := B.nf; have Zd := Z.1.z
  have hc : ∀ f, 0 ≤ f → f < g 22 0 → u 5 f ≤ 6 := fun q a b => by
    have br := B.rw q a b
    rw [(F.2 q a b).2]
    unfold rwG
    split <;> omega
  refine r_aload_n C dX4_snapshot_0 (i := 0) rfl rfl ?_
  refine r_iload_n C dX4_snapshot_1 (i := 1) rfl rfl ?_
  refine c_VX1 C dX4_snapshot_2 sX4_116 rfl R  rfl (Nat.le_of_ble_eq_true rfl) 1 6 (by omega) (by omega) (C_X4_fileNumbered R B hf (fun hd => ?_) (fun hd => ?_))
  · skip
    refine r_astore_n C dX4_snapshot_5 (i := 2) rfl (Nat.le_of_ble_eq_true rfl) ?_
    dsimp only [List.set]
    refine r_aload_n C dX4_snapshot_6 (i := 2) rfl rfl ?_
    refine c_S1 C dX4_snapshot_7 sX4_120 rfl (Nat.le_of_ble_eq_true rfl) 1 6 (by omega) (by omega) (C_X4_requireThere R hd.1 hd.2 (fun h4 => ?_) (fun h4 => ?_))
    · skip
      have f4 := (F.2 f hd.1 hd.2).1
      have h23 : g 23 f = 0 := by omega
      have b25 := B.rw f hd.1 hd.2
      have f5 : u 5 f = g 25 f := (F.2 f hd.1 hd.2).2.trans (if_neg (by omega))
      refine r_aload_n C dX4_snapshot_10 (i := 0) rfl rfl ?_
      refine c_VX0 C dX4_snapshot_11 sX4_109 rfl R   (Nat.le_of_ble_eq_true rfl) 3 160 (by omega) (by omega) (C_X4_addFile R b3 hc (fun h20 q l h1 HR => ?_) (fun hn => kx2 hd (fun z => by have := z.2; omega)))
      · skip
        have E := ef_sn R.rg b3 hd.1 hd.2 b25
        have R2 := HR (snG g f) E
        have R0 := R
        obtain ⟨A', hA⟩ : ∃ A', A' = AF A (g 22 0) q l := ⟨_, rfl⟩
        obtain ⟨T, hT⟩ : ∃ T, T = snG g f := ⟨_, rfl⟩
        rw [← hA, ← hT] at R2
        rw [← hT] at E
        have eq : A' 6 (g 22 0) = q := by rw [hA]; exact AF_6
        have eAf : A' 6 f = A 6 f := by rw [hA]; exact AF_e (by omega)
        rw [← eq, ← eAf]
        have T22 : T 22 0 = g 22 0 + 1 := by rw [hT]; exact sg_22 g f
        have T26 : ∀ j, T 26 j = if 6 * g 22 0 ≤ j ∧ j < 6 * g 22 0 + g 25 f then g 26 (6 * f + (j - 6 * g 22 0)) else g 26 j := fun j => by rw [hT]; exact sg_26 hd.1 hd.2 b25 j
        have Tne : ∀ k, k ≠ 22 ∧ k ≠ 23 ∧ k ≠ 25 ∧ k ≠ 26 → ∀ j, T k j = g k j := fun k hk j => by rw [hT, sg_e g f (by omega), if_neg (by omega), if_neg (by omega)]
        have T23 : ∀ j, T 23 j = if j = g 22 0 then 0 else g 23 j := fun j => by
          rw [hT, sg_e g f (by decide)]
          by_cases c : j = g 22 0
          · rw [if_pos ⟨rfl, c⟩, if_pos c]
          · rw [if_neg (fun z => c z.2), if_neg (fun z => c z.2), if_neg c]
        have T25 : ∀ j, T 25 j = if j = g 22 0 then g 25 f else g 25 j := fun j => by
          rw [hT, sg_e g f (by decide), if_neg (by omega)]
          by_cases c : j = g 22 0
          · rw [if_pos ⟨rfl, c⟩, if_pos c]
          · rw [if_neg (fun z => c z.2), if_neg c]
        have T11 := Tne 11 (by decide) 0
        have uo : ∀ k, k ≠ 4 ∧ k ≠ 5 → ∀ j, UF u (g 22 0) k j = u k j := fun k hk j => UF_e (by omega)
        refine r_astore_n C dX4_snapshot_14 (i := 3) rfl (Nat.le_of_ble_eq_true rfl) ?_
        dsimp only [List.set]
        refine r_iconst C dX4_snapshot_15 ?_
        refine r_istore C dX4_snapshot_16 (Nat.le_of_ble_eq_true rfl) ?_
        dsimp only [List.set]
        suffices LOOP : ∀ (m9 : Nat) (i : Int) (u2 : GT) (h2 : Hp) (y : Option AV) (cc ss : Nat), g 25 f - i < (m9 : Int) → 0 ≤ i → i ≤ g 25 f → Rp gx x A' u2 (g 11 0) T h2 → (∀ p, u2 2 p = u 2 p + cnt (fun k => decide (g 26 (6 * f + k) = p)) i) → u2 5 (g 22 0) = i → (∀ k j, k ≠ 2 → ¬ (k = 5 ∧ j = g 22 0) → u2 k j = UF u (g 22 0) k j) → 6 - i ≤ cc → 10 * (6 - i) ≤ ss → J 18 [some (vr x), some (vi f), some (vr (A' 6 f)), some (vr (A' 6 (g 22 0))), some (vi i), y] [] h2 cc ss by
          exact LOOP ((g 25 f).toNat + 1) 0 _ _ _ _ _ (by omega) (by omega) (by omega) R2 (fun p => by rw [uo 2 (by decide), cnt_0]; omega) (by unfold UF; rw [up_self]) (fun _ _ _ _ => rfl) (by decide) (by decide)
        intro m9
        induction m9 with
        | zero => intro i u2 h2 y cc ss hm9 i0 i1 R U2 U5 U3 hcc hss; exact absurd hm9 (by omega)
        | succ m9 ih9 =>
          intro i u2 h2 y cc ss hm9 i0 i1 R U2 U5 U3 hcc hss
          have u5f : u2 5 f = g 25 f := by rw [U3 5 f (by decide) (by omega), UF_e (by omega)]; exact f5
          refine r_iload C dX4_snapshot_18 rfl ?_
          refine r_aload_n C dX4_snapshot_20 (i := 2) rfl rfl ?_
          refine c_2_3 C dX4_snapshot_21 fX4_124 R (by omega) (by omega) ?_
          refine c_szR C dX4_snapshot_24 sX4_44 R (by omega) (by omega) (Nat.le_of_ble_eq_true rfl) ?_
          rw [u5f]
          refine r_ic_ge C dX4_snapshot_27 (t := 71) (by decide) (by first | assumption | exact R.rg _ _ | exact R.ru _ _ | (unfold inR; omega)) (by first | assumption | exact R.rg _ _ | exact R.ru _ _ | (unfold inR; omega)) (fun c27 => ?_) (fun c27 => ?_)
          · skip
            refine r_aload_n C dX4_snapshot_71 (i := 3) rfl rfl ?_
            refine c_2_0 C dX4_snapshot_72 fX4_113 R (by omega) (by omega) ?_
            refine r_iret C dX4_snapshot_75 (Or.inl rfl) ?_
            have ei : i = g 25 f := by omega
            rw [ei] at U2 U5
            have W2 : IW T := iw_ef W E h20 (by rw [T25, if_pos rfl]; exact b25) (fun k k0 k1 => by
              rw [T25, if_pos rfl] at k1
              rw [T26, if_pos (by omega), show 6 * f + (6 * g 22 0 + k - 6 * g 22 0) = 6 * f + k by omega]
              exact B.re f k hd.1 hd.2 k0 k1)
            have C2 : CI u2 T := Ci.same (fun j => by rw [U3 0 j (by decide) (by omega)]; exact uo 0 (by decide) j) (fun j => by rw [U3 3 j (by decide) (by omega)]; exact uo 3 (by decide) j) (fun n p _ _ => by rw [Tne 18 (by decide)]) (Tne 4 (by decide) 0) (Tne 6 (by decide)) T11 (R0.rvl b2.1)
            have F2 : CF u2 T := by
              refine ⟨fun p a b => ?_, fun q a b => ?_⟩
              · rw [T11] at b
                have e := fw_add (g := g) (g' := T) b3.1 T22 (fun q hq => by rw [T23, if_neg hq]) (by rw [T23, if_pos rfl]) (p := p) (fun q q0 q1 => fc_cg (by rw [T25, if_neg (by omega)]) (fun k k0 k1 => by
                  have := B.rw q q0 q1
                  rw [T26, if_neg (by omega)]))
                have z : fcG T p (g 22 0) = cnt (fun k => decide (g 26 (6 * f + k) = p)) (g 25 f) := by
                  unfold fcG
                  rw [T25, if_pos rfl]
                  exact cnt_c (fun k k0 k1 => by rw [T26, if_pos (by omega), show 6 * f + (6 * g 22 0 + k - 6 * g 22 0) = 6 * f + k by omega])
                rw [e, z, U2 p, F.1 p a b]
              · rw [T22] at b
                unfold rwG
                rw [T23, T25]
                by_cases c : q = g 22 0
                · rw [if_pos c, if_pos c, if_neg (by decide), c, U5, U3 4 _ (by decide) (by omega)]
                  unfold UF
                  rw [up_ne (by decide), up_self]
                  exact ⟨rfl, rfl⟩
                · rw [if_neg c, if_neg c, U3 4 q (by decide) (by omega), U3 5 q (by decide) (by omega), UF_e (by omega), UF_e (by omega)]
                  exact F.2 q a (by omega)
            have Z2 : Rs gx x A' u2 T h2 := by
              show Rt gx x _ (T 11 0) (T 1 0) _ _ _
              rw [T11, Tne 1 (by decide)]
              exact ⟨⟨R, W2, C2⟩, F2, fun p p0 p1 => by rw [U3 6 p (by decide) (by omega), uo 6 (by decide)]; exact Z.2.2.1 p p0 p1, fun p p0 p1 => by rw [U3 1 p (by decide) (by omega), uo 1 (by decide)]; exact Z.2.2.2 p p0 p1⟩
            rw [hT] at Z2
            exact K hd ⟨h23, by omega⟩ _ _ _ Z2
          · skip
            refine r_aload_n C dX4_snapshot_30 (i := 2) rfl rfl ?_
            refine c_2_3 C dX4_snapshot_31 fX4_124 R (by omega) (by omega) ?_
            refine r_iload C dX4_snapshot_34 rfl ?_
            refine c_gtR C dX4_snapshot_36 sX4_127 R (by omega) (by omega) (by omega) (by omega) (Nat.le_of_ble_eq_true rfl) ?_
            have bre := B.re f i hd.1 hd.2 i0 (by omega)
            have t26 : T 26 (6 * f + i) = g 26 (6 * f + i) := by rw [T26, if_neg (by omega)]
            rw [t26]
            obtain ⟨p, ep⟩ : ∃ p, p = g 26 (6 * f + i) := ⟨_, rfl⟩
            rw [← ep] at bre ⊢
            have ub := F.1 p bre.1 bre.2
            have fb := fwb B p (-1)
            have cb := cnt_in (fun k => decide (g 26 (6 * f + k) = p)) i0
            have u2b := U2 p
            refine c_castQ C dX4_snapshot_39 kX4_131 R (by omega) (by omega) ?_
            refine r_astore C dX4_snapshot_42 (Nat.le_of_ble_eq_true rfl) ?_
            dsimp only [List.set]
            refine r_aload C dX4_snapshot_44 rfl ?_
            refine r_dup C dX4_snapshot_46 rfl ?_
            refine c_4_2 C dX4_snapshot_47 fX4_133 R (by omega) (by omega) ?_
            refine r_iconst C dX4_snapshot_50 ?_
            refine r_iadd C dX4_snapshot_51 ?_
            refine r_putI C dX4_snapshot_52 fX4_133 (Or.inl rfl) (Or.inl rfl) (R.q bre.1 (by omega)).1.1 (R.q bre.1 (by omega)).1.2 ?_
            have R3 := R.pc_inf (v := u2 2 p + 1) bre.1 (by omega) ⟨by omega, by omega⟩
            have R := R3
            refine r_aload_n C dX4_snapshot_55 (i := 3) rfl rfl ?_
            refine c_2_3 C dX4_snapshot_56 fX4_124 R (by omega) (by omega) ?_
            refine r_aload C dX4_snapshot_59 rfl ?_
            have LF := (R3.f b3.1 (show g 22 0 < T 22 0 by omega)).2.2.2
            rw [up_ne (by decide), U5] at LF
            have qn := (R3.q bre.1 (show p < T 11 0 by omega)).1
            refine r_callV C (As := [vr (A' 4 p)]) dX4_snapshot_61 sX4_58 (fun v hv => by rw [List.mem_singleton.mp hv]; rfl) (ci := 0) (by decide) rfl LF.1.1 LF.1.2 (Nat.le_of_ble_eq_true rfl) (c1 := 1) (s1 := 10) (by omega) (by omega) (C_AL_add1 LF (by omega) qn.1 qn.2 (by decide) castO_4 (fun h3 L3 => ?_))
            refine r_gxn C (fun hg3 => ?_)
            have R4 : Rp gx x A' (up (up u2 2 p (u2 2 p + 1)) 5 (g 22 0) (i + 1)) (g 11 0) T h3 := by
              refine R3.wR b3.1 (show g 22 0 < T 22 0 by omega) L3 hg3 (fun q a b => ?_) up_self (fun k k0 k1 => ?_) (fun _ _ _ => rfl) (fun k j hk => by unfold up; rw [if_neg (by omega)]) R3.rg (rgu R3.ru ⟨by omega, by omega⟩)
              · rw [T22] at b
                rw [up_ne (by decide)]
                by_cases c : q = g 22 0
                · rw [c, U5]; omega
                · rw [U3 5 q (by decide) (by omega), UF_e (by omega)]
                  exact hc q a (by omega)
              · show (if k = i then some (A' 4 p) else some (A' 4 (T 26 (6 * g 22 0 + k)))) = _
                by_cases c : k = i
                · rw [if_pos c, T26, if_pos (by omega), show 6 * f + (6 * g 22 0 + k - 6 * g 22 0) = 6 * f + i by omega, ← ep]
                · rw [if_neg c]
            refine r_pop C dX4_snapshot_64 rfl ?_
            refine r_iinc C dX4_snapshot_65 rfl ?_
            dsimp only [List.set]
            refine r_goto C dX4_snapshot_68 (t := 18) (by decide) ?_
            refine ih9 _ _ _ _ _ _ (by omega) (by omega) (by omega) R4 (fun q => ?_) up_self (fun k j k2 k5 => by unfold up; rw [if_neg (by omega), if_neg (by omega)]; exact U3 k j k2 k5) (by omega) (by omega)
            rw [up_ne (by decide), up_at, cnt_s _ i0]
            by_cases c : q = p
            · rw [if_pos c, if_pos (decide_eq_true (by rw [c, ep])), c]
              have := U2 p
              omega
            · rw [if_neg c, if_neg (by rw [decide_eq_true_iff, ← ep]; exact fun z => c z.symm), U2 q]
              omega
    · skip
      have f4 := (F.2 f hd.1 hd.2).1
      exact kx2 hd (fun z => by have := z.1; omega)
  · skip
    exact kx1 hd

