/-! ===== the reference: time passes ===== -/
theorem iv1_sc {g : GT} (I : IV1 g) {n : Int} : IV1 (scG g n) ∧ (∀ k, k ≠ 10 ∧ k ≠ 13 ∧ k ≠ 14 ∧ k ≠ 16 ∧ k ≠ 17 ∧ k ≠ 18 ∧ k ≠ 19 ∧ k ≠ 21 → ∀ j, scG g n k j = g k j) := by
  have b2 := I.1.np
  by_cases hz : scI g n (2 * g 11 0) = -1
  · have e : scG g n = g := if_pos hz
    rw [e]
    exact ⟨I, fun _ _ _ => rfl⟩
  · have hP : 0 < g 11 0 := by
      by_cases P : 0 < g 11 0
      · exact P
      · exact absurd (by rw [show 2 * g 11 0 = 0 by omega]; rfl) hz
    have hb := (sc_b g n (2 * g 11 0) hP).resolve_left (fun z => hz z.1)
    unfold scG
    rw [if_neg hz]
    split
    · exact ⟨iv1_dr (iv1_up0 I (by decide)) hb.1 (by rw [up_ne (by decide)]; exact hb.2.1) n, fun k hk j => by rw [dr_ne _ _ _ hk.2, up_ne hk.1]⟩
    · exact ⟨iv1_up0 I (by decide), fun k hk j => up_ne hk.1⟩
theorem iv1_tr {g : GT} (I : IV1 g) {p : Int} (hp0 : 0 ≤ p) (hp1 : p < g 11 0) : IV1 (trG g p) ∧ (∀ k, k ≠ 13 ∧ k ≠ 14 ∧ k ≠ 16 ∧ k ≠ 17 ∧ k ≠ 18 ∧ k ≠ 19 ∧ k ≠ 21 → ∀ j, trG g p k j = g k j) := by
  unfold trG
  split
  · exact ⟨I, fun _ _ _ => rfl⟩
  · exact ⟨iv1_dr I hp0 hp1 _, fun k hk j => dr_ne _ _ _ hk j⟩
/-- another node in a copy's place -/
theorem bd_rep {g : GT} (B : BD g) {p z le : Int} (h0 : 0 ≤ le) (h1 : le < g 4 0) : BD (up g 17 (8 * p + z) le) := by
  refine bd_cc B (fun k hk j => up_ne (by omega)) (fun p' a b => by rw [up_ne (by decide)]; exact B.cp p' a b) (fun p' k a b c d => ?_)
  rw [up_ne (by decide)] at d
  rw [up_at]
  split
  · exact ⟨h0, h1⟩
  · exact B.cy p' k a b c d
theorem rep_kn {g : GT} (B : BD g) (D : DC g) {p z le : Int} (hp0 : 0 ≤ p) (hp1 : p < g 11 0) (hz0 : 0 ≤ z) (hz1 : z < g 16 p) (m : Int) : KN (up g 17 (8 * p + z) le) p m ↔ (KN g p m ∧ m ≠ g 17 (8 * p + z)) ∨ m = le := by
  unfold KN
  rw [up_ne (by decide)]
  constructor
  · rintro ⟨k, k0, k1, k2⟩
    rw [up_at] at k2
    by_cases e : k = z
    · rw [if_pos (by omega)] at k2
      exact Or.inr k2.symm
    · rw [if_neg (by omega)] at k2
      refine Or.inl ⟨⟨k, k0, k1, k2⟩, fun q => ?_⟩
      rcases Int.lt_trichotomy k z with y | y | y
      · exact D p hp0 hp1 k z k0 y hz1 (by omega)
      · exact e y
      · exact D p hp0 hp1 z k hz0 y k1 (by omega)
  · rintro (⟨⟨k, k0, k1, k2⟩, e⟩ | e)
    · refine ⟨k, k0, k1, ?_⟩
      rw [up_off (fun q => e (by rw [← k2, q])), k2]
    · exact ⟨z, hz0, hz1, by rw [up_self, e]⟩
theorem rep_knn {g : GT} (B : BD g) {p z le p' : Int} (hp0 : 0 ≤ p) (hp1 : p < g 11 0) (hz0 : 0 ≤ z) (hz1 : z < g 16 p) (h0 : 0 ≤ p') (h1 : p' < g 11 0) (e : p' ≠ p) (m : Int) : KN (up g 17 (8 * p + z) le) p' m ↔ KN g p' m := by
  have c1 := B.cp p hp0 hp1
  have c2 := B.cp p' h0 h1
  unfold KN
  rw [up_ne (by decide)]
  constructor
  · rintro ⟨k, k0, k1, k2⟩
    rw [up_off (by omega)] at k2
    exact ⟨k, k0, k1, k2⟩
  · rintro ⟨k, k0, k1, k2⟩
    exact ⟨k, k0, k1, by rw [up_off (by omega)]; exact k2⟩
theorem rep_dc {g : GT} (B : BD g) (D : DC g) {p z le : Int} (hp0 : 0 ≤ p) (hp1 : p < g 11 0) (hz0 : 0 ≤ z) (hz1 : z < g 16 p) (hk : ¬ KN g p le) : DC (up g 17 (8 * p + z) le) := by
  have c1 := B.cp p hp0 hp1
  intro p' h0 h1 i j hi hij hj
  rw [up_ne (by decide)] at h1 hj
  have c2 := B.cp p' h0 h1
  by_cases e : p' = p
  · subst e
    rw [up_at, up_at]
    have d := D p' h0 h1 i j hi hij hj
    split <;> split
    · omega
    · intro q; exact hk ⟨j, by omega, hj, q.symm⟩
    · intro q; exact hk ⟨i, hi, by omega, q⟩
    · exact d
  · rw [up_off (by omega), up_off (by omega)]
    exact D p' h0 h1 i j hi hij hj
theorem iv1_ba1 {g : GT} (I : IV1 g) {mo le p : Int} (hp0 : 0 ≤ p) (hp1 : p < g 11 0) (hl0 : 0 ≤ le) (hl1 : le < g 4 0) (hb : baP g mo le p) : IV1 (ba1 g mo le p) := by
  have b2 := I.1.np
  have hz := (plG_b (g := g) (p := p) (n := mo)).resolve_left hb.1
  obtain ⟨z, hz9⟩ : ∃ z, z = plG g p mo := ⟨_, rfl⟩
  have hne : ∀ k, k ≠ 18 ∧ k ≠ 19 ∧ k ≠ 20 ∧ k ≠ 21 → ∀ j, gtG g le p mo p k j = g k j := fun k hk j => gt_ne _ _ _ _ _ hk j
  have I1 := iv1_gt I hp0 hp1 le mo p
  have nkl : ¬ KN g p le := I.nk hp0 hp1 hb.2.2.2.2
  have hmo : mo ≠ le := by
    intro e
    have h1 := hb.2.2.1.2
    rw [e, hb.2.2.2.2] at h1
    have := I.2.2.2.2 p hp0 hp1
    omega
  unfold ba1
  rw [← hz9] at hz ⊢
  obtain ⟨s, hs⟩ : ∃ s, s = gtG g le p mo p := ⟨_, rfl⟩
  have hs18 : ∀ j, s 18 j = if j = 60 * le + p then g 12 p else g 18 j := fun j => by rw [hs]; exact gt_18 _ _ _ _ _ j
  rw [← hs] at hne I1 ⊢
  have kng : ∀ p' m, KN s p' m ↔ KN g p' m := fun p' m => KN.c (fun j => hne 16 (by decide) j) (fun j => hne 17 (by decide) j) p' m
  have e11 := hne 11 (by decide) 0
  have e16 := hne 16 (by decide) p
  have e17 := hne 17 (by decide) (8 * p + z)
  have e12 : ∀ j, s 12 j = g 12 j := fun j => hne 12 (by decide) j
  have e4 := hne 4 (by decide) 0
  have B2 := bd_rep (p := p) (z := z) I1.1 hl0 (show le < s 4 0 by omega)
  have D2 := rep_dc (z := z) (le := le) I1.1 I1.2.1 hp0 (show p < s 11 0 by omega) hz.1 (show z < s 16 p by omega) (fun q => nkl ((kng p le).mp q))
  refine ⟨bd_up0 (bd_up0 B2 (by decide)) (by decide), dc_up0 (dc_up0 D2 (by decide)) (by decide), cl_up (cl_up (cl_up I1.2.2.1 (fun z => absurd z (by decide))) (fun z => absurd z (by decide))) (fun _ => by omega), fun p' m h0 h1 h2 => ?_, fun p' h0 h1 => ?_⟩
  · rw [up_ne (by decide), up_ne (by decide), up_ne (by decide)] at h1
    rw [up_ne (by decide), up_at, up_ne (by decide), up_ne (by decide), up_ne (by decide), up_ne (by decide)]
    have h3 := (KN.c (g := up s 17 (8 * p + z) le) (fun j => by rw [up_ne (by decide), up_ne (by decide)]) (fun j => by rw [up_ne (by decide), up_ne (by decide)]) p' m).mp h2
    by_cases e : p' = p
    · subst e
      rcases (rep_kn I1.1 I1.2.1 h0 h1 hz.1 (by omega) m).mp h3 with h4 | h4
      · rw [if_neg (by omega)]
        exact I1.2.2.2.1 p' m h0 h1 h4.1
      · rw [if_neg (by omega), h4, hs18, if_pos rfl, e12]
    · rw [if_neg (by omega)]
      exact I1.2.2.2.1 p' m h0 h1 ((rep_knn I1.1 hp0 (by omega) hz.1 (by omega) h0 h1 e m).mp h3)
  · rw [up_ne (by decide), up_ne (by decide), up_ne (by decide)] at h1 ⊢
    exact I1.2.2.2.2 p' h0 h1
theorem iv1_ba {g : GT} (I : IV1 g) : IV1 (baG g) ∧ (∀ k, k ≠ 13 ∧ k ≠ 14 ∧ k ≠ 17 ∧ k ≠ 18 ∧ k ≠ 19 ∧ k ≠ 20 ∧ k ≠ 21 → ∀ j, baG g k j = g k j) := by
  have b1 := I.1.nn
  have hb := bm_b g b1.1
  unfold baG
  split
  · exact ⟨I, fun _ _ _ => rfl⟩
  · rename_i h1
    split
    · exact ⟨I, fun _ _ _ => rfl⟩
    · rename_i h2
      have hf := (findI_cases (baC g (bmI g (g 4 0)) (blI g (g 4 0))) (g 11 0)).resolve_left (fun z => h2 z.1)
      have hp : baP g (bmI g (g 4 0)) (blI g (g 4 0)) _ := of_decide_eq_true hf.2.2.1
      have hbb := hb.resolve_left (fun z => h1 (Or.inl z.1))
      have I1 := iv1_ba1 I hf.1 hf.2.1 hbb.2.1 hbb.2.2.1 hp
      unfold baD
      split
      · exact ⟨iv1_el I1 _, fun k hk j => by rw [el_ne _ _ ⟨hk.1, hk.2.1⟩, ba1_ne _ _ _ _ hk.2.2]⟩
      · exact ⟨I1, fun k hk j => ba1_ne _ _ _ _ hk.2.2 j⟩
def soF2 : Int → GT → GT := fun n s => if s 7 n ≠ 0 then soG s n else s
def goF : Int → GT → GT := fun f s => up s 23 f (if s 23 f = 1 ∧ s 24 f + 20 ≤ s 1 0 then 2 else s 23 f)
def scF2 : Int → GT → GT := fun n s => if s 7 n ≠ 0 then scG s n else s
def tmF : Int → GT → GT := fun p s => if 3 < s 16 p ∧ fwG s p (-1) ≠ 0 then trG s p else s
def se1 (g : GT) : GT := cnG (up g 1 0 (g 1 0 + 1))
def se2 (g : GT) : GT := itrI soF2 (g 4 0) (se1 g)
def se3 (g : GT) : GT := itrI goF (g 22 0) (se2 g)
def se4 (g : GT) : GT := itrI scF2 (g 4 0) (se3 g)
def se5 (g : GT) : GT := meG (se4 g)
def se6 (g : GT) : GT := itrI tmF (g 11 0) (se5 g)
def seG (g : GT) : GT := if g 3 0 ≠ 0 then baG (se6 g) else se6 g
def paF : Int → GT → GT := fun _ s => seG s
def psG (g : GT) (n : Int) : GT := itrI paF n g
/-- what a second leaves as it is -/
abbrev SK (k : Nat) : Prop := k = 0 ∨ k = 2 ∨ k = 3 ∨ k = 4 ∨ k = 5 ∨ k = 6 ∨ k = 7 ∨ k = 8 ∨ k = 11 ∨ k = 12 ∨ k = 22 ∨ k = 24 ∨ k = 25 ∨ k = 26
abbrev SK1 (k : Nat) : Prop := k = 1 ∨ SK k
abbrev SAME (P : Nat → Prop) (g s : GT) : Prop := ∀ k, P k → ∀ j, s k j = g k j
theorem so2_i {g s0 : GT} (S0 : IV1 s0 ∧ SAME SK1 g s0) {i : Int} (hi : i ≤ g 4 0) : IV1 (itrI soF2 i s0) ∧ SAME SK1 g (itrI soF2 i s0) := by
  refine itrI_ind (P := fun s => IV1 s ∧ SAME SK1 g s) soF2 S0 (fun n s h0 h1 S => ?_)
  unfold soF2
  split
  · have e4 := S.2 4 (by omega) 0
    have T := so_i (j := s 11 0) S.1 h0 (show n < s 4 0 by omega) (Int.le_refl _)
    exact ⟨T.1, fun k hk j => (T.2 k (by omega) j).trans (S.2 k hk j)⟩
  · exact S
theorem go_i {g s0 : GT} (S0 : IV1 s0 ∧ SAME SK1 g s0) (i : Int) : IV1 (itrI goF i s0) ∧ SAME SK1 g (itrI goF i s0) := by
  refine itrI_ind (P := fun s => IV1 s ∧ SAME SK1 g s) goF S0 (fun f s h0 h1 S => ?_)
  unfold goF
  exact ⟨iv1_up0 S.1 (by decide), fun k hk j => by rw [up_ne (by omega)]; exact S.2 k hk j⟩
theorem sc2_i {g s0 : GT} (S0 : IV1 s0 ∧ SAME SK1 g s0) (i : Int) : IV1 (itrI scF2 i s0) ∧ SAME SK1 g (itrI scF2 i s0) := by
  refine itrI_ind (P := fun s => IV1 s ∧ SAME SK1 g s) scF2 S0 (fun n s h0 h1 S => ?_)
  unfold scF2
  split
  · have T := iv1_sc (n := n) S.1
    exact ⟨T.1, fun k hk j => (T.2 k (by omega) j).trans (S.2 k hk j)⟩
  · exact S
theorem tm_i {g s0 : GT} (S0 : IV1 s0 ∧ SAME SK1 g s0) {i : Int} (hi : i ≤ g 11 0) : IV1 (itrI tmF i s0) ∧ SAME SK1 g (itrI tmF i s0) := by
  refine itrI_ind (P := fun s => IV1 s ∧ SAME SK1 g s) tmF S0 (fun p s h0 h1 S => ?_)
  unfold tmF
  split
  · have e11 := S.2 11 (by omega) 0
    have T := iv1_tr S.1 h0 (show p < s 11 0 by omega)
    exact ⟨T.1, fun k hk j => (T.2 k (by omega) j).trans (S.2 k hk j)⟩
  · exact S
/-- g, but one second later -/
def sec1 (g : GT) : GT := up g 1 0 (g 1 0 + 1)
theorem se1_f {g : GT} (I : IV1 g) : IV1 (se1 g) ∧ SAME SK1 (sec1 g) (se1 g) := by
  have T := cn_i (iv1_up0 (k := 1) (i := 0) (x := g 1 0 + 1) I (by decide))
  exact ⟨T.1, fun k hk j => T.2 k (by omega) j⟩
theorem sec1_4 (g : GT) {k : Nat} (h : k ≠ 1) (j : Int) : sec1 g k j = g k j := up_ne h
theorem se2_f {g : GT} (I : IV1 g) : IV1 (se2 g) ∧ SAME SK1 (sec1 g) (se2 g) := so2_i (se1_f I) (by rw [sec1_4 g (by decide)]; exact Int.le_refl _)
theorem se3_f {g : GT} (I : IV1 g) : IV1 (se3 g) ∧ SAME SK1 (sec1 g) (se3 g) := go_i (se2_f I) _
theorem se4_f {g : GT} (I : IV1 g) : IV1 (se4 g) ∧ SAME SK1 (sec1 g) (se4 g) := sc2_i (se3_f I) _
theorem se5_f {g : GT} (I : IV1 g) : IV1 (se5 g) ∧ SAME SK1 (sec1 g) (se5 g) := by
  have S := se4_f I
  have T := me_i S.1 (se4 g 2 0)
  exact ⟨T.1, fun k hk j => (T.2 k (by omega) j).trans (S.2 k hk j)⟩
theorem se6_f {g : GT} (I : IV1 g) : IV1 (se6 g) ∧ SAME SK1 (sec1 g) (se6 g) := tm_i (se5_f I) (by rw [sec1_4 g (by decide)]; exact Int.le_refl _)
theorem se_f {g : GT} (I : IV1 g) : IV1 (seG g) ∧ SAME SK1 (sec1 g) (seG g) := by
  have S := se6_f I
  unfold seG
  split
  · have T := iv1_ba S.1
    exact ⟨T.1, fun k hk j => (T.2 k (by omega) j).trans (S.2 k hk j)⟩
  · exact S
theorem ps_f {g : GT} (I : IV1 g) {i : Int} (hi : 0 ≤ i) : IV1 (psG g i) ∧ SAME SK g (psG g i) ∧ psG g i 1 0 = g 1 0 + i := by
  have key : ∀ m : Nat, IV1 (psG g m) ∧ SAME SK g (psG g m) ∧ psG g m 1 0 = g 1 0 + m := by
    intro m
    induction m with
    | zero => exact ⟨I, fun _ _ _ => rfl, by show g 1 0 = _; omega⟩
    | succ m ih =>
      have e : psG g ((m + 1 : Nat) : Int) = seG (psG g m) := by
        unfold psG
        rw [show ((m + 1 : Nat) : Int) = (m : Int) + 1 by omega, itrI_s _ _ (by omega)]
        rfl
      rw [e]
      have T := se_f ih.1
      refine ⟨T.1, fun k hk j => ?_, ?_⟩
      · rw [T.2 k (Or.inr hk) j, sec1_4 _ (by omega)]
        exact ih.2.1 k hk j
      · rw [T.2 1 (Or.inl rfl) 0]
        unfold sec1
        rw [up_self, ih.2.2]
        omega
  have := key i.toNat
  rwa [Int.toNat_of_nonneg hi] at this
def PAC (g : GT) (x c : Int) : Prop := (¬ (1 ≤ x ∧ x ≤ 100) ∧ c = 1) ∨ ((1 ≤ x ∧ x ≤ 100) ∧ 3000 < g 1 0 + x ∧ c = 2) ∨ ((1 ≤ x ∧ x ≤ 100) ∧ g 1 0 + x ≤ 3000 ∧ c = 0)
theorem iv1_sec {g : GT} (I : IV1 g) : IV1 (sec1 g) := iv1_up0 I (by decide)

