/-! ===== which nodes are known of a piece ===== -/
def KN (g : GT) (p n : Int) : Prop := ∃ k, 0 ≤ k ∧ k < g 16 p ∧ g 17 (8 * p + k) = n
theorem kn_pl {g : GT} {p n : Int} : plG g p n ≠ -1 ↔ KN g p n := by
  rcases findI_cases (fun k => decide (g 17 (8 * p + k) = n)) (g 16 p) with h | h
  · refine ⟨fun z => absurd h.1 z, fun ⟨k, a, b, c⟩ => ?_⟩
    have := of_decide_eq_false (h.2 k a b)
    exact absurd c this
  · refine ⟨fun _ => ⟨_, h.1, h.2.1, of_decide_eq_true h.2.2.1⟩, fun _ => ?_⟩
    show findI _ _ ≠ -1
    omega
theorem pl_none {g : GT} {p n : Int} : plG g p n = -1 ↔ ¬ KN g p n := by
  rw [← kn_pl]
  exact Decidable.not_not.symm
theorem KN.c {g g' : GT} (h16 : ∀ j, g' 16 j = g 16 j) (h17 : ∀ j, g' 17 j = g 17 j) (p n : Int) : KN g' p n ↔ KN g p n := by
  unfold KN
  simp only [h16, h17]
theorem kn_fgt {g : GT} (D : DC g) {p n : Int} (hp0 : 0 ≤ p) (hp1 : p < g 11 0) (m : Int) : KN (fgtG g p n) p m ↔ KN g p m ∧ m ≠ n := by
  unfold fgtG
  split
  · rename_i h
    have := pl_none.mp h
    exact ⟨fun a => ⟨a, fun e => this (e ▸ a)⟩, fun a => a.1⟩
  · rename_i h
    have hz := (plG_b (g := g) (p := p) (n := n)).resolve_left h
    obtain ⟨z, hz9⟩ : ∃ z, z = plG g p n := ⟨_, rfl⟩
    rw [← hz9] at hz ⊢
    constructor
    · rintro ⟨k, k0, k1, k2⟩
      rw [shf_16] at k1
      rw [shf_17] at k2
      by_cases c : 8 * p + z ≤ 8 * p + k ∧ 8 * p + k < 8 * p + (g 16 p - 1)
      · rw [if_pos c, show 8 * p + k + 1 = 8 * p + (k + 1) by omega] at k2
        refine ⟨⟨k + 1, by omega, by omega, k2⟩, fun e => ?_⟩
        have := D p hp0 hp1 z (k + 1) hz.1 (by omega) (by omega)
        omega
      · rw [if_neg c] at k2
        refine ⟨⟨k, k0, by omega, k2⟩, fun e => ?_⟩
        have := D p hp0 hp1 k z k0 (by omega) (by omega)
        omega
    · rintro ⟨⟨k, k0, k1, k2⟩, e⟩
      have hne : k ≠ z := fun q => e (by rw [← k2, q]; exact hz.2.2)
      by_cases c : k < z
      · refine ⟨k, k0, by rw [shf_16]; omega, ?_⟩
        rw [shf_17, if_neg (by omega)]
        exact k2
      · refine ⟨k - 1, by omega, by rw [shf_16]; omega, ?_⟩
        rw [shf_17, if_pos (by omega), show 8 * p + (k - 1) + 1 = 8 * p + k by omega]
        exact k2
theorem kn_fgtn {g : GT} (B : BD g) {p n p' : Int} (hp0 : 0 ≤ p) (hp1 : p < g 11 0) (h0 : 0 ≤ p') (h1 : p' < g 11 0) (e : p' ≠ p) (m : Int) : KN (fgtG g p n) p' m ↔ KN g p' m := by
  unfold fgtG
  split
  · exact Iff.rfl
  · rename_i h
    have hz := (plG_b (g := g) (p := p) (n := n)).resolve_left h
    have b1 := B.cp p hp0 hp1
    have b2 := B.cp p' h0 h1
    unfold KN
    rw [shf_16n _ _ _ _ e]
    constructor
    · rintro ⟨k, k0, k1, k2⟩
      rw [shf_17, if_neg (by omega)] at k2
      exact ⟨k, k0, k1, k2⟩
    · rintro ⟨k, k0, k1, k2⟩
      refine ⟨k, k0, k1, ?_⟩
      rw [shf_17, if_neg (by omega)]
      exact k2
theorem kn_kn {g : GT} {p n : Int} (hc0 : 0 ≤ g 16 p) (m : Int) : KN (knG g p n) p m ↔ KN g p m ∨ m = n := by
  unfold KN
  rw [kn_16]
  constructor
  · rintro ⟨k, k0, k1, k2⟩
    rw [kn_17] at k2
    by_cases c : k = g 16 p
    · rw [if_pos (by omega)] at k2
      exact Or.inr k2.symm
    · rw [if_neg (by omega)] at k2
      exact Or.inl ⟨k, k0, by omega, k2⟩
  · rintro (⟨k, k0, k1, k2⟩ | e)
    · refine ⟨k, k0, by omega, ?_⟩
      rw [kn_17, if_neg (by omega)]
      exact k2
    · refine ⟨g 16 p, hc0, by omega, ?_⟩
      rw [kn_17, if_pos rfl, e]
theorem kn_knn {g : GT} (B : BD g) {p n p' : Int} (hp0 : 0 ≤ p) (hp1 : p < g 11 0) (hc : g 16 p < 8) (h0 : 0 ≤ p') (h1 : p' < g 11 0) (e : p' ≠ p) (m : Int) : KN (knG g p n) p' m ↔ KN g p' m := by
  have b1 := B.cp p hp0 hp1
  have b2 := B.cp p' h0 h1
  unfold KN
  rw [kn_16n _ _ _ e]
  constructor
  · rintro ⟨k, k0, k1, k2⟩
    rw [kn_17, if_neg (by omega)] at k2
    exact ⟨k, k0, k1, k2⟩
  · rintro ⟨k, k0, k1, k2⟩
    refine ⟨k, k0, k1, ?_⟩
    rw [kn_17, if_neg (by omega)]
    exact k2
theorem KN.r {g : GT} (B : BD g) {p n : Int} (hp0 : 0 ≤ p) (hp1 : p < g 11 0) (h : KN g p n) : 0 ≤ n ∧ n < g 4 0 := by
  obtain ⟨k, k0, k1, k2⟩ := h
  rw [← k2]
  exact B.cy p k hp0 hp1 k0 k1
/-- a known copy is of its piece's version -/
def KH (g : GT) : Prop := ∀ p n, 0 ≤ p → p < g 11 0 → KN g p n → g 18 (60 * n + p) = g 12 p
def VP (g : GT) : Prop := ∀ p, 0 ≤ p → p < g 11 0 → 1 ≤ g 12 p
def IV1 (g : GT) : Prop := BD g ∧ DC g ∧ CL g ∧ KH g ∧ VP g
/-- which fields stay -/
def FR (g g' : GT) (P : Nat → Bool) : Prop := ∀ k, P k = true → ∀ j, g' k j = g k j
theorem iv1_same {g g' : GT} (I : IV1 g) (h : ∀ k, k = 4 ∨ k = 11 ∨ k = 22 ∨ k = 7 ∨ k = 9 ∨ k = 15 ∨ k = 16 ∨ k = 17 ∨ k = 25 ∨ k = 26 ∨ k = 13 ∨ k = 12 ∨ k = 18 ∨ k = 19 → ∀ j, g' k j = g k j) : IV1 g' := by
  refine ⟨bd_same I.1 (fun k hk j => h k (by omega) j), dc_same I.2.1 (fun k hk j => h k (by omega) j), cl_same I.2.2.1 (fun j => h 19 (by omega) j), fun p n h0 h1 h2 => ?_, fun p h0 h1 => ?_⟩
  · rw [h 11 (by omega)] at h1
    rw [h 18 (by omega), h 12 (by omega)]
    exact I.2.2.2.1 p n h0 h1 ((KN.c (fun j => h 16 (by omega) j) (fun j => h 17 (by omega) j) p n).mp h2)
  · rw [h 11 (by omega)] at h1
    rw [h 12 (by omega)]
    exact I.2.2.2.2 p h0 h1
theorem iv1_fgt {g : GT} (I : IV1 g) {p : Int} (hp0 : 0 ≤ p) (hp1 : p < g 11 0) (n : Int) : IV1 (fgtG g p n) := by
  have ne : ∀ k, k ≠ 16 ∧ k ≠ 17 → ∀ j, fgtG g p n k j = g k j := fun k hk j => fgt_ne g p n hk.1 hk.2 j
  refine ⟨bd_fgt I.1 hp0 hp1 n, dc_fgt I.1 I.2.1 hp0 hp1 n, cl_same I.2.2.1 (fun j => ne 19 (by decide) j), fun p' m h0 h1 h2 => ?_, fun p' h0 h1 => ?_⟩
  · rw [ne 11 (by decide)] at h1
    rw [ne 18 (by decide), ne 12 (by decide)]
    refine I.2.2.2.1 p' m h0 h1 ?_
    by_cases e : p' = p
    · subst e; exact ((kn_fgt I.2.1 h0 h1 m).mp h2).1
    · exact (kn_fgtn I.1 hp0 hp1 h0 h1 e m).mp h2
  · rw [ne 11 (by decide)] at h1
    rw [ne 12 (by decide)]
    exact I.2.2.2.2 p' h0 h1
theorem iv1_el {g : GT} (I : IV1 g) (p : Int) : IV1 (elG g p) := by
  have ne : ∀ k, k ≠ 13 ∧ k ≠ 14 → ∀ j, elG g p k j = g k j := fun k hk j => by unfold elG; rw [up_ne hk.2, up_ne hk.1]
  refine ⟨bd_el I.1 p, dc_el I.2.1 p, cl_same I.2.2.1 (fun j => ne 19 (by decide) j), fun p' m h0 h1 h2 => ?_, fun p' h0 h1 => ?_⟩
  · rw [ne 11 (by decide)] at h1
    rw [ne 18 (by decide), ne 12 (by decide)]
    exact I.2.2.2.1 p' m h0 h1 ((KN.c (fun j => ne 16 (by decide) j) (fun j => ne 17 (by decide) j) p' m).mp h2)
  · rw [ne 11 (by decide)] at h1
    rw [ne 12 (by decide)]
    exact I.2.2.2.2 p' h0 h1
theorem dr1_18 (g : GT) (n p j : Int) : dr1 g n p 18 j = if j = 60 * n + p then 0 else g 18 j := by
  unfold dr1
  rw [up_ne (by decide), up_ne (by decide), up_at]
theorem cl_dr1 {g : GT} (K : CL g) (n p : Int) : CL (dr1 g n p) := cl_up (cl_up (cl_up K (fun z => absurd z (by decide))) (fun _ => by omega)) (fun z => absurd z (by decide))
theorem iv1_fd {g : GT} (I : IV1 g) {p : Int} (hp0 : 0 ≤ p) (hp1 : p < g 11 0) (n : Int) : IV1 (fgtG (dr1 g n p) p n) := by
  have ne : ∀ k, k ≠ 16 ∧ k ≠ 17 → ∀ j, fgtG (dr1 g n p) p n k j = dr1 g n p k j := fun k hk j => fgt_ne _ p n hk.1 hk.2 j
  have B1 := bd_dr1 I.1 n p
  have D1 := dc_dr1 I.2.1 n p
  have hp1' : p < dr1 g n p 11 0 := by rw [dr1_11]; exact hp1
  have b2 := I.1.np
  refine ⟨bd_fgt B1 hp0 hp1' n, dc_fgt B1 D1 hp0 hp1' n, cl_same (cl_dr1 I.2.2.1 n p) (fun j => ne 19 (by decide) j), fun p' m h0 h1 h2 => ?_, fun p' h0 h1 => ?_⟩
  · rw [ne 11 (by decide)] at h1
    rw [ne 18 (by decide), ne 12 (by decide), dr1_18, dr1_ne _ _ _ (by decide)]
    have h1' : p' < g 11 0 := by rw [dr1_11] at h1; exact h1
    have hk : ∀ m, KN (dr1 g n p) p' m ↔ KN g p' m := fun m => KN.c (fun j => dr1_ne g n p (by decide) j) (fun j => dr1_ne g n p (by decide) j) p' m
    by_cases e : p' = p
    · subst e
      have h3 := (kn_fgt D1 h0 h1 m).mp h2
      rw [if_neg (by omega)]
      exact I.2.2.2.1 p' m h0 h1' ((hk m).mp h3.1)
    · rw [if_neg (by omega)]
      exact I.2.2.2.1 p' m h0 h1' ((hk m).mp ((kn_fgtn B1 hp0 hp1' h0 h1 e m).mp h2))
  · rw [ne 11 (by decide), dr1_11] at h1
    rw [ne 12 (by decide), dr1_ne _ _ _ (by decide)]
    exact I.2.2.2.2 p' h0 h1
theorem iv1_dr {g : GT} (I : IV1 g) {p : Int} (hp0 : 0 ≤ p) (hp1 : p < g 11 0) (n : Int) : IV1 (drG g n p) := by
  unfold drG
  split
  · exact iv1_el (iv1_fd I hp0 hp1 n) p
  · exact iv1_fd I hp0 hp1 n
theorem iv1_kn {g : GT} (I : IV1 g) {p n : Int} (hp0 : 0 ≤ p) (hp1 : p < g 11 0) (hn0 : 0 ≤ n) (hn1 : n < g 4 0) (hk : ¬ KN g p n) (hh : g 18 (60 * n + p) = g 12 p) : IV1 (knG g p n) := by
  have hpl := pl_none.mpr hk
  have hlt := dc_lt I.1 I.2.1 hp0 hp1 hn0 hn1 hpl
  have b1 := I.1.nn
  have bcp := I.1.cp p hp0 hp1
  have ne : ∀ k, k ≠ 16 ∧ k ≠ 17 → ∀ j, knG g p n k j = g k j := fun k hk j => kn_ne g p n hk.1 hk.2 j
  refine ⟨bd_kn I.1 hp0 hp1 (by omega) hn0 hn1, dc_kn I.1 I.2.1 hp0 hp1 (by omega) hpl, cl_same I.2.2.1 (fun j => ne 19 (by decide) j), fun p' m h0 h1 h2 => ?_, fun p' h0 h1 => ?_⟩
  · rw [ne 11 (by decide)] at h1
    rw [ne 18 (by decide), ne 12 (by decide)]
    by_cases e : p' = p
    · subst e
      rcases (kn_kn bcp.1 m).mp h2 with h3 | h3
      · exact I.2.2.2.1 p' m h0 h1 h3
      · rw [h3]; exact hh
    · exact I.2.2.2.1 p' m h0 h1 ((kn_knn I.1 hp0 hp1 (by omega) h0 h1 e m).mp h2)
  · rw [ne 11 (by decide)] at h1
    rw [ne 12 (by decide)]
    exact I.2.2.2.2 p' h0 h1
theorem gt_18 (g : GT) (n p n2 p2 j : Int) : gtG g n p n2 p2 18 j = if j = 60 * n + p then g 12 p else g 18 j := by
  unfold gtG nuG
  rw [if_neg (by omega), up_ne (by decide), up_ne (by decide), up_at]
theorem gt_19 (g : GT) (n p n2 p2 j : Int) : gtG g n p n2 p2 19 j = if j = 60 * n + p then g 19 (60 * n2 + p2) else g 19 j := by
  unfold gtG nuG
  rw [if_neg (by omega), up_ne (by decide), up_at, up_ne (by decide)]
theorem gt_21 (g : GT) (n p n2 p2 j : Int) : gtG g n p n2 p2 21 j = if j = 60 * n + p then g 21 (60 * n2 + p2) else g 21 j := by
  unfold gtG nuG
  rw [if_neg (by omega), up_at, up_ne (by decide), up_ne (by decide)]
theorem cl_gt {g : GT} (K : CL g) (n p n2 p2 : Int) : CL (gtG g n p n2 p2) := by
  intro j
  rw [gt_19]
  split
  · exact K _
  · exact K j
theorem iv1_gt {g : GT} (I : IV1 g) {p : Int} (hp0 : 0 ≤ p) (hp1 : p < g 11 0) (n n2 p2 : Int) : IV1 (gtG g n p n2 p2) := by
  have b2 := I.1.np
  refine ⟨bd_gt I.1 _ _ _ _, dc_gt I.2.1 _ _ _ _, cl_gt I.2.2.1 _ _ _ _, fun p' m h0 h1 h2 => ?_, fun p' h0 h1 => ?_⟩
  · rw [gt_ne _ _ _ _ _ (by decide)] at h1
    rw [gt_18, gt_ne _ _ _ _ _ (by decide)]
    have h3 := (KN.c (fun j => gt_ne g n p n2 p2 (by decide) j) (fun j => gt_ne g n p n2 p2 (by decide) j) p' m).mp h2
    split
    · rename_i e
      rw [show p' = p by omega]
    · exact I.2.2.2.1 p' m h0 h1 h3
  · rw [gt_ne _ _ _ _ _ (by decide)] at h1 ⊢
    exact I.2.2.2.2 p' h0 h1
