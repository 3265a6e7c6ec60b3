/-! ===== new pieces: what is so of them ===== -/
def HZ (g : GT) : Prop := ∀ n p, 0 ≤ n → n < 8 → 0 ≤ p → p < 60 → (g 4 0 ≤ n ∨ g 11 0 ≤ p) → g 18 (60 * n + p) = 0
theorem load_np {g : GT} (B : BD g) (Z : HZ g) (h : g 11 0 < 60) {n : Int} (h0 : 0 ≤ n) (h1 : n < 8) : loadG (npG g) n = loadG g n := by
  have b2 := B.np
  have e : ∀ j, npG g 18 j = g 18 j := fun j => np_ne g (by decide) j
  unfold loadG
  rw [np_11, cnt_s _ b2.1]
  simp only [e]
  rw [if_neg (by
    intro q
    have := of_decide_eq_true q
    have z := Z n (g 11 0) h0 h1 b2.1 h (Or.inr (Int.le_refl _))
    omega)]
  omega
theorem best_some {g : GT} {p n i : Int} (h0 : 0 ≤ n) (h1 : n < i) (ho : openP g n) (hh : g 18 (60 * n + p) = 0) : bestI g p i ≠ -1 := by
  have key : ∀ m : Nat, bestN g p m = -1 → ∀ n : Int, 0 ≤ n → n < m → ¬ (openP g n ∧ g 18 (60 * n + p) = 0) := by
    intro m
    induction m with
    | zero => intro _ n a b; omega
    | succ m ih =>
      intro e n a b c
      by_cases q : openP g (m : Int) ∧ g 18 (60 * (m : Int) + p) = 0 ∧ (bestN g p m = -1 ∨ betterP g p (m : Int) (bestN g p m))
      · have e2 : bestN g p (m + 1) = m := if_pos q
        rw [e2] at e; omega
      · have e2 : bestN g p (m + 1) = bestN g p m := if_neg q
        rw [e2] at e
        by_cases nm : n = m
        · subst nm
          exact q ⟨c.1, c.2, Or.inl e⟩
        · exact ih e n a (by omega) c
  intro e
  exact key i.toNat e n h0 (by omega) ⟨ho, hh⟩
theorem iv1_np {g : GT} (I : IV1 g) (h : g 11 0 < 60) : IV1 (npG g) := by
  have b2 := I.1.np
  refine ⟨bd_np I.1 h, dc_np I.2.1, cl_np I.2.2.1, fun p n h0 h1 h2 => ?_, fun p h0 h1 => ?_⟩
  · rw [np_11] at h1
    rw [np_ne g (by decide), np_12]
    obtain ⟨k, k0, k1, k2⟩ := h2
    rw [np_16] at k1
    rw [np_ne g (by decide)] at k2
    by_cases e : p = g 11 0
    · rw [if_pos e] at k1; omega
    · rw [if_neg e] at k1 ⊢
      exact I.2.2.2.1 p n h0 (by omega) ⟨k, k0, k1, k2⟩
  · rw [np_11] at h1
    rw [np_12]
    split
    · omega
    · exact I.2.2.2.2 p h0 (by omega)
theorem np_kn {g : GT} (n : Int) : ¬ KN (npG g) (g 11 0) n := by
  rintro ⟨k, k0, k1, -⟩
  rw [np_16, if_pos rfl] at k1
  omega
theorem iv1_ad3 {s : GT} (I : IV1 s) {p : Int} (hp0 : 0 ≤ p) (hp1 : p < s 11 0) (hv : s 12 p = 1) (b : Int) : IV1 (ad3 s b p) := by
  have b2 := I.1.np
  have ne : ∀ k, k ≠ 18 ∧ k ≠ 19 ∧ k ≠ 21 → ∀ j, ad3 s b p k j = s k j := fun k hk j => ad3_ne s b p hk j
  refine ⟨bd_same I.1 (fun k hk j => ne k (by omega) j), dc_same I.2.1 (fun k hk j => ne k (by omega) j), cl_up (cl_up (cl_up I.2.2.1 (fun z => absurd z (by decide))) (fun _ => by omega)) (fun z => absurd z (by decide)), fun p' n h0 h1 h2 => ?_, fun p' h0 h1 => ?_⟩
  · rw [ne 11 (by decide)] at h1
    rw [ad3_18, ne 12 (by decide)]
    have h3 := (KN.c (fun j => ne 16 (by decide) j) (fun j => ne 17 (by decide) j) p' n).mp h2
    split
    · rw [show p' = p by omega, hv]
    · exact I.2.2.2.1 p' n h0 h1 h3
  · rw [ne 11 (by decide)] at h1
    rw [ne 12 (by decide)]
    exact I.2.2.2.2 p' h0 h1
def AD2 (g : GT) (i : Int) (s : GT) : Prop :=
  IV1 s ∧ s 11 0 = g 11 0 + 1 ∧ s 12 (g 11 0) = 1 ∧ s 13 (g 11 0) = -1 ∧ SAME (fun k => k ≠ 11 ∧ k ≠ 12 ∧ k ≠ 13 ∧ k ≠ 14 ∧ k ≠ 16 ∧ k ≠ 17 ∧ k ≠ 18 ∧ k ≠ 19 ∧ k ≠ 21) g s ∧
  (∀ m, KN s (g 11 0) m → g 7 m ≠ 0 ∧ s 19 (60 * m + g 11 0) = 0) ∧ (0 < i → 0 < s 16 (g 11 0)) ∧ (i = 0 → s = npG g)
theorem ad3_19 (s : GT) (b i j : Int) : ad3 s b i 19 j = if j = 60 * b + i then 0 else s 19 j := by
  unfold ad3
  rw [up_ne (by decide), up_at, up_ne (by decide)]
theorem ad2_i {g : GT} (I : IV1 g) (Z : HZ g) (hh : hpP g) {i : Int} (hi0 : 0 ≤ i) (hi1 : i ≤ 3) : AD2 g i (itrI (adF (g 11 0)) i (npG g)) := by
  have b1 := I.1.nn
  have b2 := I.1.np
  have key : ∀ m : Nat, (m : Int) ≤ 3 → AD2 g m (itrI (adF (g 11 0)) m (npG g)) := by
    intro m
    induction m with
    | zero =>
      intro _
      refine ⟨iv1_np I hh.2, np_11 g, by show npG g 12 _ = _; rw [np_12, if_pos rfl], by show npG g 13 _ = _; rw [np_13, if_pos rfl], fun k hk j => np_ne g (by omega) j, fun m h => absurd h (np_kn m), fun h => absurd h (by omega), fun _ => rfl⟩
    | succ m ih =>
      intro hm
      rw [show ((m + 1 : Nat) : Int) = (m : Int) + 1 by omega, itrI_s _ _ (by omega)]
      obtain ⟨s, hs⟩ : ∃ s, s = itrI (adF (g 11 0)) m (npG g) := ⟨_, rfl⟩
      have A := ih (by omega)
      rw [← hs] at A ⊢
      obtain ⟨SI, s11, s12, s13, SS, sk, sp, s0⟩ := A
      have sn := SI.1.nn
      have bb := bestG_b s (g 11 0) sn.1
      have scp := SI.1.cp (g 11 0) b2.1 (by omega)
      unfold adF
      by_cases hr : bestG s (g 11 0) = -1
      · rw [if_pos hr]
        refine ⟨SI, s11, s12, s13, SS, sk, fun _ => ?_, fun q => by omega⟩
        by_cases z : (m : Int) = 0
        · exfalso
          have e := s0 z
          obtain ⟨n, n0, n1, n2⟩ := hh.1
          refine best_some (g := s) (p := g 11 0) (n := n) (i := s 4 0) n0 ?_ ?_ ?_ hr
          · rw [SS 4 (by decide)]; exact n1
          · rw [e]
            refine ⟨by rw [np_ne g (by decide)]; exact n2.1, by rw [np_ne g (by decide)]; exact n2.2.1, ?_⟩
            rw [load_np I.1 Z hh.2 n0 (by omega), np_ne g (by decide)]
            exact n2.2.2
          · rw [e, np_ne g (by decide)]
            exact Z n (g 11 0) n0 (by omega) b2.1 hh.2 (Or.inr (Int.le_refl _))
        · exact sp (by omega)
      · rw [if_neg hr]
        replace bb := bb.resolve_left hr
        obtain ⟨b, hb⟩ : ∃ b, b = bestG s (g 11 0) := ⟨_, rfl⟩
        rw [← hb] at bb ⊢
        show AD2 g ((m : Int) + 1) (knG (ad3 s b (g 11 0)) (g 11 0) b)
        have t16 : ∀ j, ad3 s b (g 11 0) 16 j = s 16 j := fun j => ad3_ne s _ _ (by decide) j
        have t17 : ∀ j, ad3 s b (g 11 0) 17 j = s 17 j := fun j => ad3_ne s _ _ (by decide) j
        have t11 : ad3 s b (g 11 0) 11 0 = s 11 0 := ad3_ne s _ _ (by decide) 0
        have t4 : ad3 s b (g 11 0) 4 0 = s 4 0 := ad3_ne s _ _ (by decide) 0
        have t12 : ad3 s b (g 11 0) 12 (g 11 0) = s 12 (g 11 0) := ad3_ne s _ _ (by decide) _
        have I3 := iv1_ad3 SI (p := g 11 0) b2.1 (by omega) s12 b
        have nk : ¬ KN s (g 11 0) b := SI.nk b2.1 (by omega) bb.2.2.2
        have kc : ∀ m, KN (ad3 s b (g 11 0)) (g 11 0) m ↔ KN s (g 11 0) m := fun m => KN.c t16 t17 _ m
        refine ⟨iv1_kn I3 b2.1 (by omega) bb.1 (by omega) (fun q => nk ((kc b).mp q)) (by rw [ad3_18, if_pos rfl, t12, s12]), ?_, ?_, ?_, fun k hk j => ?_, fun m hm => ?_, fun _ => ?_, fun q => by omega⟩
        · rw [kn_ne _ _ _ (by decide) (by decide), t11, s11]
        · rw [kn_ne _ _ _ (by decide) (by decide), t12, s12]
        · rw [kn_ne _ _ _ (by decide) (by decide), ad3_ne _ _ _ (by decide), s13]
        · rw [kn_ne _ _ _ (by omega) (by omega), ad3_ne _ _ _ (by omega)]
          exact SS k hk j
        · rw [kn_kn (by rw [t16]; omega), kc] at hm
          rw [kn_ne _ _ _ (by decide) (by decide), ad3_19]
          rcases hm with hm | hm
          · have := sk m hm
            refine ⟨this.1, ?_⟩
            split
            · rfl
            · exact this.2
          · rw [hm]
            refine ⟨by rw [← SS 7 (by decide)]; exact bb.2.2.1.2.1, ?_⟩
            rw [if_pos rfl]
        · rw [kn_16, t16]; omega
  have := key i.toNat (by omega)
  rwa [Int.toNat_of_nonneg hi0] at this
theorem bd_app {s : GT} (B : BD s) {f x : Int} (hx0 : 0 ≤ x) (hx1 : x < s 11 0) (hf0 : 0 ≤ f) (hf1 : f < s 22 0) (hr : s 25 f < 6) : BD (up (up s 26 (6 * f + s 25 f) x) 25 f (s 25 f + 1)) := by
  have br := B.rw f hf0 hf1
  have ne : ∀ k, k ≠ 25 ∧ k ≠ 26 → ∀ j, up (up s 26 (6 * f + s 25 f) x) 25 f (s 25 f + 1) k j = s k j := fun k hk j => by rw [up_ne hk.1, up_ne hk.2]
  have e25 : ∀ j, up (up s 26 (6 * f + s 25 f) x) 25 f (s 25 f + 1) 25 j = if j = f then s 25 f + 1 else s 25 j := fun j => by rw [up_at, up_ne (by decide)]
  have e26 : ∀ j, up (up s 26 (6 * f + s 25 f) x) 25 f (s 25 f + 1) 26 j = if j = 6 * f + s 25 f then x else s 26 j := fun j => by rw [up_ne (by decide), up_at]
  refine ⟨?_, ?_, ?_, ?_, ?_, ?_, ?_, ?_, ?_, ?_, ?_⟩
  · rw [ne 4 (by decide)]; exact B.nn
  · rw [ne 11 (by decide)]; exact B.np
  · rw [ne 22 (by decide)]; exact B.nf
  · intro n; rw [ne 7 (by decide)]; exact B.isup n
  · intro n; rw [ne 9 (by decide)]; exact B.ct n
  · intro n; rw [ne 15 (by decide)]; exact B.2.2.2.2.2.1 n
  · intro p; rw [ne 11 (by decide), ne 16 (by decide)]; exact B.cp p
  · intro p k; rw [ne 11 (by decide), ne 16 (by decide), ne 17 (by decide), ne 4 (by decide)]; exact B.cy p k
  · intro f' h0 h1
    rw [ne 22 (by decide)] at h1
    rw [e25]
    split
    · omega
    · exact B.rw f' h0 h1
  · intro f' k h2 h3 h4 h5
    rw [ne 22 (by decide)] at h3
    rw [e25] at h5
    rw [e26, ne 11 (by decide)]
    split
    · exact ⟨hx0, hx1⟩
    · rename_i c
      by_cases e : f' = f
      · rw [if_pos e] at h5
        subst e
        exact B.re f' k h2 h3 h4 (by omega)
      · rw [if_neg e] at h5
        exact B.re f' k h2 h3 h4 h5
  · intro p; rw [ne 11 (by decide), ne 13 (by decide)]; exact B.pr p
theorem cnt_z {f : Int → Bool} {n : Int} (h : ∀ k, 0 ≤ k → k < n → f k = false) : cnt f n = 0 := by
  have key : ∀ m : Nat, (m : Int) ≤ n ∨ m = 0 → cntN f m = 0 := by
    intro m
    induction m with
    | zero => intro _; rfl
    | succ m ih =>
      intro hm
      show cntN f m + (if f m = true then 1 else 0) = 0
      rw [ih (by omega), h m (by omega) (by omega)]
      rfl
  exact key n.toNat (by omega)
theorem fw_z {g : GT} {p b : Int} (h : ∀ f k, 0 ≤ f → f < g 22 0 → f ≠ b → 0 ≤ k → k < g 25 f → g 26 (6 * f + k) ≠ p) : fwG g p b = 0 := by
  have key : ∀ m : Nat, (m : Int) ≤ g 22 0 ∨ m = 0 → sumN (fun f => if g 23 f ≠ 2 ∧ f ≠ b then fcG g p f else 0) m = 0 := by
    intro m
    induction m with
    | zero => intro _; rfl
    | succ m ih =>
      intro hm
      show sumN _ m + (if g 23 m ≠ 2 ∧ (m : Int) ≠ b then fcG g p m else 0) = 0
      rw [ih (by omega)]
      split
      · rename_i c
        have : fcG g p m = 0 := cnt_z (fun k a d => decide_eq_false (h m k (by omega) (by omega) c.2 a d))
        omega
      · omega
  exact key (g 22 0).toNat (by omega)
/-- the table when a file has got a new piece -/
theorem adG_f {g : GT} (I : IV1 g) (Z : HZ g) (hh : hpP g) {f : Int} (hf0 : 0 ≤ f) (hf1 : f < g 22 0) (hr : g 25 f < 6) :
    IV1 (adG g f) ∧ adG g f 11 0 = g 11 0 + 1 ∧ adG g f 12 (g 11 0) = 1 ∧ adG g f 13 (g 11 0) = -1 ∧ SAME (fun k => k ≠ 11 ∧ k ≠ 12 ∧ k ≠ 13 ∧ k ≠ 14 ∧ k ≠ 16 ∧ k ≠ 17 ∧ k ≠ 18 ∧ k ≠ 19 ∧ k ≠ 21 ∧ k ≠ 25 ∧ k ≠ 26) g (adG g f) ∧
    (∀ m, KN (adG g f) (g 11 0) m → g 7 m ≠ 0 ∧ adG g f 19 (60 * m + g 11 0) = 0) ∧ 0 < adG g f 16 (g 11 0) ∧ adG g f 25 f = g 25 f + 1 ∧ adG g f 26 (6 * f + g 25 f) = g 11 0 ∧ fwG (adG g f) (g 11 0) f = 0 := by
  have b2 := I.1.np
  have A := ad2_i I Z hh (i := 3) (by omega) (by omega)
  have d : adG g f = up (up (ad1 g) 26 (6 * f + ad1 g 25 f) (g 11 0)) 25 f (ad1 g 25 f + 1) := rfl
  obtain ⟨s, hs⟩ : ∃ s, s = ad1 g := ⟨_, rfl⟩
  replace A : AD2 g 3 s := by rw [hs]; exact A
  rw [← hs] at d
  obtain ⟨t, ht⟩ : ∃ t, t = adG g f := ⟨_, rfl⟩
  rw [← ht] at d ⊢
  obtain ⟨SI, s11, s12, s13, SS, sk, sp, -⟩ := A
  have s25 : ∀ j, s 25 j = g 25 j := fun j => SS 25 (by decide) j
  have s22 := SS 22 (by decide) 0
  have ne : ∀ k, k ≠ 25 ∧ k ≠ 26 → ∀ j, t k j = s k j := fun k hk j => by rw [d, up_ne hk.1, up_ne hk.2]
  have e25 : ∀ j, t 25 j = if j = f then g 25 f + 1 else g 25 j := fun j => by rw [d, up_at, up_ne (by decide), s25, s25]
  have e26 : ∀ j, t 26 j = if j = 6 * f + g 25 f then g 11 0 else g 26 j := fun j => by rw [d, up_ne (by decide), up_at, s25, SS 26 (by decide)]
  have kc : ∀ p m, KN t p m ↔ KN s p m := fun p m => KN.c (fun j => ne 16 (by decide) j) (fun j => ne 17 (by decide) j) p m
  have br := I.1.rw f hf0 hf1
  refine ⟨⟨by rw [d]; exact bd_app SI.1 b2.1 (by omega) hf0 (by omega) (by rw [s25]; exact hr), dc_same SI.2.1 (fun k hk j => ne k (by omega) j), cl_same SI.2.2.1 (fun j => ne 19 (by decide) j), fun p n h0 h1 h2 => ?_, fun p h0 h1 => ?_⟩, by rw [ne 11 (by decide), s11], by rw [ne 12 (by decide), s12], by rw [ne 13 (by decide), s13], fun k hk j => by rw [ne k (by omega)]; exact SS k (by omega) j, fun m hm => ?_, by rw [ne 16 (by decide)]; exact sp (by omega), by rw [e25, if_pos rfl], by rw [e26, if_pos rfl], ?_⟩
  · rw [ne 11 (by decide)] at h1
    rw [ne 18 (by decide), ne 12 (by decide)]
    exact SI.2.2.2.1 p n h0 h1 ((kc p n).mp h2)
  · rw [ne 11 (by decide)] at h1
    rw [ne 12 (by decide)]
    exact SI.2.2.2.2 p h0 h1
  · rw [ne 19 (by decide)]
    exact sk m ((kc _ m).mp hm)
  · refine fw_z (fun f' k a b c e h => ?_)
    rw [ne 22 (by decide), s22] at b
    rw [e25, if_neg c] at h
    have br' := I.1.rw f' a b
    rw [e26, if_neg (by omega)]
    have := I.1.re f' k a b e h
    omega
