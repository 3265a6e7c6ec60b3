/-! ===== leases: who is the primary ===== -/
theorem pick_d (g : GT) (p : Int) (f : Int → Bool) : (pick g p f = -1 ∧ ∀ j, 0 ≤ j → j < g 16 p → f (g 17 (8 * p + j)) = false) ∨ ∃ k, 0 ≤ k ∧ k < g 16 p ∧ pick g p f = g 17 (8 * p + k) ∧ f (g 17 (8 * p + k)) = true ∧ ∀ j, 0 ≤ j → j < k → f (g 17 (8 * p + j)) = false := by
  rcases findI_cases (fun k => f (g 17 (8 * p + k))) (g 16 p) with h | h
  · exact Or.inl ⟨pick_none h.2, h.2⟩
  · exact Or.inr ⟨_, h.1, h.2.1, pick_hit h.1 h.2.1 h.2.2.1 h.2.2.2, h.2.2.1, h.2.2.2⟩
theorem fu_fgt {g : GT} {p n : Int} (hn : g 7 n = 0) : fuG (fgtG g p n) p = fuG g p := by
  unfold fgtG
  split
  · rfl
  · rename_i h
    have hz := (plG_b (g := g) (p := p) (n := n)).resolve_left h
    obtain ⟨z, hz9⟩ : ∃ z, z = plG g p n := ⟨_, rfl⟩
    rw [← hz9] at hz ⊢
    have e7 : ∀ m, shf g p z (g 16 p - 1) 7 m = g 7 m := fun m => shf_ne _ _ _ _ (by decide) (by decide) m
    unfold fuG
    simp only [e7]
    have ent : ∀ j, 0 ≤ j → j < g 16 p - 1 → shf g p z (g 16 p - 1) 17 (8 * p + j) = if j < z then g 17 (8 * p + j) else g 17 (8 * p + (j + 1)) := by
      intro j h0 h1
      rw [shf_17]
      by_cases c : j < z
      · rw [if_neg (by omega), if_pos c]
      · rw [if_pos (by omega), if_neg c, show 8 * p + j + 1 = 8 * p + (j + 1) by omega]
    rcases pick_d g p (fun m => decide (g 7 m ≠ 0)) with ⟨a, al⟩ | ⟨k, k0, k1, k2, k3, k4⟩
    · rw [a]
      refine pick_none (fun j h0 h1 => ?_)
      rw [shf_16] at h1
      rw [ent j h0 h1]
      split
      · exact al j h0 (by omega)
      · exact al (j + 1) (by omega) (by omega)
    · have kz : k ≠ z := fun e => (of_decide_eq_true k3) (by rw [e, hz.2.2]; exact hn)
      rw [k2]
      by_cases c : k < z
      · have e := ent k k0 (by omega)
        rw [if_pos c] at e
        rw [← e]
        refine pick_hit k0 (by rw [shf_16]; omega) (by rw [e]; exact k3) (fun j h0 h1 => ?_)
        rw [ent j h0 (by omega), if_pos (by omega)]
        exact k4 j h0 h1
      · have e := ent (k - 1) (by omega) (by omega)
        rw [if_neg (by omega), show k - 1 + 1 = k by omega] at e
        rw [← e]
        refine pick_hit (by omega) (by rw [shf_16]; omega) (by rw [e]; exact k3) (fun j h0 h1 => ?_)
        rw [ent j h0 (by omega)]
        split
        · exact k4 j h0 (by omega)
        · exact k4 (j + 1) (by omega) (by omega)
theorem lsi_f {g : GT} (I : IV1 g) {p : Int} (hp0 : 0 ≤ p) (hp1 : p < g 11 0) {i : Int} (hi : 0 ≤ i) : IV1 (itrI (lsF p) i g) ∧ SAME (fun k => k ≠ 16 ∧ k ≠ 17) g (itrI (lsF p) i g) ∧ fuG (itrI (lsF p) i g) p = fuG g p ∧ (∀ m, KN (itrI (lsF p) i g) p m ↔ KN g p m ∧ (g 7 m ≠ 0 ∨ i ≤ m)) ∧ (∀ p' m, 0 ≤ p' → p' < g 11 0 → p' ≠ p → (KN (itrI (lsF p) i g) p' m ↔ KN g p' m)) := by
  have key : ∀ n : Nat, IV1 (itrI (lsF p) n g) ∧ SAME (fun k => k ≠ 16 ∧ k ≠ 17) g (itrI (lsF p) n g) ∧ fuG (itrI (lsF p) n g) p = fuG g p ∧ (∀ m, KN (itrI (lsF p) n g) p m ↔ KN g p m ∧ (g 7 m ≠ 0 ∨ (n : Int) ≤ m)) ∧ (∀ p' m, 0 ≤ p' → p' < g 11 0 → p' ≠ p → (KN (itrI (lsF p) n g) p' m ↔ KN g p' m)) := by
    intro n
    induction n with
    | zero =>
      refine ⟨I, fun _ _ _ => rfl, rfl, fun m => ⟨fun a => ⟨a, Or.inr (by have := (KN.r I.1 hp0 hp1 a).1; omega)⟩, fun a => a.1⟩, fun _ _ _ _ _ => Iff.rfl⟩
    | succ n ih =>
      rw [show ((n + 1 : Nat) : Int) = (n : Int) + 1 by omega, itrI_s _ _ (by omega)]
      obtain ⟨s, hs⟩ : ∃ s, s = itrI (lsF p) n g := ⟨_, rfl⟩
      rw [← hs] at ih ⊢
      obtain ⟨SI, SS, Sf, Sk, So⟩ := ih
      have e7 : ∀ m, s 7 m = g 7 m := fun m => SS 7 (by decide) m
      have e11 := SS 11 (by decide) 0
      unfold lsF
      by_cases c : s 7 n = 0
      · rw [if_pos c]
        refine ⟨iv1_fgt SI hp0 (by omega) _, fun k hk j => by rw [fgt_ne _ _ _ hk.1 hk.2]; exact SS k hk j, by rw [fu_fgt c, Sf], fun m => ?_, fun p' m h0 h1 e => ?_⟩
        · rw [kn_fgt SI.2.1 hp0 (by omega), Sk]
          have := e7 n
          constructor
          · rintro ⟨⟨a, b⟩, d⟩; exact ⟨a, by omega⟩
          · rintro ⟨a, b⟩
            refine ⟨⟨a, by omega⟩, fun q => ?_⟩
            rw [q] at b
            omega
        · rw [kn_fgtn SI.1 hp0 (by omega) h0 (by omega) e]
          exact So p' m h0 h1 e
      · rw [if_neg c]
        refine ⟨SI, SS, Sf, fun m => ?_, So⟩
        rw [Sk]
        have := e7 n
        constructor
        · rintro ⟨a, b⟩
          refine ⟨a, ?_⟩
          by_cases q : m = n
          · rw [q]; left; omega
          · omega
        · rintro ⟨a, b⟩; exact ⟨a, by omega⟩
  have := key i.toNat
  rwa [Int.toNat_of_nonneg hi] at this
theorem lh_18 (g : GT) (p : Int) {i : Int} (hi : 0 ≤ i) : (∀ k, 0 ≤ k → k < i → itrI (lhF p) i g 18 (60 * g 17 (8 * p + k) + p) = g 12 p) ∧ (∀ j, (∀ k, 0 ≤ k → k < i → j ≠ 60 * g 17 (8 * p + k) + p) → itrI (lhF p) i g 18 j = g 18 j) := by
  have key : ∀ n : Nat, (∀ k, 0 ≤ k → k < (n : Int) → itrI (lhF p) n g 18 (60 * g 17 (8 * p + k) + p) = g 12 p) ∧ (∀ j, (∀ k, 0 ≤ k → k < (n : Int) → j ≠ 60 * g 17 (8 * p + k) + p) → itrI (lhF p) n g 18 j = g 18 j) := by
    intro n
    induction n with
    | zero => exact ⟨fun k a b => by omega, fun j _ => rfl⟩
    | succ n ih =>
      rw [show ((n + 1 : Nat) : Int) = (n : Int) + 1 by omega, itrI_s _ _ (by omega)]
      have T := lh_ne g p n
      obtain ⟨s, hs⟩ : ∃ s, s = itrI (lhF p) n g := ⟨_, rfl⟩
      rw [← hs] at ih T ⊢
      unfold lhF
      rw [T 17 (by decide), T 12 (by decide)]
      refine ⟨fun k a b => ?_, fun j h => ?_⟩
      · rw [up_at]
        split
        · rfl
        · rename_i c
          refine ih.1 k a ?_
          by_cases e : k = n
          · rw [e] at c; exact absurd rfl c
          · omega
      · rw [up_off (h n (by omega) (by omega))]
        exact ih.2 j (fun k a b => h k a (by omega))
  have := key i.toNat
  rwa [Int.toNat_of_nonneg hi] at this
/-- a lease's table -/
theorem ls_f {g : GT} (I : IV1 g) {p : Int} (hp0 : 0 ≤ p) (hp1 : p < g 11 0) (hu : fuG g p ≠ -1) :
    IV1 (lsG g p) ∧ SAME (fun k => k ≠ 12 ∧ k ≠ 13 ∧ k ≠ 14 ∧ k ≠ 16 ∧ k ≠ 17 ∧ k ≠ 18) g (lsG g p) ∧ lsG g p 13 p = fuG g p ∧ lsG g p 17 (8 * p) = fuG g p ∧ 0 < lsG g p 16 p ∧ lsG g p 12 p = g 12 p + 1 ∧ lsG g p 14 p = g 1 0 + 10 ∧
    (∀ m, KN (lsG g p) p m ↔ KN g p m ∧ g 7 m ≠ 0) := by
  have b1 := I.1.nn
  have b2 := I.1.np
  obtain ⟨SI, SS, Sf, Sk, So⟩ := lsi_f I hp0 hp1 b1.1
  have d1 : ls1 g p = itrI (lsF p) (g 4 0) g := rfl
  rw [← d1] at SI SS Sf Sk So
  obtain ⟨s, hs⟩ : ∃ s, s = ls1 g p := ⟨_, rfl⟩
  rw [← hs] at SI SS Sf Sk So
  have d2 : ls2 g p = up s 12 p (s 12 p + 1) := by unfold ls2; rw [← hs]
  obtain ⟨t, ht⟩ : ∃ t, t = ls2 g p := ⟨_, rfl⟩
  rw [← ht] at d2
  have d3 : ls3 g p = itrI (lhF p) (t 16 p) t := by unfold ls3; rw [← ht]
  have T := lh_ne t p (t 16 p)
  have e11 := SS 11 (by decide) 0
  have scp := SI.1.cp p hp0 (by omega)
  have t16 : t 16 p = s 16 p := by rw [d2, up_ne (by decide)]
  have H := lh_18 t p (i := t 16 p) (by omega)
  rw [← d3] at T H
  obtain ⟨u, hu9⟩ : ∃ u, u = ls3 g p := ⟨_, rfl⟩
  rw [← hu9] at T H
  have d4 : lsG g p = up (up u 13 p (u 17 (8 * p))) 14 p (u 1 0 + 10) := by unfold lsG; rw [← hu9]
  have te : ∀ k, k ≠ 12 → ∀ j, t k j = s k j := fun k hk j => by rw [d2, up_ne hk]
  -- the first copy is up
  have hfu : pick s p (fun m => decide (s 7 m ≠ 0)) = fuG g p := Sf
  have hfirst : 0 < s 16 p ∧ s 17 (8 * p) = fuG g p := by
    rcases pick_d s p (fun m => decide (s 7 m ≠ 0)) with ⟨a, -⟩ | ⟨k, k0, k1, k2, k3, k4⟩
    · exact absurd (hfu.symm.trans a) hu
    · have k00 : k = 0 := by
        by_cases c : k = 0
        · exact c
        · exfalso
          have a := of_decide_eq_false (k4 0 (by omega) (by omega))
          have kn : KN s p (s 17 (8 * p + 0)) := ⟨0, by omega, by omega, rfl⟩
          have r := KN.r SI.1 hp0 (by omega) kn
          have b := ((Sk _).mp kn).2
          have e4 := SS 4 (by decide) 0
          have e7 := SS 7 (by decide) (s 17 (8 * p + 0))
          omega
      refine ⟨by omega, ?_⟩
      rw [k00, show 8 * p + 0 = 8 * p by omega] at k2
      rw [← k2, hfu]
  have u17 : ∀ j, u 17 j = s 17 j := fun j => by rw [T 17 (by decide), te 17 (by decide)]
  have u16 : ∀ j, u 16 j = s 16 j := fun j => by rw [T 16 (by decide), te 16 (by decide)]
  have u12 : ∀ j, u 12 j = if j = p then s 12 p + 1 else s 12 j := fun j => by rw [T 12 (by decide), d2, up_at]
  have kns : ∀ p' m, KN (lsG g p) p' m ↔ KN s p' m := fun p' m => KN.c (fun j => by rw [d4, up_ne (by decide), up_ne (by decide), u16]) (fun j => by rw [d4, up_ne (by decide), up_ne (by decide), u17]) p' m
  have w : ∀ k, k ≠ 13 ∧ k ≠ 14 → ∀ j, lsG g p k j = u k j := fun k hk j => by rw [d4, up_ne hk.2, up_ne hk.1]
  have uS : ∀ k, k ≠ 12 ∧ k ≠ 18 → ∀ j, u k j = s k j := fun k hk j => by rw [T k hk.2, te k hk.1]
  have ent : ∀ k, 0 ≤ k → k < s 16 p → u 18 (60 * s 17 (8 * p + k) + p) = s 12 p + 1 := by
    intro k k0 k1
    have := H.1 k k0 (by omega)
    rw [te 17 (by decide)] at this
    rw [this, d2, up_self]
  have bnd := SI.1.cy p 0 hp0 (by omega) (by omega) (by omega)
  rw [show 8 * p + 0 = 8 * p by omega, hfirst.2] at bnd
  have e4 := SS 4 (by decide) 0
  have Bu : BD u := bd_same SI.1 (fun k hk j => uS k (by omega) j)
  have BL : BD (lsG g p) := by
    rw [d4]
    exact bd_up0 (bd_prim Bu (Or.inr (by rw [u17, hfirst.2]; omega))) (by decide)
  have DL : DC (lsG g p) := dc_same SI.2.1 (fun k hk j => by rw [w k (by omega), uS k (by omega)])
  refine ⟨⟨BL, DL, cl_same SI.2.2.1 (fun j => by rw [w 19 (by decide), uS 19 (by decide)]), fun p' m h0 h1 h2 => ?_, fun p' h0 h1 => ?_⟩, fun k hk j => ?_, ?_, ?_, ?_, ?_, ?_, fun m => ?_⟩
  · rw [w 11 (by decide), uS 11 (by decide)] at h1
    rw [w 18 (by decide), w 12 (by decide), u12]
    have h3 := (kns p' m).mp h2
    by_cases e : p' = p
    · subst e
      rw [if_pos rfl]
      obtain ⟨k, k0, k1, k2⟩ := h3
      rw [← k2]
      exact ent k k0 k1
    · rw [if_neg e, H.2 (60 * m + p') (fun k k0 k1 => by omega), te 18 (by decide)]
      exact SI.2.2.2.1 p' m h0 h1 h3
  · rw [w 11 (by decide), uS 11 (by decide)] at h1
    rw [w 12 (by decide), u12]
    have a := SI.2.2.2.2 p hp0 (by omega)
    have b := SI.2.2.2.2 p' h0 h1
    split <;> omega
  · rw [w k (by omega), uS k (by omega)]
    exact SS k (by omega) j
  · rw [d4, up_ne (by decide), up_self, u17, hfirst.2]
  · rw [w 17 (by decide), u17, hfirst.2]
  · rw [w 16 (by decide), u16]; exact hfirst.1
  · rw [w 12 (by decide), u12, if_pos rfl, SS 12 (by decide)]
  · rw [d4, up_self, uS 1 (by decide), SS 1 (by decide)]
  · rw [kns, Sk]
    constructor
    · rintro ⟨a, b⟩
      have := KN.r I.1 hp0 hp1 a
      exact ⟨a, by omega⟩
    · rintro ⟨a, b⟩; exact ⟨a, Or.inl b⟩
