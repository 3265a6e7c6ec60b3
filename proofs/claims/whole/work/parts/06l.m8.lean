/-! ===== the reference: a second, second half ===== -/
abbrev meP (s : GT) (p : Int) : Prop := s 16 p < 3 ∧ s 15 p = 0 ∧ fwG s p (-1) ≠ 0 ∧ fgG s p 1 ≠ -1 ∧ bestG s p ≠ -1
def meN (s : GT) : Nat → Int
  | 0 => -1
  | n + 1 => if meP s n ∧ (meN s n = -1 ∨ s 16 n < s 16 (meN s n)) then (n : Int) else meN s n
def meI (s : GT) (i : Int) : Int := meN s i.toNat
theorem meI_s (s : GT) {i : Int} (h : 0 ≤ i) : meI s (i + 1) = if meP s i ∧ (meI s i = -1 ∨ s 16 i < s 16 (meI s i)) then i else meI s i := by
  unfold meI
  rw [show (i + 1).toNat = i.toNat + 1 by omega]
  show (if meP s (i.toNat : Int) ∧ (meN s i.toNat = -1 ∨ s 16 (i.toNat : Int) < s 16 (meN s i.toNat)) then (i.toNat : Int) else meN s i.toNat) = _
  rw [Int.toNat_of_nonneg h]
theorem meI_b (s : GT) {i : Int} (h : 0 ≤ i) : meI s i = -1 ∨ (0 ≤ meI s i ∧ meI s i < i ∧ meP s (meI s i)) := by
  have key : ∀ m : Nat, meN s m = -1 ∨ (0 ≤ meN s m ∧ meN s m < m ∧ meP s (meN s m)) := by
    intro m
    induction m with
    | zero => exact Or.inl rfl
    | succ m ih =>
      by_cases q : meP s (m : Int) ∧ (meN s m = -1 ∨ s 16 (m : Int) < s 16 (meN s m))
      · have e : meN s (m + 1) = m := if_pos q
        rw [e]
        exact Or.inr ⟨by omega, by omega, q.1⟩
      · have e : meN s (m + 1) = meN s m := if_neg q
        rw [e]
        rcases ih with ih | ih
        · exact Or.inl ih
        · exact Or.inr ⟨ih.1, by omega, ih.2.2⟩
  have := key i.toNat
  unfold meI
  rcases this with q | q
  · exact Or.inl q
  · exact Or.inr ⟨q.1, by omega, q.2.2⟩
def mfF : Int → GT → GT := fun p s => up s 15 p 0
def me1 (g : GT) : GT := itrI mfF (g 11 0) g
def meD (s : GT) (f : Int) : GT := up (knG (gtG s (bestG s f) f (fgG s f 1) f) f (bestG s f)) 15 f 1
def meF : Int → GT → GT := fun _ s => if meI s (s 11 0) = -1 then s else meD s (meI s (s 11 0))
def meG (g : GT) : GT := itrI meF (g 2 0) (me1 g)
theorem mf_i {g : GT} (I : IV1 g) (i : Int) : IV1 (itrI mfF i g) ∧ (∀ k, k ≠ 15 → ∀ j, itrI mfF i g k j = g k j) := by
  refine itrI_ind (P := fun s => IV1 s ∧ (∀ k, k ≠ 15 → ∀ j, s k j = g k j)) mfF ⟨I, fun _ _ _ => rfl⟩ (fun p s h0 h1 S => ?_)
  unfold mfF
  exact ⟨iv1_bool S.1 (by decide) (Or.inl rfl), fun k hk j => by rw [up_ne hk]; exact S.2 k hk j⟩
/-- where has isn't the version, nothing is known -/
theorem IV1.nk {g : GT} (I : IV1 g) {p n : Int} (h0 : 0 ≤ p) (h1 : p < g 11 0) (h : g 18 (60 * n + p) = 0) : ¬ KN g p n := by
  intro k
  have a := I.2.2.2.1 p n h0 h1 k
  have b := I.2.2.2.2 p h0 h1
  omega
theorem me_d {s : GT} (I : IV1 s) {f : Int} (h0 : 0 ≤ f) (h1 : f < s 11 0) (hb : bestG s f ≠ -1) (hc : s 16 f < 3) : IV1 (meD s f) ∧ (∀ k, k ≠ 15 ∧ k ≠ 16 ∧ k ≠ 17 ∧ k ≠ 18 ∧ k ≠ 19 ∧ k ≠ 20 ∧ k ≠ 21 → ∀ j, meD s f k j = s k j) := by
  have b1 := I.1.nn
  have bb := (bestG_b s f b1.1).resolve_left hb
  have hne : ∀ k, k ≠ 18 ∧ k ≠ 19 ∧ k ≠ 20 ∧ k ≠ 21 → ∀ j, gtG s (bestG s f) f (fgG s f 1) f k j = s k j := fun k hk j => gt_ne _ _ _ _ _ hk j
  unfold meD
  refine ⟨iv1_bool (iv1_kn (iv1_gt I h0 h1 _ _ _) h0 (by rw [hne 11 (by decide)]; exact h1) bb.1 (by rw [hne 4 (by decide)]; omega) ?_ ?_) (by decide) (Or.inr rfl), fun k hk j => ?_⟩
  · rw [KN.c (fun j => hne 16 (by decide) j) (fun j => hne 17 (by decide) j)]
    exact I.nk h0 h1 bb.2.2.2
  · rw [gt_18, if_pos rfl, hne 12 (by decide)]
  · rw [up_ne hk.1, kn_ne _ _ _ hk.2.1 hk.2.2.1, hne k (by omega)]
theorem me_i {g : GT} (I : IV1 g) (i : Int) : IV1 (itrI meF i (me1 g)) ∧ (∀ k, k ≠ 15 ∧ k ≠ 16 ∧ k ≠ 17 ∧ k ≠ 18 ∧ k ≠ 19 ∧ k ≠ 20 ∧ k ≠ 21 → ∀ j, itrI meF i (me1 g) k j = g k j) := by
  have S0 := mf_i I (g 11 0)
  refine itrI_ind (P := fun s => IV1 s ∧ (∀ k, k ≠ 15 ∧ k ≠ 16 ∧ k ≠ 17 ∧ k ≠ 18 ∧ k ≠ 19 ∧ k ≠ 20 ∧ k ≠ 21 → ∀ j, s k j = g k j)) meF ⟨S0.1, fun k hk j => S0.2 k hk.1 j⟩ (fun p s _ _ S => ?_)
  unfold meF
  split
  · exact S
  · rename_i h
    have hb := (meI_b s S.1.1.np.1).resolve_left h
    have T := me_d S.1 hb.1 hb.2.1 hb.2.2.2.2.2.2 hb.2.2.1
    exact ⟨T.1, fun k hk j => by rw [T.2 k hk j]; exact S.2 k hk j⟩

set_option maxRecDepth 100000 in
set_option maxHeartbeats 4000000 in
theorem C_X5_mends {gx : GX} {d : Nat} {Qr : Option AV → Hp → Prop} {Qx : String → Hp → Prop} {q : Nat} {ar : Nat → Nat} {g : GT} {h : Hp} (R : RM q ar g h) (I : IV1 g) (hl0 : 0 ≤ g 2 0) (hl1 : g 2 0 ≤ 3) (k : ∀ h1, RM q ar (meG g) h1 → Qr none h1) : aM gx (d + 5) mX5_mends [vr q] h 0 0 Qr Qx := by
  intro J C
  show J 0 [some (vr q), none, none, none, none] [] h 0 0
  have B := I.1; have b2 := B.np; have b1 := B.nn; have b3 := B.nf; have rg := R.rg
  refine r_iconst C dX5_mends_0 ?_
  refine r_istore_n C dX5_mends_1 (i := 1) rfl (Nat.le_of_ble_eq_true rfl) ?_
  dsimp only [List.set]
  suffices LOOP : ∀ (m : Nat) (i : Int) (h : Hp), g 11 0 - i < (m : Int) → 0 ≤ i → i ≤ g 11 0 → RM q ar (itrI mfF i g) h → J 2 [some (vr q), some (vi i), none, none, none] [] h 0 0 by
    exact LOOP ((g 11 0).toNat + 1) 0 _ (by omega) (by omega) (by omega) R
  intro m
  induction m with
  | zero => intro i h hm hi0 hi1 R; exact absurd hm (by omega)
  | succ m ih =>
    intro i h hm hi0 hi1 R
    obtain ⟨s, hs⟩ : ∃ s, s = itrI mfF i g := ⟨_, rfl⟩
    have S := mf_i I i
    rw [← hs] at R S
    have e11 := S.2 11 (by decide) 0
    have rg := R.rg
    refine r_iload_n C dX5_mends_2 (i := 1) rfl rfl ?_
    refine r_aload_n C dX5_mends_3 (i := 0) rfl rfl ?_
    refine m_get0 C dX5_mends_4 fX5_85 R rfl rfl ?_
    refine r_ic_ge C dX5_mends_7 (t := 23) (by decide) (by first | assumption | exact R.rg _ _ | exact rg _ _ | (unfold inR; omega)) (by first | assumption | exact R.rg _ _ | exact rg _ _ | (unfold inR; omega)) (fun c7 => ?_) (fun c7 => ?_)
    · skip
      have e2 : s 2 0 = g 2 0 := S.2 2 (by decide) 0
      have hs1 : s = me1 g := by rw [hs, show i = g 11 0 by omega]; rfl
      rw [hs1] at R
      refine r_iconst C dX5_mends_23 ?_
      refine r_istore_n C dX5_mends_24 (i := 1) rfl (Nat.le_of_ble_eq_true rfl) ?_
      dsimp only [List.set]
      suffices LOOP : ∀ (m2 : Nat) (i : Int) (h : Hp) (o2 o3 o4 : Option AV), g 2 0 - i < (m2 : Int) → 0 ≤ i → i ≤ g 2 0 → RM q ar (itrI meF i (me1 g)) h → J 25 [some (vr q), some (vi i), o2, o3, o4] [] h 0 0 by
        exact LOOP ((g 2 0).toNat + 1) 0 _ _ _ _ (by omega) (by omega) (by omega) R
      intro m2
      induction m2 with
      | zero => intro i h o2 o3 o4 hm2 hi0 hi1 R; exact absurd hm2 (by omega)
      | succ m2 ih2 =>
        intro i h o2 o3 o4 hm2 hi0 hi1 R
        obtain ⟨t, ht⟩ : ∃ t, t = itrI meF i (me1 g) := ⟨_, rfl⟩
        have T := me_i I i
        rw [← ht] at R T
        have f11 := T.2 11 (by decide) 0; have f2 := T.2 2 (by decide) 0
        have TB := T.1.1
        have tn := TB.nn
        have rg := R.rg
        refine r_iload_n C dX5_mends_25 (i := 1) rfl rfl ?_
        refine r_aload_n C dX5_mends_26 (i := 0) rfl rfl ?_
        refine m_get0 C dX5_mends_27 fX5_7 R rfl rfl ?_
        refine r_ic_ge C dX5_mends_30 (t := 178) (by decide) (by first | assumption | exact R.rg _ _ | exact rg _ _ | (unfold inR; omega)) (by first | assumption | exact R.rg _ _ | exact rg _ _ | (unfold inR; omega)) (fun c30 => ?_) (fun c30 => ?_)
        · skip
          refine r_ret C dX5_mends_178 rfl ?_
          exact k _ (by rw [show i = g 2 0 by omega] at ht; unfold meG; rw [← ht]; exact R)
        · skip
          refine r_iconst C dX5_mends_33 ?_
          refine r_istore_n C dX5_mends_34 (i := 2) rfl (Nat.le_of_ble_eq_true rfl) ?_
          dsimp only [List.set]
          refine r_iconst C dX5_mends_35 ?_
          refine r_istore_n C dX5_mends_36 (i := 3) rfl (Nat.le_of_ble_eq_true rfl) ?_
          dsimp only [List.set]
          suffices LOOP : ∀ (m3 : Nat) (f j : Int) (o4 : Option AV), t 11 0 - j < (m3 : Int) → 0 ≤ j → j ≤ t 11 0 → f = meI t j → J 37 [some (vr q), some (vi i), some (vi f), some (vi j), o4] [] h 0 0 by
            exact LOOP ((t 11 0).toNat + 1) (-1) 0 _ (by omega) (by omega) (by omega) rfl
          intro m3
          induction m3 with
          | zero => intro f j o4 hm3 hj0 hj1 hf; exact absurd hm3 (by omega)
          | succ m3 ih3 =>
            intro f j o4 hm3 hj0 hj1 hf
            have hb := meI_b t hj0
            rw [← hf] at hb
            refine r_iload_n C dX5_mends_37 (i := 3) rfl rfl ?_
            refine r_aload_n C dX5_mends_38 (i := 0) rfl rfl ?_
            refine m_get0 C dX5_mends_39 fX5_85 R rfl rfl ?_
            refine r_ic_ge C dX5_mends_42 (t := 135) (by decide) (by first | assumption | exact R.rg _ _ | exact rg _ _ | (unfold inR; omega)) (by first | assumption | exact R.rg _ _ | exact rg _ _ | (unfold inR; omega)) (fun c42 => ?_) (fun c42 => ?_)
            · skip
              have hff : f = meI t (t 11 0) := by rw [hf, show j = t 11 0 by omega]
              refine r_iload_n C dX5_mends_135 (i := 2) rfl rfl ?_
              refine r_iconst C dX5_mends_136 ?_
              refine r_ic_eq C dX5_mends_137 (t := 172) (by decide) (by first | assumption | exact R.rg _ _ | exact rg _ _ | (unfold inR; omega)) (by first | assumption | exact R.rg _ _ | exact rg _ _ | (unfold inR; omega)) (fun c137 => ?_) (fun c137 => ?_)
              · skip
                refine r_iinc C dX5_mends_172 rfl ?_
                dsimp only [List.set]
                refine r_goto C dX5_mends_175 (t := 25) (by decide) ?_
                first
                  | exact ih2 _ _ _ _ _ (by omega) (by omega) (by omega) (by rw [itrI_s _ _ hi0, ← ht]; unfold meF; rw [if_pos (by omega)]; exact R)
                  | exact ih2 _ _ _ _ _ (by omega) (by omega) (by omega) (by rw [itrI_s _ _ hi0, ← ht]; unfold meF; rw [if_neg (by omega), ← hff]; exact R)
              · skip
                have hb2 := hb.resolve_left c137
                have hme := hb2.2.2
                have bbe := (bestG_b t f tn.1).resolve_left hme.2.2.2.2
                have bfg := (pick_r TB hb2.1 (show f < t 11 0 by omega) (fun n => decide (goodP t f n ∧ ((1 : Int) = 0 ∨ t 21 (60 * n + f) = 0)))).resolve_left hme.2.2.2.1
                replace bfg : 0 ≤ fgG t f 1 ∧ fgG t f 1 < t 4 0 := ⟨bfg.1, bfg.2.1⟩
                have tcf := TB.cp f (by omega) (by omega)
                have hm1 := hme.1
                refine r_aload_n C dX5_mends_140 (i := 0) rfl rfl ?_
                refine r_iload_n C dX5_mends_141 (i := 2) rfl rfl ?_
                refine m_V1 C dX5_mends_142 sX5_182 rfl R (Nat.le_of_ble_eq_true rfl) (C_X5_best R TB hb2.1 (by omega) ?_)
                refine r_istore_n C dX5_mends_145 (i := 3) rfl (Nat.le_of_ble_eq_true rfl) ?_
                dsimp only [List.set]
                refine r_aload_n C dX5_mends_146 (i := 0) rfl rfl ?_
                refine r_iload_n C dX5_mends_147 (i := 3) rfl rfl ?_
                refine r_iload_n C dX5_mends_148 (i := 2) rfl rfl ?_
                refine r_aload_n C dX5_mends_149 (i := 0) rfl rfl ?_
                refine r_iload_n C dX5_mends_150 (i := 2) rfl rfl ?_
                refine r_iconst C dX5_mends_151 ?_
                refine m_V2 C dX5_mends_152 sX5_146 rfl R (Nat.le_of_ble_eq_true rfl) (C_X5_firstGood R TB hb2.1 (by omega) inR1 ?_)
                refine r_iload_n C dX5_mends_155 (i := 2) rfl rfl ?_
                refine m_V4 C dX5_mends_156 sX5_166 rfl R (Nat.le_of_ble_eq_true rfl) (C_X5_gets R TB bbe.1 (by omega) hb2.1 (by omega) bfg.1 (by omega) hb2.1 (by omega) (fun h R => ?_))
                refine r_aload_n C dX5_mends_159 (i := 0) rfl rfl ?_
                refine r_iload_n C dX5_mends_160 (i := 2) rfl rfl ?_
                refine r_iload_n C dX5_mends_161 (i := 3) rfl rfl ?_
                refine m_V2 C dX5_mends_162 sX5_170 rfl R (Nat.le_of_ble_eq_true rfl) (C_X5_knows R hb2.1 (by omega) (by unfold inR; omega) (by rw [gt_ne _ _ _ _ _ (by decide)]; omega) (by rw [gt_ne _ _ _ _ _ (by decide)]; omega) (fun h R => ?_))
                refine r_aload_n C dX5_mends_165 (i := 0) rfl rfl ?_
                refine m_getA C dX5_mends_166 fX5_42 R (by decide) rfl ?_
                refine r_iload_n C dX5_mends_169 (i := 2) rfl rfl ?_
                refine r_iconst C dX5_mends_170 ?_
                refine m_zast C dX5_mends_171 R (N := 60) rfl (by decide) rfl (by omega) (by omega) (by omega) (by first | assumption | omega) (fun h R => ?_)
                refine r_iinc C dX5_mends_172 rfl ?_
                dsimp only [List.set]
                refine r_goto C dX5_mends_175 (t := 25) (by decide) ?_
                first
                  | exact ih2 _ _ _ _ _ (by omega) (by omega) (by omega) (by rw [itrI_s _ _ hi0, ← ht]; unfold meF; rw [if_pos (by omega)]; exact R)
                  | exact ih2 _ _ _ _ _ (by omega) (by omega) (by omega) (by rw [itrI_s _ _ hi0, ← ht]; unfold meF; rw [if_neg (by omega), ← hff]; exact R)
            · skip
              have tcj := TB.cp j hj0 (by omega)
              refine r_aload_n C dX5_mends_45 (i := 0) rfl rfl ?_
              refine m_getA C dX5_mends_46 fX5_45 R (by decide) rfl ?_
              refine r_iload_n C dX5_mends_49 (i := 3) rfl rfl ?_
              refine m_iald C dX5_mends_50 R (N := 60) rfl (by decide) rfl (by omega) (by omega) (by omega) ?_
              refine r_iconst C dX5_mends_51 ?_
              refine r_ic_ge C dX5_mends_52 (t := 95) (by decide) (by first | assumption | exact R.rg _ _ | exact rg _ _ | (unfold inR; omega)) (by first | assumption | exact R.rg _ _ | exact rg _ _ | (unfold inR; omega)) (fun c52 => ?_) (fun c52 => ?_)
              · skip
                refine r_iconst C dX5_mends_95 ?_
                refine r_istore C dX5_mends_96 (Nat.le_of_ble_eq_true rfl) ?_
                dsimp only [List.set]
                refine r_iload C dX5_mends_98 rfl ?_
                refine r_if_eq C dX5_mends_100 (t := 127) (by decide) (by first | assumption | exact R.rg _ _ | exact rg _ _ | (unfold inR; omega)) (fun c100 => ?_) (fun c100 => ?_)
                · skip
                  refine r_iload_n C dX5_mends_127 (i := 2) rfl rfl ?_
                  refine r_istore_n C dX5_mends_128 (i := 2) rfl (Nat.le_of_ble_eq_true rfl) ?_
                  dsimp only [List.set]
                  refine r_iinc C dX5_mends_129 rfl ?_
                  dsimp only [List.set]
                  refine r_goto C dX5_mends_132 (t := 37) (by decide) ?_
                  first
                    | exact ih3 _ _ _ (by omega) (by omega) (by omega) (by rw [meI_s _ hj0, ← hf, if_pos ⟨⟨by omega, by omega, by omega, by omega, by omega⟩, by omega⟩])
                    | exact ih3 _ _ _ (by omega) (by omega) (by omega) (by rw [meI_s _ hj0, ← hf, if_neg (fun y => by have y1 := y.1.1; have y2 := y.2; omega)])
                    | exact ih3 _ _ _ (by omega) (by omega) (by omega) (by rw [meI_s _ hj0, ← hf, if_neg (fun y => by have y1 := y.1.1; have y2 := y.1.2.1; omega)])
                    | exact ih3 _ _ _ (by omega) (by omega) (by omega) (by rw [meI_s _ hj0, ← hf, if_neg (fun y => by have y1 := y.1.2.2.1; omega)])
                    | exact ih3 _ _ _ (by omega) (by omega) (by omega) (by rw [meI_s _ hj0, ← hf, if_neg (fun y => by have y1 := y.1.2.2.2.1; omega)])
                    | exact ih3 _ _ _ (by omega) (by omega) (by omega) (by rw [meI_s _ hj0, ← hf, if_neg (fun y => by have y1 := y.1.2.2.2.2; omega)])
                · skip
                  exact absurd c100 (by decide)
              · skip
                refine r_aload_n C dX5_mends_55 (i := 0) rfl rfl ?_
                refine m_getA C dX5_mends_56 fX5_42 R (by decide) rfl ?_
                refine r_iload_n C dX5_mends_59 (i := 3) rfl rfl ?_
                refine m_zald C dX5_mends_60 R (N := 60) rfl (by decide) rfl (by omega) (by omega) (by omega) ?_
                refine r_if_ne C dX5_mends_61 (t := 95) (by decide) (by first | assumption | exact R.rg _ _ | exact rg _ _ | (unfold inR; omega)) (fun c61 => ?_) (fun c61 => ?_)
                · skip
                  have hx15 := c61
                  refine r_iconst C dX5_mends_95 ?_
                  refine r_istore C dX5_mends_96 (Nat.le_of_ble_eq_true rfl) ?_
                  dsimp only [List.set]
                  refine r_iload C dX5_mends_98 rfl ?_
                  refine r_if_eq C dX5_mends_100 (t := 127) (by decide) (by first | assumption | exact R.rg _ _ | exact rg _ _ | (unfold inR; omega)) (fun c100 => ?_) (fun c100 => ?_)
                  · skip
                    refine r_iload_n C dX5_mends_127 (i := 2) rfl rfl ?_
                    refine r_istore_n C dX5_mends_128 (i := 2) rfl (Nat.le_of_ble_eq_true rfl) ?_
                    dsimp only [List.set]
                    refine r_iinc C dX5_mends_129 rfl ?_
                    dsimp only [List.set]
                    refine r_goto C dX5_mends_132 (t := 37) (by decide) ?_
                    first
                      | exact ih3 _ _ _ (by omega) (by omega) (by omega) (by rw [meI_s _ hj0, ← hf, if_pos ⟨⟨by omega, by omega, by omega, by omega, by omega⟩, by omega⟩])
                      | exact ih3 _ _ _ (by omega) (by omega) (by omega) (by rw [meI_s _ hj0, ← hf, if_neg (fun y => by have y1 := y.1.1; have y2 := y.2; omega)])
                      | exact ih3 _ _ _ (by omega) (by omega) (by omega) (by rw [meI_s _ hj0, ← hf, if_neg (fun y => by have y1 := y.1.1; have y2 := y.1.2.1; omega)])
                      | exact ih3 _ _ _ (by omega) (by omega) (by omega) (by rw [meI_s _ hj0, ← hf, if_neg (fun y => by have y1 := y.1.2.2.1; omega)])
                      | exact ih3 _ _ _ (by omega) (by omega) (by omega) (by rw [meI_s _ hj0, ← hf, if_neg (fun y => by have y1 := y.1.2.2.2.1; omega)])
                      | exact ih3 _ _ _ (by omega) (by omega) (by omega) (by rw [meI_s _ hj0, ← hf, if_neg (fun y => by have y1 := y.1.2.2.2.2; omega)])
                  · skip
                    exact absurd c100 (by decide)
                · skip
                  have hx15 := c61
                  refine r_aload_n C dX5_mends_64 (i := 0) rfl rfl ?_
                  refine r_iload_n C dX5_mends_65 (i := 3) rfl rfl ?_
                  refine m_V1 C dX5_mends_66 sX5_228 rfl R (Nat.le_of_ble_eq_true rfl) (C_X5_isGone R TB (by unfold inR; omega) (fun z hz hb9 => ?_))
                  refine r_if_ne C dX5_mends_69 (t := 95) (by decide) (by first | assumption | exact R.rg _ _ | exact rg _ _ | (unfold inR; omega)) (fun c69 => ?_) (fun c69 => ?_)
                  · skip
                    have hgo := hb9.t c69
                    refine r_iconst C dX5_mends_95 ?_
                    refine r_istore C dX5_mends_96 (Nat.le_of_ble_eq_true rfl) ?_
                    dsimp only [List.set]
                    refine r_iload C dX5_mends_98 rfl ?_
                    refine r_if_eq C dX5_mends_100 (t := 127) (by decide) (by first | assumption | exact R.rg _ _ | exact rg _ _ | (unfold inR; omega)) (fun c100 => ?_) (fun c100 => ?_)
                    · skip
                      refine r_iload_n C dX5_mends_127 (i := 2) rfl rfl ?_
                      refine r_istore_n C dX5_mends_128 (i := 2) rfl (Nat.le_of_ble_eq_true rfl) ?_
                      dsimp only [List.set]
                      refine r_iinc C dX5_mends_129 rfl ?_
                      dsimp only [List.set]
                      refine r_goto C dX5_mends_132 (t := 37) (by decide) ?_
                      first
                        | exact ih3 _ _ _ (by omega) (by omega) (by omega) (by rw [meI_s _ hj0, ← hf, if_pos ⟨⟨by omega, by omega, by omega, by omega, by omega⟩, by omega⟩])
                        | exact ih3 _ _ _ (by omega) (by omega) (by omega) (by rw [meI_s _ hj0, ← hf, if_neg (fun y => by have y1 := y.1.1; have y2 := y.2; omega)])
                        | exact ih3 _ _ _ (by omega) (by omega) (by omega) (by rw [meI_s _ hj0, ← hf, if_neg (fun y => by have y1 := y.1.1; have y2 := y.1.2.1; omega)])
                        | exact ih3 _ _ _ (by omega) (by omega) (by omega) (by rw [meI_s _ hj0, ← hf, if_neg (fun y => by have y1 := y.1.2.2.1; omega)])
                        | exact ih3 _ _ _ (by omega) (by omega) (by omega) (by rw [meI_s _ hj0, ← hf, if_neg (fun y => by have y1 := y.1.2.2.2.1; omega)])
                        | exact ih3 _ _ _ (by omega) (by omega) (by omega) (by rw [meI_s _ hj0, ← hf, if_neg (fun y => by have y1 := y.1.2.2.2.2; omega)])
                    · skip
                      exact absurd c100 (by decide)
                  · skip
                    have hgo := hb9.f c69
                    refine r_aload_n C dX5_mends_72 (i := 0) rfl rfl ?_
                    refine r_iload_n C dX5_mends_73 (i := 3) rfl rfl ?_
                    refine r_iconst C dX5_mends_74 ?_
                    refine m_V2 C dX5_mends_75 sX5_146 rfl R (Nat.le_of_ble_eq_true rfl) (C_X5_firstGood R TB hj0 (by omega) inR1 ?_)
                    have bfg := pick_r TB hj0 (show j < t 11 0 by omega) (fun n => decide (goodP t j n ∧ ((1 : Int) = 0 ∨ t 21 (60 * n + j) = 0)))
                    replace bfg : fgG t j 1 = -1 ∨ (0 ≤ fgG t j 1 ∧ fgG t j 1 < t 4 0) := bfg.imp id (fun z => ⟨z.1, z.2.1⟩)
                    refine r_iconst C dX5_mends_78 ?_
                    refine r_ic_eq C dX5_mends_79 (t := 95) (by decide) (by first | assumption | exact R.rg _ _ | exact rg _ _ | (unfold inR; omega)) (by first | assumption | exact R.rg _ _ | exact rg _ _ | (unfold inR; omega)) (fun c79 => ?_) (fun c79 => ?_)
                    · skip
                      refine r_iconst C dX5_mends_95 ?_
                      refine r_istore C dX5_mends_96 (Nat.le_of_ble_eq_true rfl) ?_
                      dsimp only [List.set]
                      refine r_iload C dX5_mends_98 rfl ?_
                      refine r_if_eq C dX5_mends_100 (t := 127) (by decide) (by first | assumption | exact R.rg _ _ | exact rg _ _ | (unfold inR; omega)) (fun c100 => ?_) (fun c100 => ?_)
                      · skip
                        refine r_iload_n C dX5_mends_127 (i := 2) rfl rfl ?_
                        refine r_istore_n C dX5_mends_128 (i := 2) rfl (Nat.le_of_ble_eq_true rfl) ?_
                        dsimp only [List.set]
                        refine r_iinc C dX5_mends_129 rfl ?_
                        dsimp only [List.set]
                        refine r_goto C dX5_mends_132 (t := 37) (by decide) ?_
                        first
                          | exact ih3 _ _ _ (by omega) (by omega) (by omega) (by rw [meI_s _ hj0, ← hf, if_pos ⟨⟨by omega, by omega, by omega, by omega, by omega⟩, by omega⟩])
                          | exact ih3 _ _ _ (by omega) (by omega) (by omega) (by rw [meI_s _ hj0, ← hf, if_neg (fun y => by have y1 := y.1.1; have y2 := y.2; omega)])
                          | exact ih3 _ _ _ (by omega) (by omega) (by omega) (by rw [meI_s _ hj0, ← hf, if_neg (fun y => by have y1 := y.1.1; have y2 := y.1.2.1; omega)])
                          | exact ih3 _ _ _ (by omega) (by omega) (by omega) (by rw [meI_s _ hj0, ← hf, if_neg (fun y => by have y1 := y.1.2.2.1; omega)])
                          | exact ih3 _ _ _ (by omega) (by omega) (by omega) (by rw [meI_s _ hj0, ← hf, if_neg (fun y => by have y1 := y.1.2.2.2.1; omega)])
                          | exact ih3 _ _ _ (by omega) (by omega) (by omega) (by rw [meI_s _ hj0, ← hf, if_neg (fun y => by have y1 := y.1.2.2.2.2; omega)])
                      · skip
                        exact absurd c100 (by decide)
                    · skip
                      refine r_aload_n C dX5_mends_82 (i := 0) rfl rfl ?_
                      refine r_iload_n C dX5_mends_83 (i := 3) rfl rfl ?_
                      refine m_V1 C dX5_mends_84 sX5_182 rfl R (Nat.le_of_ble_eq_true rfl) (C_X5_best R TB hj0 (by omega) ?_)
                      have bbe := bestG_b t j tn.1
                      replace bbe : bestG t j = -1 ∨ (0 ≤ bestG t j ∧ bestG t j < t 4 0) := bbe.imp id (fun z => ⟨z.1, z.2.1⟩)
                      refine r_iconst C dX5_mends_87 ?_
                      refine r_ic_eq C dX5_mends_88 (t := 95) (by decide) (by first | assumption | exact R.rg _ _ | exact rg _ _ | (unfold inR; omega)) (by first | assumption | exact R.rg _ _ | exact rg _ _ | (unfold inR; omega)) (fun c88 => ?_) (fun c88 => ?_)
                      · skip
                        refine r_iconst C dX5_mends_95 ?_
                        refine r_istore C dX5_mends_96 (Nat.le_of_ble_eq_true rfl) ?_
                        dsimp only [List.set]
                        refine r_iload C dX5_mends_98 rfl ?_
                        refine r_if_eq C dX5_mends_100 (t := 127) (by decide) (by first | assumption | exact R.rg _ _ | exact rg _ _ | (unfold inR; omega)) (fun c100 => ?_) (fun c100 => ?_)
                        · skip
                          refine r_iload_n C dX5_mends_127 (i := 2) rfl rfl ?_
                          refine r_istore_n C dX5_mends_128 (i := 2) rfl (Nat.le_of_ble_eq_true rfl) ?_
                          dsimp only [List.set]
                          refine r_iinc C dX5_mends_129 rfl ?_
                          dsimp only [List.set]
                          refine r_goto C dX5_mends_132 (t := 37) (by decide) ?_
                          first
                            | exact ih3 _ _ _ (by omega) (by omega) (by omega) (by rw [meI_s _ hj0, ← hf, if_pos ⟨⟨by omega, by omega, by omega, by omega, by omega⟩, by omega⟩])
                            | exact ih3 _ _ _ (by omega) (by omega) (by omega) (by rw [meI_s _ hj0, ← hf, if_neg (fun y => by have y1 := y.1.1; have y2 := y.2; omega)])
                            | exact ih3 _ _ _ (by omega) (by omega) (by omega) (by rw [meI_s _ hj0, ← hf, if_neg (fun y => by have y1 := y.1.1; have y2 := y.1.2.1; omega)])
                            | exact ih3 _ _ _ (by omega) (by omega) (by omega) (by rw [meI_s _ hj0, ← hf, if_neg (fun y => by have y1 := y.1.2.2.1; omega)])
                            | exact ih3 _ _ _ (by omega) (by omega) (by omega) (by rw [meI_s _ hj0, ← hf, if_neg (fun y => by have y1 := y.1.2.2.2.1; omega)])
                            | exact ih3 _ _ _ (by omega) (by omega) (by omega) (by rw [meI_s _ hj0, ← hf, if_neg (fun y => by have y1 := y.1.2.2.2.2; omega)])
                        · skip
                          exact absurd c100 (by decide)
                      · skip
                        refine r_iconst C dX5_mends_91 ?_
                        refine r_goto C dX5_mends_92 (t := 96) (by decide) ?_
                        refine r_istore C dX5_mends_96 (Nat.le_of_ble_eq_true rfl) ?_
                        dsimp only [List.set]
                        refine r_iload C dX5_mends_98 rfl ?_
                        refine r_if_eq C dX5_mends_100 (t := 127) (by decide) (by first | assumption | exact R.rg _ _ | exact rg _ _ | (unfold inR; omega)) (fun c100 => ?_) (fun c100 => ?_)
                        · skip
                          exact absurd c100 (by decide)
                        · skip
                          refine r_iload_n C dX5_mends_103 (i := 2) rfl rfl ?_
                          refine r_iconst C dX5_mends_104 ?_
                          refine r_ic_eq C dX5_mends_105 (t := 123) (by decide) (by first | assumption | exact R.rg _ _ | exact rg _ _ | (unfold inR; omega)) (by first | assumption | exact R.rg _ _ | exact rg _ _ | (unfold inR; omega)) (fun c105 => ?_) (fun c105 => ?_)
                          · skip
                            refine r_iload_n C dX5_mends_123 (i := 3) rfl rfl ?_
                            refine r_goto C dX5_mends_124 (t := 128) (by decide) ?_
                            refine r_istore_n C dX5_mends_128 (i := 2) rfl (Nat.le_of_ble_eq_true rfl) ?_
                            dsimp only [List.set]
                            refine r_iinc C dX5_mends_129 rfl ?_
                            dsimp only [List.set]
                            refine r_goto C dX5_mends_132 (t := 37) (by decide) ?_
                            first
                              | exact ih3 _ _ _ (by omega) (by omega) (by omega) (by rw [meI_s _ hj0, ← hf, if_pos ⟨⟨by omega, by omega, by omega, by omega, by omega⟩, by omega⟩])
                              | exact ih3 _ _ _ (by omega) (by omega) (by omega) (by rw [meI_s _ hj0, ← hf, if_neg (fun y => by have y1 := y.1.1; have y2 := y.2; omega)])
                              | exact ih3 _ _ _ (by omega) (by omega) (by omega) (by rw [meI_s _ hj0, ← hf, if_neg (fun y => by have y1 := y.1.1; have y2 := y.1.2.1; omega)])
                              | exact ih3 _ _ _ (by omega) (by omega) (by omega) (by rw [meI_s _ hj0, ← hf, if_neg (fun y => by have y1 := y.1.2.2.1; omega)])
                              | exact ih3 _ _ _ (by omega) (by omega) (by omega) (by rw [meI_s _ hj0, ← hf, if_neg (fun y => by have y1 := y.1.2.2.2.1; omega)])
                              | exact ih3 _ _ _ (by omega) (by omega) (by omega) (by rw [meI_s _ hj0, ← hf, if_neg (fun y => by have y1 := y.1.2.2.2.2; omega)])
                          · skip
                            have tcf := TB.cp f (by omega) (by omega)
                            refine r_aload_n C dX5_mends_108 (i := 0) rfl rfl ?_
                            refine m_getA C dX5_mends_109 fX5_45 R (by decide) rfl ?_
                            refine r_iload_n C dX5_mends_112 (i := 3) rfl rfl ?_
                            refine m_iald C dX5_mends_113 R (N := 60) rfl (by decide) rfl (by omega) (by omega) (by omega) ?_
                            refine r_aload_n C dX5_mends_114 (i := 0) rfl rfl ?_
                            refine m_getA C dX5_mends_115 fX5_45 R (by decide) rfl ?_
                            refine r_iload_n C dX5_mends_118 (i := 2) rfl rfl ?_
                            refine m_iald C dX5_mends_119 R (N := 60) rfl (by decide) rfl (by omega) (by omega) (by omega) ?_
                            refine r_ic_ge C dX5_mends_120 (t := 127) (by decide) (by first | assumption | exact R.rg _ _ | exact rg _ _ | (unfold inR; omega)) (by first | assumption | exact R.rg _ _ | exact rg _ _ | (unfold inR; omega)) (fun c120 => ?_) (fun c120 => ?_)
                            · skip
                              refine r_iload_n C dX5_mends_127 (i := 2) rfl rfl ?_
                              refine r_istore_n C dX5_mends_128 (i := 2) rfl (Nat.le_of_ble_eq_true rfl) ?_
                              dsimp only [List.set]
                              refine r_iinc C dX5_mends_129 rfl ?_
                              dsimp only [List.set]
                              refine r_goto C dX5_mends_132 (t := 37) (by decide) ?_
                              first
                                | exact ih3 _ _ _ (by omega) (by omega) (by omega) (by rw [meI_s _ hj0, ← hf, if_pos ⟨⟨by omega, by omega, by omega, by omega, by omega⟩, by omega⟩])
                                | exact ih3 _ _ _ (by omega) (by omega) (by omega) (by rw [meI_s _ hj0, ← hf, if_neg (fun y => by have y1 := y.1.1; have y2 := y.2; omega)])
                                | exact ih3 _ _ _ (by omega) (by omega) (by omega) (by rw [meI_s _ hj0, ← hf, if_neg (fun y => by have y1 := y.1.1; have y2 := y.1.2.1; omega)])
                                | exact ih3 _ _ _ (by omega) (by omega) (by omega) (by rw [meI_s _ hj0, ← hf, if_neg (fun y => by have y1 := y.1.2.2.1; omega)])
                                | exact ih3 _ _ _ (by omega) (by omega) (by omega) (by rw [meI_s _ hj0, ← hf, if_neg (fun y => by have y1 := y.1.2.2.2.1; omega)])
                                | exact ih3 _ _ _ (by omega) (by omega) (by omega) (by rw [meI_s _ hj0, ← hf, if_neg (fun y => by have y1 := y.1.2.2.2.2; omega)])
                            · skip
                              refine r_iload_n C dX5_mends_123 (i := 3) rfl rfl ?_
                              refine r_goto C dX5_mends_124 (t := 128) (by decide) ?_
                              refine r_istore_n C dX5_mends_128 (i := 2) rfl (Nat.le_of_ble_eq_true rfl) ?_
                              dsimp only [List.set]
                              refine r_iinc C dX5_mends_129 rfl ?_
                              dsimp only [List.set]
                              refine r_goto C dX5_mends_132 (t := 37) (by decide) ?_
                              first
                                | exact ih3 _ _ _ (by omega) (by omega) (by omega) (by rw [meI_s _ hj0, ← hf, if_pos ⟨⟨by omega, by omega, by omega, by omega, by omega⟩, by omega⟩])
                                | exact ih3 _ _ _ (by omega) (by omega) (by omega) (by rw [meI_s _ hj0, ← hf, if_neg (fun y => by have y1 := y.1.1; have y2 := y.2; omega)])
                                | exact ih3 _ _ _ (by omega) (by omega) (by omega) (by rw [meI_s _ hj0, ← hf, if_neg (fun y => by have y1 := y.1.1; have y2 := y.1.2.1; omega)])
                                | exact ih3 _ _ _ (by omega) (by omega) (by omega) (by rw [meI_s _ hj0, ← hf, if_neg (fun y => by have y1 := y.1.2.2.1; omega)])
                                | exact ih3 _ _ _ (by omega) (by omega) (by omega) (by rw [meI_s _ hj0, ← hf, if_neg (fun y => by have y1 := y.1.2.2.2.1; omega)])
                                | exact ih3 _ _ _ (by omega) (by omega) (by omega) (by rw [meI_s _ hj0, ← hf, if_neg (fun y => by have y1 := y.1.2.2.2.2; omega)])
    · skip
      refine r_aload_n C dX5_mends_10 (i := 0) rfl rfl ?_
      refine m_getA C dX5_mends_11 fX5_42 R (by decide) rfl ?_
      refine r_iload_n C dX5_mends_14 (i := 1) rfl rfl ?_
      refine r_iconst C dX5_mends_15 ?_
      refine m_zast C dX5_mends_16 R (N := 60) rfl (by decide) rfl (by omega) (by omega) (by omega) (by first | assumption | omega) (fun h R => ?_)
      refine r_iinc C dX5_mends_17 rfl ?_
      dsimp only [List.set]
      refine r_goto C dX5_mends_20 (t := 2) (by decide) ?_
      exact ih _ _ (by omega) (by omega) (by omega) (by rw [itrI_s _ _ hi0, ← hs]; exact R)

abbrev worseP (g : GT) (p m f : Int) : Prop := irG g p (g 5 f) < irG g p (g 5 m) ∨ (irG g p (g 5 f) = irG g p (g 5 m) ∧ (loadG g f < loadG g m ∨ (loadG g f = loadG g m ∧ f < m)))
def trN (g : GT) (p : Int) : Nat → Int
  | 0 => -1
  | n + 1 => if g 7 (g 17 (8 * p + n)) ≠ 0 ∧ (trN g p n = -1 ∨ worseP g p (g 17 (8 * p + n)) (trN g p n)) then g 17 (8 * p + n) else trN g p n
def trI (g : GT) (p i : Int) : Int := trN g p i.toNat
theorem trI_s (g : GT) (p : Int) {i : Int} (h : 0 ≤ i) : trI g p (i + 1) = if g 7 (g 17 (8 * p + i)) ≠ 0 ∧ (trI g p i = -1 ∨ worseP g p (g 17 (8 * p + i)) (trI g p i)) then g 17 (8 * p + i) else trI g p i := by
  unfold trI
  rw [show (i + 1).toNat = i.toNat + 1 by omega]
  show (if g 7 (g 17 (8 * p + (i.toNat : Int))) ≠ 0 ∧ (trN g p i.toNat = -1 ∨ worseP g p (g 17 (8 * p + (i.toNat : Int))) (trN g p i.toNat)) then g 17 (8 * p + (i.toNat : Int)) else trN g p i.toNat) = _
  rw [Int.toNat_of_nonneg h]
theorem trI_b (g : GT) (p : Int) {i : Int} (h : 0 ≤ i) : trI g p i = -1 ∨ (∃ k, 0 ≤ k ∧ k < i ∧ trI g p i = g 17 (8 * p + k) ∧ g 7 (trI g p i) ≠ 0) := by
  have key : ∀ m : Nat, trN g p m = -1 ∨ (∃ k : Int, 0 ≤ k ∧ k < m ∧ trN g p m = g 17 (8 * p + k) ∧ g 7 (trN g p m) ≠ 0) := by
    intro m
    induction m with
    | zero => exact Or.inl rfl
    | succ m ih =>
      by_cases q : g 7 (g 17 (8 * p + m)) ≠ 0 ∧ (trN g p m = -1 ∨ worseP g p (g 17 (8 * p + m)) (trN g p m))
      · have e : trN g p (m + 1) = g 17 (8 * p + m) := if_pos q
        rw [e]
        exact Or.inr ⟨m, by omega, by omega, rfl, q.1⟩
      · have e : trN g p (m + 1) = trN g p m := if_neg q
        rw [e]
        rcases ih with ih | ⟨k, a, b, c⟩
        · exact Or.inl ih
        · exact Or.inr ⟨k, a, by omega, c⟩
  have := key i.toNat
  unfold trI
  rcases this with q | ⟨k, a, b, c⟩
  · exact Or.inl q
  · exact Or.inr ⟨k, a, by omega, c⟩
theorem trI_r {g : GT} (B : BD g) {p i : Int} (hp0 : 0 ≤ p) (hp1 : p < g 11 0) (h : 0 ≤ i) (h1 : i ≤ g 16 p) : trI g p i = -1 ∨ (0 ≤ trI g p i ∧ trI g p i < g 4 0) := by
  rcases trI_b g p h with q | ⟨k, a, b, c, -⟩
  · exact Or.inl q
  · have := B.cy p k hp0 hp1 a (by omega)
    rw [c]
    exact Or.inr this
def trG (g : GT) (p : Int) : GT := if trI g p (g 16 p) = -1 then g else drG g (trI g p (g 16 p)) p

set_option maxRecDepth 100000 in
set_option maxHeartbeats 4000000 in
theorem C_X5_trims {gx : GX} {d : Nat} {Qr : Option AV → Hp → Prop} {Qx : String → Hp → Prop} {q : Nat} {ar : Nat → Nat} {g : GT} {h : Hp} {p : Int} (R : RM q ar g h) (B : BD g) (hp0 : 0 ≤ p) (hp1 : p < g 11 0) (k : ∀ h1, RM q ar (trG g p) h1 → Qr none h1) : aM gx (d + 4) mX5_trims [vr q, vi p] h 0 0 Qr Qx := by
  intro J C
  show J 0 [some (vr q), some (vi p), none, none, none, none] [] h 0 0
  have b2 := B.np; have b1 := B.nn; have bcp := B.cp p hp0 hp1; have rg := R.rg
  refine r_iconst C dX5_trims_0 ?_
  refine r_istore_n C dX5_trims_1 (i := 2) rfl (Nat.le_of_ble_eq_true rfl) ?_
  dsimp only [List.set]
  refine r_iconst C dX5_trims_2 ?_
  refine r_istore_n C dX5_trims_3 (i := 3) rfl (Nat.le_of_ble_eq_true rfl) ?_
  dsimp only [List.set]
  suffices LOOP : ∀ (m : Nat) (f i : Int) (o4 o5 : Option AV), g 16 p - i < (m : Int) → 0 ≤ i → i ≤ g 16 p → f = trI g p i → J 4 [some (vr q), some (vi p), some (vi f), some (vi i), o4, o5] [] h 0 0 by
    exact LOOP ((g 16 p).toNat + 1) (-1) 0 _ _ (by omega) (by omega) (by omega) rfl
  intro m
  induction m with
  | zero => intro f i o4 o5 hm hi0 hi1 hf; exact absurd hm (by omega)
  | succ m ih =>
    intro f i o4 o5 hm hi0 hi1 hf
    have hb := trI_r B hp0 hp1 hi0 hi1
    rw [← hf] at hb
    have bi1 := ir_b B hp0 hp1 (g 5 f); have bl1 := load_b B f
    refine r_iload_n C dX5_trims_4 (i := 3) rfl rfl ?_
    refine r_aload_n C dX5_trims_5 (i := 0) rfl rfl ?_
    refine m_getA C dX5_trims_6 fX5_45 R (by decide) rfl ?_
    refine r_iload_n C dX5_trims_9 (i := 1) rfl rfl ?_
    refine m_iald C dX5_trims_10 R (N := 60) rfl (by decide) rfl (by omega) (by omega) (by omega) ?_
    refine r_ic_ge C dX5_trims_11 (t := 125) (by decide) (by first | assumption | exact R.rg _ _ | exact rg _ _ | (unfold inR; omega)) (by first | assumption | exact R.rg _ _ | exact rg _ _ | (unfold inR; omega)) (fun c11 => ?_) (fun c11 => ?_)
    · skip
      have hff : f = trI g p (g 16 p) := by rw [hf, show i = g 16 p by omega]
      refine r_iload_n C dX5_trims_125 (i := 2) rfl rfl ?_
      refine r_iconst C dX5_trims_126 ?_
      refine r_ic_eq C dX5_trims_127 (t := 136) (by decide) (by first | assumption | exact R.rg _ _ | exact rg _ _ | (unfold inR; omega)) (by first | assumption | exact R.rg _ _ | exact rg _ _ | (unfold inR; omega)) (fun c127 => ?_) (fun c127 => ?_)
      · skip
        refine r_ret C dX5_trims_136 rfl ?_
        first
          | exact k _ (by unfold trG; rw [← hff, if_pos (by omega)]; exact R)
          | exact k _ (by unfold trG; rw [← hff, if_neg (by omega)]; exact R)
      · skip
        refine r_aload_n C dX5_trims_130 (i := 0) rfl rfl ?_
        refine r_iload_n C dX5_trims_131 (i := 2) rfl rfl ?_
        refine r_iload_n C dX5_trims_132 (i := 1) rfl rfl ?_
        refine m_V2 C dX5_trims_133 sX5_213 rfl R (Nat.le_of_ble_eq_true rfl) (C_X5_drops R B (by omega) (by omega) hp0 hp1 (fun h R => ?_))
        refine r_ret C dX5_trims_136 rfl ?_
        first
          | exact k _ (by unfold trG; rw [← hff, if_pos (by omega)]; exact R)
          | exact k _ (by unfold trG; rw [← hff, if_neg (by omega)]; exact R)
    · skip
      have bcy := B.cy p i hp0 hp1 hi0 c11
      have bi2 := ir_b B hp0 hp1 (g 5 (g 17 (8 * p + i))); have bl2 := load_b B (g 17 (8 * p + i))
      refine r_aload_n C dX5_trims_14 (i := 0) rfl rfl ?_
      refine m_getA C dX5_trims_15 fX5_48 R (by decide) rfl ?_
      refine r_bipush C dX5_trims_18 (by decide) ?_
      refine r_iload_n C dX5_trims_20 (i := 1) rfl rfl ?_
      refine r_imul C dX5_trims_21 ?_
      refine r_iload_n C dX5_trims_22 (i := 3) rfl rfl ?_
      refine r_iadd C dX5_trims_23 ?_
      refine m_iald C dX5_trims_24 R (N := 480) rfl (by decide) rfl (by omega) (by omega) (by omega) ?_
      refine r_istore C dX5_trims_25 (Nat.le_of_ble_eq_true rfl) ?_
      dsimp only [List.set]
      refine r_aload_n C dX5_trims_27 (i := 0) rfl rfl ?_
      refine m_getA C dX5_trims_28 fX5_20 R (by decide) rfl ?_
      refine r_iload C dX5_trims_31 rfl ?_
      refine m_zald C dX5_trims_33 R (N := 8) rfl (by decide) rfl (by omega) (by omega) (by omega) ?_
      refine r_if_eq C dX5_trims_34 (t := 119) (by decide) (by first | assumption | exact R.rg _ _ | exact rg _ _ | (unfold inR; omega)) (fun c34 => ?_) (fun c34 => ?_)
      · skip
        refine r_iinc C dX5_trims_119 rfl ?_
        dsimp only [List.set]
        refine r_goto C dX5_trims_122 (t := 4) (by decide) ?_
        first
          | (exfalso; omega)
          | exact ih _ _ _ _ (by omega) (by omega) (by omega) (by rw [trI_s _ _ hi0, ← hf, if_neg (fun y => by have y1 := y.1; omega)])
          | exact ih _ _ _ _ (by omega) (by omega) (by omega) (by rw [trI_s _ _ hi0, ← hf, if_pos ⟨by omega, by omega⟩])
          | exact ih _ _ _ _ (by omega) (by omega) (by omega) (by rw [trI_s _ _ hi0, ← hf, if_neg (fun y => by have y1 := y.2; omega)])
      · skip
        refine r_iload_n C dX5_trims_37 (i := 2) rfl rfl ?_
        refine r_iconst C dX5_trims_38 ?_
        refine r_ic_ne C dX5_trims_39 (t := 46) (by decide) (by first | assumption | exact R.rg _ _ | exact rg _ _ | (unfold inR; omega)) (by first | assumption | exact R.rg _ _ | exact rg _ _ | (unfold inR; omega)) (fun c39 => ?_) (fun c39 => ?_)
        · skip
          refine r_aload_n C dX5_trims_46 (i := 0) rfl rfl ?_
          refine r_iload_n C dX5_trims_47 (i := 1) rfl rfl ?_
          refine r_aload_n C dX5_trims_48 (i := 0) rfl rfl ?_
          refine m_getA C dX5_trims_49 fX5_13 R (by decide) rfl ?_
          refine r_iload C dX5_trims_52 rfl ?_
          refine m_iald C dX5_trims_54 R (N := 8) rfl (by decide) rfl (by omega) (by omega) (by omega) ?_
          refine m_V2 C dX5_trims_55 sX5_134 rfl R (Nat.le_of_ble_eq_true rfl) (C_X5_inRack R B hp0 hp1 (R.rg _ _) ?_)
          refine r_aload_n C dX5_trims_58 (i := 0) rfl rfl ?_
          refine r_iload_n C dX5_trims_59 (i := 1) rfl rfl ?_
          refine r_aload_n C dX5_trims_60 (i := 0) rfl rfl ?_
          refine m_getA C dX5_trims_61 fX5_13 R (by decide) rfl ?_
          refine r_iload_n C dX5_trims_64 (i := 2) rfl rfl ?_
          refine m_iald C dX5_trims_65 R (N := 8) rfl (by decide) rfl (by omega) (by omega) (by omega) ?_
          refine m_V2 C dX5_trims_66 sX5_134 rfl R (Nat.le_of_ble_eq_true rfl) (C_X5_inRack R B hp0 hp1 (R.rg _ _) ?_)
          refine r_isub C dX5_trims_69 ?_
          refine r_istore C dX5_trims_70 (Nat.le_of_ble_eq_true rfl) ?_
          dsimp only [List.set]
          refine r_iload C dX5_trims_72 rfl ?_
          refine r_if_ne C dX5_trims_74 (t := 92) (by decide) (by first | assumption | exact R.rg _ _ | exact rg _ _ | (unfold inR; omega)) (fun c74 => ?_) (fun c74 => ?_)
          · skip
            refine r_iload C dX5_trims_92 rfl ?_
            refine r_istore C dX5_trims_94 (Nat.le_of_ble_eq_true rfl) ?_
            dsimp only [List.set]
            refine r_iload C dX5_trims_96 rfl ?_
            refine r_if_gt C dX5_trims_98 (t := 112) (by decide) (by first | assumption | exact R.rg _ _ | exact rg _ _ | (unfold inR; omega)) (fun c98 => ?_) (fun c98 => ?_)
            · skip
              refine r_iload C dX5_trims_112 rfl ?_
              refine r_goto C dX5_trims_114 (t := 118) (by decide) ?_
              refine r_istore_n C dX5_trims_118 (i := 2) rfl (Nat.le_of_ble_eq_true rfl) ?_
              dsimp only [List.set]
              refine r_iinc C dX5_trims_119 rfl ?_
              dsimp only [List.set]
              refine r_goto C dX5_trims_122 (t := 4) (by decide) ?_
              first
                | (exfalso; omega)
                | exact ih _ _ _ _ (by omega) (by omega) (by omega) (by rw [trI_s _ _ hi0, ← hf, if_neg (fun y => by have y1 := y.1; omega)])
                | exact ih _ _ _ _ (by omega) (by omega) (by omega) (by rw [trI_s _ _ hi0, ← hf, if_pos ⟨by omega, by omega⟩])
                | exact ih _ _ _ _ (by omega) (by omega) (by omega) (by rw [trI_s _ _ hi0, ← hf, if_neg (fun y => by have y1 := y.2; omega)])
            · skip
              refine r_iload C dX5_trims_101 rfl ?_
              refine r_if_ne C dX5_trims_103 (t := 117) (by decide) (by first | assumption | exact R.rg _ _ | exact rg _ _ | (unfold inR; omega)) (fun c103 => ?_) (fun c103 => ?_)
              · skip
                refine r_iload_n C dX5_trims_117 (i := 2) rfl rfl ?_
                refine r_istore_n C dX5_trims_118 (i := 2) rfl (Nat.le_of_ble_eq_true rfl) ?_
                dsimp only [List.set]
                refine r_iinc C dX5_trims_119 rfl ?_
                dsimp only [List.set]
                refine r_goto C dX5_trims_122 (t := 4) (by decide) ?_
                first
                  | (exfalso; omega)
                  | exact ih _ _ _ _ (by omega) (by omega) (by omega) (by rw [trI_s _ _ hi0, ← hf, if_neg (fun y => by have y1 := y.1; omega)])
                  | exact ih _ _ _ _ (by omega) (by omega) (by omega) (by rw [trI_s _ _ hi0, ← hf, if_pos ⟨by omega, by omega⟩])
                  | exact ih _ _ _ _ (by omega) (by omega) (by omega) (by rw [trI_s _ _ hi0, ← hf, if_neg (fun y => by have y1 := y.2; omega)])
              · skip
                refine r_iload C dX5_trims_106 rfl ?_
                refine r_iload_n C dX5_trims_108 (i := 2) rfl rfl ?_
                refine r_ic_le C dX5_trims_109 (t := 117) (by decide) (by first | assumption | exact R.rg _ _ | exact rg _ _ | (unfold inR; omega)) (by first | assumption | exact R.rg _ _ | exact rg _ _ | (unfold inR; omega)) (fun c109 => ?_) (fun c109 => ?_)
                · skip
                  refine r_iload_n C dX5_trims_117 (i := 2) rfl rfl ?_
                  refine r_istore_n C dX5_trims_118 (i := 2) rfl (Nat.le_of_ble_eq_true rfl) ?_
                  dsimp only [List.set]
                  refine r_iinc C dX5_trims_119 rfl ?_
                  dsimp only [List.set]
                  refine r_goto C dX5_trims_122 (t := 4) (by decide) ?_
                  first
                    | (exfalso; omega)
                    | exact ih _ _ _ _ (by omega) (by omega) (by omega) (by rw [trI_s _ _ hi0, ← hf, if_neg (fun y => by have y1 := y.1; omega)])
                    | exact ih _ _ _ _ (by omega) (by omega) (by omega) (by rw [trI_s _ _ hi0, ← hf, if_pos ⟨by omega, by omega⟩])
                    | exact ih _ _ _ _ (by omega) (by omega) (by omega) (by rw [trI_s _ _ hi0, ← hf, if_neg (fun y => by have y1 := y.2; omega)])
                · skip
                  refine r_iload C dX5_trims_112 rfl ?_
                  refine r_goto C dX5_trims_114 (t := 118) (by decide) ?_
                  refine r_istore_n C dX5_trims_118 (i := 2) rfl (Nat.le_of_ble_eq_true rfl) ?_
                  dsimp only [List.set]
                  refine r_iinc C dX5_trims_119 rfl ?_
                  dsimp only [List.set]
                  refine r_goto C dX5_trims_122 (t := 4) (by decide) ?_
                  first
                    | (exfalso; omega)
                    | exact ih _ _ _ _ (by omega) (by omega) (by omega) (by rw [trI_s _ _ hi0, ← hf, if_neg (fun y => by have y1 := y.1; omega)])
                    | exact ih _ _ _ _ (by omega) (by omega) (by omega) (by rw [trI_s _ _ hi0, ← hf, if_pos ⟨by omega, by omega⟩])
                    | exact ih _ _ _ _ (by omega) (by omega) (by omega) (by rw [trI_s _ _ hi0, ← hf, if_neg (fun y => by have y1 := y.2; omega)])
          · skip
            refine r_aload_n C dX5_trims_77 (i := 0) rfl rfl ?_
            refine r_iload C dX5_trims_78 rfl ?_
            refine m_V1 C dX5_trims_80 sX5_127 rfl R (Nat.le_of_ble_eq_true rfl) (C_X5_loadOf R B (by omega) (by omega) ?_)
            refine r_aload_n C dX5_trims_83 (i := 0) rfl rfl ?_
            refine r_iload_n C dX5_trims_84 (i := 2) rfl rfl ?_
            refine m_V1 C dX5_trims_85 sX5_127 rfl R (Nat.le_of_ble_eq_true rfl) (C_X5_loadOf R B (by omega) (by omega) ?_)
            refine r_isub C dX5_trims_88 ?_
            refine r_goto C dX5_trims_89 (t := 94) (by decide) ?_
            refine r_istore C dX5_trims_94 (Nat.le_of_ble_eq_true rfl) ?_
            dsimp only [List.set]
            refine r_iload C dX5_trims_96 rfl ?_
            refine r_if_gt C dX5_trims_98 (t := 112) (by decide) (by first | assumption | exact R.rg _ _ | exact rg _ _ | (unfold inR; omega)) (fun c98 => ?_) (fun c98 => ?_)
            · skip
              refine r_iload C dX5_trims_112 rfl ?_
              refine r_goto C dX5_trims_114 (t := 118) (by decide) ?_
              refine r_istore_n C dX5_trims_118 (i := 2) rfl (Nat.le_of_ble_eq_true rfl) ?_
              dsimp only [List.set]
              refine r_iinc C dX5_trims_119 rfl ?_
              dsimp only [List.set]
              refine r_goto C dX5_trims_122 (t := 4) (by decide) ?_
              first
                | (exfalso; omega)
                | exact ih _ _ _ _ (by omega) (by omega) (by omega) (by rw [trI_s _ _ hi0, ← hf, if_neg (fun y => by have y1 := y.1; omega)])
                | exact ih _ _ _ _ (by omega) (by omega) (by omega) (by rw [trI_s _ _ hi0, ← hf, if_pos ⟨by omega, by omega⟩])
                | exact ih _ _ _ _ (by omega) (by omega) (by omega) (by rw [trI_s _ _ hi0, ← hf, if_neg (fun y => by have y1 := y.2; omega)])
            · skip
              refine r_iload C dX5_trims_101 rfl ?_
              refine r_if_ne C dX5_trims_103 (t := 117) (by decide) (by first | assumption | exact R.rg _ _ | exact rg _ _ | (unfold inR; omega)) (fun c103 => ?_) (fun c103 => ?_)
              · skip
                refine r_iload_n C dX5_trims_117 (i := 2) rfl rfl ?_
                refine r_istore_n C dX5_trims_118 (i := 2) rfl (Nat.le_of_ble_eq_true rfl) ?_
                dsimp only [List.set]
                refine r_iinc C dX5_trims_119 rfl ?_
                dsimp only [List.set]
                refine r_goto C dX5_trims_122 (t := 4) (by decide) ?_
                first
                  | (exfalso; omega)
                  | exact ih _ _ _ _ (by omega) (by omega) (by omega) (by rw [trI_s _ _ hi0, ← hf, if_neg (fun y => by have y1 := y.1; omega)])
                  | exact ih _ _ _ _ (by omega) (by omega) (by omega) (by rw [trI_s _ _ hi0, ← hf, if_pos ⟨by omega, by omega⟩])
                  | exact ih _ _ _ _ (by omega) (by omega) (by omega) (by rw [trI_s _ _ hi0, ← hf, if_neg (fun y => by have y1 := y.2; omega)])
              · skip
                refine r_iload C dX5_trims_106 rfl ?_
                refine r_iload_n C dX5_trims_108 (i := 2) rfl rfl ?_
                refine r_ic_le C dX5_trims_109 (t := 117) (by decide) (by first | assumption | exact R.rg _ _ | exact rg _ _ | (unfold inR; omega)) (by first | assumption | exact R.rg _ _ | exact rg _ _ | (unfold inR; omega)) (fun c109 => ?_) (fun c109 => ?_)
                · skip
                  refine r_iload_n C dX5_trims_117 (i := 2) rfl rfl ?_
                  refine r_istore_n C dX5_trims_118 (i := 2) rfl (Nat.le_of_ble_eq_true rfl) ?_
                  dsimp only [List.set]
                  refine r_iinc C dX5_trims_119 rfl ?_
                  dsimp only [List.set]
                  refine r_goto C dX5_trims_122 (t := 4) (by decide) ?_
                  first
                    | (exfalso; omega)
                    | exact ih _ _ _ _ (by omega) (by omega) (by omega) (by rw [trI_s _ _ hi0, ← hf, if_neg (fun y => by have y1 := y.1; omega)])
                    | exact ih _ _ _ _ (by omega) (by omega) (by omega) (by rw [trI_s _ _ hi0, ← hf, if_pos ⟨by omega, by omega⟩])
                    | exact ih _ _ _ _ (by omega) (by omega) (by omega) (by rw [trI_s _ _ hi0, ← hf, if_neg (fun y => by have y1 := y.2; omega)])
                · skip
                  refine r_iload C dX5_trims_112 rfl ?_
                  refine r_goto C dX5_trims_114 (t := 118) (by decide) ?_
                  refine r_istore_n C dX5_trims_118 (i := 2) rfl (Nat.le_of_ble_eq_true rfl) ?_
                  dsimp only [List.set]
                  refine r_iinc C dX5_trims_119 rfl ?_
                  dsimp only [List.set]
                  refine r_goto C dX5_trims_122 (t := 4) (by decide) ?_
                  first
                    | (exfalso; omega)
                    | exact ih _ _ _ _ (by omega) (by omega) (by omega) (by rw [trI_s _ _ hi0, ← hf, if_neg (fun y => by have y1 := y.1; omega)])
                    | exact ih _ _ _ _ (by omega) (by omega) (by omega) (by rw [trI_s _ _ hi0, ← hf, if_pos ⟨by omega, by omega⟩])
                    | exact ih _ _ _ _ (by omega) (by omega) (by omega) (by rw [trI_s _ _ hi0, ← hf, if_neg (fun y => by have y1 := y.2; omega)])
        · skip
          refine r_iconst C dX5_trims_42 ?_
          refine r_goto C dX5_trims_43 (t := 70) (by decide) ?_
          refine r_istore C dX5_trims_70 (Nat.le_of_ble_eq_true rfl) ?_
          dsimp only [List.set]
          refine r_iload C dX5_trims_72 rfl ?_
          refine r_if_ne C dX5_trims_74 (t := 92) (by decide) (by first | assumption | exact R.rg _ _ | exact rg _ _ | (unfold inR; omega)) (fun c74 => ?_) (fun c74 => ?_)
          · skip
            refine r_iload C dX5_trims_92 rfl ?_
            refine r_istore C dX5_trims_94 (Nat.le_of_ble_eq_true rfl) ?_
            dsimp only [List.set]
            refine r_iload C dX5_trims_96 rfl ?_
            refine r_if_gt C dX5_trims_98 (t := 112) (by decide) (by first | assumption | exact R.rg _ _ | exact rg _ _ | (unfold inR; omega)) (fun c98 => ?_) (fun c98 => ?_)
            · skip
              refine r_iload C dX5_trims_112 rfl ?_
              refine r_goto C dX5_trims_114 (t := 118) (by decide) ?_
              refine r_istore_n C dX5_trims_118 (i := 2) rfl (Nat.le_of_ble_eq_true rfl) ?_
              dsimp only [List.set]
              refine r_iinc C dX5_trims_119 rfl ?_
              dsimp only [List.set]
              refine r_goto C dX5_trims_122 (t := 4) (by decide) ?_
              first
                | (exfalso; omega)
                | exact ih _ _ _ _ (by omega) (by omega) (by omega) (by rw [trI_s _ _ hi0, ← hf, if_neg (fun y => by have y1 := y.1; omega)])
                | exact ih _ _ _ _ (by omega) (by omega) (by omega) (by rw [trI_s _ _ hi0, ← hf, if_pos ⟨by omega, by omega⟩])
                | exact ih _ _ _ _ (by omega) (by omega) (by omega) (by rw [trI_s _ _ hi0, ← hf, if_neg (fun y => by have y1 := y.2; omega)])
            · skip
              exact absurd c98 (by decide)
          · skip
            exact absurd c74 (by decide)

