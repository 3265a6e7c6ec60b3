/-! ===== the reference: a second, first half ===== -/
def cpF (n : Int) : Int → GT → GT := fun p s => if plG s p n = -1 then s else elG (fgtG s p n) p
def cnF1 : Int → GT → GT := fun n s => if s 7 n = 0 ∧ s 9 n ≠ 0 ∧ s 8 n + 3 ≤ s 1 0 then itrI (cpF n) (s 11 0) (up s 9 n 0) else s
def cnF2 : Int → GT → GT := fun n s => up s 9 n (if s 9 n = 0 ∧ s 7 n = 0 then 0 else 1)
def cn1 (g : GT) : GT := itrI cnF1 (g 4 0) g
def cnG (g : GT) : GT := itrI cnF2 (g 4 0) (cn1 g)
theorem el_ne (g : GT) (p : Int) {k : Nat} (h : k ≠ 13 ∧ k ≠ 14) (j : Int) : elG g p k j = g k j := by
  unfold elG
  rw [up_ne h.2, up_ne h.1]
theorem bd_bool {g : GT} (B : BD g) {k : Nat} {i x : Int} (hk : k = 7 ∨ k = 9 ∨ k = 15) (hx : x = 0 ∨ x = 1) : BD (up g k i x) := by
  have ne : ∀ k', k' ≠ 7 ∧ k' ≠ 9 ∧ k' ≠ 15 → ∀ j, up g k i x k' j = g k' j := fun k' h j => up_ne (by omega)
  have bo : ∀ k', (∀ n, g k' n = 0 ∨ g k' n = 1) → ∀ n, up g k i x k' n = 0 ∨ up g k i x k' n = 1 := by
    intro k' h n
    unfold up
    split
    · exact hx
    · exact h n
  refine ⟨?_, ?_, ?_, bo 7 B.isup, bo 9 B.ct, bo 15 B.2.2.2.2.2.1, ?_, ?_, ?_, ?_, ?_⟩
  · rw [ne 4 (by decide)]; exact B.nn
  · rw [ne 11 (by decide)]; exact B.np
  · rw [ne 22 (by decide)]; exact B.nf
  · intro p; rw [ne 11 (by decide), ne 16 (by decide)]; exact B.cp p
  · intro p k; rw [ne 11 (by decide), ne 16 (by decide), ne 17 (by decide), ne 4 (by decide)]; exact B.cy p k
  · intro f; rw [ne 22 (by decide), ne 25 (by decide)]; exact B.rw f
  · intro f k; rw [ne 22 (by decide), ne 25 (by decide), ne 26 (by decide), ne 11 (by decide)]; exact B.re f k
  · intro p; rw [ne 11 (by decide), ne 13 (by decide)]; exact B.pr p
theorem iv1_up {g : GT} (I : IV1 g) {k : Nat} {i x : Int} (B : BD (up g k i x)) (hk : k ≠ 11 ∧ k ≠ 16 ∧ k ≠ 17 ∧ k ≠ 12 ∧ k ≠ 18) (hx : k = 19 → 0 ≤ x ∧ x ≤ 4) : IV1 (up g k i x) := by
  have ne : ∀ k', k' = 11 ∨ k' = 16 ∨ k' = 17 ∨ k' = 12 ∨ k' = 18 → ∀ j, up g k i x k' j = g k' j := fun k' h j => up_ne (by omega)
  refine ⟨B, dc_up0 I.2.1 (by omega), cl_up I.2.2.1 hx, fun p n h0 h1 h2 => ?_, fun p h0 h1 => ?_⟩
  · rw [ne 11 (by omega)] at h1
    rw [ne 18 (by omega), ne 12 (by omega)]
    exact I.2.2.2.1 p n h0 h1 ((KN.c (fun j => ne 16 (by omega) j) (fun j => ne 17 (by omega) j) p n).mp h2)
  · rw [ne 11 (by omega)] at h1
    rw [ne 12 (by omega)]
    exact I.2.2.2.2 p h0 h1
theorem iv1_bool {g : GT} (I : IV1 g) {k : Nat} {i x : Int} (hk : k = 7 ∨ k = 9 ∨ k = 15) (hx : x = 0 ∨ x = 1) : IV1 (up g k i x) := iv1_up I (bd_bool I.1 hk hx) (by omega) (by omega)
theorem iv1_up0 {g : GT} (I : IV1 g) {k : Nat} {i x : Int} (hk : k ≠ 4 ∧ k ≠ 11 ∧ k ≠ 22 ∧ k ≠ 7 ∧ k ≠ 9 ∧ k ≠ 15 ∧ k ≠ 16 ∧ k ≠ 17 ∧ k ≠ 25 ∧ k ≠ 26 ∧ k ≠ 13 ∧ k ≠ 12 ∧ k ≠ 18 ∧ k ≠ 19) : IV1 (up g k i x) := iv1_up I (bd_up0 I.1 (by omega)) (by omega) (by omega)
theorem cp_i {g : GT} (I : IV1 g) (n : Int) {j : Int} (hj : j ≤ g 11 0) : IV1 (itrI (cpF n) j g) ∧ (∀ k, k ≠ 13 ∧ k ≠ 14 ∧ k ≠ 16 ∧ k ≠ 17 → ∀ i, itrI (cpF n) j g k i = g k i) := by
  refine itrI_ind (P := fun s => IV1 s ∧ (∀ k, k ≠ 13 ∧ k ≠ 14 ∧ k ≠ 16 ∧ k ≠ 17 → ∀ i, s k i = g k i)) (cpF n) ⟨I, fun _ _ _ => rfl⟩ (fun p s h0 h1 S => ?_)
  have e11 := S.2 11 (by decide) 0
  unfold cpF
  split
  · exact S
  · exact ⟨iv1_el (iv1_fgt S.1 h0 (by omega) n) p, fun k hk i => by rw [el_ne _ _ ⟨hk.1, hk.2.1⟩, fgt_ne _ _ _ hk.2.2.1 hk.2.2.2]; exact S.2 k hk i⟩
theorem cn1_i {g : GT} (I : IV1 g) (i : Int) : IV1 (itrI cnF1 i g) ∧ (∀ k, k ≠ 9 ∧ k ≠ 13 ∧ k ≠ 14 ∧ k ≠ 16 ∧ k ≠ 17 → ∀ j, itrI cnF1 i g k j = g k j) := by
  refine itrI_ind (P := fun s => IV1 s ∧ (∀ k, k ≠ 9 ∧ k ≠ 13 ∧ k ≠ 14 ∧ k ≠ 16 ∧ k ≠ 17 → ∀ j, s k j = g k j)) cnF1 ⟨I, fun _ _ _ => rfl⟩ (fun n s h0 h1 S => ?_)
  unfold cnF1
  split
  · have T := cp_i (iv1_bool (k := 9) (i := n) (x := 0) S.1 (by decide) (Or.inl rfl)) n (j := s 11 0) (by rw [up_ne (by decide)]; exact Int.le_refl _)
    refine ⟨T.1, fun k hk j => ?_⟩
    rw [T.2 k hk.2 j, up_ne hk.1]
    exact S.2 k hk j
  · exact S
theorem cn2_i {g : GT} (I : IV1 g) (i : Int) : IV1 (itrI cnF2 i g) ∧ (∀ k, k ≠ 9 → ∀ j, itrI cnF2 i g k j = g k j) := by
  refine itrI_ind (P := fun s => IV1 s ∧ (∀ k, k ≠ 9 → ∀ j, s k j = g k j)) cnF2 ⟨I, fun _ _ _ => rfl⟩ (fun n s h0 h1 S => ?_)
  unfold cnF2
  refine ⟨iv1_bool S.1 (by decide) ?_, fun k hk j => ?_⟩
  · split
    · exact Or.inl rfl
    · exact Or.inr rfl
  · rw [up_ne hk]; exact S.2 k hk j
theorem cn_i {g : GT} (I : IV1 g) : IV1 (cnG g) ∧ (∀ k, k ≠ 9 ∧ k ≠ 13 ∧ k ≠ 14 ∧ k ≠ 16 ∧ k ≠ 17 → ∀ j, cnG g k j = g k j) := by
  have S := cn1_i I (g 4 0)
  have T := cn2_i S.1 (g 4 0)
  refine ⟨T.1, fun k hk j => ?_⟩
  show itrI cnF2 (g 4 0) (itrI cnF1 (g 4 0) g) k j = _
  rw [T.2 k hk.1 j]
  exact S.2 k hk j

set_option maxRecDepth 100000 in
set_option maxHeartbeats 4000000 in
theorem C_X5_counts {gx : GX} {d : Nat} {Qr : Option AV → Hp → Prop} {Qx : String → Hp → Prop} {q : Nat} {ar : Nat → Nat} {g : GT} {h : Hp} (R : RM q ar g h) (I : IV1 g) (hS : ∀ j, 0 ≤ g 8 j ∧ g 8 j ≤ 3000) (ht0 : 0 ≤ g 1 0) (ht1 : g 1 0 ≤ 3000) (k : ∀ h1, RM q ar (cnG g) h1 → Qr none h1) : aM gx (d + 3) mX5_counts [vr q] h 0 0 Qr Qx := by
  intro J C
  show J 0 [some (vr q), none, none] [] h 0 0
  have B := I.1; have b2 := B.np; have b1 := B.nn; have b3 := B.nf; have rg := R.rg
  refine r_iconst C dX5_counts_0 ?_
  refine r_istore_n C dX5_counts_1 (i := 1) rfl (Nat.le_of_ble_eq_true rfl) ?_
  dsimp only [List.set]
  suffices LOOP : ∀ (m : Nat) (i : Int) (h : Hp) (o2 : Option AV), g 4 0 - i < (m : Int) → 0 ≤ i → i ≤ g 4 0 → RM q ar (itrI cnF1 i g) h → J 2 [some (vr q), some (vi i), o2] [] h 0 0 by
    exact LOOP ((g 4 0).toNat + 1) 0 _ _ (by omega) (by omega) (by omega) R
  intro m
  induction m with
  | zero => intro i h o2 hm hi0 hi1 R; exact absurd hm (by omega)
  | succ m ih =>
    intro i h o2 hm hi0 hi1 R
    obtain ⟨s, hs⟩ : ∃ s, s = itrI cnF1 i g := ⟨_, rfl⟩
    have S := cn1_i I i
    rw [← hs] at R S
    have e4 := S.2 4 (by decide) 0; have e11 := S.2 11 (by decide) 0; have e1 := S.2 1 (by decide) 0; have e8 := S.2 8 (by decide) i
    have hsi := hS i
    have rg := R.rg
    refine r_iload_n C dX5_counts_2 (i := 1) rfl rfl ?_
    refine r_aload_n C dX5_counts_3 (i := 0) rfl rfl ?_
    refine m_get0 C dX5_counts_4 fX5_78 R rfl rfl ?_
    refine r_ic_ge C dX5_counts_7 (t := 93) (by decide) (by first | assumption | exact R.rg _ _ | exact rg _ _ | (unfold inR; omega)) (by first | assumption | exact R.rg _ _ | exact rg _ _ | (unfold inR; omega)) (fun c7 => ?_) (fun c7 => ?_)
    · skip
      have S1 := cn1_i I (g 4 0)
      obtain ⟨s1, hs1⟩ : ∃ s1, s1 = itrI cnF1 (g 4 0) g := ⟨_, rfl⟩
      rw [hs, show i = g 4 0 by omega] at R; rw [← hs1] at S1 R
      refine r_iconst C dX5_counts_93 ?_
      refine r_istore_n C dX5_counts_94 (i := 1) rfl (Nat.le_of_ble_eq_true rfl) ?_
      dsimp only [List.set]
      suffices LOOP : ∀ (m3 : Nat) (i : Int) (h : Hp) (o2 : Option AV), g 4 0 - i < (m3 : Int) → 0 ≤ i → i ≤ g 4 0 → RM q ar (itrI cnF2 i s1) h → J 95 [some (vr q), some (vi i), o2] [] h 0 0 by
        exact LOOP ((g 4 0).toNat + 1) 0 _ _ (by omega) (by omega) (by omega) R
      intro m3
      induction m3 with
      | zero => intro i h o2 hm3 hi0 hi1 R; exact absurd hm3 (by omega)
      | succ m3 ih3 =>
        intro i h o2 hm3 hi0 hi1 R
        obtain ⟨s, hs⟩ : ∃ s, s = itrI cnF2 i s1 := ⟨_, rfl⟩
        have S := cn2_i S1.1 i
        rw [← hs] at R S
        have e4 := S.2 4 (by decide) 0; have e4b := S1.2 4 (by decide) 0; have bct := S.1.1.ct i; have bup := S.1.1.isup i
        have rg := R.rg
        refine r_iload_n C dX5_counts_95 (i := 1) rfl rfl ?_
        refine r_aload_n C dX5_counts_96 (i := 0) rfl rfl ?_
        refine m_get0 C dX5_counts_97 fX5_78 R rfl rfl ?_
        refine r_ic_ge C dX5_counts_100 (t := 138) (by decide) (by first | assumption | exact R.rg _ _ | exact rg _ _ | (unfold inR; omega)) (by first | assumption | exact R.rg _ _ | exact rg _ _ | (unfold inR; omega)) (fun c100 => ?_) (fun c100 => ?_)
        · skip
          refine r_ret C dX5_counts_138 rfl ?_
          exact k _ (by rw [show i = g 4 0 by omega] at hs; unfold cnG cn1; rw [← hs1, ← hs]; exact R)
        · skip
          refine r_aload_n C dX5_counts_103 (i := 0) rfl rfl ?_
          refine m_getA C dX5_counts_104 fX5_27 R (by decide) rfl ?_
          refine r_iload_n C dX5_counts_107 (i := 1) rfl rfl ?_
          refine r_aload_n C dX5_counts_108 (i := 0) rfl rfl ?_
          refine m_getA C dX5_counts_109 fX5_27 R (by decide) rfl ?_
          refine r_iload_n C dX5_counts_112 (i := 1) rfl rfl ?_
          refine m_zald C dX5_counts_113 R (N := 8) rfl (by decide) rfl (by omega) (by omega) (by omega) ?_
          refine r_if_ne C dX5_counts_114 (t := 126) (by decide) (by first | assumption | exact R.rg _ _ | exact rg _ _ | (unfold inR; omega)) (fun c114 => ?_) (fun c114 => ?_)
          · skip
            refine r_iconst C dX5_counts_126 ?_
            refine r_goto C dX5_counts_127 (t := 131) (by decide) ?_
            refine m_zast C dX5_counts_131 R (N := 8) rfl (by decide) rfl (by omega) (by omega) (by omega) (by first | assumption | omega) (fun h R => ?_)
            refine r_iinc C dX5_counts_132 rfl ?_
            dsimp only [List.set]
            refine r_goto C dX5_counts_135 (t := 95) (by decide) ?_
            first
              | exact ih3 _ _ _ (by omega) (by omega) (by omega) (by rw [itrI_s _ _ hi0, ← hs]; unfold cnF2; rw [if_neg (fun y => c114 y.1)]; exact R)
              | exact ih3 _ _ _ (by omega) (by omega) (by omega) (by rw [itrI_s _ _ hi0, ← hs]; unfold cnF2; rw [if_neg (fun y => c123 y.2)]; exact R)
              | exact ih3 _ _ _ (by omega) (by omega) (by omega) (by rw [itrI_s _ _ hi0, ← hs]; unfold cnF2; rw [if_pos ⟨c114, c123⟩]; exact R)
          · skip
            refine r_aload_n C dX5_counts_117 (i := 0) rfl rfl ?_
            refine m_getA C dX5_counts_118 fX5_20 R (by decide) rfl ?_
            refine r_iload_n C dX5_counts_121 (i := 1) rfl rfl ?_
            refine m_zald C dX5_counts_122 R (N := 8) rfl (by decide) rfl (by omega) (by omega) (by omega) ?_
            refine r_if_eq C dX5_counts_123 (t := 130) (by decide) (by first | assumption | exact R.rg _ _ | exact rg _ _ | (unfold inR; omega)) (fun c123 => ?_) (fun c123 => ?_)
            · skip
              refine r_iconst C dX5_counts_130 ?_
              refine m_zast C dX5_counts_131 R (N := 8) rfl (by decide) rfl (by omega) (by omega) (by omega) (by first | assumption | omega) (fun h R => ?_)
              refine r_iinc C dX5_counts_132 rfl ?_
              dsimp only [List.set]
              refine r_goto C dX5_counts_135 (t := 95) (by decide) ?_
              first
                | exact ih3 _ _ _ (by omega) (by omega) (by omega) (by rw [itrI_s _ _ hi0, ← hs]; unfold cnF2; rw [if_neg (fun y => c114 y.1)]; exact R)
                | exact ih3 _ _ _ (by omega) (by omega) (by omega) (by rw [itrI_s _ _ hi0, ← hs]; unfold cnF2; rw [if_neg (fun y => c123 y.2)]; exact R)
                | exact ih3 _ _ _ (by omega) (by omega) (by omega) (by rw [itrI_s _ _ hi0, ← hs]; unfold cnF2; rw [if_pos ⟨c114, c123⟩]; exact R)
            · skip
              refine r_iconst C dX5_counts_126 ?_
              refine r_goto C dX5_counts_127 (t := 131) (by decide) ?_
              refine m_zast C dX5_counts_131 R (N := 8) rfl (by decide) rfl (by omega) (by omega) (by omega) (by first | assumption | omega) (fun h R => ?_)
              refine r_iinc C dX5_counts_132 rfl ?_
              dsimp only [List.set]
              refine r_goto C dX5_counts_135 (t := 95) (by decide) ?_
              first
                | exact ih3 _ _ _ (by omega) (by omega) (by omega) (by rw [itrI_s _ _ hi0, ← hs]; unfold cnF2; rw [if_neg (fun y => c114 y.1)]; exact R)
                | exact ih3 _ _ _ (by omega) (by omega) (by omega) (by rw [itrI_s _ _ hi0, ← hs]; unfold cnF2; rw [if_neg (fun y => c123 y.2)]; exact R)
                | exact ih3 _ _ _ (by omega) (by omega) (by omega) (by rw [itrI_s _ _ hi0, ← hs]; unfold cnF2; rw [if_pos ⟨c114, c123⟩]; exact R)
    · skip
      refine r_aload_n C dX5_counts_10 (i := 0) rfl rfl ?_
      refine m_getA C dX5_counts_11 fX5_20 R (by decide) rfl ?_
      refine r_iload_n C dX5_counts_14 (i := 1) rfl rfl ?_
      refine m_zald C dX5_counts_15 R (N := 8) rfl (by decide) rfl (by omega) (by omega) (by omega) ?_
      refine r_if_ne C dX5_counts_16 (t := 87) (by decide) (by first | assumption | exact R.rg _ _ | exact rg _ _ | (unfold inR; omega)) (fun c16 => ?_) (fun c16 => ?_)
      · skip
        refine r_iinc C dX5_counts_87 rfl ?_
        dsimp only [List.set]
        refine r_goto C dX5_counts_90 (t := 2) (by decide) ?_
        first
          | exact ih _ _ _ (by omega) (by omega) (by omega) (by rw [itrI_s _ _ hi0, ← hs]; unfold cnF1; rw [if_neg (fun y => by have y1 := y.1; have y2 := y.2.1; have y3 := y.2.2; omega)]; exact R)
          | exact ih _ _ _ (by omega) (by omega) (by omega) (by rw [itrI_s _ _ hi0, ← hs]; unfold cnF1; rw [if_pos ⟨c16, c25, by omega⟩, show s 11 0 = j by omega, ← ht]; exact R)
      · skip
        refine r_aload_n C dX5_counts_19 (i := 0) rfl rfl ?_
        refine m_getA C dX5_counts_20 fX5_27 R (by decide) rfl ?_
        refine r_iload_n C dX5_counts_23 (i := 1) rfl rfl ?_
        refine m_zald C dX5_counts_24 R (N := 8) rfl (by decide) rfl (by omega) (by omega) (by omega) ?_
        refine r_if_eq C dX5_counts_25 (t := 87) (by decide) (by first | assumption | exact R.rg _ _ | exact rg _ _ | (unfold inR; omega)) (fun c25 => ?_) (fun c25 => ?_)
        · skip
          refine r_iinc C dX5_counts_87 rfl ?_
          dsimp only [List.set]
          refine r_goto C dX5_counts_90 (t := 2) (by decide) ?_
          first
            | exact ih _ _ _ (by omega) (by omega) (by omega) (by rw [itrI_s _ _ hi0, ← hs]; unfold cnF1; rw [if_neg (fun y => by have y1 := y.1; have y2 := y.2.1; have y3 := y.2.2; omega)]; exact R)
            | exact ih _ _ _ (by omega) (by omega) (by omega) (by rw [itrI_s _ _ hi0, ← hs]; unfold cnF1; rw [if_pos ⟨c16, c25, by omega⟩, show s 11 0 = j by omega, ← ht]; exact R)
        · skip
          refine r_aload_n C dX5_counts_28 (i := 0) rfl rfl ?_
          refine m_get0 C dX5_counts_29 fX5_98 R rfl rfl ?_
          refine r_aload_n C dX5_counts_32 (i := 0) rfl rfl ?_
          refine m_getA C dX5_counts_33 fX5_24 R (by decide) rfl ?_
          refine r_iload_n C dX5_counts_36 (i := 1) rfl rfl ?_
          refine m_iald C dX5_counts_37 R (N := 8) rfl (by decide) rfl (by omega) (by omega) (by omega) ?_
          refine r_iconst C dX5_counts_38 ?_
          refine r_iadd C dX5_counts_39 ?_
          refine r_ic_lt C dX5_counts_40 (t := 87) (by decide) (by first | assumption | exact R.rg _ _ | exact rg _ _ | (unfold inR; omega)) (by first | assumption | exact R.rg _ _ | exact rg _ _ | (unfold inR; omega)) (fun c40 => ?_) (fun c40 => ?_)
          · skip
            refine r_iinc C dX5_counts_87 rfl ?_
            dsimp only [List.set]
            refine r_goto C dX5_counts_90 (t := 2) (by decide) ?_
            first
              | exact ih _ _ _ (by omega) (by omega) (by omega) (by rw [itrI_s _ _ hi0, ← hs]; unfold cnF1; rw [if_neg (fun y => by have y1 := y.1; have y2 := y.2.1; have y3 := y.2.2; omega)]; exact R)
              | exact ih _ _ _ (by omega) (by omega) (by omega) (by rw [itrI_s _ _ hi0, ← hs]; unfold cnF1; rw [if_pos ⟨c16, c25, by omega⟩, show s 11 0 = j by omega, ← ht]; exact R)
          · skip
            refine r_aload_n C dX5_counts_43 (i := 0) rfl rfl ?_
            refine m_getA C dX5_counts_44 fX5_27 R (by decide) rfl ?_
            refine r_iload_n C dX5_counts_47 (i := 1) rfl rfl ?_
            refine r_iconst C dX5_counts_48 ?_
            refine m_zast C dX5_counts_49 R (N := 8) rfl (by decide) rfl (by omega) (by omega) (by omega) (by first | assumption | omega) (fun h R => ?_)
            refine r_iconst C dX5_counts_50 ?_
            refine r_istore_n C dX5_counts_51 (i := 2) rfl (Nat.le_of_ble_eq_true rfl) ?_
            dsimp only [List.set]
            suffices LOOP : ∀ (m2 : Nat) (j : Int) (h : Hp), s 11 0 - j < (m2 : Int) → 0 ≤ j → j ≤ s 11 0 → RM q ar (itrI (cpF i) j (up s 9 i 0)) h → J 52 [some (vr q), some (vi i), some (vi j)] [] h 0 0 by
              exact LOOP ((s 11 0).toNat + 1) 0 _ (by omega) (by omega) (by omega) R
            intro m2
            induction m2 with
            | zero => intro j h hm2 hj0 hj1 R; exact absurd hm2 (by omega)
            | succ m2 ih2 =>
              intro j h hm2 hj0 hj1 R
              have T := cp_i (iv1_bool (k := 9) (i := i) (x := 0) S.1 (by decide) (Or.inl rfl)) i (j := j) (by rw [up_ne (by decide)]; exact hj1)
              obtain ⟨t, ht⟩ : ∃ t, t = itrI (cpF i) j (up s 9 i 0) := ⟨_, rfl⟩
              rw [← ht] at R T
              have f11 : t 11 0 = s 11 0 := by rw [T.2 11 (by decide), up_ne (by decide)]
              have TB := T.1.1
              have rg := R.rg
              refine r_iload_n C dX5_counts_52 (i := 2) rfl rfl ?_
              refine r_aload_n C dX5_counts_53 (i := 0) rfl rfl ?_
              refine m_get0 C dX5_counts_54 fX5_85 R rfl rfl ?_
              refine r_ic_ge C dX5_counts_57 (t := 87) (by decide) (by first | assumption | exact R.rg _ _ | exact rg _ _ | (unfold inR; omega)) (by first | assumption | exact R.rg _ _ | exact rg _ _ | (unfold inR; omega)) (fun c57 => ?_) (fun c57 => ?_)
              · skip
                refine r_iinc C dX5_counts_87 rfl ?_
                dsimp only [List.set]
                refine r_goto C dX5_counts_90 (t := 2) (by decide) ?_
                first
                  | exact ih _ _ _ (by omega) (by omega) (by omega) (by rw [itrI_s _ _ hi0, ← hs]; unfold cnF1; rw [if_neg (fun y => by have y1 := y.1; have y2 := y.2.1; have y3 := y.2.2; omega)]; exact R)
                  | exact ih _ _ _ (by omega) (by omega) (by omega) (by rw [itrI_s _ _ hi0, ← hs]; unfold cnF1; rw [if_pos ⟨c16, c25, by omega⟩, show s 11 0 = j by omega, ← ht]; exact R)
              · skip
                refine r_aload_n C dX5_counts_60 (i := 0) rfl rfl ?_
                refine r_iload_n C dX5_counts_61 (i := 2) rfl rfl ?_
                refine r_iload_n C dX5_counts_62 (i := 1) rfl rfl ?_
                refine m_V2 C dX5_counts_63 sX5_112 rfl R (Nat.le_of_ble_eq_true rfl) (C_X5_placeOf R TB hj0 (by omega) (by unfold inR; omega) ?_)
                have bpl := plG_b (g := t) (p := j) (n := i); have bcpj := TB.cp j hj0 (by omega)
                refine r_iconst C dX5_counts_66 ?_
                refine r_ic_eq C dX5_counts_67 (t := 81) (by decide) (by first | assumption | exact R.rg _ _ | exact rg _ _ | (unfold inR; omega)) (by first | assumption | exact R.rg _ _ | exact rg _ _ | (unfold inR; omega)) (fun c67 => ?_) (fun c67 => ?_)
                · skip
                  refine r_iinc C dX5_counts_81 rfl ?_
                  dsimp only [List.set]
                  refine r_goto C dX5_counts_84 (t := 52) (by decide) ?_
                  first
                    | exact ih2 _ _ (by omega) (by omega) (by omega) (by rw [itrI_s _ _ hj0, ← ht]; unfold cpF; rw [if_pos c67]; exact R)
                    | exact ih2 _ _ (by omega) (by omega) (by omega) (by rw [itrI_s _ _ hj0, ← ht]; unfold cpF; rw [if_neg c67]; exact R)
                · skip
                  refine r_aload_n C dX5_counts_70 (i := 0) rfl rfl ?_
                  refine r_iload_n C dX5_counts_71 (i := 2) rfl rfl ?_
                  refine r_iload_n C dX5_counts_72 (i := 1) rfl rfl ?_
                  refine m_V2 C dX5_counts_73 sX5_115 rfl R (Nat.le_of_ble_eq_true rfl) (C_X5_forgets R TB hj0 (by omega) (by unfold inR; omega) (fun h R => ?_))
                  refine r_aload_n C dX5_counts_76 (i := 0) rfl rfl ?_
                  refine r_iload_n C dX5_counts_77 (i := 2) rfl rfl ?_
                  refine m_V1 C dX5_counts_78 sX5_119 rfl R (Nat.le_of_ble_eq_true rfl) (C_X5_endsLease R hj0 (by omega) (fun h R => ?_))
                  refine r_iinc C dX5_counts_81 rfl ?_
                  dsimp only [List.set]
                  refine r_goto C dX5_counts_84 (t := 52) (by decide) ?_
                  first
                    | exact ih2 _ _ (by omega) (by omega) (by omega) (by rw [itrI_s _ _ hj0, ← ht]; unfold cpF; rw [if_pos c67]; exact R)
                    | exact ih2 _ _ (by omega) (by omega) (by omega) (by rw [itrI_s _ _ hj0, ← ht]; unfold cpF; rw [if_neg c67]; exact R)

def soF (n : Int) : Int → GT → GT := fun p s => if 0 < s 18 (60 * n + p) then (if fwG s p (-1) = 0 ∨ s 18 (60 * n + p) ≠ s 12 p ∨ (plG s p n = -1 ∧ 2 < s 16 p) then drG s n p else if plG s p n = -1 then knG s p n else s) else s
def soG (g : GT) (n : Int) : GT := itrI (soF n) (g 11 0) g
theorem dr_ne (g : GT) (n p : Int) {k : Nat} (h : k ≠ 13 ∧ k ≠ 14 ∧ k ≠ 16 ∧ k ≠ 17 ∧ k ≠ 18 ∧ k ≠ 19 ∧ k ≠ 21) (j : Int) : drG g n p k j = g k j := by
  unfold drG
  split
  · rw [el_ne _ _ (by omega), fgt_ne _ _ _ (by omega) (by omega), dr1_ne _ _ _ (by omega)]
  · rw [fgt_ne _ _ _ (by omega) (by omega), dr1_ne _ _ _ (by omega)]
theorem so_i {g : GT} (I : IV1 g) {n j : Int} (hn0 : 0 ≤ n) (hn1 : n < g 4 0) (hj : j ≤ g 11 0) : IV1 (itrI (soF n) j g) ∧ (∀ k, k ≠ 13 ∧ k ≠ 14 ∧ k ≠ 16 ∧ k ≠ 17 ∧ k ≠ 18 ∧ k ≠ 19 ∧ k ≠ 21 → ∀ i, itrI (soF n) j g k i = g k i) := by
  refine itrI_ind (P := fun s => IV1 s ∧ (∀ k, k ≠ 13 ∧ k ≠ 14 ∧ k ≠ 16 ∧ k ≠ 17 ∧ k ≠ 18 ∧ k ≠ 19 ∧ k ≠ 21 → ∀ i, s k i = g k i)) (soF n) ⟨I, fun _ _ _ => rfl⟩ (fun p s h0 h1 S => ?_)
  have e11 := S.2 11 (by decide) 0
  have e4 := S.2 4 (by decide) 0
  unfold soF
  split
  · split
    · exact ⟨iv1_dr S.1 h0 (by omega) n, fun k hk i => by rw [dr_ne _ _ _ hk]; exact S.2 k hk i⟩
    · rename_i hc
      split
      · rename_i hp
        refine ⟨iv1_kn S.1 h0 (by omega) hn0 (by omega) (pl_none.mp hp) (by by_cases z : s 18 (60 * n + p) = s 12 p; exact z; exact absurd (Or.inr (Or.inl z)) hc), fun k hk i => ?_⟩
        rw [kn_ne _ _ _ (by omega) (by omega)]
        exact S.2 k hk i
      · exact S
  · exact S

set_option maxRecDepth 100000 in
set_option maxHeartbeats 4000000 in
theorem C_X5_sorts {gx : GX} {d : Nat} {Qr : Option AV → Hp → Prop} {Qx : String → Hp → Prop} {q : Nat} {ar : Nat → Nat} {g : GT} {h : Hp} {n : Int} (R : RM q ar g h) (I : IV1 g) (hn0 : 0 ≤ n) (hn1 : n < g 4 0) (k : ∀ h1, RM q ar (soG g n) h1 → Qr none h1) : aM gx (d + 4) mX5_sorts [vr q, vi n] h 0 0 Qr Qx := by
  intro J C
  show J 0 [some (vr q), some (vi n), none, none, none] [] h 0 0
  have B := I.1; have b2 := B.np; have b1 := B.nn; have b3 := B.nf; have rg := R.rg
  refine r_iconst C dX5_sorts_0 ?_
  refine r_istore_n C dX5_sorts_1 (i := 2) rfl (Nat.le_of_ble_eq_true rfl) ?_
  dsimp only [List.set]
  suffices LOOP : ∀ (m : Nat) (i : Int) (h : Hp) (o3 o4 : Option AV), g 11 0 - i < (m : Int) → 0 ≤ i → i ≤ g 11 0 → RM q ar (itrI (soF n) i g) h → J 2 [some (vr q), some (vi n), some (vi i), o3, o4] [] h 0 0 by
    exact LOOP ((g 11 0).toNat + 1) 0 _ _ _ (by omega) (by omega) (by omega) R
  intro m
  induction m with
  | zero => intro i h o3 o4 hm hi0 hi1 R; exact absurd hm (by omega)
  | succ m ih =>
    intro i h o3 o4 hm hi0 hi1 R
    obtain ⟨s, hs⟩ : ∃ s, s = itrI (soF n) i g := ⟨_, rfl⟩
    have S := so_i I hn0 hn1 hi1
    rw [← hs] at R S
    have e4 := S.2 4 (by decide) 0; have e11 := S.2 11 (by decide) 0
    have SB := S.1.1
    have rg := R.rg
    have bpl := plG_b (g := s) (p := i) (n := n)
    refine r_iload_n C dX5_sorts_2 (i := 2) rfl rfl ?_
    refine r_aload_n C dX5_sorts_3 (i := 0) rfl rfl ?_
    refine m_get0 C dX5_sorts_4 fX5_85 R rfl rfl ?_
    refine r_ic_ge C dX5_sorts_7 (t := 122) (by decide) (by first | assumption | exact R.rg _ _ | exact rg _ _ | (unfold inR; omega)) (by first | assumption | exact R.rg _ _ | exact rg _ _ | (unfold inR; omega)) (fun c7 => ?_) (fun c7 => ?_)
    · skip
      refine r_ret C dX5_sorts_122 rfl ?_
      exact k _ (by rw [show i = g 11 0 by omega] at hs; unfold soG; rw [← hs]; exact R)
    · skip
      have scp := SB.cp i hi0 (by omega)
      refine r_aload_n C dX5_sorts_10 (i := 0) rfl rfl ?_
      refine m_getA C dX5_sorts_11 fX5_51 R (by decide) rfl ?_
      refine r_iload_n C dX5_sorts_14 (i := 1) rfl rfl ?_
      refine r_iload_n C dX5_sorts_15 (i := 2) rfl rfl ?_
      refine r_S2 C dX5_sorts_16 sX5_104 (Nat.le_of_ble_eq_true rfl) (C_X5_at ?_)
      refine m_iald C dX5_sorts_19 R (N := 480) rfl (by decide) rfl (by omega) (by omega) (by omega) ?_
      refine r_if_le C dX5_sorts_20 (t := 27) (by decide) (by first | assumption | exact R.rg _ _ | exact rg _ _ | (unfold inR; omega)) (fun c20 => ?_) (fun c20 => ?_)
      · skip
        refine r_iconst C dX5_sorts_27 ?_
        refine r_istore_n C dX5_sorts_28 (i := 3) rfl (Nat.le_of_ble_eq_true rfl) ?_
        dsimp only [List.set]
        refine r_aload_n C dX5_sorts_29 (i := 0) rfl rfl ?_
        refine r_iload_n C dX5_sorts_30 (i := 2) rfl rfl ?_
        refine r_iload_n C dX5_sorts_31 (i := 1) rfl rfl ?_
        refine m_V2 C dX5_sorts_32 sX5_112 rfl R (Nat.le_of_ble_eq_true rfl) (C_X5_placeOf R SB hi0 (by omega) (by unfold inR; omega) ?_)
        refine r_iconst C dX5_sorts_35 ?_
        refine r_ic_eq C dX5_sorts_36 (t := 43) (by decide) (by first | assumption | exact R.rg _ _ | exact rg _ _ | (unfold inR; omega)) (by first | assumption | exact R.rg _ _ | exact rg _ _ | (unfold inR; omega)) (fun c36 => ?_) (fun c36 => ?_)
        · skip
          refine r_iconst C dX5_sorts_43 ?_
          refine r_istore C dX5_sorts_44 (Nat.le_of_ble_eq_true rfl) ?_
          dsimp only [List.set]
          refine r_iload_n C dX5_sorts_46 (i := 3) rfl rfl ?_
          refine r_if_eq C dX5_sorts_47 (t := 101) (by decide) (by first | assumption | exact R.rg _ _ | exact rg _ _ | (unfold inR; omega)) (fun c47 => ?_) (fun c47 => ?_)
          · skip
            refine r_iload_n C dX5_sorts_101 (i := 3) rfl rfl ?_
            refine r_if_eq C dX5_sorts_102 (t := 116) (by decide) (by first | assumption | exact R.rg _ _ | exact rg _ _ | (unfold inR; omega)) (fun c102 => ?_) (fun c102 => ?_)
            · skip
              refine r_iinc C dX5_sorts_116 rfl ?_
              dsimp only [List.set]
              refine r_goto C dX5_sorts_119 (t := 2) (by decide) ?_
              first
                | exact ih _ _ _ _ (by omega) (by omega) (by omega) (by rw [itrI_s _ _ hi0, ← hs]; unfold soF; rw [if_neg (by omega)]; exact R)
                | exact ih _ _ _ _ (by omega) (by omega) (by omega) (by rw [itrI_s _ _ hi0, ← hs]; unfold soF; rw [if_pos (by omega), if_pos (Or.inl hgo)]; exact R)
                | exact ih _ _ _ _ (by omega) (by omega) (by omega) (by rw [itrI_s _ _ hi0, ← hs]; unfold soF; rw [if_pos (by omega), if_pos (Or.inr (Or.inl c74))]; exact R)
                | exact ih _ _ _ _ (by omega) (by omega) (by omega) (by rw [itrI_s _ _ hi0, ← hs]; unfold soF; rw [if_pos (by omega), if_pos (Or.inr (Or.inr ⟨by omega, by omega⟩))]; exact R)
                | exact ih _ _ _ _ (by omega) (by omega) (by omega) (by rw [itrI_s _ _ hi0, ← hs]; unfold soF; rw [if_pos (by omega), if_neg (fun y => by rcases y with y | y | y; exact hgo y; exact y c74; exact c36 y.1), if_neg (by omega)]; exact R)
                | exact ih _ _ _ _ (by omega) (by omega) (by omega) (by rw [itrI_s _ _ hi0, ← hs]; unfold soF; rw [if_pos (by omega), if_neg (fun y => by rcases y with y | y | y; exact hgo y; exact y c74; have y2 := y.2; omega), if_pos (by omega)]; exact R)
            · skip
              exact absurd c102 (by decide)
          · skip
            exact absurd c47 (by decide)
        · skip
          refine r_iconst C dX5_sorts_39 ?_
          refine r_goto C dX5_sorts_40 (t := 44) (by decide) ?_
          refine r_istore C dX5_sorts_44 (Nat.le_of_ble_eq_true rfl) ?_
          dsimp only [List.set]
          refine r_iload_n C dX5_sorts_46 (i := 3) rfl rfl ?_
          refine r_if_eq C dX5_sorts_47 (t := 101) (by decide) (by first | assumption | exact R.rg _ _ | exact rg _ _ | (unfold inR; omega)) (fun c47 => ?_) (fun c47 => ?_)
          · skip
            refine r_iload_n C dX5_sorts_101 (i := 3) rfl rfl ?_
            refine r_if_eq C dX5_sorts_102 (t := 116) (by decide) (by first | assumption | exact R.rg _ _ | exact rg _ _ | (unfold inR; omega)) (fun c102 => ?_) (fun c102 => ?_)
            · skip
              refine r_iinc C dX5_sorts_116 rfl ?_
              dsimp only [List.set]
              refine r_goto C dX5_sorts_119 (t := 2) (by decide) ?_
              first
                | exact ih _ _ _ _ (by omega) (by omega) (by omega) (by rw [itrI_s _ _ hi0, ← hs]; unfold soF; rw [if_neg (by omega)]; exact R)
                | exact ih _ _ _ _ (by omega) (by omega) (by omega) (by rw [itrI_s _ _ hi0, ← hs]; unfold soF; rw [if_pos (by omega), if_pos (Or.inl hgo)]; exact R)
                | exact ih _ _ _ _ (by omega) (by omega) (by omega) (by rw [itrI_s _ _ hi0, ← hs]; unfold soF; rw [if_pos (by omega), if_pos (Or.inr (Or.inl c74))]; exact R)
                | exact ih _ _ _ _ (by omega) (by omega) (by omega) (by rw [itrI_s _ _ hi0, ← hs]; unfold soF; rw [if_pos (by omega), if_pos (Or.inr (Or.inr ⟨by omega, by omega⟩))]; exact R)
                | exact ih _ _ _ _ (by omega) (by omega) (by omega) (by rw [itrI_s _ _ hi0, ← hs]; unfold soF; rw [if_pos (by omega), if_neg (fun y => by rcases y with y | y | y; exact hgo y; exact y c74; exact c36 y.1), if_neg (by omega)]; exact R)
                | exact ih _ _ _ _ (by omega) (by omega) (by omega) (by rw [itrI_s _ _ hi0, ← hs]; unfold soF; rw [if_pos (by omega), if_neg (fun y => by rcases y with y | y | y; exact hgo y; exact y c74; have y2 := y.2; omega), if_pos (by omega)]; exact R)
            · skip
              exact absurd c102 (by decide)
          · skip
            exact absurd c47 (by decide)
      · skip
        refine r_iconst C dX5_sorts_23 ?_
        refine r_goto C dX5_sorts_24 (t := 28) (by decide) ?_
        refine r_istore_n C dX5_sorts_28 (i := 3) rfl (Nat.le_of_ble_eq_true rfl) ?_
        dsimp only [List.set]
        refine r_aload_n C dX5_sorts_29 (i := 0) rfl rfl ?_
        refine r_iload_n C dX5_sorts_30 (i := 2) rfl rfl ?_
        refine r_iload_n C dX5_sorts_31 (i := 1) rfl rfl ?_
        refine m_V2 C dX5_sorts_32 sX5_112 rfl R (Nat.le_of_ble_eq_true rfl) (C_X5_placeOf R SB hi0 (by omega) (by unfold inR; omega) ?_)
        refine r_iconst C dX5_sorts_35 ?_
        refine r_ic_eq C dX5_sorts_36 (t := 43) (by decide) (by first | assumption | exact R.rg _ _ | exact rg _ _ | (unfold inR; omega)) (by first | assumption | exact R.rg _ _ | exact rg _ _ | (unfold inR; omega)) (fun c36 => ?_) (fun c36 => ?_)
        · skip
          refine r_iconst C dX5_sorts_43 ?_
          refine r_istore C dX5_sorts_44 (Nat.le_of_ble_eq_true rfl) ?_
          dsimp only [List.set]
          refine r_iload_n C dX5_sorts_46 (i := 3) rfl rfl ?_
          refine r_if_eq C dX5_sorts_47 (t := 101) (by decide) (by first | assumption | exact R.rg _ _ | exact rg _ _ | (unfold inR; omega)) (fun c47 => ?_) (fun c47 => ?_)
          · skip
            exact absurd c47 (by decide)
          · skip
            refine r_aload_n C dX5_sorts_50 (i := 0) rfl rfl ?_
            refine r_iload_n C dX5_sorts_51 (i := 2) rfl rfl ?_
            refine m_V1 C dX5_sorts_52 sX5_228 rfl R (Nat.le_of_ble_eq_true rfl) (C_X5_isGone R SB (by unfold inR; omega) (fun z hz hb => ?_))
            refine r_if_ne C dX5_sorts_55 (t := 92) (by decide) (by first | assumption | exact R.rg _ _ | exact rg _ _ | (unfold inR; omega)) (fun c55 => ?_) (fun c55 => ?_)
            · skip
              have hgo := hb.t c55
              refine r_aload_n C dX5_sorts_92 (i := 0) rfl rfl ?_
              refine r_iload_n C dX5_sorts_93 (i := 1) rfl rfl ?_
              refine r_iload_n C dX5_sorts_94 (i := 2) rfl rfl ?_
              refine m_V2 C dX5_sorts_95 sX5_213 rfl R (Nat.le_of_ble_eq_true rfl) (C_X5_drops R SB (by omega) (by omega) hi0 (by omega) (fun h R => ?_))
              refine r_goto C dX5_sorts_98 (t := 116) (by decide) ?_
              refine r_iinc C dX5_sorts_116 rfl ?_
              dsimp only [List.set]
              refine r_goto C dX5_sorts_119 (t := 2) (by decide) ?_
              first
                | exact ih _ _ _ _ (by omega) (by omega) (by omega) (by rw [itrI_s _ _ hi0, ← hs]; unfold soF; rw [if_neg (by omega)]; exact R)
                | exact ih _ _ _ _ (by omega) (by omega) (by omega) (by rw [itrI_s _ _ hi0, ← hs]; unfold soF; rw [if_pos (by omega), if_pos (Or.inl hgo)]; exact R)
                | exact ih _ _ _ _ (by omega) (by omega) (by omega) (by rw [itrI_s _ _ hi0, ← hs]; unfold soF; rw [if_pos (by omega), if_pos (Or.inr (Or.inl c74))]; exact R)
                | exact ih _ _ _ _ (by omega) (by omega) (by omega) (by rw [itrI_s _ _ hi0, ← hs]; unfold soF; rw [if_pos (by omega), if_pos (Or.inr (Or.inr ⟨by omega, by omega⟩))]; exact R)
                | exact ih _ _ _ _ (by omega) (by omega) (by omega) (by rw [itrI_s _ _ hi0, ← hs]; unfold soF; rw [if_pos (by omega), if_neg (fun y => by rcases y with y | y | y; exact hgo y; exact y c74; exact c36 y.1), if_neg (by omega)]; exact R)
                | exact ih _ _ _ _ (by omega) (by omega) (by omega) (by rw [itrI_s _ _ hi0, ← hs]; unfold soF; rw [if_pos (by omega), if_neg (fun y => by rcases y with y | y | y; exact hgo y; exact y c74; have y2 := y.2; omega), if_pos (by omega)]; exact R)
            · skip
              have hgo := hb.f c55
              refine r_aload_n C dX5_sorts_58 (i := 0) rfl rfl ?_
              refine m_getA C dX5_sorts_59 fX5_51 R (by decide) rfl ?_
              refine r_iload_n C dX5_sorts_62 (i := 1) rfl rfl ?_
              refine r_iload_n C dX5_sorts_63 (i := 2) rfl rfl ?_
              refine r_S2 C dX5_sorts_64 sX5_104 (Nat.le_of_ble_eq_true rfl) (C_X5_at ?_)
              refine m_iald C dX5_sorts_67 R (N := 480) rfl (by decide) rfl (by omega) (by omega) (by omega) ?_
              refine r_aload_n C dX5_sorts_68 (i := 0) rfl rfl ?_
              refine m_getA C dX5_sorts_69 fX5_33 R (by decide) rfl ?_
              refine r_iload_n C dX5_sorts_72 (i := 2) rfl rfl ?_
              refine m_iald C dX5_sorts_73 R (N := 60) rfl (by decide) rfl (by omega) (by omega) (by omega) ?_
              refine r_ic_ne C dX5_sorts_74 (t := 92) (by decide) (by first | assumption | exact R.rg _ _ | exact rg _ _ | (unfold inR; omega)) (by first | assumption | exact R.rg _ _ | exact rg _ _ | (unfold inR; omega)) (fun c74 => ?_) (fun c74 => ?_)
              · skip
                refine r_aload_n C dX5_sorts_92 (i := 0) rfl rfl ?_
                refine r_iload_n C dX5_sorts_93 (i := 1) rfl rfl ?_
                refine r_iload_n C dX5_sorts_94 (i := 2) rfl rfl ?_
                refine m_V2 C dX5_sorts_95 sX5_213 rfl R (Nat.le_of_ble_eq_true rfl) (C_X5_drops R SB (by omega) (by omega) hi0 (by omega) (fun h R => ?_))
                refine r_goto C dX5_sorts_98 (t := 116) (by decide) ?_
                refine r_iinc C dX5_sorts_116 rfl ?_
                dsimp only [List.set]
                refine r_goto C dX5_sorts_119 (t := 2) (by decide) ?_
                first
                  | exact ih _ _ _ _ (by omega) (by omega) (by omega) (by rw [itrI_s _ _ hi0, ← hs]; unfold soF; rw [if_neg (by omega)]; exact R)
                  | exact ih _ _ _ _ (by omega) (by omega) (by omega) (by rw [itrI_s _ _ hi0, ← hs]; unfold soF; rw [if_pos (by omega), if_pos (Or.inl hgo)]; exact R)
                  | exact ih _ _ _ _ (by omega) (by omega) (by omega) (by rw [itrI_s _ _ hi0, ← hs]; unfold soF; rw [if_pos (by omega), if_pos (Or.inr (Or.inl c74))]; exact R)
                  | exact ih _ _ _ _ (by omega) (by omega) (by omega) (by rw [itrI_s _ _ hi0, ← hs]; unfold soF; rw [if_pos (by omega), if_pos (Or.inr (Or.inr ⟨by omega, by omega⟩))]; exact R)
                  | exact ih _ _ _ _ (by omega) (by omega) (by omega) (by rw [itrI_s _ _ hi0, ← hs]; unfold soF; rw [if_pos (by omega), if_neg (fun y => by rcases y with y | y | y; exact hgo y; exact y c74; exact c36 y.1), if_neg (by omega)]; exact R)
                  | exact ih _ _ _ _ (by omega) (by omega) (by omega) (by rw [itrI_s _ _ hi0, ← hs]; unfold soF; rw [if_pos (by omega), if_neg (fun y => by rcases y with y | y | y; exact hgo y; exact y c74; have y2 := y.2; omega), if_pos (by omega)]; exact R)
              · skip
                refine r_iload C dX5_sorts_77 rfl ?_
                refine r_if_ne C dX5_sorts_79 (t := 101) (by decide) (by first | assumption | exact R.rg _ _ | exact rg _ _ | (unfold inR; omega)) (fun c79 => ?_) (fun c79 => ?_)
                · skip
                  exact absurd c79 (by decide)
                · skip
                  refine r_aload_n C dX5_sorts_82 (i := 0) rfl rfl ?_
                  refine m_getA C dX5_sorts_83 fX5_45 R (by decide) rfl ?_
                  refine r_iload_n C dX5_sorts_86 (i := 2) rfl rfl ?_
                  refine m_iald C dX5_sorts_87 R (N := 60) rfl (by decide) rfl (by omega) (by omega) (by omega) ?_
                  refine r_iconst C dX5_sorts_88 ?_
                  refine r_ic_le C dX5_sorts_89 (t := 101) (by decide) (by first | assumption | exact R.rg _ _ | exact rg _ _ | (unfold inR; omega)) (by first | assumption | exact R.rg _ _ | exact rg _ _ | (unfold inR; omega)) (fun c89 => ?_) (fun c89 => ?_)
                  · skip
                    refine r_iload_n C dX5_sorts_101 (i := 3) rfl rfl ?_
                    refine r_if_eq C dX5_sorts_102 (t := 116) (by decide) (by first | assumption | exact R.rg _ _ | exact rg _ _ | (unfold inR; omega)) (fun c102 => ?_) (fun c102 => ?_)
                    · skip
                      exact absurd c102 (by decide)
                    · skip
                      refine r_iload C dX5_sorts_105 rfl ?_
                      refine r_if_ne C dX5_sorts_107 (t := 116) (by decide) (by first | assumption | exact R.rg _ _ | exact rg _ _ | (unfold inR; omega)) (fun c107 => ?_) (fun c107 => ?_)
                      · skip
                        exact absurd c107 (by decide)
                      · skip
                        refine r_aload_n C dX5_sorts_110 (i := 0) rfl rfl ?_
                        refine r_iload_n C dX5_sorts_111 (i := 2) rfl rfl ?_
                        refine r_iload_n C dX5_sorts_112 (i := 1) rfl rfl ?_
                        refine m_V2 C dX5_sorts_113 sX5_170 rfl R (Nat.le_of_ble_eq_true rfl) (C_X5_knows R hi0 (by omega) (by unfold inR; omega) (by omega) (by have := dc_lt SB S.1.2.1 hi0 (show i < s 11 0 by omega) hn0 (show n < s 4 0 by omega) (by omega); omega) (fun h R => ?_))
                        refine r_iinc C dX5_sorts_116 rfl ?_
                        dsimp only [List.set]
                        refine r_goto C dX5_sorts_119 (t := 2) (by decide) ?_
                        first
                          | exact ih _ _ _ _ (by omega) (by omega) (by omega) (by rw [itrI_s _ _ hi0, ← hs]; unfold soF; rw [if_neg (by omega)]; exact R)
                          | exact ih _ _ _ _ (by omega) (by omega) (by omega) (by rw [itrI_s _ _ hi0, ← hs]; unfold soF; rw [if_pos (by omega), if_pos (Or.inl hgo)]; exact R)
                          | exact ih _ _ _ _ (by omega) (by omega) (by omega) (by rw [itrI_s _ _ hi0, ← hs]; unfold soF; rw [if_pos (by omega), if_pos (Or.inr (Or.inl c74))]; exact R)
                          | exact ih _ _ _ _ (by omega) (by omega) (by omega) (by rw [itrI_s _ _ hi0, ← hs]; unfold soF; rw [if_pos (by omega), if_pos (Or.inr (Or.inr ⟨by omega, by omega⟩))]; exact R)
                          | exact ih _ _ _ _ (by omega) (by omega) (by omega) (by rw [itrI_s _ _ hi0, ← hs]; unfold soF; rw [if_pos (by omega), if_neg (fun y => by rcases y with y | y | y; exact hgo y; exact y c74; exact c36 y.1), if_neg (by omega)]; exact R)
                          | exact ih _ _ _ _ (by omega) (by omega) (by omega) (by rw [itrI_s _ _ hi0, ← hs]; unfold soF; rw [if_pos (by omega), if_neg (fun y => by rcases y with y | y | y; exact hgo y; exact y c74; have y2 := y.2; omega), if_pos (by omega)]; exact R)
                  · skip
                    refine r_aload_n C dX5_sorts_92 (i := 0) rfl rfl ?_
                    refine r_iload_n C dX5_sorts_93 (i := 1) rfl rfl ?_
                    refine r_iload_n C dX5_sorts_94 (i := 2) rfl rfl ?_
                    refine m_V2 C dX5_sorts_95 sX5_213 rfl R (Nat.le_of_ble_eq_true rfl) (C_X5_drops R SB (by omega) (by omega) hi0 (by omega) (fun h R => ?_))
                    refine r_goto C dX5_sorts_98 (t := 116) (by decide) ?_
                    refine r_iinc C dX5_sorts_116 rfl ?_
                    dsimp only [List.set]
                    refine r_goto C dX5_sorts_119 (t := 2) (by decide) ?_
                    first
                      | exact ih _ _ _ _ (by omega) (by omega) (by omega) (by rw [itrI_s _ _ hi0, ← hs]; unfold soF; rw [if_neg (by omega)]; exact R)
                      | exact ih _ _ _ _ (by omega) (by omega) (by omega) (by rw [itrI_s _ _ hi0, ← hs]; unfold soF; rw [if_pos (by omega), if_pos (Or.inl hgo)]; exact R)
                      | exact ih _ _ _ _ (by omega) (by omega) (by omega) (by rw [itrI_s _ _ hi0, ← hs]; unfold soF; rw [if_pos (by omega), if_pos (Or.inr (Or.inl c74))]; exact R)
                      | exact ih _ _ _ _ (by omega) (by omega) (by omega) (by rw [itrI_s _ _ hi0, ← hs]; unfold soF; rw [if_pos (by omega), if_pos (Or.inr (Or.inr ⟨by omega, by omega⟩))]; exact R)
                      | exact ih _ _ _ _ (by omega) (by omega) (by omega) (by rw [itrI_s _ _ hi0, ← hs]; unfold soF; rw [if_pos (by omega), if_neg (fun y => by rcases y with y | y | y; exact hgo y; exact y c74; exact c36 y.1), if_neg (by omega)]; exact R)
                      | exact ih _ _ _ _ (by omega) (by omega) (by omega) (by rw [itrI_s _ _ hi0, ← hs]; unfold soF; rw [if_pos (by omega), if_neg (fun y => by rcases y with y | y | y; exact hgo y; exact y c74; have y2 := y.2; omega), if_pos (by omega)]; exact R)
        · skip
          refine r_iconst C dX5_sorts_39 ?_
          refine r_goto C dX5_sorts_40 (t := 44) (by decide) ?_
          refine r_istore C dX5_sorts_44 (Nat.le_of_ble_eq_true rfl) ?_
          dsimp only [List.set]
          refine r_iload_n C dX5_sorts_46 (i := 3) rfl rfl ?_
          refine r_if_eq C dX5_sorts_47 (t := 101) (by decide) (by first | assumption | exact R.rg _ _ | exact rg _ _ | (unfold inR; omega)) (fun c47 => ?_) (fun c47 => ?_)
          · skip
            exact absurd c47 (by decide)
          · skip
            refine r_aload_n C dX5_sorts_50 (i := 0) rfl rfl ?_
            refine r_iload_n C dX5_sorts_51 (i := 2) rfl rfl ?_
            refine m_V1 C dX5_sorts_52 sX5_228 rfl R (Nat.le_of_ble_eq_true rfl) (C_X5_isGone R SB (by unfold inR; omega) (fun z hz hb => ?_))
            refine r_if_ne C dX5_sorts_55 (t := 92) (by decide) (by first | assumption | exact R.rg _ _ | exact rg _ _ | (unfold inR; omega)) (fun c55 => ?_) (fun c55 => ?_)
            · skip
              have hgo := hb.t c55
              refine r_aload_n C dX5_sorts_92 (i := 0) rfl rfl ?_
              refine r_iload_n C dX5_sorts_93 (i := 1) rfl rfl ?_
              refine r_iload_n C dX5_sorts_94 (i := 2) rfl rfl ?_
              refine m_V2 C dX5_sorts_95 sX5_213 rfl R (Nat.le_of_ble_eq_true rfl) (C_X5_drops R SB (by omega) (by omega) hi0 (by omega) (fun h R => ?_))
              refine r_goto C dX5_sorts_98 (t := 116) (by decide) ?_
              refine r_iinc C dX5_sorts_116 rfl ?_
              dsimp only [List.set]
              refine r_goto C dX5_sorts_119 (t := 2) (by decide) ?_
              first
                | exact ih _ _ _ _ (by omega) (by omega) (by omega) (by rw [itrI_s _ _ hi0, ← hs]; unfold soF; rw [if_neg (by omega)]; exact R)
                | exact ih _ _ _ _ (by omega) (by omega) (by omega) (by rw [itrI_s _ _ hi0, ← hs]; unfold soF; rw [if_pos (by omega), if_pos (Or.inl hgo)]; exact R)
                | exact ih _ _ _ _ (by omega) (by omega) (by omega) (by rw [itrI_s _ _ hi0, ← hs]; unfold soF; rw [if_pos (by omega), if_pos (Or.inr (Or.inl c74))]; exact R)
                | exact ih _ _ _ _ (by omega) (by omega) (by omega) (by rw [itrI_s _ _ hi0, ← hs]; unfold soF; rw [if_pos (by omega), if_pos (Or.inr (Or.inr ⟨by omega, by omega⟩))]; exact R)
                | exact ih _ _ _ _ (by omega) (by omega) (by omega) (by rw [itrI_s _ _ hi0, ← hs]; unfold soF; rw [if_pos (by omega), if_neg (fun y => by rcases y with y | y | y; exact hgo y; exact y c74; exact c36 y.1), if_neg (by omega)]; exact R)
                | exact ih _ _ _ _ (by omega) (by omega) (by omega) (by rw [itrI_s _ _ hi0, ← hs]; unfold soF; rw [if_pos (by omega), if_neg (fun y => by rcases y with y | y | y; exact hgo y; exact y c74; have y2 := y.2; omega), if_pos (by omega)]; exact R)
            · skip
              have hgo := hb.f c55
              refine r_aload_n C dX5_sorts_58 (i := 0) rfl rfl ?_
              refine m_getA C dX5_sorts_59 fX5_51 R (by decide) rfl ?_
              refine r_iload_n C dX5_sorts_62 (i := 1) rfl rfl ?_
              refine r_iload_n C dX5_sorts_63 (i := 2) rfl rfl ?_
              refine r_S2 C dX5_sorts_64 sX5_104 (Nat.le_of_ble_eq_true rfl) (C_X5_at ?_)
              refine m_iald C dX5_sorts_67 R (N := 480) rfl (by decide) rfl (by omega) (by omega) (by omega) ?_
              refine r_aload_n C dX5_sorts_68 (i := 0) rfl rfl ?_
              refine m_getA C dX5_sorts_69 fX5_33 R (by decide) rfl ?_
              refine r_iload_n C dX5_sorts_72 (i := 2) rfl rfl ?_
              refine m_iald C dX5_sorts_73 R (N := 60) rfl (by decide) rfl (by omega) (by omega) (by omega) ?_
              refine r_ic_ne C dX5_sorts_74 (t := 92) (by decide) (by first | assumption | exact R.rg _ _ | exact rg _ _ | (unfold inR; omega)) (by first | assumption | exact R.rg _ _ | exact rg _ _ | (unfold inR; omega)) (fun c74 => ?_) (fun c74 => ?_)
              · skip
                refine r_aload_n C dX5_sorts_92 (i := 0) rfl rfl ?_
                refine r_iload_n C dX5_sorts_93 (i := 1) rfl rfl ?_
                refine r_iload_n C dX5_sorts_94 (i := 2) rfl rfl ?_
                refine m_V2 C dX5_sorts_95 sX5_213 rfl R (Nat.le_of_ble_eq_true rfl) (C_X5_drops R SB (by omega) (by omega) hi0 (by omega) (fun h R => ?_))
                refine r_goto C dX5_sorts_98 (t := 116) (by decide) ?_
                refine r_iinc C dX5_sorts_116 rfl ?_
                dsimp only [List.set]
                refine r_goto C dX5_sorts_119 (t := 2) (by decide) ?_
                first
                  | exact ih _ _ _ _ (by omega) (by omega) (by omega) (by rw [itrI_s _ _ hi0, ← hs]; unfold soF; rw [if_neg (by omega)]; exact R)
                  | exact ih _ _ _ _ (by omega) (by omega) (by omega) (by rw [itrI_s _ _ hi0, ← hs]; unfold soF; rw [if_pos (by omega), if_pos (Or.inl hgo)]; exact R)
                  | exact ih _ _ _ _ (by omega) (by omega) (by omega) (by rw [itrI_s _ _ hi0, ← hs]; unfold soF; rw [if_pos (by omega), if_pos (Or.inr (Or.inl c74))]; exact R)
                  | exact ih _ _ _ _ (by omega) (by omega) (by omega) (by rw [itrI_s _ _ hi0, ← hs]; unfold soF; rw [if_pos (by omega), if_pos (Or.inr (Or.inr ⟨by omega, by omega⟩))]; exact R)
                  | exact ih _ _ _ _ (by omega) (by omega) (by omega) (by rw [itrI_s _ _ hi0, ← hs]; unfold soF; rw [if_pos (by omega), if_neg (fun y => by rcases y with y | y | y; exact hgo y; exact y c74; exact c36 y.1), if_neg (by omega)]; exact R)
                  | exact ih _ _ _ _ (by omega) (by omega) (by omega) (by rw [itrI_s _ _ hi0, ← hs]; unfold soF; rw [if_pos (by omega), if_neg (fun y => by rcases y with y | y | y; exact hgo y; exact y c74; have y2 := y.2; omega), if_pos (by omega)]; exact R)
              · skip
                refine r_iload C dX5_sorts_77 rfl ?_
                refine r_if_ne C dX5_sorts_79 (t := 101) (by decide) (by first | assumption | exact R.rg _ _ | exact rg _ _ | (unfold inR; omega)) (fun c79 => ?_) (fun c79 => ?_)
                · skip
                  refine r_iload_n C dX5_sorts_101 (i := 3) rfl rfl ?_
                  refine r_if_eq C dX5_sorts_102 (t := 116) (by decide) (by first | assumption | exact R.rg _ _ | exact rg _ _ | (unfold inR; omega)) (fun c102 => ?_) (fun c102 => ?_)
                  · skip
                    exact absurd c102 (by decide)
                  · skip
                    refine r_iload C dX5_sorts_105 rfl ?_
                    refine r_if_ne C dX5_sorts_107 (t := 116) (by decide) (by first | assumption | exact R.rg _ _ | exact rg _ _ | (unfold inR; omega)) (fun c107 => ?_) (fun c107 => ?_)
                    · skip
                      refine r_iinc C dX5_sorts_116 rfl ?_
                      dsimp only [List.set]
                      refine r_goto C dX5_sorts_119 (t := 2) (by decide) ?_
                      first
                        | exact ih _ _ _ _ (by omega) (by omega) (by omega) (by rw [itrI_s _ _ hi0, ← hs]; unfold soF; rw [if_neg (by omega)]; exact R)
                        | exact ih _ _ _ _ (by omega) (by omega) (by omega) (by rw [itrI_s _ _ hi0, ← hs]; unfold soF; rw [if_pos (by omega), if_pos (Or.inl hgo)]; exact R)
                        | exact ih _ _ _ _ (by omega) (by omega) (by omega) (by rw [itrI_s _ _ hi0, ← hs]; unfold soF; rw [if_pos (by omega), if_pos (Or.inr (Or.inl c74))]; exact R)
                        | exact ih _ _ _ _ (by omega) (by omega) (by omega) (by rw [itrI_s _ _ hi0, ← hs]; unfold soF; rw [if_pos (by omega), if_pos (Or.inr (Or.inr ⟨by omega, by omega⟩))]; exact R)
                        | exact ih _ _ _ _ (by omega) (by omega) (by omega) (by rw [itrI_s _ _ hi0, ← hs]; unfold soF; rw [if_pos (by omega), if_neg (fun y => by rcases y with y | y | y; exact hgo y; exact y c74; exact c36 y.1), if_neg (by omega)]; exact R)
                        | exact ih _ _ _ _ (by omega) (by omega) (by omega) (by rw [itrI_s _ _ hi0, ← hs]; unfold soF; rw [if_pos (by omega), if_neg (fun y => by rcases y with y | y | y; exact hgo y; exact y c74; have y2 := y.2; omega), if_pos (by omega)]; exact R)
                    · skip
                      exact absurd c107 (by decide)
                · skip
                  exact absurd c79 (by decide)

def scC (g : GT) (n : Int) : Int → Bool := fun k => decide ((k < g 11 0 → g 10 n < k) ∧ 0 < g 18 (60 * n + k % g 11 0))
def scI (g : GT) (n k : Int) : Int := if findI (scC g n) k = -1 then -1 else findI (scC g n) k % g 11 0
def scG (g : GT) (n : Int) : GT := if scI g n (2 * g 11 0) = -1 then g else if 0 < g 21 (60 * n + scI g n (2 * g 11 0)) then drG (up g 10 n (scI g n (2 * g 11 0))) n (scI g n (2 * g 11 0)) else up g 10 n (scI g n (2 * g 11 0))
theorem sc_b (g : GT) (n k : Int) (h : 0 < g 11 0) : (scI g n k = -1 ∧ ∀ j, 0 ≤ j → j < k → scC g n j = false) ∨ (0 ≤ scI g n k ∧ scI g n k < g 11 0 ∧ ∀ N, k ≤ N → scI g n N = scI g n k) := by
  rcases findI_cases (scC g n) k with a | ⟨a, b, c, d⟩
  · exact Or.inl ⟨if_pos a.1, a.2⟩
  · have e : scI g n k = findI (scC g n) k % g 11 0 := if_neg (by omega)
    refine Or.inr ⟨by rw [e]; exact Int.emod_nonneg _ (by omega), by rw [e]; exact Int.emod_lt_of_pos _ h, fun N hN => ?_⟩
    rw [e]
    unfold scI
    rw [findI_hit a (show findI (scC g n) k < N by omega) c d, if_neg (by omega)]
theorem sc_s {g : GT} {n k : Int} (h : 0 < g 11 0) (h0 : 0 ≤ k) (hk : scI g n k = -1) : scI g n (k + 1) = if scC g n k = true then k % g 11 0 else -1 := by
  have a := (sc_b g n k h).resolve_right (fun z => by omega)
  by_cases c : scC g n k = true
  · rw [if_pos c]
    unfold scI
    rw [findI_hit h0 (show k < k + 1 by omega) c a.2, if_neg (by omega)]
  · rw [if_neg c]
    unfold scI
    rw [findI_none (all_s a.2 (by simpa using c)), if_pos rfl]

set_option maxRecDepth 100000 in
set_option maxHeartbeats 4000000 in
theorem C_X5_scrubs {gx : GX} {d : Nat} {Qr : Option AV → Hp → Prop} {Qx : String → Hp → Prop} {q : Nat} {ar : Nat → Nat} {g : GT} {h : Hp} {n : Int} (R : RM q ar g h) (B : BD g) (hn0 : 0 ≤ n) (hn1 : n < 8) (k : ∀ h1, RM q ar (scG g n) h1 → Qr none h1) : aM gx (d + 4) mX5_scrubs [vr q, vi n] h 0 0 Qr Qx := by
  intro J C
  show J 0 [some (vr q), some (vi n), none, none, none] [] h 0 0
  have b2 := B.np; have rg := R.rg
  refine r_iconst C dX5_scrubs_0 ?_
  refine r_istore_n C dX5_scrubs_1 (i := 2) rfl (Nat.le_of_ble_eq_true rfl) ?_
  dsimp only [List.set]
  refine r_iconst C dX5_scrubs_2 ?_
  refine r_istore_n C dX5_scrubs_3 (i := 3) rfl (Nat.le_of_ble_eq_true rfl) ?_
  dsimp only [List.set]
  suffices LOOP : ∀ (m : Nat) (f i : Int) (o4 : Option AV), 2 * g 11 0 - i < (m : Int) → 0 ≤ i → i ≤ 2 * g 11 0 → f = scI g n i → J 4 [some (vr q), some (vi n), some (vi f), some (vi i), o4] [] h 0 0 by
    exact LOOP ((2 * g 11 0).toNat + 1) (-1) 0 _ (by omega) (by omega) (by omega) rfl
  intro m
  induction m with
  | zero => intro f i o4 hm hi0 hi1 hf; exact absurd hm (by omega)
  | succ m ih =>
    intro f i o4 hm hi0 hi1 hf
    refine r_iload_n C dX5_scrubs_4 (i := 3) rfl rfl ?_
    refine r_iconst C dX5_scrubs_5 ?_
    refine r_aload_n C dX5_scrubs_6 (i := 0) rfl rfl ?_
    refine m_get0 C dX5_scrubs_7 fX5_85 R rfl rfl ?_
    refine r_imul C dX5_scrubs_10 ?_
    refine r_ic_ge C dX5_scrubs_11 (t := 88) (by decide) (by first | assumption | exact R.rg _ _ | exact rg _ _ | (unfold inR; omega)) (by first | assumption | exact R.rg _ _ | exact rg _ _ | (unfold inR; omega)) (fun c11 => ?_) (fun c11 => ?_)
    · skip
      have hff : f = scI g n (2 * g 11 0) := by rw [hf, show i = 2 * g 11 0 by omega]
      have hfb : f = -1 ∨ (0 ≤ f ∧ f < g 11 0) := by by_cases P : 0 < g 11 0; have := sc_b g n (2 * g 11 0) P; omega; left; rw [hff, show 2 * g 11 0 = 0 by omega]; rfl
      refine r_iload_n C dX5_scrubs_88 (i := 2) rfl rfl ?_
      refine r_iconst C dX5_scrubs_89 ?_
      refine r_ic_eq C dX5_scrubs_90 (t := 119) (by decide) (by first | assumption | exact R.rg _ _ | exact rg _ _ | (unfold inR; omega)) (by first | assumption | exact R.rg _ _ | exact rg _ _ | (unfold inR; omega)) (fun c90 => ?_) (fun c90 => ?_)
      · skip
        refine r_ret C dX5_scrubs_119 rfl ?_
        first
          | exact k _ (by unfold scG; rw [if_pos (by omega)]; exact R)
          | exact k _ (by unfold scG; rw [← hff, if_neg (by omega), if_pos (by omega)]; exact R)
          | exact k _ (by unfold scG; rw [← hff, if_neg (by omega), if_neg (by omega)]; exact R)
      · skip
        refine r_aload_n C dX5_scrubs_93 (i := 0) rfl rfl ?_
        refine m_getA C dX5_scrubs_94 fX5_30 R (by decide) rfl ?_
        refine r_iload_n C dX5_scrubs_97 (i := 1) rfl rfl ?_
        refine r_iload_n C dX5_scrubs_98 (i := 2) rfl rfl ?_
        refine m_iast C dX5_scrubs_99 R (N := 8) rfl (by decide) rfl (by omega) (by omega) (by omega) (by first | assumption | exact R.rg _ _ | exact rg _ _ | (unfold inR; omega)) (fun h R => ?_)
        refine r_aload_n C dX5_scrubs_100 (i := 0) rfl rfl ?_
        refine m_getA C dX5_scrubs_101 fX5_60 R (by decide) rfl ?_
        refine r_iload_n C dX5_scrubs_104 (i := 1) rfl rfl ?_
        refine r_iload_n C dX5_scrubs_105 (i := 2) rfl rfl ?_
        refine r_S2 C dX5_scrubs_106 sX5_104 (Nat.le_of_ble_eq_true rfl) (C_X5_at ?_)
        refine m_iald C dX5_scrubs_109 R (N := 480) rfl (by decide) rfl (by omega) (by omega) (by omega) ?_
        rw [up_ne (by decide)]
        refine r_if_le C dX5_scrubs_110 (t := 119) (by decide) (by first | assumption | exact R.rg _ _ | exact rg _ _ | (unfold inR; omega)) (fun c110 => ?_) (fun c110 => ?_)
        · skip
          refine r_ret C dX5_scrubs_119 rfl ?_
          first
            | exact k _ (by unfold scG; rw [if_pos (by omega)]; exact R)
            | exact k _ (by unfold scG; rw [← hff, if_neg (by omega), if_pos (by omega)]; exact R)
            | exact k _ (by unfold scG; rw [← hff, if_neg (by omega), if_neg (by omega)]; exact R)
        · skip
          refine r_aload_n C dX5_scrubs_113 (i := 0) rfl rfl ?_
          refine r_iload_n C dX5_scrubs_114 (i := 1) rfl rfl ?_
          refine r_iload_n C dX5_scrubs_115 (i := 2) rfl rfl ?_
          refine m_V2 C dX5_scrubs_116 sX5_213 rfl R (Nat.le_of_ble_eq_true rfl) (C_X5_drops R (bd_up0 B (by decide)) hn0 hn1 (by omega) (by rw [up_ne (by decide)]; omega) (fun h R => ?_))
          refine r_ret C dX5_scrubs_119 rfl ?_
          first
            | exact k _ (by unfold scG; rw [if_pos (by omega)]; exact R)
            | exact k _ (by unfold scG; rw [← hff, if_neg (by omega), if_pos (by omega)]; exact R)
            | exact k _ (by unfold scG; rw [← hff, if_neg (by omega), if_neg (by omega)]; exact R)
    · skip
      have hP : 0 < g 11 0 := by omega
      have m0 := Int.emod_nonneg i (show g 11 0 ≠ 0 by omega); have m1 := Int.emod_lt_of_pos i hP
      have hb := sc_b g n i hP
      refine r_iload_n C dX5_scrubs_14 (i := 2) rfl rfl ?_
      refine r_iconst C dX5_scrubs_15 ?_
      refine r_ic_ne C dX5_scrubs_16 (t := 88) (by decide) (by first | assumption | exact R.rg _ _ | exact rg _ _ | (unfold inR; omega)) (by first | assumption | exact R.rg _ _ | exact rg _ _ | (unfold inR; omega)) (fun c16 => ?_) (fun c16 => ?_)
      · skip
        have hb2 := hb.resolve_left (fun z => by have z1 := z.1; omega)
        have hff : f = scI g n (2 * g 11 0) := by rw [hb2.2.2 _ hi1, hf]
        have hfb : f = -1 ∨ (0 ≤ f ∧ f < g 11 0) := by omega
        refine r_iload_n C dX5_scrubs_88 (i := 2) rfl rfl ?_
        refine r_iconst C dX5_scrubs_89 ?_
        refine r_ic_eq C dX5_scrubs_90 (t := 119) (by decide) (by first | assumption | exact R.rg _ _ | exact rg _ _ | (unfold inR; omega)) (by first | assumption | exact R.rg _ _ | exact rg _ _ | (unfold inR; omega)) (fun c90 => ?_) (fun c90 => ?_)
        · skip
          refine r_ret C dX5_scrubs_119 rfl ?_
          first
            | exact k _ (by unfold scG; rw [if_pos (by omega)]; exact R)
            | exact k _ (by unfold scG; rw [← hff, if_neg (by omega), if_pos (by omega)]; exact R)
            | exact k _ (by unfold scG; rw [← hff, if_neg (by omega), if_neg (by omega)]; exact R)
        · skip
          refine r_aload_n C dX5_scrubs_93 (i := 0) rfl rfl ?_
          refine m_getA C dX5_scrubs_94 fX5_30 R (by decide) rfl ?_
          refine r_iload_n C dX5_scrubs_97 (i := 1) rfl rfl ?_
          refine r_iload_n C dX5_scrubs_98 (i := 2) rfl rfl ?_
          refine m_iast C dX5_scrubs_99 R (N := 8) rfl (by decide) rfl (by omega) (by omega) (by omega) (by first | assumption | exact R.rg _ _ | exact rg _ _ | (unfold inR; omega)) (fun h R => ?_)
          refine r_aload_n C dX5_scrubs_100 (i := 0) rfl rfl ?_
          refine m_getA C dX5_scrubs_101 fX5_60 R (by decide) rfl ?_
          refine r_iload_n C dX5_scrubs_104 (i := 1) rfl rfl ?_
          refine r_iload_n C dX5_scrubs_105 (i := 2) rfl rfl ?_
          refine r_S2 C dX5_scrubs_106 sX5_104 (Nat.le_of_ble_eq_true rfl) (C_X5_at ?_)
          refine m_iald C dX5_scrubs_109 R (N := 480) rfl (by decide) rfl (by omega) (by omega) (by omega) ?_
          rw [up_ne (by decide)]
          refine r_if_le C dX5_scrubs_110 (t := 119) (by decide) (by first | assumption | exact R.rg _ _ | exact rg _ _ | (unfold inR; omega)) (fun c110 => ?_) (fun c110 => ?_)
          · skip
            refine r_ret C dX5_scrubs_119 rfl ?_
            first
              | exact k _ (by unfold scG; rw [if_pos (by omega)]; exact R)
              | exact k _ (by unfold scG; rw [← hff, if_neg (by omega), if_pos (by omega)]; exact R)
              | exact k _ (by unfold scG; rw [← hff, if_neg (by omega), if_neg (by omega)]; exact R)
          · skip
            refine r_aload_n C dX5_scrubs_113 (i := 0) rfl rfl ?_
            refine r_iload_n C dX5_scrubs_114 (i := 1) rfl rfl ?_
            refine r_iload_n C dX5_scrubs_115 (i := 2) rfl rfl ?_
            refine m_V2 C dX5_scrubs_116 sX5_213 rfl R (Nat.le_of_ble_eq_true rfl) (C_X5_drops R (bd_up0 B (by decide)) hn0 hn1 (by omega) (by rw [up_ne (by decide)]; omega) (fun h R => ?_))
            refine r_ret C dX5_scrubs_119 rfl ?_
            first
              | exact k _ (by unfold scG; rw [if_pos (by omega)]; exact R)
              | exact k _ (by unfold scG; rw [← hff, if_neg (by omega), if_pos (by omega)]; exact R)
              | exact k _ (by unfold scG; rw [← hff, if_neg (by omega), if_neg (by omega)]; exact R)
      · skip
        refine r_iload_n C dX5_scrubs_19 (i := 3) rfl rfl ?_
        refine r_aload_n C dX5_scrubs_20 (i := 0) rfl rfl ?_
        refine m_get0 C dX5_scrubs_21 fX5_85 R rfl rfl ?_
        refine r_ic_ge C dX5_scrubs_24 (t := 45) (by decide) (by first | assumption | exact R.rg _ _ | exact rg _ _ | (unfold inR; omega)) (by first | assumption | exact R.rg _ _ | exact rg _ _ | (unfold inR; omega)) (fun c24 => ?_) (fun c24 => ?_)
        · skip
          refine r_iconst C dX5_scrubs_45 ?_
          refine r_istore C dX5_scrubs_46 (Nat.le_of_ble_eq_true rfl) ?_
          dsimp only [List.set]
          refine r_iload C dX5_scrubs_48 rfl ?_
          refine r_if_eq C dX5_scrubs_50 (t := 80) (by decide) (by first | assumption | exact R.rg _ _ | exact rg _ _ | (unfold inR; omega)) (fun c50 => ?_) (fun c50 => ?_)
          · skip
            exact absurd c50 (by decide)
          · skip
            refine r_aload_n C dX5_scrubs_53 (i := 0) rfl rfl ?_
            refine m_getA C dX5_scrubs_54 fX5_51 R (by decide) rfl ?_
            refine r_iload_n C dX5_scrubs_57 (i := 1) rfl rfl ?_
            refine r_iload_n C dX5_scrubs_58 (i := 3) rfl rfl ?_
            refine r_aload_n C dX5_scrubs_59 (i := 0) rfl rfl ?_
            refine m_get0 C dX5_scrubs_60 fX5_85 R rfl rfl ?_
            refine r_irem C dX5_scrubs_63 (by omega) (by omega) (by omega) (by omega) ?_
            refine r_S2 C dX5_scrubs_64 sX5_104 (Nat.le_of_ble_eq_true rfl) (C_X5_at ?_)
            refine m_iald C dX5_scrubs_67 R (N := 480) rfl (by decide) rfl (by omega) (by omega) (by omega) ?_
            refine r_if_le C dX5_scrubs_68 (t := 80) (by decide) (by first | assumption | exact R.rg _ _ | exact rg _ _ | (unfold inR; omega)) (fun c68 => ?_) (fun c68 => ?_)
            · skip
              refine r_iconst C dX5_scrubs_80 ?_
              refine r_istore_n C dX5_scrubs_81 (i := 2) rfl (Nat.le_of_ble_eq_true rfl) ?_
              dsimp only [List.set]
              refine r_iinc C dX5_scrubs_82 rfl ?_
              dsimp only [List.set]
              refine r_goto C dX5_scrubs_85 (t := 4) (by decide) ?_
              first
                | exact ih _ _ _ (by omega) (by omega) (by omega) (by rw [sc_s hP hi0 (by omega), if_pos (show scC g n i = true from decide_eq_true ⟨fun z => by omega, by omega⟩)])
                | exact ih _ _ _ (by omega) (by omega) (by omega) (by rw [sc_s hP hi0 (by omega), if_neg (show ¬ scC g n i = true from fun z => by have z1 := (of_decide_eq_true z).2; omega)])
                | exact ih _ _ _ (by omega) (by omega) (by omega) (by rw [sc_s hP hi0 (by omega), if_neg (show ¬ scC g n i = true from fun z => by have z1 := (of_decide_eq_true z).1 (by omega); omega)])
            · skip
              refine r_iload_n C dX5_scrubs_71 (i := 3) rfl rfl ?_
              refine r_aload_n C dX5_scrubs_72 (i := 0) rfl rfl ?_
              refine m_get0 C dX5_scrubs_73 fX5_85 R rfl rfl ?_
              refine r_irem C dX5_scrubs_76 (by omega) (by omega) (by omega) (by omega) ?_
              refine r_goto C dX5_scrubs_77 (t := 81) (by decide) ?_
              refine r_istore_n C dX5_scrubs_81 (i := 2) rfl (Nat.le_of_ble_eq_true rfl) ?_
              dsimp only [List.set]
              refine r_iinc C dX5_scrubs_82 rfl ?_
              dsimp only [List.set]
              refine r_goto C dX5_scrubs_85 (t := 4) (by decide) ?_
              first
                | exact ih _ _ _ (by omega) (by omega) (by omega) (by rw [sc_s hP hi0 (by omega), if_pos (show scC g n i = true from decide_eq_true ⟨fun z => by omega, by omega⟩)])
                | exact ih _ _ _ (by omega) (by omega) (by omega) (by rw [sc_s hP hi0 (by omega), if_neg (show ¬ scC g n i = true from fun z => by have z1 := (of_decide_eq_true z).2; omega)])
                | exact ih _ _ _ (by omega) (by omega) (by omega) (by rw [sc_s hP hi0 (by omega), if_neg (show ¬ scC g n i = true from fun z => by have z1 := (of_decide_eq_true z).1 (by omega); omega)])
        · skip
          refine r_iload_n C dX5_scrubs_27 (i := 3) rfl rfl ?_
          refine r_aload_n C dX5_scrubs_28 (i := 0) rfl rfl ?_
          refine m_getA C dX5_scrubs_29 fX5_30 R (by decide) rfl ?_
          refine r_iload_n C dX5_scrubs_32 (i := 1) rfl rfl ?_
          refine m_iald C dX5_scrubs_33 R (N := 8) rfl (by decide) rfl (by omega) (by omega) (by omega) ?_
          refine r_ic_le C dX5_scrubs_34 (t := 41) (by decide) (by first | assumption | exact R.rg _ _ | exact rg _ _ | (unfold inR; omega)) (by first | assumption | exact R.rg _ _ | exact rg _ _ | (unfold inR; omega)) (fun c34 => ?_) (fun c34 => ?_)
          · skip
            refine r_iconst C dX5_scrubs_41 ?_
            refine r_goto C dX5_scrubs_42 (t := 46) (by decide) ?_
            refine r_istore C dX5_scrubs_46 (Nat.le_of_ble_eq_true rfl) ?_
            dsimp only [List.set]
            refine r_iload C dX5_scrubs_48 rfl ?_
            refine r_if_eq C dX5_scrubs_50 (t := 80) (by decide) (by first | assumption | exact R.rg _ _ | exact rg _ _ | (unfold inR; omega)) (fun c50 => ?_) (fun c50 => ?_)
            · skip
              refine r_iconst C dX5_scrubs_80 ?_
              refine r_istore_n C dX5_scrubs_81 (i := 2) rfl (Nat.le_of_ble_eq_true rfl) ?_
              dsimp only [List.set]
              refine r_iinc C dX5_scrubs_82 rfl ?_
              dsimp only [List.set]
              refine r_goto C dX5_scrubs_85 (t := 4) (by decide) ?_
              first
                | exact ih _ _ _ (by omega) (by omega) (by omega) (by rw [sc_s hP hi0 (by omega), if_pos (show scC g n i = true from decide_eq_true ⟨fun z => by omega, by omega⟩)])
                | exact ih _ _ _ (by omega) (by omega) (by omega) (by rw [sc_s hP hi0 (by omega), if_neg (show ¬ scC g n i = true from fun z => by have z1 := (of_decide_eq_true z).2; omega)])
                | exact ih _ _ _ (by omega) (by omega) (by omega) (by rw [sc_s hP hi0 (by omega), if_neg (show ¬ scC g n i = true from fun z => by have z1 := (of_decide_eq_true z).1 (by omega); omega)])
            · skip
              exact absurd c50 (by decide)
          · skip
            refine r_iconst C dX5_scrubs_37 ?_
            refine r_goto C dX5_scrubs_38 (t := 46) (by decide) ?_
            refine r_istore C dX5_scrubs_46 (Nat.le_of_ble_eq_true rfl) ?_
            dsimp only [List.set]
            refine r_iload C dX5_scrubs_48 rfl ?_
            refine r_if_eq C dX5_scrubs_50 (t := 80) (by decide) (by first | assumption | exact R.rg _ _ | exact rg _ _ | (unfold inR; omega)) (fun c50 => ?_) (fun c50 => ?_)
            · skip
              exact absurd c50 (by decide)
            · skip
              refine r_aload_n C dX5_scrubs_53 (i := 0) rfl rfl ?_
              refine m_getA C dX5_scrubs_54 fX5_51 R (by decide) rfl ?_
              refine r_iload_n C dX5_scrubs_57 (i := 1) rfl rfl ?_
              refine r_iload_n C dX5_scrubs_58 (i := 3) rfl rfl ?_
              refine r_aload_n C dX5_scrubs_59 (i := 0) rfl rfl ?_
              refine m_get0 C dX5_scrubs_60 fX5_85 R rfl rfl ?_
              refine r_irem C dX5_scrubs_63 (by omega) (by omega) (by omega) (by omega) ?_
              refine r_S2 C dX5_scrubs_64 sX5_104 (Nat.le_of_ble_eq_true rfl) (C_X5_at ?_)
              refine m_iald C dX5_scrubs_67 R (N := 480) rfl (by decide) rfl (by omega) (by omega) (by omega) ?_
              refine r_if_le C dX5_scrubs_68 (t := 80) (by decide) (by first | assumption | exact R.rg _ _ | exact rg _ _ | (unfold inR; omega)) (fun c68 => ?_) (fun c68 => ?_)
              · skip
                refine r_iconst C dX5_scrubs_80 ?_
                refine r_istore_n C dX5_scrubs_81 (i := 2) rfl (Nat.le_of_ble_eq_true rfl) ?_
                dsimp only [List.set]
                refine r_iinc C dX5_scrubs_82 rfl ?_
                dsimp only [List.set]
                refine r_goto C dX5_scrubs_85 (t := 4) (by decide) ?_
                first
                  | exact ih _ _ _ (by omega) (by omega) (by omega) (by rw [sc_s hP hi0 (by omega), if_pos (show scC g n i = true from decide_eq_true ⟨fun z => by omega, by omega⟩)])
                  | exact ih _ _ _ (by omega) (by omega) (by omega) (by rw [sc_s hP hi0 (by omega), if_neg (show ¬ scC g n i = true from fun z => by have z1 := (of_decide_eq_true z).2; omega)])
                  | exact ih _ _ _ (by omega) (by omega) (by omega) (by rw [sc_s hP hi0 (by omega), if_neg (show ¬ scC g n i = true from fun z => by have z1 := (of_decide_eq_true z).1 (by omega); omega)])
              · skip
                refine r_iload_n C dX5_scrubs_71 (i := 3) rfl rfl ?_
                refine r_aload_n C dX5_scrubs_72 (i := 0) rfl rfl ?_
                refine m_get0 C dX5_scrubs_73 fX5_85 R rfl rfl ?_
                refine r_irem C dX5_scrubs_76 (by omega) (by omega) (by omega) (by omega) ?_
                refine r_goto C dX5_scrubs_77 (t := 81) (by decide) ?_
                refine r_istore_n C dX5_scrubs_81 (i := 2) rfl (Nat.le_of_ble_eq_true rfl) ?_
                dsimp only [List.set]
                refine r_iinc C dX5_scrubs_82 rfl ?_
                dsimp only [List.set]
                refine r_goto C dX5_scrubs_85 (t := 4) (by decide) ?_
                first
                  | exact ih _ _ _ (by omega) (by omega) (by omega) (by rw [sc_s hP hi0 (by omega), if_pos (show scC g n i = true from decide_eq_true ⟨fun z => by omega, by omega⟩)])
                  | exact ih _ _ _ (by omega) (by omega) (by omega) (by rw [sc_s hP hi0 (by omega), if_neg (show ¬ scC g n i = true from fun z => by have z1 := (of_decide_eq_true z).2; omega)])
                  | exact ih _ _ _ (by omega) (by omega) (by omega) (by rw [sc_s hP hi0 (by omega), if_neg (show ¬ scC g n i = true from fun z => by have z1 := (of_decide_eq_true z).1 (by omega); omega)])

