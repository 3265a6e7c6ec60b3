/-! ===== the reference: writing ===== -/
theorem ls_i {g : GT} {p i : Int} (B : BD g) (D : DC g) (hp0 : 0 ≤ p) (hp1 : p < g 11 0) : BD (itrI (lsF p) i g) ∧ DC (itrI (lsF p) i g) ∧ (∀ k, k ≠ 16 ∧ k ≠ 17 → ∀ j, itrI (lsF p) i g k j = g k j) := by
  refine itrI_ind (P := fun s => BD s ∧ DC s ∧ (∀ k, k ≠ 16 ∧ k ≠ 17 → ∀ j, s k j = g k j)) (lsF p) ⟨B, D, fun _ _ _ => rfl⟩ (fun i s h0 h1 S => ?_)
  have e11 := S.2.2 11 (by decide) 0
  unfold lsF
  split
  · exact ⟨bd_fgt S.1 hp0 (by omega) i, dc_fgt S.1 S.2.1 hp0 (by omega) i, fun k hk j => by rw [fgt_ne _ _ _ hk.1 hk.2]; exact S.2.2 k hk j⟩
  · exact S
theorem lh_ne (g : GT) (p i : Int) : ∀ k, k ≠ 18 → ∀ j, itrI (lhF p) i g k j = g k j := by
  refine itrI_ind (P := fun s => ∀ k, k ≠ 18 → ∀ j, s k j = g k j) (lhF p) (fun _ _ _ => rfl) (fun i s h0 h1 S k hk j => ?_)
  unfold lhF
  rw [up_ne hk]
  exact S k hk j

set_option maxRecDepth 100000 in
set_option maxHeartbeats 4000000 in
theorem C_X5_leases {gx : GX} {d : Nat} {Qr : Option AV → Hp → Prop} {Qx : String → Hp → Prop} {q : Nat} {ar : Nat → Nat} {g : GT} {h : Hp} {p : Int} (R : RM q ar g h) (B : BD g) (D : DC g) (hp0 : 0 ≤ p) (hp1 : p < g 11 0) (hv : 0 ≤ g 12 p) (hv1 : g 12 p < 1000000) (ht0 : 0 ≤ g 1 0) (ht1 : g 1 0 ≤ 3000) (k : ∀ h1, RM q ar (lsG g p) h1 → Qr none h1) : aM gx (d + 3) mX5_leases [vr q, vi p] h 0 0 Qr Qx := by
  intro J C
  show J 0 [some (vr q), some (vi p), none] [] h 0 0
  have b2 := B.np; have b1 := B.nn; have bcp := B.cp p hp0 hp1; have rg := R.rg
  refine r_iconst C dX5_leases_0 ?_
  refine r_istore_n C dX5_leases_1 (i := 2) rfl (Nat.le_of_ble_eq_true rfl) ?_
  dsimp only [List.set]
  suffices LOOP : ∀ (m : Nat) (i : Int) (h : Hp), g 4 0 - i < (m : Int) → 0 ≤ i → i ≤ g 4 0 → RM q ar (itrI (lsF p) i g) h → J 2 [some (vr q), some (vi p), some (vi i)] [] h 0 0 by
    exact LOOP ((g 4 0).toNat + 1) 0 _ (by omega) (by omega) (by omega) R
  intro m
  induction m with
  | zero => intro i h hm hi0 hi1 R; exact absurd hm (by omega)
  | succ m ih =>
    intro i h hm hi0 hi1 R
    have S := ls_i (i := i) B D hp0 hp1
    obtain ⟨s, hs⟩ : ∃ s, s = itrI (lsF p) i g := ⟨_, rfl⟩
    rw [← hs] at R S
    have e4 := S.2.2 4 (by decide) 0; have e11 := S.2.2 11 (by decide) 0; have e12 := S.2.2 12 (by decide) p; have e1 := S.2.2 1 (by decide) 0
    have SB := S.1
    have scp := SB.cp p hp0 (by omega)
    have rg := R.rg
    refine r_iload_n C dX5_leases_2 (i := 2) rfl rfl ?_
    refine r_aload_n C dX5_leases_3 (i := 0) rfl rfl ?_
    refine m_get0 C dX5_leases_4 fX5_78 R rfl rfl ?_
    refine r_ic_ge C dX5_leases_7 (t := 31) (by decide) (by first | assumption | exact R.rg _ _ | exact rg _ _ | (unfold inR; omega)) (by first | assumption | exact R.rg _ _ | exact rg _ _ | (unfold inR; omega)) (fun c7 => ?_) (fun c7 => ?_)
    · skip
      have hs1 : s = ls1 g p := by rw [hs, show i = g 4 0 by omega]; rfl
      refine r_aload_n C dX5_leases_31 (i := 0) rfl rfl ?_
      refine m_getA C dX5_leases_32 fX5_33 R (by decide) rfl ?_
      refine r_iload_n C dX5_leases_35 (i := 1) rfl rfl ?_
      refine r_dup2 C dX5_leases_36 rfl rfl ?_
      refine m_iald C dX5_leases_37 R (N := 60) rfl (by decide) rfl (by omega) (by omega) (by omega) ?_
      refine r_iconst C dX5_leases_38 ?_
      refine r_iadd C dX5_leases_39 ?_
      refine m_iast C dX5_leases_40 R (N := 60) rfl (by decide) rfl (by omega) (by omega) (by omega) (by first | assumption | exact R.rg _ _ | exact rg _ _ | (unfold inR; omega)) (fun h R => ?_)
      obtain ⟨s2, hs2⟩ : ∃ s2, s2 = up s 12 p (s 12 p + 1) := ⟨_, rfl⟩
      rw [← hs2] at R
      have hs29 : s2 = ls2 g p := by rw [hs2, hs1]; rfl
      refine r_iconst C dX5_leases_41 ?_
      refine r_istore_n C dX5_leases_42 (i := 2) rfl (Nat.le_of_ble_eq_true rfl) ?_
      dsimp only [List.set]
      suffices LOOP : ∀ (m2 : Nat) (i : Int) (h : Hp), s 16 p - i < (m2 : Int) → 0 ≤ i → i ≤ s 16 p → RM q ar (itrI (lhF p) i s2) h → J 43 [some (vr q), some (vi p), some (vi i)] [] h 0 0 by
        exact LOOP ((s 16 p).toNat + 1) 0 _ (by omega) (by omega) (by omega) R
      intro m2
      induction m2 with
      | zero => intro i h hm2 hi0 hi1 R; exact absurd hm2 (by omega)
      | succ m2 ih2 =>
        intro i h hm2 hi0 hi1 R
        have T := lh_ne s2 p i
        obtain ⟨s3, hs3⟩ : ∃ s3, s3 = itrI (lhF p) i s2 := ⟨_, rfl⟩
        rw [← hs3] at R T
        have f16 : s3 16 p = s 16 p := by rw [T 16 (by decide), hs2, up_ne (by decide)]
        have f17 : ∀ j, s3 17 j = s 17 j := fun j => by rw [T 17 (by decide), hs2, up_ne (by decide)]
        have f1 : s3 1 0 = s 1 0 := by rw [T 1 (by decide), hs2, up_ne (by decide)]
        have rg := R.rg
        refine r_iload_n C dX5_leases_43 (i := 2) rfl rfl ?_
        refine r_aload_n C dX5_leases_44 (i := 0) rfl rfl ?_
        refine m_getA C dX5_leases_45 fX5_45 R (by decide) rfl ?_
        refine r_iload_n C dX5_leases_48 (i := 1) rfl rfl ?_
        refine m_iald C dX5_leases_49 R (N := 60) rfl (by decide) rfl (by omega) (by omega) (by omega) ?_
        refine r_ic_ge C dX5_leases_50 (t := 85) (by decide) (by first | assumption | exact R.rg _ _ | exact rg _ _ | (unfold inR; omega)) (by first | assumption | exact R.rg _ _ | exact rg _ _ | (unfold inR; omega)) (fun c50 => ?_) (fun c50 => ?_)
        · skip
          refine r_aload_n C dX5_leases_85 (i := 0) rfl rfl ?_
          refine m_getA C dX5_leases_86 fX5_36 R (by decide) rfl ?_
          refine r_iload_n C dX5_leases_89 (i := 1) rfl rfl ?_
          refine r_aload_n C dX5_leases_90 (i := 0) rfl rfl ?_
          refine m_getA C dX5_leases_91 fX5_48 R (by decide) rfl ?_
          refine r_bipush C dX5_leases_94 (by decide) ?_
          refine r_iload_n C dX5_leases_96 (i := 1) rfl rfl ?_
          refine r_imul C dX5_leases_97 ?_
          refine m_iald C dX5_leases_98 R (N := 480) rfl (by decide) rfl (by omega) (by omega) (by omega) ?_
          refine m_iast C dX5_leases_99 R (N := 60) rfl (by decide) rfl (by omega) (by omega) (by omega) (by first | assumption | exact R.rg _ _ | exact rg _ _ | (unfold inR; omega)) (fun h R => ?_)
          refine r_aload_n C dX5_leases_100 (i := 0) rfl rfl ?_
          refine m_getA C dX5_leases_101 fX5_39 R (by decide) rfl ?_
          refine r_iload_n C dX5_leases_104 (i := 1) rfl rfl ?_
          refine r_aload_n C dX5_leases_105 (i := 0) rfl rfl ?_
          refine m_get0 C dX5_leases_106 fX5_98 R rfl rfl ?_
          try simp (decide := true) only [up_ne]
          refine r_bipush C dX5_leases_109 (by decide) ?_
          refine r_iadd C dX5_leases_111 ?_
          refine m_iast C dX5_leases_112 R (N := 60) rfl (by decide) rfl (by omega) (by omega) (by omega) (by first | assumption | exact R.rg _ _ | exact rg _ _ | (unfold inR; omega)) (fun h R => ?_)
          refine r_ret C dX5_leases_113 rfl ?_
          exact k _ (by have z : s3 = ls3 g p := by { rw [hs3, show i = s 16 p by omega, hs29]; unfold ls3; congr 1; rw [← hs29, hs2, up_ne (by decide)] }; unfold lsG; rw [← z]; exact R)
        · skip
          have bcy := SB.cy p i hp0 (by omega) hi0 (by omega); rw [← f17] at bcy
          refine r_aload_n C dX5_leases_53 (i := 0) rfl rfl ?_
          refine m_getA C dX5_leases_54 fX5_51 R (by decide) rfl ?_
          refine r_aload_n C dX5_leases_57 (i := 0) rfl rfl ?_
          refine m_getA C dX5_leases_58 fX5_48 R (by decide) rfl ?_
          refine r_bipush C dX5_leases_61 (by decide) ?_
          refine r_iload_n C dX5_leases_63 (i := 1) rfl rfl ?_
          refine r_imul C dX5_leases_64 ?_
          refine r_iload_n C dX5_leases_65 (i := 2) rfl rfl ?_
          refine r_iadd C dX5_leases_66 ?_
          refine m_iald C dX5_leases_67 R (N := 480) rfl (by decide) rfl (by omega) (by omega) (by omega) ?_
          refine r_iload_n C dX5_leases_68 (i := 1) rfl rfl ?_
          refine r_S2 C dX5_leases_69 sX5_104 (Nat.le_of_ble_eq_true rfl) (C_X5_at ?_)
          refine r_aload_n C dX5_leases_72 (i := 0) rfl rfl ?_
          refine m_getA C dX5_leases_73 fX5_33 R (by decide) rfl ?_
          refine r_iload_n C dX5_leases_76 (i := 1) rfl rfl ?_
          refine m_iald C dX5_leases_77 R (N := 60) rfl (by decide) rfl (by omega) (by omega) (by omega) ?_
          refine m_iast C dX5_leases_78 R (N := 480) rfl (by decide) rfl (by omega) (by omega) (by omega) (by first | assumption | exact R.rg _ _ | exact rg _ _ | (unfold inR; omega)) (fun h R => ?_)
          refine r_iinc C dX5_leases_79 rfl ?_
          dsimp only [List.set]
          refine r_goto C dX5_leases_82 (t := 43) (by decide) ?_
          exact ih2 _ _ (by omega) (by omega) (by omega) (by rw [itrI_s _ _ hi0, ← hs3]; exact R)
    · skip
      refine r_aload_n C dX5_leases_10 (i := 0) rfl rfl ?_
      refine m_getA C dX5_leases_11 fX5_20 R (by decide) rfl ?_
      refine r_iload_n C dX5_leases_14 (i := 2) rfl rfl ?_
      refine m_zald C dX5_leases_15 R (N := 8) rfl (by decide) rfl (by omega) (by omega) (by omega) ?_
      refine r_if_ne C dX5_leases_16 (t := 25) (by decide) (by first | assumption | exact R.rg _ _ | exact rg _ _ | (unfold inR; omega)) (fun c16 => ?_) (fun c16 => ?_)
      · skip
        refine r_iinc C dX5_leases_25 rfl ?_
        dsimp only [List.set]
        refine r_goto C dX5_leases_28 (t := 2) (by decide) ?_
        first
          | exact ih _ _ (by omega) (by omega) (by omega) (by rw [itrI_s _ _ hi0, ← hs]; unfold lsF; rw [if_pos c16]; exact R)
          | exact ih _ _ (by omega) (by omega) (by omega) (by rw [itrI_s _ _ hi0, ← hs]; unfold lsF; rw [if_neg c16]; exact R)
      · skip
        refine r_aload_n C dX5_leases_19 (i := 0) rfl rfl ?_
        refine r_iload_n C dX5_leases_20 (i := 1) rfl rfl ?_
        refine r_iload_n C dX5_leases_21 (i := 2) rfl rfl ?_
        refine m_V2 C dX5_leases_22 sX5_115 rfl R (Nat.le_of_ble_eq_true rfl) (C_X5_forgets R SB hp0 (by omega) (by unfold inR; omega) (fun h R => ?_))
        refine r_iinc C dX5_leases_25 rfl ?_
        dsimp only [List.set]
        refine r_goto C dX5_leases_28 (t := 2) (by decide) ?_
        first
          | exact ih _ _ (by omega) (by omega) (by omega) (by rw [itrI_s _ _ hi0, ← hs]; unfold lsF; rw [if_pos c16]; exact R)
          | exact ih _ _ (by omega) (by omega) (by omega) (by rw [itrI_s _ _ hi0, ← hs]; unfold lsF; rw [if_neg c16]; exact R)

theorem fil_ne (g : GT) (a b : Int) {k : Nat} (h : k ≠ 20) (j : Int) : filG g a b k j = g k j := by
  unfold filG
  rw [if_neg (fun z => h z.1)]

set_option maxRecDepth 100000 in
set_option maxHeartbeats 4000000 in
theorem C_X5_writes {gx : GX} {d : Nat} {Qr : Option AV → Hp → Prop} {Qx : String → Hp → Prop} {q : Nat} {ar : Nat → Nat} {g : GT} {h : Hp} {n p c x : Int} (R : RM q ar g h) (hn0 : 0 ≤ n) (hn1 : n < 8) (hp0 : 0 ≤ p) (hp1 : p < 60) (hc0 : 0 ≤ c) (hc1 : c < 4) (hl0 : 0 ≤ g 19 (60 * n + p)) (hl1 : g 19 (60 * n + p) ≤ 4) (hx : inR x) (k : ∀ h1, RM q ar (wrG g n p c x) h1 → Qr none h1) : aM gx (d + 2) mX5_writes [vr q, vi n, vi p, vi c, vi x] h 0 0 Qr Qx := by
  intro J C
  show J 0 [some (vr q), some (vi n), some (vi p), some (vi c), some (vi x), none, none] [] h 0 0
  have rg := R.rg
  have inRm : inR (-1) := by unfold inR; omega
  refine r_iload_n C dX5_writes_0 (i := 1) rfl rfl ?_
  refine r_iload_n C dX5_writes_1 (i := 2) rfl rfl ?_
  refine r_S2 C dX5_writes_2 sX5_104 (Nat.le_of_ble_eq_true rfl) (C_X5_at ?_)
  refine r_istore C dX5_writes_5 (Nat.le_of_ble_eq_true rfl) ?_
  dsimp only [List.set]
  refine r_aload_n C dX5_writes_7 (i := 0) rfl rfl ?_
  refine m_getA C dX5_writes_8 fX5_54 R (by decide) rfl ?_
  refine r_iload C dX5_writes_11 rfl ?_
  refine m_iald C dX5_writes_13 R (N := 480) rfl (by decide) rfl (by omega) (by omega) (by omega) ?_
  refine r_istore C dX5_writes_14 (Nat.le_of_ble_eq_true rfl) ?_
  dsimp only [List.set]
  suffices LOOP : ∀ (m : Nat) (i : Int) (h : Hp), c + 5 - i < (m : Int) → g 19 (60 * n + p) ≤ i → (i ≤ c ∨ i = g 19 (60 * n + p)) → RM q ar (filG g (4 * (60 * n + p) + g 19 (60 * n + p)) (4 * (60 * n + p) + i)) h → J 16 [some (vr q), some (vi n), some (vi p), some (vi c), some (vi x), some (vi (60 * n + p)), some (vi i)] [] h 0 0 by
    exact LOOP ((c + 5).toNat + 1) (g 19 (60 * n + p)) _ (by omega) (by omega) (by omega) (by rw [filG_0 g (by omega)]; exact R)
  intro m
  induction m with
  | zero => intro i h hm hi0 hi1 R; exact absurd hm (by omega)
  | succ m ih =>
    intro i h hm hi0 hi1 R
    refine r_iload C dX5_writes_16 rfl ?_
    refine r_iload_n C dX5_writes_18 (i := 3) rfl rfl ?_
    refine r_ic_ge C dX5_writes_19 (t := 41) (by decide) (by first | assumption | exact R.rg _ _ | exact rg _ _ | (unfold inR; omega)) (by first | assumption | exact R.rg _ _ | exact rg _ _ | (unfold inR; omega)) (fun c19 => ?_) (fun c19 => ?_)
    · skip
      have hfi : filG g (4 * (60 * n + p) + g 19 (60 * n + p)) (4 * (60 * n + p) + i) = filG g (4 * (60 * n + p) + g 19 (60 * n + p)) (4 * (60 * n + p) + c) := by
        rcases hi1 with z | z
        · rw [show i = c by omega]
        · rw [filG_0 g (by omega), filG_0 g (by omega)]
      rw [hfi] at R
      have f19 := fil_ne g (4 * (60 * n + p) + g 19 (60 * n + p)) (4 * (60 * n + p) + c) (k := 19) (by decide) (60 * n + p)
      have f21 := fil_ne g (4 * (60 * n + p) + g 19 (60 * n + p)) (4 * (60 * n + p) + c) (k := 21) (by decide) (60 * n + p)
      refine r_aload_n C dX5_writes_41 (i := 0) rfl rfl ?_
      refine m_getA C dX5_writes_42 fX5_54 R (by decide) rfl ?_
      refine r_iload C dX5_writes_45 rfl ?_
      refine r_aload_n C dX5_writes_47 (i := 0) rfl rfl ?_
      refine m_getA C dX5_writes_48 fX5_54 R (by decide) rfl ?_
      refine r_iload C dX5_writes_51 rfl ?_
      refine m_iald C dX5_writes_53 R (N := 480) rfl (by decide) rfl (by omega) (by omega) (by omega) ?_
      rw [f19]
      refine r_iload_n C dX5_writes_54 (i := 3) rfl rfl ?_
      refine r_ic_le C dX5_writes_55 (t := 68) (by decide) (by first | assumption | exact R.rg _ _ | exact rg _ _ | (unfold inR; omega)) (by first | assumption | exact R.rg _ _ | exact rg _ _ | (unfold inR; omega)) (fun c55 => ?_) (fun c55 => ?_)
      · skip
        refine r_iload_n C dX5_writes_68 (i := 3) rfl rfl ?_
        refine r_iconst C dX5_writes_69 ?_
        refine r_iadd C dX5_writes_70 ?_
        refine m_iast C dX5_writes_71 R (N := 480) rfl (by decide) rfl (by omega) (by omega) (by omega) (by first | assumption | exact R.rg _ _ | exact rg _ _ | (unfold inR; omega)) (fun h R => ?_)
        refine r_aload_n C dX5_writes_72 (i := 0) rfl rfl ?_
        refine m_getA C dX5_writes_73 fX5_57 R (by decide) rfl ?_
        refine r_iconst C dX5_writes_76 ?_
        refine r_iload C dX5_writes_77 rfl ?_
        refine r_imul C dX5_writes_79 ?_
        refine r_iload_n C dX5_writes_80 (i := 3) rfl rfl ?_
        refine r_iadd C dX5_writes_81 ?_
        refine r_iload C dX5_writes_82 rfl ?_
        refine m_iast C dX5_writes_84 R (N := 1920) rfl (by decide) rfl (by omega) (by omega) (by omega) (by first | assumption | exact R.rg _ _ | exact rg _ _ | (unfold inR; omega)) (fun h R => ?_)
        refine r_aload_n C dX5_writes_85 (i := 0) rfl rfl ?_
        refine m_getA C dX5_writes_86 fX5_60 R (by decide) rfl ?_
        refine r_iload C dX5_writes_89 rfl ?_
        refine r_dup2 C dX5_writes_91 rfl rfl ?_
        refine m_iald C dX5_writes_92 R (N := 480) rfl (by decide) rfl (by omega) (by omega) (by omega) ?_
        try simp (decide := true) only [up_ne]
        rw [f21]
        refine r_iconst C dX5_writes_93 ?_
        refine r_iload_n C dX5_writes_94 (i := 3) rfl rfl ?_
        refine r_ishl C dX5_writes_95 ?_
        refine r_iconst C dX5_writes_96 ?_
        refine r_ixor C dX5_writes_97 ?_
        refine r_iand C dX5_writes_98 ?_
        refine m_iast C dX5_writes_99 R (N := 480) rfl (by decide) rfl (by omega) (by omega) (by omega) (inR_toInt _) (fun h R => ?_)
        refine r_ret C dX5_writes_100 rfl ?_
        exact k _ (by unfold wrG; first | (rw [if_pos (by omega)]; exact R) | (rw [if_neg (by omega)]; exact R))
      · skip
        refine r_aload_n C dX5_writes_58 (i := 0) rfl rfl ?_
        refine m_getA C dX5_writes_59 fX5_54 R (by decide) rfl ?_
        refine r_iload C dX5_writes_62 rfl ?_
        refine m_iald C dX5_writes_64 R (N := 480) rfl (by decide) rfl (by omega) (by omega) (by omega) ?_
        rw [f19]
        refine r_goto C dX5_writes_65 (t := 71) (by decide) ?_
        refine m_iast C dX5_writes_71 R (N := 480) rfl (by decide) rfl (by omega) (by omega) (by omega) (by first | assumption | exact R.rg _ _ | exact rg _ _ | (unfold inR; omega)) (fun h R => ?_)
        refine r_aload_n C dX5_writes_72 (i := 0) rfl rfl ?_
        refine m_getA C dX5_writes_73 fX5_57 R (by decide) rfl ?_
        refine r_iconst C dX5_writes_76 ?_
        refine r_iload C dX5_writes_77 rfl ?_
        refine r_imul C dX5_writes_79 ?_
        refine r_iload_n C dX5_writes_80 (i := 3) rfl rfl ?_
        refine r_iadd C dX5_writes_81 ?_
        refine r_iload C dX5_writes_82 rfl ?_
        refine m_iast C dX5_writes_84 R (N := 1920) rfl (by decide) rfl (by omega) (by omega) (by omega) (by first | assumption | exact R.rg _ _ | exact rg _ _ | (unfold inR; omega)) (fun h R => ?_)
        refine r_aload_n C dX5_writes_85 (i := 0) rfl rfl ?_
        refine m_getA C dX5_writes_86 fX5_60 R (by decide) rfl ?_
        refine r_iload C dX5_writes_89 rfl ?_
        refine r_dup2 C dX5_writes_91 rfl rfl ?_
        refine m_iald C dX5_writes_92 R (N := 480) rfl (by decide) rfl (by omega) (by omega) (by omega) ?_
        try simp (decide := true) only [up_ne]
        rw [f21]
        refine r_iconst C dX5_writes_93 ?_
        refine r_iload_n C dX5_writes_94 (i := 3) rfl rfl ?_
        refine r_ishl C dX5_writes_95 ?_
        refine r_iconst C dX5_writes_96 ?_
        refine r_ixor C dX5_writes_97 ?_
        refine r_iand C dX5_writes_98 ?_
        refine m_iast C dX5_writes_99 R (N := 480) rfl (by decide) rfl (by omega) (by omega) (by omega) (inR_toInt _) (fun h R => ?_)
        refine r_ret C dX5_writes_100 rfl ?_
        exact k _ (by unfold wrG; first | (rw [if_pos (by omega)]; exact R) | (rw [if_neg (by omega)]; exact R))
    · skip
      refine r_aload_n C dX5_writes_22 (i := 0) rfl rfl ?_
      refine m_getA C dX5_writes_23 fX5_57 R (by decide) rfl ?_
      refine r_iconst C dX5_writes_26 ?_
      refine r_iload C dX5_writes_27 rfl ?_
      refine r_imul C dX5_writes_29 ?_
      refine r_iload C dX5_writes_30 rfl ?_
      refine r_iadd C dX5_writes_32 ?_
      refine r_iconst C dX5_writes_33 ?_
      refine m_iast C dX5_writes_34 R (N := 1920) rfl (by decide) rfl (by omega) (by omega) (by omega) (by first | assumption | exact R.rg _ _ | exact rg _ _ | (unfold inR; omega)) (fun h R => ?_)
      refine r_iinc C dX5_writes_35 rfl ?_
      dsimp only [List.set]
      refine r_goto C dX5_writes_38 (t := 16) (by decide) ?_
      exact ih _ _ (by omega) (by omega) (by omega) (by rw [show 4 * (60 * n + p) + (i + 1) = 4 * (60 * n + p) + i + 1 by omega, ← filG_s g (show 4 * (60 * n + p) + g 19 (60 * n + p) ≤ 4 * (60 * n + p) + i by omega)]; exact R)

def rwG (g : GT) (f : Int) : Int := if g 23 f = 2 then 0 else g 25 f

set_option maxRecDepth 100000 in
set_option maxHeartbeats 4000000 in
theorem C_X5_rowsOf {gx : GX} {d : Nat} {Qr : Option AV → Hp → Prop} {Qx : String → Hp → Prop} {q : Nat} {ar : Nat → Nat} {g : GT} {h : Hp} {f : Int} (R : RM q ar g h) (B : BD g) (hf0 : 0 ≤ f) (hf1 : f < g 22 0) (k : Qr (some (vi (rwG g f))) h) : aM gx (d + 1) mX5_rowsOf [vr q, vi f] h 0 0 Qr Qx := by
  intro J C
  show J 0 [some (vr q), some (vi f)] [] h 0 0
  have b3 := B.nf; have brw := B.rw f hf0 hf1; have rg := R.rg
  refine r_aload_n C dX5_rowsOf_0 (i := 0) rfl rfl ?_
  refine m_getA C dX5_rowsOf_1 fX5_63 R (by decide) rfl ?_
  refine r_iload_n C dX5_rowsOf_4 (i := 1) rfl rfl ?_
  refine m_iald C dX5_rowsOf_5 R (N := 20) rfl (by decide) rfl (by omega) (by omega) (by omega) ?_
  refine r_iconst C dX5_rowsOf_6 ?_
  refine r_ic_ne C dX5_rowsOf_7 (t := 14) (by decide) (by first | assumption | exact R.rg _ _ | exact rg _ _ | (unfold inR; omega)) (by first | assumption | exact R.rg _ _ | exact rg _ _ | (unfold inR; omega)) (fun c7 => ?_) (fun c7 => ?_)
  · skip
    refine r_aload_n C dX5_rowsOf_14 (i := 0) rfl rfl ?_
    refine m_getA C dX5_rowsOf_15 fX5_69 R (by decide) rfl ?_
    refine r_iload_n C dX5_rowsOf_18 (i := 1) rfl rfl ?_
    refine m_iald C dX5_rowsOf_19 R (N := 20) rfl (by decide) rfl (by omega) (by omega) (by omega) ?_
    refine r_iret C dX5_rowsOf_20 (Or.inl rfl) ?_
    first | (rw [show rwG g f = 0 from if_pos c7] at k; exact k) | (rw [show rwG g f = g 25 f from if_neg c7] at k; exact k)
  · skip
    refine r_iconst C dX5_rowsOf_10 ?_
    refine r_goto C dX5_rowsOf_11 (t := 20) (by decide) ?_
    refine r_iret C dX5_rowsOf_20 (Or.inl rfl) ?_
    first | (rw [show rwG g f = 0 from if_pos c7] at k; exact k) | (rw [show rwG g f = g 25 f from if_neg c7] at k; exact k)

set_option maxRecDepth 100000 in
set_option maxHeartbeats 4000000 in
theorem C_X5_nearest {gx : GX} {d : Nat} {Qr : Option AV → Hp → Prop} {Qx : String → Hp → Prop} {q : Nat} {ar : Nat → Nat} {g : GT} {h : Hp} {p r : Int} (R : RM q ar g h) (B : BD g) (hp0 : 0 ≤ p) (hp1 : p < g 11 0) (hr : inR r) (k : Qr (some (vi (nrG g p r))) h) : aM gx (d + 4) mX5_nearest [vr q, vi p, vi r] h 0 0 Qr Qx := by
  intro J C
  show J 0 [some (vr q), some (vi p), some (vi r), none, none] [] h 0 0
  have b2 := B.np; have b1 := B.nn; have bcp := B.cp p hp0 hp1; have rg := R.rg
  refine r_iconst C dX5_nearest_0 ?_
  refine r_istore_n C dX5_nearest_1 (i := 3) rfl (Nat.le_of_ble_eq_true rfl) ?_
  dsimp only [List.set]
  suffices LOOP : ∀ (m : Nat) (i : Int) (o4 : Option AV), g 16 p - i < (m : Int) → 0 ≤ i → i ≤ g 16 p → (∀ j, 0 ≤ j → j < i → decide (goodP g p (g 17 (8 * p + j)) ∧ g 5 (g 17 (8 * p + j)) = r) = false) → J 2 [some (vr q), some (vi p), some (vi r), some (vi i), o4] [] h 0 0 by
    exact LOOP ((g 16 p).toNat + 1) 0 _ (by omega) (by omega) (by omega) all_0
  intro m
  induction m with
  | zero => intro i o4 hm hi0 hi1 hb; exact absurd hm (by omega)
  | succ m ih =>
    intro i o4 hm hi0 hi1 hb
    refine r_iload_n C dX5_nearest_2 (i := 3) rfl rfl ?_
    refine r_aload_n C dX5_nearest_3 (i := 0) rfl rfl ?_
    refine m_getA C dX5_nearest_4 fX5_45 R (by decide) rfl ?_
    refine r_iload_n C dX5_nearest_7 (i := 1) rfl rfl ?_
    refine m_iald C dX5_nearest_8 R (N := 60) rfl (by decide) rfl (by omega) (by omega) (by omega) ?_
    refine r_ic_ge C dX5_nearest_9 (t := 55) (by decide) (by first | assumption | exact R.rg _ _ | exact rg _ _ | (unfold inR; omega)) (by first | assumption | exact R.rg _ _ | exact rg _ _ | (unfold inR; omega)) (fun c9 => ?_) (fun c9 => ?_)
    · skip
      refine r_aload_n C dX5_nearest_55 (i := 0) rfl rfl ?_
      refine r_iload_n C dX5_nearest_56 (i := 1) rfl rfl ?_
      refine r_iconst C dX5_nearest_57 ?_
      refine m_V2 C dX5_nearest_58 sX5_146 rfl R (Nat.le_of_ble_eq_true rfl) (C_X5_firstGood R B hp0 hp1 inR0 ?_)
      refine r_iret C dX5_nearest_61 (Or.inl rfl) ?_
      have e := pick_none (g := g) (p := p) (f := fun n => decide (goodP g p n ∧ g 5 n = r)) (fun j a b => hb j a (by omega)); rw [show nrG g p r = fgG g p 0 by unfold nrG; rw [if_pos e]] at k; exact k
    · skip
      have bcy := B.cy p i hp0 hp1 hi0 c9
      refine r_aload_n C dX5_nearest_12 (i := 0) rfl rfl ?_
      refine m_getA C dX5_nearest_13 fX5_48 R (by decide) rfl ?_
      refine r_bipush C dX5_nearest_16 (by decide) ?_
      refine r_iload_n C dX5_nearest_18 (i := 1) rfl rfl ?_
      refine r_imul C dX5_nearest_19 ?_
      refine r_iload_n C dX5_nearest_20 (i := 3) rfl rfl ?_
      refine r_iadd C dX5_nearest_21 ?_
      refine m_iald C dX5_nearest_22 R (N := 480) rfl (by decide) rfl (by omega) (by omega) (by omega) ?_
      refine r_istore C dX5_nearest_23 (Nat.le_of_ble_eq_true rfl) ?_
      dsimp only [List.set]
      refine r_aload_n C dX5_nearest_25 (i := 0) rfl rfl ?_
      refine r_iload_n C dX5_nearest_26 (i := 1) rfl rfl ?_
      refine r_iload C dX5_nearest_27 rfl ?_
      refine m_V2 C dX5_nearest_29 sX5_123 rfl R (Nat.le_of_ble_eq_true rfl) (C_X5_isGood R B hp0 hp1 (by omega) (by omega) (fun z hz hbz => ?_))
      refine r_if_eq C dX5_nearest_32 (t := 49) (by decide) (by first | assumption | exact R.rg _ _ | exact rg _ _ | (unfold inR; omega)) (fun c32 => ?_) (fun c32 => ?_)
      · skip
        have hgd := hbz.f c32
        refine r_iinc C dX5_nearest_49 rfl ?_
        dsimp only [List.set]
        refine r_goto C dX5_nearest_52 (t := 2) (by decide) ?_
        exact ih _ _ (by omega) (by omega) (by omega) (all_s hb (decide_eq_false (fun z => by first | exact hgd z.1 | exact c43 z.2)))
      · skip
        have hgd := hbz.t c32
        refine r_aload_n C dX5_nearest_35 (i := 0) rfl rfl ?_
        refine m_getA C dX5_nearest_36 fX5_13 R (by decide) rfl ?_
        refine r_iload C dX5_nearest_39 rfl ?_
        refine m_iald C dX5_nearest_41 R (N := 8) rfl (by decide) rfl (by omega) (by omega) (by omega) ?_
        refine r_iload_n C dX5_nearest_42 (i := 2) rfl rfl ?_
        refine r_ic_ne C dX5_nearest_43 (t := 49) (by decide) (by first | assumption | exact R.rg _ _ | exact rg _ _ | (unfold inR; omega)) (by first | assumption | exact R.rg _ _ | exact rg _ _ | (unfold inR; omega)) (fun c43 => ?_) (fun c43 => ?_)
        · skip
          refine r_iinc C dX5_nearest_49 rfl ?_
          dsimp only [List.set]
          refine r_goto C dX5_nearest_52 (t := 2) (by decide) ?_
          exact ih _ _ (by omega) (by omega) (by omega) (all_s hb (decide_eq_false (fun z => by first | exact hgd z.1 | exact c43 z.2)))
        · skip
          refine r_iload C dX5_nearest_46 rfl ?_
          refine r_iret C dX5_nearest_48 (Or.inl rfl) ?_
          have e := pick_hit (f := fun n => decide (goodP g p n ∧ g 5 n = r)) hi0 c9 (decide_eq_true ⟨hgd, c43⟩) hb; rw [show nrG g p r = g 17 (8 * p + i) by unfold nrG; rw [e, if_neg (by omega)]] at k; exact k

set_option maxRecDepth 100000 in
set_option maxHeartbeats 4000000 in
theorem C_X5_hasPlace {gx : GX} {d : Nat} {Qr : Option AV → Hp → Prop} {Qx : String → Hp → Prop} {q : Nat} {ar : Nat → Nat} {g : GT} {h : Hp} (R : RM q ar g h) (B : BD g) (k : ∀ z, inR z → BV z (hpP g) → Qr (some (vi z)) h) : aM gx (d + 4) mX5_hasPlace [vr q] h 0 0 Qr Qx := by
  intro J C
  show J 0 [some (vr q), none, none] [] h 0 0
  have b2 := B.np; have b1 := B.nn; have rg := R.rg
  refine r_iconst C dX5_hasPlace_0 ?_
  refine r_istore_n C dX5_hasPlace_1 (i := 1) rfl (Nat.le_of_ble_eq_true rfl) ?_
  dsimp only [List.set]
  refine r_iconst C dX5_hasPlace_2 ?_
  refine r_istore_n C dX5_hasPlace_3 (i := 2) rfl (Nat.le_of_ble_eq_true rfl) ?_
  dsimp only [List.set]
  suffices LOOP : ∀ (m : Nat) (x i : Int), g 4 0 - i < (m : Int) → 0 ≤ i → i ≤ g 4 0 → inR x → BV x (∃ n, 0 ≤ n ∧ n < i ∧ openP g n) → J 4 [some (vr q), some (vi x), some (vi i)] [] h 0 0 by
    exact LOOP ((g 4 0).toNat + 1) 0 0 (by omega) (by omega) (by omega) inR0 (.n (fun ⟨k, a, b, _⟩ => by omega))
  intro m
  induction m with
  | zero => intro x i hm hi0 hi1 hxr hx; exact absurd hm (by omega)
  | succ m ih =>
    intro x i hm hi0 hi1 hxr hx
    refine r_iload_n C dX5_hasPlace_4 (i := 2) rfl rfl ?_
    refine r_aload_n C dX5_hasPlace_5 (i := 0) rfl rfl ?_
    refine m_get0 C dX5_hasPlace_6 fX5_78 R rfl rfl ?_
    refine r_ic_ge C dX5_hasPlace_9 (t := 36) (by decide) (by first | assumption | exact R.rg _ _ | exact rg _ _ | (unfold inR; omega)) (by first | assumption | exact R.rg _ _ | exact rg _ _ | (unfold inR; omega)) (fun c9 => ?_) (fun c9 => ?_)
    · skip
      refine r_iload_n C dX5_hasPlace_36 (i := 1) rfl rfl ?_
      refine r_if_eq C dX5_hasPlace_37 (t := 53) (by decide) (by first | assumption | exact R.rg _ _ | exact rg _ _ | (unfold inR; omega)) (fun c37 => ?_) (fun c37 => ?_)
      · skip
        refine r_iconst C dX5_hasPlace_53 ?_
        refine r_iret C dX5_hasPlace_54 (Or.inr ⟨rfl, (by first | assumption | omega | decide)⟩) ?_
        first
          | exact k _ inR1 (.y ⟨by obtain ⟨k, a, b, c⟩ := hx.t c37; exact ⟨k, a, by omega, c⟩, by omega⟩)
          | exact k _ inR0 (.n (fun z => by have z2 := z.2; omega))
          | exact k _ inR0 (.n (fun z => hx.f c37 (by obtain ⟨k, a, b, c⟩ := z.1; exact ⟨k, a, by omega, c⟩)))
      · skip
        refine r_aload_n C dX5_hasPlace_40 (i := 0) rfl rfl ?_
        refine m_get0 C dX5_hasPlace_41 fX5_85 R rfl rfl ?_
        refine r_bipush C dX5_hasPlace_44 (by decide) ?_
        refine r_ic_ge C dX5_hasPlace_46 (t := 53) (by decide) (by first | assumption | exact R.rg _ _ | exact rg _ _ | (unfold inR; omega)) (by first | assumption | exact R.rg _ _ | exact rg _ _ | (unfold inR; omega)) (fun c46 => ?_) (fun c46 => ?_)
        · skip
          refine r_iconst C dX5_hasPlace_53 ?_
          refine r_iret C dX5_hasPlace_54 (Or.inr ⟨rfl, (by first | assumption | omega | decide)⟩) ?_
          first
            | exact k _ inR1 (.y ⟨by obtain ⟨k, a, b, c⟩ := hx.t c37; exact ⟨k, a, by omega, c⟩, by omega⟩)
            | exact k _ inR0 (.n (fun z => by have z2 := z.2; omega))
            | exact k _ inR0 (.n (fun z => hx.f c37 (by obtain ⟨k, a, b, c⟩ := z.1; exact ⟨k, a, by omega, c⟩)))
        · skip
          refine r_iconst C dX5_hasPlace_49 ?_
          refine r_goto C dX5_hasPlace_50 (t := 54) (by decide) ?_
          refine r_iret C dX5_hasPlace_54 (Or.inr ⟨rfl, (by first | assumption | omega | decide)⟩) ?_
          first
            | exact k _ inR1 (.y ⟨by obtain ⟨k, a, b, c⟩ := hx.t c37; exact ⟨k, a, by omega, c⟩, by omega⟩)
            | exact k _ inR0 (.n (fun z => by have z2 := z.2; omega))
            | exact k _ inR0 (.n (fun z => hx.f c37 (by obtain ⟨k, a, b, c⟩ := z.1; exact ⟨k, a, by omega, c⟩)))
    · skip
      refine r_iload_n C dX5_hasPlace_12 (i := 1) rfl rfl ?_
      refine r_if_ne C dX5_hasPlace_13 (t := 24) (by decide) (by first | assumption | exact R.rg _ _ | exact rg _ _ | (unfold inR; omega)) (fun c13 => ?_) (fun c13 => ?_)
      · skip
        refine r_iconst C dX5_hasPlace_24 ?_
        refine r_goto C dX5_hasPlace_25 (t := 29) (by decide) ?_
        refine r_istore_n C dX5_hasPlace_29 (i := 1) rfl (Nat.le_of_ble_eq_true rfl) ?_
        dsimp only [List.set]
        refine r_iinc C dX5_hasPlace_30 rfl ?_
        dsimp only [List.set]
        refine r_goto C dX5_hasPlace_33 (t := 4) (by decide) ?_
        first
          | exact ih _ _ (by omega) (by omega) (by omega) inR1 (.y (by obtain ⟨k, a, b, c⟩ := hx.t c13; exact ⟨k, a, by omega, c⟩))
          | exact ih _ _ (by omega) (by omega) (by omega) inR1 (.y ⟨i, hi0, by omega, hgd⟩)
          | exact ih _ _ (by omega) (by omega) (by omega) inR0 (.n (fun ⟨k, a, b, c⟩ => by
              by_cases e : k = i
              case pos => subst e; exact hgd c
              case neg => exact hx.f c13 ⟨k, a, by omega, c⟩))
      · skip
        refine r_aload_n C dX5_hasPlace_16 (i := 0) rfl rfl ?_
        refine r_iload_n C dX5_hasPlace_17 (i := 2) rfl rfl ?_
        refine m_V1 C dX5_hasPlace_18 sX5_131 rfl R (Nat.le_of_ble_eq_true rfl) (C_X5_isOpen R B hi0 (by omega) (fun z hz hbz => ?_))
        refine r_if_eq C dX5_hasPlace_21 (t := 28) (by decide) (by first | assumption | exact R.rg _ _ | exact rg _ _ | (unfold inR; omega)) (fun c21 => ?_) (fun c21 => ?_)
        · skip
          have hgd := hbz.f c21
          refine r_iconst C dX5_hasPlace_28 ?_
          refine r_istore_n C dX5_hasPlace_29 (i := 1) rfl (Nat.le_of_ble_eq_true rfl) ?_
          dsimp only [List.set]
          refine r_iinc C dX5_hasPlace_30 rfl ?_
          dsimp only [List.set]
          refine r_goto C dX5_hasPlace_33 (t := 4) (by decide) ?_
          first
            | exact ih _ _ (by omega) (by omega) (by omega) inR1 (.y (by obtain ⟨k, a, b, c⟩ := hx.t c13; exact ⟨k, a, by omega, c⟩))
            | exact ih _ _ (by omega) (by omega) (by omega) inR1 (.y ⟨i, hi0, by omega, hgd⟩)
            | exact ih _ _ (by omega) (by omega) (by omega) inR0 (.n (fun ⟨k, a, b, c⟩ => by
                by_cases e : k = i
                case pos => subst e; exact hgd c
                case neg => exact hx.f c13 ⟨k, a, by omega, c⟩))
        · skip
          have hgd := hbz.t c21
          refine r_iconst C dX5_hasPlace_24 ?_
          refine r_goto C dX5_hasPlace_25 (t := 29) (by decide) ?_
          refine r_istore_n C dX5_hasPlace_29 (i := 1) rfl (Nat.le_of_ble_eq_true rfl) ?_
          dsimp only [List.set]
          refine r_iinc C dX5_hasPlace_30 rfl ?_
          dsimp only [List.set]
          refine r_goto C dX5_hasPlace_33 (t := 4) (by decide) ?_
          first
            | exact ih _ _ (by omega) (by omega) (by omega) inR1 (.y (by obtain ⟨k, a, b, c⟩ := hx.t c13; exact ⟨k, a, by omega, c⟩))
            | exact ih _ _ (by omega) (by omega) (by omega) inR1 (.y ⟨i, hi0, by omega, hgd⟩)
            | exact ih _ _ (by omega) (by omega) (by omega) inR0 (.n (fun ⟨k, a, b, c⟩ => by
                by_cases e : k = i
                case pos => subst e; exact hgd c
                case neg => exact hx.f c13 ⟨k, a, by omega, c⟩))

set_option maxRecDepth 100000 in
set_option maxHeartbeats 4000000 in
theorem C_X5_isFull {gx : GX} {d : Nat} {Qr : Option AV → Hp → Prop} {Qx : String → Hp → Prop} {q : Nat} {ar : Nat → Nat} {g : GT} {h : Hp} {f : Int} (R : RM q ar g h) (B : BD g) (hf0 : 0 ≤ f) (hf1 : f < g 22 0) (k : ∀ z, inR z → BV z (fuP g f) → Qr (some (vi z)) h) : aM gx (d + 5) mX5_isFull [vr q, vi f] h 0 0 Qr Qx := by
  intro J C
  show J 0 [some (vr q), some (vi f), none, none] [] h 0 0
  have b3 := B.nf; have b2 := B.np; have b1 := B.nn; have brw := B.rw f hf0 hf1; have rg := R.rg
  refine r_aload_n C dX5_isFull_0 (i := 0) rfl rfl ?_
  refine m_getA C dX5_isFull_1 fX5_69 R (by decide) rfl ?_
  refine r_iload_n C dX5_isFull_4 (i := 1) rfl rfl ?_
  refine m_iald C dX5_isFull_5 R (N := 20) rfl (by decide) rfl (by omega) (by omega) (by omega) ?_
  refine r_if_ne C dX5_isFull_6 (t := 11) (by decide) (by first | assumption | exact R.rg _ _ | exact rg _ _ | (unfold inR; omega)) (fun c6 => ?_) (fun c6 => ?_)
  · skip
    have bre := B.re f (g 25 f - 1) hf0 hf1 (by omega) (by omega); rw [show 6 * f + (g 25 f - 1) = 6 * f + g 25 f - 1 by omega] at bre
    have bff := ff_b B f bre.1 bre.2
    refine r_aload_n C dX5_isFull_11 (i := 0) rfl rfl ?_
    refine m_getA C dX5_isFull_12 fX5_72 R (by decide) rfl ?_
    refine r_bipush C dX5_isFull_15 (by decide) ?_
    refine r_iload_n C dX5_isFull_17 (i := 1) rfl rfl ?_
    refine r_imul C dX5_isFull_18 ?_
    refine r_aload_n C dX5_isFull_19 (i := 0) rfl rfl ?_
    refine m_getA C dX5_isFull_20 fX5_69 R (by decide) rfl ?_
    refine r_iload_n C dX5_isFull_23 (i := 1) rfl rfl ?_
    refine m_iald C dX5_isFull_24 R (N := 20) rfl (by decide) rfl (by omega) (by omega) (by omega) ?_
    refine r_iadd C dX5_isFull_25 ?_
    refine r_iconst C dX5_isFull_26 ?_
    refine r_isub C dX5_isFull_27 ?_
    refine m_iald C dX5_isFull_28 R (N := 120) rfl (by decide) rfl (by omega) (by omega) (by omega) ?_
    refine r_istore_n C dX5_isFull_29 (i := 2) rfl (Nat.le_of_ble_eq_true rfl) ?_
    dsimp only [List.set]
    refine r_aload_n C dX5_isFull_30 (i := 0) rfl rfl ?_
    refine r_iload_n C dX5_isFull_31 (i := 1) rfl rfl ?_
    refine r_iload_n C dX5_isFull_32 (i := 2) rfl rfl ?_
    refine m_V2 C dX5_isFull_33 sX5_156 rfl R (Nat.le_of_ble_eq_true rfl) (C_X5_foundFor R B (by unfold inR; omega) bre.1 bre.2 ?_)
    refine r_istore_n C dX5_isFull_36 (i := 3) rfl (Nat.le_of_ble_eq_true rfl) ?_
    dsimp only [List.set]
    refine r_iload_n C dX5_isFull_37 (i := 3) rfl rfl ?_
    refine r_iconst C dX5_isFull_38 ?_
    refine r_ic_eq C dX5_isFull_39 (t := 60) (by decide) (by first | assumption | exact R.rg _ _ | exact rg _ _ | (unfold inR; omega)) (by first | assumption | exact R.rg _ _ | exact rg _ _ | (unfold inR; omega)) (fun c39 => ?_) (fun c39 => ?_)
    · skip
      refine r_iconst C dX5_isFull_60 ?_
      refine r_iret C dX5_isFull_61 (Or.inr ⟨rfl, (by first | assumption | omega | decide)⟩) ?_
      first
        | exact k _ inR1 (.y (Or.inl (by omega)))
        | exact k _ inR1 (.y (Or.inr ⟨c39, c53⟩))
        | exact k _ inR0 (.n (fun z => by rcases z with z | z; omega; exact c53 z.2))
        | exact k _ inR0 (.n (fun z => by rcases z with z | z; omega; exact z.1 c39))
    · skip
      refine r_aload_n C dX5_isFull_42 (i := 0) rfl rfl ?_
      refine m_getA C dX5_isFull_43 fX5_54 R (by decide) rfl ?_
      refine r_iload_n C dX5_isFull_46 (i := 3) rfl rfl ?_
      refine r_iload_n C dX5_isFull_47 (i := 2) rfl rfl ?_
      refine r_S2 C dX5_isFull_48 sX5_104 (Nat.le_of_ble_eq_true rfl) (C_X5_at ?_)
      refine m_iald C dX5_isFull_51 R (N := 480) rfl (by decide) rfl (by omega) (by omega) (by omega) ?_
      refine r_iconst C dX5_isFull_52 ?_
      refine r_ic_ne C dX5_isFull_53 (t := 60) (by decide) (by first | assumption | exact R.rg _ _ | exact rg _ _ | (unfold inR; omega)) (by first | assumption | exact R.rg _ _ | exact rg _ _ | (unfold inR; omega)) (fun c53 => ?_) (fun c53 => ?_)
      · skip
        refine r_iconst C dX5_isFull_60 ?_
        refine r_iret C dX5_isFull_61 (Or.inr ⟨rfl, (by first | assumption | omega | decide)⟩) ?_
        first
          | exact k _ inR1 (.y (Or.inl (by omega)))
          | exact k _ inR1 (.y (Or.inr ⟨c39, c53⟩))
          | exact k _ inR0 (.n (fun z => by rcases z with z | z; omega; exact c53 z.2))
          | exact k _ inR0 (.n (fun z => by rcases z with z | z; omega; exact z.1 c39))
      · skip
        refine r_iconst C dX5_isFull_56 ?_
        refine r_goto C dX5_isFull_57 (t := 61) (by decide) ?_
        refine r_iret C dX5_isFull_61 (Or.inr ⟨rfl, (by first | assumption | omega | decide)⟩) ?_
        first
          | exact k _ inR1 (.y (Or.inl (by omega)))
          | exact k _ inR1 (.y (Or.inr ⟨c39, c53⟩))
          | exact k _ inR0 (.n (fun z => by rcases z with z | z; omega; exact c53 z.2))
          | exact k _ inR0 (.n (fun z => by rcases z with z | z; omega; exact z.1 c39))
  · skip
    refine r_iconst C dX5_isFull_9 ?_
    refine r_iret C dX5_isFull_10 (Or.inr ⟨rfl, (by first | assumption | omega | decide)⟩) ?_
    first
      | exact k _ inR1 (.y (Or.inl (by omega)))
      | exact k _ inR1 (.y (Or.inr ⟨c39, c53⟩))
      | exact k _ inR0 (.n (fun z => by rcases z with z | z; omega; exact c53 z.2))
      | exact k _ inR0 (.n (fun z => by rcases z with z | z; omega; exact z.1 c39))

set_option maxRecDepth 100000 in
set_option maxHeartbeats 4000000 in
theorem C_X5_canAppend {gx : GX} {d : Nat} {Qr : Option AV → Hp → Prop} {Qx : String → Hp → Prop} {q : Nat} {ar : Nat → Nat} {g : GT} {h : Hp} {f : Int} (R : RM q ar g h) (B : BD g) (hf0 : 0 ≤ f) (hf1 : f < g 22 0) (k : ∀ z, inR z → BV z (caP g f) → Qr (some (vi z)) h) : aM gx (d + 6) mX5_canAppend [vr q, vi f] h 0 0 Qr Qx := by
  intro J C
  show J 0 [some (vr q), some (vi f)] [] h 0 0
  have b3 := B.nf; have b2 := B.np; have b1 := B.nn; have brw := B.rw f hf0 hf1; have rg := R.rg
  refine r_aload_n C dX5_canAppend_0 (i := 0) rfl rfl ?_
  refine m_getA C dX5_canAppend_1 fX5_63 R (by decide) rfl ?_
  refine r_iload_n C dX5_canAppend_4 (i := 1) rfl rfl ?_
  refine m_iald C dX5_canAppend_5 R (N := 20) rfl (by decide) rfl (by omega) (by omega) (by omega) ?_
  refine r_if_eq C dX5_canAppend_6 (t := 11) (by decide) (by first | assumption | exact R.rg _ _ | exact rg _ _ | (unfold inR; omega)) (fun c6 => ?_) (fun c6 => ?_)
  · skip
    refine r_aload_n C dX5_canAppend_11 (i := 0) rfl rfl ?_
    refine r_iload_n C dX5_canAppend_12 (i := 1) rfl rfl ?_
    refine m_V1 C dX5_canAppend_13 sX5_185 rfl R (Nat.le_of_ble_eq_true rfl) (C_X5_isFull R B hf0 hf1 (fun z hz hb => ?_))
    refine r_if_eq C dX5_canAppend_16 (t := 45) (by decide) (by first | assumption | exact R.rg _ _ | exact rg _ _ | (unfold inR; omega)) (fun c16 => ?_) (fun c16 => ?_)
    · skip
      have hs := hb.f c16
      have hr0 : g 25 f ≠ 0 := fun z => hs (Or.inl z)
      have bre := B.re f (g 25 f - 1) hf0 hf1 (by omega) (by omega); rw [show 6 * f + (g 25 f - 1) = 6 * f + g 25 f - 1 by omega] at bre
      refine r_aload_n C dX5_canAppend_45 (i := 0) rfl rfl ?_
      refine r_iload_n C dX5_canAppend_46 (i := 1) rfl rfl ?_
      refine r_aload_n C dX5_canAppend_47 (i := 0) rfl rfl ?_
      refine m_getA C dX5_canAppend_48 fX5_72 R (by decide) rfl ?_
      refine r_bipush C dX5_canAppend_51 (by decide) ?_
      refine r_iload_n C dX5_canAppend_53 (i := 1) rfl rfl ?_
      refine r_imul C dX5_canAppend_54 ?_
      refine r_aload_n C dX5_canAppend_55 (i := 0) rfl rfl ?_
      refine m_getA C dX5_canAppend_56 fX5_69 R (by decide) rfl ?_
      refine r_iload_n C dX5_canAppend_59 (i := 1) rfl rfl ?_
      refine m_iald C dX5_canAppend_60 R (N := 20) rfl (by decide) rfl (by omega) (by omega) (by omega) ?_
      refine r_iadd C dX5_canAppend_61 ?_
      refine r_iconst C dX5_canAppend_62 ?_
      refine r_isub C dX5_canAppend_63 ?_
      refine m_iald C dX5_canAppend_64 R (N := 120) rfl (by decide) rfl (by omega) (by omega) (by omega) ?_
      refine m_V2 C dX5_canAppend_65 sX5_192 rfl R (Nat.le_of_ble_eq_true rfl) (C_X5_canWrite R B (by unfold inR; omega) bre.1 bre.2 (fun z3 hz3 hb3 => ?_))
      have hz301 := hb3.b
      refine r_iret C dX5_canAppend_68 (Or.inr ⟨rfl, (by first | assumption | omega | decide)⟩) ?_
      first
        | exact k _ inR0 (.n (fun z => c6 z.1))
        | exact k _ inR1 (.y ⟨by omega, Or.inl ⟨hs, by omega, hh⟩⟩)
        | exact k _ inR0 (.n (fun z => by rcases z.2 with y | y; exact hh y.2.2; exact y.1 hs))
        | exact k _ inR0 (.n (fun z => by rcases z.2 with y | y; have y2 := y.2.1; omega; exact y.1 hs))
        | exact k _ hz3 (hb3.iff ⟨fun y => ⟨by omega, Or.inr ⟨hs, y⟩⟩, fun y => by rcases y.2 with w | w; exact absurd w.1 hs; exact w.2⟩)
    · skip
      have hs := hb.t c16
      refine r_aload_n C dX5_canAppend_19 (i := 0) rfl rfl ?_
      refine m_getA C dX5_canAppend_20 fX5_69 R (by decide) rfl ?_
      refine r_iload_n C dX5_canAppend_23 (i := 1) rfl rfl ?_
      refine m_iald C dX5_canAppend_24 R (N := 20) rfl (by decide) rfl (by omega) (by omega) (by omega) ?_
      refine r_bipush C dX5_canAppend_25 (by decide) ?_
      refine r_ic_ge C dX5_canAppend_27 (t := 41) (by decide) (by first | assumption | exact R.rg _ _ | exact rg _ _ | (unfold inR; omega)) (by first | assumption | exact R.rg _ _ | exact rg _ _ | (unfold inR; omega)) (fun c27 => ?_) (fun c27 => ?_)
      · skip
        refine r_iconst C dX5_canAppend_41 ?_
        refine r_goto C dX5_canAppend_42 (t := 68) (by decide) ?_
        refine r_iret C dX5_canAppend_68 (Or.inr ⟨rfl, (by first | assumption | omega | decide)⟩) ?_
        first
          | exact k _ inR0 (.n (fun z => c6 z.1))
          | exact k _ inR1 (.y ⟨by omega, Or.inl ⟨hs, by omega, hh⟩⟩)
          | exact k _ inR0 (.n (fun z => by rcases z.2 with y | y; exact hh y.2.2; exact y.1 hs))
          | exact k _ inR0 (.n (fun z => by rcases z.2 with y | y; have y2 := y.2.1; omega; exact y.1 hs))
          | exact k _ hz3 (hb3.iff ⟨fun y => ⟨by omega, Or.inr ⟨hs, y⟩⟩, fun y => by rcases y.2 with w | w; exact absurd w.1 hs; exact w.2⟩)
      · skip
        refine r_aload_n C dX5_canAppend_30 (i := 0) rfl rfl ?_
        refine m_V0 C dX5_canAppend_31 sX5_188 rfl R (Nat.le_of_ble_eq_true rfl) (C_X5_hasPlace R B (fun z2 hz2 hb2 => ?_))
        refine r_if_eq C dX5_canAppend_34 (t := 41) (by decide) (by first | assumption | exact R.rg _ _ | exact rg _ _ | (unfold inR; omega)) (fun c34 => ?_) (fun c34 => ?_)
        · skip
          have hh := hb2.f c34
          refine r_iconst C dX5_canAppend_41 ?_
          refine r_goto C dX5_canAppend_42 (t := 68) (by decide) ?_
          refine r_iret C dX5_canAppend_68 (Or.inr ⟨rfl, (by first | assumption | omega | decide)⟩) ?_
          first
            | exact k _ inR0 (.n (fun z => c6 z.1))
            | exact k _ inR1 (.y ⟨by omega, Or.inl ⟨hs, by omega, hh⟩⟩)
            | exact k _ inR0 (.n (fun z => by rcases z.2 with y | y; exact hh y.2.2; exact y.1 hs))
            | exact k _ inR0 (.n (fun z => by rcases z.2 with y | y; have y2 := y.2.1; omega; exact y.1 hs))
            | exact k _ hz3 (hb3.iff ⟨fun y => ⟨by omega, Or.inr ⟨hs, y⟩⟩, fun y => by rcases y.2 with w | w; exact absurd w.1 hs; exact w.2⟩)
        · skip
          have hh := hb2.t c34
          refine r_iconst C dX5_canAppend_37 ?_
          refine r_goto C dX5_canAppend_38 (t := 68) (by decide) ?_
          refine r_iret C dX5_canAppend_68 (Or.inr ⟨rfl, (by first | assumption | omega | decide)⟩) ?_
          first
            | exact k _ inR0 (.n (fun z => c6 z.1))
            | exact k _ inR1 (.y ⟨by omega, Or.inl ⟨hs, by omega, hh⟩⟩)
            | exact k _ inR0 (.n (fun z => by rcases z.2 with y | y; exact hh y.2.2; exact y.1 hs))
            | exact k _ inR0 (.n (fun z => by rcases z.2 with y | y; have y2 := y.2.1; omega; exact y.1 hs))
            | exact k _ hz3 (hb3.iff ⟨fun y => ⟨by omega, Or.inr ⟨hs, y⟩⟩, fun y => by rcases y.2 with w | w; exact absurd w.1 hs; exact w.2⟩)
  · skip
    refine r_iconst C dX5_canAppend_9 ?_
    refine r_iret C dX5_canAppend_10 (Or.inr ⟨rfl, (by first | assumption | omega | decide)⟩) ?_
    first
      | exact k _ inR0 (.n (fun z => c6 z.1))
      | exact k _ inR1 (.y ⟨by omega, Or.inl ⟨hs, by omega, hh⟩⟩)
      | exact k _ inR0 (.n (fun z => by rcases z.2 with y | y; exact hh y.2.2; exact y.1 hs))
      | exact k _ inR0 (.n (fun z => by rcases z.2 with y | y; have y2 := y.2.1; omega; exact y.1 hs))
      | exact k _ hz3 (hb3.iff ⟨fun y => ⟨by omega, Or.inr ⟨hs, y⟩⟩, fun y => by rcases y.2 with w | w; exact absurd w.1 hs; exact w.2⟩)

