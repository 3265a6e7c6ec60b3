/-! ===== the reference: what is asked ===== -/
theorem sn_i (s : GT) (f i : Int) : ∀ k, k ≠ 26 → ∀ j, itrI (snF f) i (sn1 s f) k j = sn1 s f k j := by
  refine itrI_ind (P := fun t => ∀ k, k ≠ 26 → ∀ j, t k j = sn1 s f k j) (snF f) (fun _ _ _ => rfl) (fun i t _ _ S k hk j => ?_)
  unfold snF
  rw [up_ne hk]
  exact S k hk j
theorem sn1_22 (s : GT) (f j : Int) : sn1 s f 22 j = s 22 j := by unfold sn1; rw [up_ne (by decide), up_ne (by decide)]
theorem sn1_25 (s : GT) (f j : Int) (h : j ≠ s 22 0) : sn1 s f 25 j = s 25 j := by unfold sn1; rw [up_off h, up_ne (by decide)]

theorem rw_c {g s : GT} (h1 : ∀ j, s 23 j = g 23 j) (h2 : ∀ j, s 25 j = g 25 j) (f : Int) : rwG s f = rwG g f := by
  unfold rwG
  rw [h1, h2]
theorem rw_b {g : GT} (B : BD g) {f : Int} (h0 : 0 ≤ f) (h1 : f < g 22 0) : 0 ≤ rwG g f ∧ rwG g f ≤ g 25 f ∧ g 25 f ≤ 6 := by
  have := B.rw f h0 h1
  unfold rwG
  split <;> omega

set_option maxRecDepth 100000 in
set_option maxHeartbeats 4000000 in
theorem C_X5_snapshot {gx : GX} {d : Nat} {Qr : Option AV → Hp → Prop} {Qx : String → Hp → Prop} {q : Nat} {ar : Nat → Nat} {g : GT} {h : Hp} {f : Int} (R : RM q ar g h) (B : BD g) (hf : inR f) (k : ∀ c z h1 g1, C2 (flP g f) (g 23 f = 0 ∧ g 22 0 ≠ 20) c → (c = 0 → z = g 22 0 ∧ g1 = snG (up g 0 0 0) f) → (c ≠ 0 → g1 = up g 0 0 c) → RM q ar g1 h1 → Qr (some (vi z)) h1) : aM gx (d + 3) mX5_snapshot [vr q, vi f] h 0 0 Qr Qx := by
  intro J C
  show J 0 [some (vr q), some (vi f), none] [] h 0 0
  have b1 := B.nn; have b2 := B.np; have b3 := B.nf; have rg := R.rg
  refine r_aload_n C dX5_snapshot_0 (i := 0) rfl rfl ?_
  refine r_aload_n C dX5_snapshot_1 (i := 0) rfl rfl ?_
  refine r_iload_n C dX5_snapshot_2 (i := 1) rfl rfl ?_
  refine m_V1 C dX5_snapshot_3 sX5_140 rfl R (Nat.le_of_ble_eq_true rfl) (C_X5_isFile R B hf (fun z1 hz1 hb1 => ?_))
  refine r_if_ne C dX5_snapshot_6 (t := 13) (by decide) (by first | assumption | exact R.rg _ _ | exact rg _ _ | (unfold inR; omega)) (fun c6 => ?_) (fun c6 => ?_)
  · skip
    have hn1 := hb1.t c6
    refine r_aload_n C dX5_snapshot_13 (i := 0) rfl rfl ?_
    refine m_getA C dX5_snapshot_14 fX5_63 R (by decide) rfl ?_
    refine r_iload_n C dX5_snapshot_17 (i := 1) rfl rfl ?_
    refine m_iald C dX5_snapshot_18 R (N := 20) rfl (by decide) rfl (by omega) (by omega) (by omega) ?_
    refine r_if_ne C dX5_snapshot_19 (t := 31) (by decide) (by first | assumption | exact R.rg _ _ | exact rg _ _ | (unfold inR; omega)) (fun c19 => ?_) (fun c19 => ?_)
    · skip
      refine r_iconst C dX5_snapshot_31 ?_
      refine r_goto C dX5_snapshot_32 (t := 36) (by decide) ?_
      refine m_V1 C dX5_snapshot_36 sX5_91 rfl R (Nat.le_of_ble_eq_true rfl) (C_X5_holds R (by unfold inR; omega) (fun zH h hzH hH R => ?_))
      refine r_if_ne C dX5_snapshot_39 (t := 44) (by decide) (by first | assumption | exact R.rg _ _ | exact rg _ _ | (unfold inR; omega)) (fun c39 => ?_) (fun c39 => ?_)
      · skip
        exact absurd (hH.t c39) (by decide)
      · skip
        refine r_iconst C dX5_snapshot_42 ?_
        refine r_iret C dX5_snapshot_43 (Or.inl rfl) ?_
        first | exact k 1 _ _ _ (by unfold C2; omega) (fun z => absurd z (by decide)) (fun _ => rfl) R | exact k 2 _ _ _ (by unfold C2; omega) (fun z => absurd z (by decide)) (fun _ => rfl) R
    · skip
      refine r_aload_n C dX5_snapshot_22 (i := 0) rfl rfl ?_
      refine m_get0 C dX5_snapshot_23 fX5_88 R rfl rfl ?_
      refine r_bipush C dX5_snapshot_26 (by decide) ?_
      refine r_ic_ne C dX5_snapshot_28 (t := 35) (by decide) (by first | assumption | exact R.rg _ _ | exact rg _ _ | (unfold inR; omega)) (by first | assumption | exact R.rg _ _ | exact rg _ _ | (unfold inR; omega)) (fun c28 => ?_) (fun c28 => ?_)
      · skip
        refine r_iconst C dX5_snapshot_35 ?_
        refine m_V1 C dX5_snapshot_36 sX5_91 rfl R (Nat.le_of_ble_eq_true rfl) (C_X5_holds R (by unfold inR; omega) (fun zH h hzH hH R => ?_))
        refine r_if_ne C dX5_snapshot_39 (t := 44) (by decide) (by first | assumption | exact R.rg _ _ | exact rg _ _ | (unfold inR; omega)) (fun c39 => ?_) (fun c39 => ?_)
        · skip
          obtain ⟨s, hs⟩ : ∃ s, s = up g 0 0 0 := ⟨_, rfl⟩
          rw [← hs] at R
          have ge : ∀ k, k ≠ 0 → ∀ j, s k j = g k j := fun k hk j => by rw [hs, up_ne hk]
          have SB : BD s := by rw [hs]; exact bd_up0 B (by decide)
          have rg := R.rg
          have e4 := ge 4 (by decide) 0; have e11 := ge 11 (by decide) 0; have e22 := ge 22 (by decide) 0
          have brw := SB.rw f (by omega) (by omega)
          refine r_aload_n C dX5_snapshot_44 (i := 0) rfl rfl ?_
          refine m_getA C dX5_snapshot_45 fX5_63 R (by decide) rfl ?_
          refine r_aload_n C dX5_snapshot_48 (i := 0) rfl rfl ?_
          refine m_get0 C dX5_snapshot_49 fX5_88 R rfl rfl ?_
          refine r_iconst C dX5_snapshot_52 ?_
          refine m_iast C dX5_snapshot_53 R (N := 20) rfl (by decide) rfl (by omega) (by omega) (by omega) (by first | assumption | exact R.rg _ _ | exact rg _ _ | (unfold inR; omega)) (fun h R => ?_)
          refine r_aload_n C dX5_snapshot_54 (i := 0) rfl rfl ?_
          refine m_getA C dX5_snapshot_55 fX5_69 R (by decide) rfl ?_
          refine r_aload_n C dX5_snapshot_58 (i := 0) rfl rfl ?_
          refine m_get0 C dX5_snapshot_59 fX5_88 R rfl rfl ?_
          try simp (decide := true) only [up_ne]
          refine r_aload_n C dX5_snapshot_62 (i := 0) rfl rfl ?_
          refine m_getA C dX5_snapshot_63 fX5_69 R (by decide) rfl ?_
          try simp (decide := true) only [up_ne]
          refine r_iload_n C dX5_snapshot_66 (i := 1) rfl rfl ?_
          refine m_iald C dX5_snapshot_67 R (N := 20) rfl (by decide) rfl (by omega) (by omega) (by omega) ?_
          try simp (decide := true) only [up_ne]
          refine m_iast C dX5_snapshot_68 R (N := 20) rfl (by decide) rfl (by omega) (by omega) (by omega) (by first | assumption | exact R.rg _ _ | exact rg _ _ | (unfold inR; omega)) (fun h R => ?_)
          replace R : RM q ar (sn1 s f) h := R
          refine r_iconst C dX5_snapshot_69 ?_
          refine r_istore_n C dX5_snapshot_70 (i := 2) rfl (Nat.le_of_ble_eq_true rfl) ?_
          dsimp only [List.set]
          suffices LOOP : ∀ (m : Nat) (i : Int) (h : Hp), s 25 f - i < (m : Int) → 0 ≤ i → i ≤ s 25 f → RM q ar (itrI (snF f) i (sn1 s f)) h → J 71 [some (vr q), some (vi f), some (vi i)] [] h 0 0 by
            exact LOOP ((s 25 f).toNat + 1) 0 _ (by omega) (by omega) (by omega) R
          intro m
          induction m with
          | zero => intro i h hm hi0 hi1 R; exact absurd hm (by omega)
          | succ m ih =>
            intro i h hm hi0 hi1 R
            obtain ⟨t, ht⟩ : ∃ t, t = itrI (snF f) i (sn1 s f) := ⟨_, rfl⟩
            have T := sn_i s f i
            rw [← ht] at R T
            have t22 := T 22 (by decide) 0; have t25 := T 25 (by decide) f
            rw [sn1_22] at t22; rw [sn1_25 _ _ _ (by omega)] at t25
            have rg := R.rg
            refine r_iload_n C dX5_snapshot_71 (i := 2) rfl rfl ?_
            refine r_aload_n C dX5_snapshot_72 (i := 0) rfl rfl ?_
            refine m_getA C dX5_snapshot_73 fX5_69 R (by decide) rfl ?_
            refine r_iload_n C dX5_snapshot_76 (i := 1) rfl rfl ?_
            refine m_iald C dX5_snapshot_77 R (N := 20) rfl (by decide) rfl (by omega) (by omega) (by omega) ?_
            refine r_ic_ge C dX5_snapshot_78 (t := 112) (by decide) (by first | assumption | exact R.rg _ _ | exact rg _ _ | (unfold inR; omega)) (by first | assumption | exact R.rg _ _ | exact rg _ _ | (unfold inR; omega)) (fun c78 => ?_) (fun c78 => ?_)
            · skip
              have hti : t = itrI (snF f) (s 25 f) (sn1 s f) := by rw [ht, show i = s 25 f by omega]
              refine r_aload_n C dX5_snapshot_112 (i := 0) rfl rfl ?_
              refine r_dup C dX5_snapshot_113 rfl ?_
              refine m_get0 C dX5_snapshot_114 fX5_88 R rfl rfl ?_
              try simp (decide := true) only [up_ne]
              refine r_iconst C dX5_snapshot_117 ?_
              refine r_iadd C dX5_snapshot_118 ?_
              refine m_put C dX5_snapshot_119 fX5_88 R rfl rfl (Or.inl rfl) (by first | assumption | exact R.rg _ _ | exact rg _ _ | (unfold inR; omega)) (fun h R => ?_)
              refine r_aload_n C dX5_snapshot_122 (i := 0) rfl rfl ?_
              refine m_get0 C dX5_snapshot_123 fX5_88 R rfl rfl ?_
              rw [up_self]
              refine r_iconst C dX5_snapshot_126 ?_
              refine r_isub C dX5_snapshot_127 ?_
              refine r_iret C dX5_snapshot_128 (Or.inl rfl) ?_
              exact k 0 _ _ _ (by unfold C2; omega) (fun _ => ⟨by omega, by rw [← hs]; unfold snG; rw [← hti, ← t22]⟩) (fun z => absurd rfl z) R
            · skip
              refine r_aload_n C dX5_snapshot_81 (i := 0) rfl rfl ?_
              refine m_getA C dX5_snapshot_82 fX5_72 R (by decide) rfl ?_
              refine r_bipush C dX5_snapshot_85 (by decide) ?_
              refine r_aload_n C dX5_snapshot_87 (i := 0) rfl rfl ?_
              refine m_get0 C dX5_snapshot_88 fX5_88 R rfl rfl ?_
              refine r_imul C dX5_snapshot_91 ?_
              refine r_iload_n C dX5_snapshot_92 (i := 2) rfl rfl ?_
              refine r_iadd C dX5_snapshot_93 ?_
              refine r_aload_n C dX5_snapshot_94 (i := 0) rfl rfl ?_
              refine m_getA C dX5_snapshot_95 fX5_72 R (by decide) rfl ?_
              refine r_bipush C dX5_snapshot_98 (by decide) ?_
              refine r_iload_n C dX5_snapshot_100 (i := 1) rfl rfl ?_
              refine r_imul C dX5_snapshot_101 ?_
              refine r_iload_n C dX5_snapshot_102 (i := 2) rfl rfl ?_
              refine r_iadd C dX5_snapshot_103 ?_
              refine m_iald C dX5_snapshot_104 R (N := 120) rfl (by decide) rfl (by omega) (by omega) (by omega) ?_
              refine m_iast C dX5_snapshot_105 R (N := 120) rfl (by decide) rfl (by omega) (by omega) (by omega) (by first | assumption | exact R.rg _ _ | exact rg _ _ | (unfold inR; omega)) (fun h R => ?_)
              refine r_iinc C dX5_snapshot_106 rfl ?_
              dsimp only [List.set]
              refine r_goto C dX5_snapshot_109 (t := 71) (by decide) ?_
              exact ih _ _ (by omega) (by omega) (by omega) (by rw [itrI_s _ _ hi0, ← ht]; exact R)
        · skip
          exact absurd rfl (hH.f c39)
      · skip
        refine r_iconst C dX5_snapshot_31 ?_
        refine r_goto C dX5_snapshot_32 (t := 36) (by decide) ?_
        refine m_V1 C dX5_snapshot_36 sX5_91 rfl R (Nat.le_of_ble_eq_true rfl) (C_X5_holds R (by unfold inR; omega) (fun zH h hzH hH R => ?_))
        refine r_if_ne C dX5_snapshot_39 (t := 44) (by decide) (by first | assumption | exact R.rg _ _ | exact rg _ _ | (unfold inR; omega)) (fun c39 => ?_) (fun c39 => ?_)
        · skip
          exact absurd (hH.t c39) (by decide)
        · skip
          refine r_iconst C dX5_snapshot_42 ?_
          refine r_iret C dX5_snapshot_43 (Or.inl rfl) ?_
          first | exact k 1 _ _ _ (by unfold C2; omega) (fun z => absurd z (by decide)) (fun _ => rfl) R | exact k 2 _ _ _ (by unfold C2; omega) (fun z => absurd z (by decide)) (fun _ => rfl) R
  · skip
    have hn1 := hb1.f c6
    refine r_iconst C dX5_snapshot_9 ?_
    refine r_goto C dX5_snapshot_10 (t := 36) (by decide) ?_
    refine m_V1 C dX5_snapshot_36 sX5_91 rfl R (Nat.le_of_ble_eq_true rfl) (C_X5_holds R (by unfold inR; omega) (fun zH h hzH hH R => ?_))
    refine r_if_ne C dX5_snapshot_39 (t := 44) (by decide) (by first | assumption | exact R.rg _ _ | exact rg _ _ | (unfold inR; omega)) (fun c39 => ?_) (fun c39 => ?_)
    · skip
      exact absurd (hH.t c39) (by decide)
    · skip
      refine r_iconst C dX5_snapshot_42 ?_
      refine r_iret C dX5_snapshot_43 (Or.inl rfl) ?_
      first | exact k 1 _ _ _ (by unfold C2; omega) (fun z => absurd z (by decide)) (fun _ => rfl) R | exact k 2 _ _ _ (by unfold C2; omega) (fun z => absurd z (by decide)) (fun _ => rfl) R

set_option maxRecDepth 100000 in
set_option maxHeartbeats 4000000 in
theorem C_X5_state {gx : GX} {d : Nat} {Qr : Option AV → Hp → Prop} {Qx : String → Hp → Prop} {q : Nat} {ar : Nat → Nat} {g : GT} {h : Hp} {f : Int} (R : RM q ar g h) (B : BD g) (hf : inR f) (k : ∀ c z h1 g1, C1 (flP g f) c → (c = 0 → z = g 23 f ∧ g1 = up g 0 0 0) → (c ≠ 0 → g1 = up g 0 0 c) → RM q ar g1 h1 → Qr (some (vi z)) h1) : aM gx (d + 3) mX5_state [vr q, vi f] h 0 0 Qr Qx := by
  intro J C
  show J 0 [some (vr q), some (vi f)] [] h 0 0
  have b1 := B.nn; have b2 := B.np; have b3 := B.nf; have rg := R.rg
  refine r_aload_n C dX5_state_0 (i := 0) rfl rfl ?_
  refine r_aload_n C dX5_state_1 (i := 0) rfl rfl ?_
  refine r_iload_n C dX5_state_2 (i := 1) rfl rfl ?_
  refine m_V1 C dX5_state_3 sX5_140 rfl R (Nat.le_of_ble_eq_true rfl) (C_X5_isFile R B hf (fun z1 hz1 hb1 => ?_))
  refine r_if_eq C dX5_state_6 (t := 13) (by decide) (by first | assumption | exact R.rg _ _ | exact rg _ _ | (unfold inR; omega)) (fun c6 => ?_) (fun c6 => ?_)
  · skip
    have hn1 := hb1.f c6
    refine r_iconst C dX5_state_13 ?_
    refine m_V1 C dX5_state_14 sX5_91 rfl R (Nat.le_of_ble_eq_true rfl) (C_X5_holds R (by unfold inR; omega) (fun zH h hzH hH R => ?_))
    refine r_if_eq C dX5_state_17 (t := 29) (by decide) (by first | assumption | exact R.rg _ _ | exact rg _ _ | (unfold inR; omega)) (fun c17 => ?_) (fun c17 => ?_)
    · skip
      refine r_iconst C dX5_state_29 ?_
      refine r_iret C dX5_state_30 (Or.inl rfl) ?_
      first | exact k 1 _ _ _ (by unfold C1; omega) (fun z => absurd z (by decide)) (fun _ => rfl) R | exact k 0 _ _ _ (by unfold C1; omega) (fun _ => ⟨by omega, by rw [hs]⟩) (fun z => absurd rfl z) R
    · skip
      exact absurd (hH.t c17) (by decide)
  · skip
    have hn1 := hb1.t c6
    refine r_iconst C dX5_state_9 ?_
    refine r_goto C dX5_state_10 (t := 14) (by decide) ?_
    refine m_V1 C dX5_state_14 sX5_91 rfl R (Nat.le_of_ble_eq_true rfl) (C_X5_holds R (by unfold inR; omega) (fun zH h hzH hH R => ?_))
    refine r_if_eq C dX5_state_17 (t := 29) (by decide) (by first | assumption | exact R.rg _ _ | exact rg _ _ | (unfold inR; omega)) (fun c17 => ?_) (fun c17 => ?_)
    · skip
      exact absurd rfl (hH.f c17)
    · skip
      obtain ⟨s, hs⟩ : ∃ s, s = up g 0 0 0 := ⟨_, rfl⟩
      rw [← hs] at R
      have ge : ∀ k, k ≠ 0 → ∀ j, s k j = g k j := fun k hk j => by rw [hs, up_ne hk]
      have SB : BD s := by rw [hs]; exact bd_up0 B (by decide)
      have rg := R.rg
      have e4 := ge 4 (by decide) 0; have e11 := ge 11 (by decide) 0; have e22 := ge 22 (by decide) 0
      have e := ge 23 (by decide) f
      refine r_aload_n C dX5_state_20 (i := 0) rfl rfl ?_
      refine m_getA C dX5_state_21 fX5_63 R (by decide) rfl ?_
      refine r_iload_n C dX5_state_24 (i := 1) rfl rfl ?_
      refine m_iald C dX5_state_25 R (N := 20) rfl (by decide) rfl (by omega) (by omega) (by omega) ?_
      refine r_goto C dX5_state_26 (t := 30) (by decide) ?_
      refine r_iret C dX5_state_30 (Or.inl rfl) ?_
      first | exact k 1 _ _ _ (by unfold C1; omega) (fun z => absurd z (by decide)) (fun _ => rfl) R | exact k 0 _ _ _ (by unfold C1; omega) (fun _ => ⟨by omega, by rw [hs]⟩) (fun z => absurd rfl z) R

set_option maxRecDepth 100000 in
set_option maxHeartbeats 4000000 in
theorem C_X5_pieces {gx : GX} {d : Nat} {Qr : Option AV → Hp → Prop} {Qx : String → Hp → Prop} {q : Nat} {ar : Nat → Nat} {g : GT} {h : Hp} {f : Int} (R : RM q ar g h) (B : BD g) (hf : inR f) (k : ∀ c z h1 g1, C1 (flP g f) c → (c = 0 → z = rwG g f ∧ g1 = up g 0 0 0) → (c ≠ 0 → g1 = up g 0 0 c) → RM q ar g1 h1 → Qr (some (vi z)) h1) : aM gx (d + 3) mX5_pieces [vr q, vi f] h 0 0 Qr Qx := by
  intro J C
  show J 0 [some (vr q), some (vi f)] [] h 0 0
  have b1 := B.nn; have b2 := B.np; have b3 := B.nf; have rg := R.rg
  refine r_aload_n C dX5_pieces_0 (i := 0) rfl rfl ?_
  refine r_aload_n C dX5_pieces_1 (i := 0) rfl rfl ?_
  refine r_iload_n C dX5_pieces_2 (i := 1) rfl rfl ?_
  refine m_V1 C dX5_pieces_3 sX5_140 rfl R (Nat.le_of_ble_eq_true rfl) (C_X5_isFile R B hf (fun z1 hz1 hb1 => ?_))
  refine r_if_eq C dX5_pieces_6 (t := 13) (by decide) (by first | assumption | exact R.rg _ _ | exact rg _ _ | (unfold inR; omega)) (fun c6 => ?_) (fun c6 => ?_)
  · skip
    have hn1 := hb1.f c6
    refine r_iconst C dX5_pieces_13 ?_
    refine m_V1 C dX5_pieces_14 sX5_91 rfl R (Nat.le_of_ble_eq_true rfl) (C_X5_holds R (by unfold inR; omega) (fun zH h hzH hH R => ?_))
    refine r_if_eq C dX5_pieces_17 (t := 28) (by decide) (by first | assumption | exact R.rg _ _ | exact rg _ _ | (unfold inR; omega)) (fun c17 => ?_) (fun c17 => ?_)
    · skip
      refine r_iconst C dX5_pieces_28 ?_
      refine r_iret C dX5_pieces_29 (Or.inl rfl) ?_
      first | exact k 1 _ _ _ (by unfold C1; omega) (fun z => absurd z (by decide)) (fun _ => rfl) R | exact k 0 _ _ _ (by unfold C1; omega) (fun _ => ⟨by omega, by rw [hs]⟩) (fun z => absurd rfl z) R
    · skip
      exact absurd (hH.t c17) (by decide)
  · skip
    have hn1 := hb1.t c6
    refine r_iconst C dX5_pieces_9 ?_
    refine r_goto C dX5_pieces_10 (t := 14) (by decide) ?_
    refine m_V1 C dX5_pieces_14 sX5_91 rfl R (Nat.le_of_ble_eq_true rfl) (C_X5_holds R (by unfold inR; omega) (fun zH h hzH hH R => ?_))
    refine r_if_eq C dX5_pieces_17 (t := 28) (by decide) (by first | assumption | exact R.rg _ _ | exact rg _ _ | (unfold inR; omega)) (fun c17 => ?_) (fun c17 => ?_)
    · skip
      exact absurd rfl (hH.f c17)
    · skip
      obtain ⟨s, hs⟩ : ∃ s, s = up g 0 0 0 := ⟨_, rfl⟩
      rw [← hs] at R
      have ge : ∀ k, k ≠ 0 → ∀ j, s k j = g k j := fun k hk j => by rw [hs, up_ne hk]
      have SB : BD s := by rw [hs]; exact bd_up0 B (by decide)
      have rg := R.rg
      have e4 := ge 4 (by decide) 0; have e11 := ge 11 (by decide) 0; have e22 := ge 22 (by decide) 0
      have e := rw_c (ge 23 (by decide)) (ge 25 (by decide)) f
      refine r_aload_n C dX5_pieces_20 (i := 0) rfl rfl ?_
      refine r_iload_n C dX5_pieces_21 (i := 1) rfl rfl ?_
      refine m_V1 C dX5_pieces_22 sX5_207 rfl R (Nat.le_of_ble_eq_true rfl) (C_X5_rowsOf R SB (by omega) (by omega) ?_)
      refine r_goto C dX5_pieces_25 (t := 29) (by decide) ?_
      refine r_iret C dX5_pieces_29 (Or.inl rfl) ?_
      first | exact k 1 _ _ _ (by unfold C1; omega) (fun z => absurd z (by decide)) (fun _ => rfl) R | exact k 0 _ _ _ (by unfold C1; omega) (fun _ => ⟨by omega, by rw [hs]⟩) (fun z => absurd rfl z) R

set_option maxRecDepth 100000 in
set_option maxHeartbeats 4000000 in
theorem C_X5_pieceAt {gx : GX} {d : Nat} {Qr : Option AV → Hp → Prop} {Qx : String → Hp → Prop} {q : Nat} {ar : Nat → Nat} {g : GT} {h : Hp} {f p : Int} (R : RM q ar g h) (B : BD g) (hf : inR f) (hp : inR p) (k : ∀ c z h1 g1, C1 (flP g f ∧ inP p 0 (rwG g f - 1)) c → (c = 0 → z = g 26 (6 * f + p) ∧ g1 = up g 0 0 0) → (c ≠ 0 → g1 = up g 0 0 c) → RM q ar g1 h1 → Qr (some (vi z)) h1) : aM gx (d + 3) mX5_pieceAt [vr q, vi f, vi p] h 0 0 Qr Qx := by
  intro J C
  show J 0 [some (vr q), some (vi f), some (vi p)] [] h 0 0
  have b1 := B.nn; have b2 := B.np; have b3 := B.nf; have rg := R.rg
  refine r_aload_n C dX5_pieceAt_0 (i := 0) rfl rfl ?_
  refine r_aload_n C dX5_pieceAt_1 (i := 0) rfl rfl ?_
  refine r_iload_n C dX5_pieceAt_2 (i := 1) rfl rfl ?_
  refine m_V1 C dX5_pieceAt_3 sX5_140 rfl R (Nat.le_of_ble_eq_true rfl) (C_X5_isFile R B hf (fun z1 hz1 hb1 => ?_))
  refine r_if_eq C dX5_pieceAt_6 (t := 28) (by decide) (by first | assumption | exact R.rg _ _ | exact rg _ _ | (unfold inR; omega)) (fun c6 => ?_) (fun c6 => ?_)
  · skip
    have hn1 := hb1.f c6
    refine r_iconst C dX5_pieceAt_28 ?_
    refine m_V1 C dX5_pieceAt_29 sX5_91 rfl R (Nat.le_of_ble_eq_true rfl) (C_X5_holds R (by unfold inR; omega) (fun zH h hzH hH R => ?_))
    refine r_if_eq C dX5_pieceAt_32 (t := 49) (by decide) (by first | assumption | exact R.rg _ _ | exact rg _ _ | (unfold inR; omega)) (fun c32 => ?_) (fun c32 => ?_)
    · skip
      refine r_iconst C dX5_pieceAt_49 ?_
      refine r_iret C dX5_pieceAt_50 (Or.inl rfl) ?_
      first | exact k 1 _ _ _ (by unfold C1; omega) (fun z => absurd z (by decide)) (fun _ => rfl) R | exact k 0 _ _ _ (by unfold C1; omega) (fun _ => ⟨by omega, by rw [hs]⟩) (fun z => absurd rfl z) R
    · skip
      exact absurd (hH.t c32) (by decide)
  · skip
    have hn1 := hb1.t c6; have brw := rw_b B hn1.1 hn1.2
    refine r_iload_n C dX5_pieceAt_9 (i := 2) rfl rfl ?_
    refine r_iconst C dX5_pieceAt_10 ?_
    refine r_aload_n C dX5_pieceAt_11 (i := 0) rfl rfl ?_
    refine r_iload_n C dX5_pieceAt_12 (i := 1) rfl rfl ?_
    refine m_V1 C dX5_pieceAt_13 sX5_207 rfl R (Nat.le_of_ble_eq_true rfl) (C_X5_rowsOf R B (by omega) (by omega) ?_)
    refine r_iconst C dX5_pieceAt_16 ?_
    refine r_isub C dX5_pieceAt_17 ?_
    refine r_S3 C dX5_pieceAt_18 sX5_81 (Nat.le_of_ble_eq_true rfl) (C_X5_isIn (by first | assumption | (unfold inR; omega)) (by unfold inR; omega) (by unfold inR; omega) (fun z2 hz2 hb2 => ?_))
    refine r_if_eq C dX5_pieceAt_21 (t := 28) (by decide) (by first | assumption | exact R.rg _ _ | exact rg _ _ | (unfold inR; omega)) (fun c21 => ?_) (fun c21 => ?_)
    · skip
      have hn2 := hb2.f c21
      refine r_iconst C dX5_pieceAt_28 ?_
      refine m_V1 C dX5_pieceAt_29 sX5_91 rfl R (Nat.le_of_ble_eq_true rfl) (C_X5_holds R (by unfold inR; omega) (fun zH h hzH hH R => ?_))
      refine r_if_eq C dX5_pieceAt_32 (t := 49) (by decide) (by first | assumption | exact R.rg _ _ | exact rg _ _ | (unfold inR; omega)) (fun c32 => ?_) (fun c32 => ?_)
      · skip
        refine r_iconst C dX5_pieceAt_49 ?_
        refine r_iret C dX5_pieceAt_50 (Or.inl rfl) ?_
        first | exact k 1 _ _ _ (by unfold C1; omega) (fun z => absurd z (by decide)) (fun _ => rfl) R | exact k 0 _ _ _ (by unfold C1; omega) (fun _ => ⟨by omega, by rw [hs]⟩) (fun z => absurd rfl z) R
      · skip
        exact absurd (hH.t c32) (by decide)
    · skip
      have hn2 := hb2.t c21
      refine r_iconst C dX5_pieceAt_24 ?_
      refine r_goto C dX5_pieceAt_25 (t := 29) (by decide) ?_
      refine m_V1 C dX5_pieceAt_29 sX5_91 rfl R (Nat.le_of_ble_eq_true rfl) (C_X5_holds R (by unfold inR; omega) (fun zH h hzH hH R => ?_))
      refine r_if_eq C dX5_pieceAt_32 (t := 49) (by decide) (by first | assumption | exact R.rg _ _ | exact rg _ _ | (unfold inR; omega)) (fun c32 => ?_) (fun c32 => ?_)
      · skip
        exact absurd rfl (hH.f c32)
      · skip
        obtain ⟨s, hs⟩ : ∃ s, s = up g 0 0 0 := ⟨_, rfl⟩
        rw [← hs] at R
        have ge : ∀ k, k ≠ 0 → ∀ j, s k j = g k j := fun k hk j => by rw [hs, up_ne hk]
        have SB : BD s := by rw [hs]; exact bd_up0 B (by decide)
        have rg := R.rg
        have e4 := ge 4 (by decide) 0; have e11 := ge 11 (by decide) 0; have e22 := ge 22 (by decide) 0
        have e := ge 26 (by decide) (6 * f + p)
        refine r_aload_n C dX5_pieceAt_35 (i := 0) rfl rfl ?_
        refine m_getA C dX5_pieceAt_36 fX5_72 R (by decide) rfl ?_
        refine r_bipush C dX5_pieceAt_39 (by decide) ?_
        refine r_iload_n C dX5_pieceAt_41 (i := 1) rfl rfl ?_
        refine r_imul C dX5_pieceAt_42 ?_
        refine r_iload_n C dX5_pieceAt_43 (i := 2) rfl rfl ?_
        refine r_iadd C dX5_pieceAt_44 ?_
        refine m_iald C dX5_pieceAt_45 R (N := 120) rfl (by decide) rfl (by omega) (by omega) (by omega) ?_
        refine r_goto C dX5_pieceAt_46 (t := 50) (by decide) ?_
        refine r_iret C dX5_pieceAt_50 (Or.inl rfl) ?_
        first | exact k 1 _ _ _ (by unfold C1; omega) (fun z => absurd z (by decide)) (fun _ => rfl) R | exact k 0 _ _ _ (by unfold C1; omega) (fun _ => ⟨by omega, by rw [hs]⟩) (fun z => absurd rfl z) R

def pvG (g : GT) (p w : Int) : Int := if w = 0 then g 12 p else if w = 1 then g 16 p else if w = 2 then gmG g p else if w = 3 then (if leaseP g p then g 13 p else -1) else if w = 4 then (if leaseP g p then g 14 p else -1) else fwG g p (-1)
theorem pv_c {s g : GT} (h : ∀ k, k ≠ 0 → ∀ j, s k j = g k j) (p w : Int) : pvG s p w = pvG g p w := by
  unfold pvG gmG goodP leaseP fwG fcG
  simp only [h 12 (by decide), h 16 (by decide), h 7 (by decide), h 18 (by decide), h 17 (by decide), h 13 (by decide), h 14 (by decide), h 1 (by decide), h 23 (by decide), h 25 (by decide), h 26 (by decide), h 22 (by decide)]
theorem load_c {s g : GT} (h18 : ∀ j, s 18 j = g 18 j) (h11 : s 11 0 = g 11 0) (n : Int) : loadG s n = loadG g n := by
  unfold loadG
  simp only [h18, h11]

set_option maxRecDepth 100000 in
set_option maxHeartbeats 4000000 in
theorem C_X5_piece {gx : GX} {d : Nat} {Qr : Option AV → Hp → Prop} {Qx : String → Hp → Prop} {q : Nat} {ar : Nat → Nat} {g : GT} {h : Hp} {p w : Int} (R : RM q ar g h) (B : BD g) (hp : inR p) (hw : inR w) (k : ∀ c z h1 g1, C2 (pcP g p) (inP w 0 5) c → (c = 0 → z = pvG g p w ∧ g1 = up g 0 0 0) → (c ≠ 0 → g1 = up g 0 0 c) → RM q ar g1 h1 → Qr (some (vi z)) h1) : aM gx (d + 4) mX5_piece [vr q, vi p, vi w] h 0 0 Qr Qx := by
  intro J C
  show J 0 [some (vr q), some (vi p), some (vi w)] [] h 0 0
  have b1 := B.nn; have b2 := B.np; have b3 := B.nf; have rg := R.rg
  refine r_aload_n C dX5_piece_0 (i := 0) rfl rfl ?_
  refine r_aload_n C dX5_piece_1 (i := 0) rfl rfl ?_
  refine r_iload_n C dX5_piece_2 (i := 1) rfl rfl ?_
  refine m_V1 C dX5_piece_3 sX5_101 rfl R (Nat.le_of_ble_eq_true rfl) (C_X5_isPiece R B hp (fun z1 hz1 hb1 => ?_))
  refine r_if_ne C dX5_piece_6 (t := 13) (by decide) (by first | assumption | exact R.rg _ _ | exact rg _ _ | (unfold inR; omega)) (fun c6 => ?_) (fun c6 => ?_)
  · skip
    have hn1 := hb1.t c6
    refine r_iload_n C dX5_piece_13 (i := 2) rfl rfl ?_
    refine r_iconst C dX5_piece_14 ?_
    refine r_iconst C dX5_piece_15 ?_
    refine r_S3 C dX5_piece_16 sX5_81 (Nat.le_of_ble_eq_true rfl) (C_X5_isIn (by first | assumption | (unfold inR; omega)) (by unfold inR; omega) (by unfold inR; omega) (fun z2 hz2 hb2 => ?_))
    refine r_if_eq C dX5_piece_19 (t := 26) (by decide) (by first | assumption | exact R.rg _ _ | exact rg _ _ | (unfold inR; omega)) (fun c19 => ?_) (fun c19 => ?_)
    · skip
      have hn2 := hb2.f c19
      refine r_iconst C dX5_piece_26 ?_
      refine m_V1 C dX5_piece_27 sX5_91 rfl R (Nat.le_of_ble_eq_true rfl) (C_X5_holds R (by unfold inR; omega) (fun zH h hzH hH R => ?_))
      refine r_if_ne C dX5_piece_30 (t := 35) (by decide) (by first | assumption | exact R.rg _ _ | exact rg _ _ | (unfold inR; omega)) (fun c30 => ?_) (fun c30 => ?_)
      · skip
        exact absurd (hH.t c30) (by decide)
      · skip
        refine r_iconst C dX5_piece_33 ?_
        refine r_iret C dX5_piece_34 (Or.inl rfl) ?_
        first | exact k 1 _ _ _ (by unfold C2; omega) (fun z => absurd z (by decide)) (fun _ => rfl) R | exact k 2 _ _ _ (by unfold C2; omega) (fun z => absurd z (by decide)) (fun _ => rfl) R
    · skip
      have hn2 := hb2.t c19
      refine r_iconst C dX5_piece_22 ?_
      refine r_goto C dX5_piece_23 (t := 27) (by decide) ?_
      refine m_V1 C dX5_piece_27 sX5_91 rfl R (Nat.le_of_ble_eq_true rfl) (C_X5_holds R (by unfold inR; omega) (fun zH h hzH hH R => ?_))
      refine r_if_ne C dX5_piece_30 (t := 35) (by decide) (by first | assumption | exact R.rg _ _ | exact rg _ _ | (unfold inR; omega)) (fun c30 => ?_) (fun c30 => ?_)
      · skip
        obtain ⟨s, hs⟩ : ∃ s, s = up g 0 0 0 := ⟨_, rfl⟩
        rw [← hs] at R
        have ge : ∀ k, k ≠ 0 → ∀ j, s k j = g k j := fun k hk j => by rw [hs, up_ne hk]
        have SB : BD s := by rw [hs]; exact bd_up0 B (by decide)
        have rg := R.rg
        have e4 := ge 4 (by decide) 0; have e11 := ge 11 (by decide) 0; have e22 := ge 22 (by decide) 0
        refine r_iload_n C dX5_piece_35 (i := 2) rfl rfl ?_
        refine r_if_ne C dX5_piece_36 (t := 48) (by decide) (by first | assumption | exact R.rg _ _ | exact rg _ _ | (unfold inR; omega)) (fun c36 => ?_) (fun c36 => ?_)
        · skip
          refine r_iload_n C dX5_piece_48 (i := 2) rfl rfl ?_
          refine r_iconst C dX5_piece_49 ?_
          refine r_ic_ne C dX5_piece_50 (t := 62) (by decide) (by first | assumption | exact R.rg _ _ | exact rg _ _ | (unfold inR; omega)) (by first | assumption | exact R.rg _ _ | exact rg _ _ | (unfold inR; omega)) (fun c50 => ?_) (fun c50 => ?_)
          · skip
            refine r_iload_n C dX5_piece_62 (i := 2) rfl rfl ?_
            refine r_iconst C dX5_piece_63 ?_
            refine r_ic_ne C dX5_piece_64 (t := 75) (by decide) (by first | assumption | exact R.rg _ _ | exact rg _ _ | (unfold inR; omega)) (by first | assumption | exact R.rg _ _ | exact rg _ _ | (unfold inR; omega)) (fun c64 => ?_) (fun c64 => ?_)
            · skip
              refine r_iload_n C dX5_piece_75 (i := 2) rfl rfl ?_
              refine r_iconst C dX5_piece_76 ?_
              refine r_ic_ne C dX5_piece_77 (t := 101) (by decide) (by first | assumption | exact R.rg _ _ | exact rg _ _ | (unfold inR; omega)) (by first | assumption | exact R.rg _ _ | exact rg _ _ | (unfold inR; omega)) (fun c77 => ?_) (fun c77 => ?_)
              · skip
                refine r_iload_n C dX5_piece_101 (i := 2) rfl rfl ?_
                refine r_iconst C dX5_piece_102 ?_
                refine r_ic_ne C dX5_piece_103 (t := 127) (by decide) (by first | assumption | exact R.rg _ _ | exact rg _ _ | (unfold inR; omega)) (by first | assumption | exact R.rg _ _ | exact rg _ _ | (unfold inR; omega)) (fun c103 => ?_) (fun c103 => ?_)
                · skip
                  refine r_aload_n C dX5_piece_127 (i := 0) rfl rfl ?_
                  refine r_iload_n C dX5_piece_128 (i := 1) rfl rfl ?_
                  refine r_iconst C dX5_piece_129 ?_
                  refine m_V2 C dX5_piece_130 sX5_137 rfl R (Nat.le_of_ble_eq_true rfl) (C_X5_filesWith R SB (by assumption) (by unfold inR; omega) (fun hfr => ?_))
                  refine r_iret C dX5_piece_133 (Or.inl rfl) ?_
                  have e := pv_c (s := s) (g := g) ge p w
                  refine k 0 _ _ _ (by unfold C2; omega) (fun _ => ⟨?_, by rw [hs]⟩) (fun z => absurd rfl z) R
                  rw [← e]
                  unfold pvG
                  first
                    | rw [if_pos (by omega)]
                    | rw [if_neg (by omega), if_pos (by omega)]
                    | rw [if_neg (by omega), if_neg (by omega), if_pos (by omega)]
                    | rw [if_neg (by omega), if_neg (by omega), if_neg (by omega), if_pos (by omega), if_pos hl]
                    | rw [if_neg (by omega), if_neg (by omega), if_neg (by omega), if_pos (by omega), if_neg hl]
                    | rw [if_neg (by omega), if_neg (by omega), if_neg (by omega), if_neg (by omega), if_pos (by omega), if_pos hl]
                    | rw [if_neg (by omega), if_neg (by omega), if_neg (by omega), if_neg (by omega), if_pos (by omega), if_neg hl]
                    | rw [if_neg (by omega), if_neg (by omega), if_neg (by omega), if_neg (by omega), if_neg (by omega)]
                · skip
                  refine r_aload_n C dX5_piece_106 (i := 0) rfl rfl ?_
                  refine r_iload_n C dX5_piece_107 (i := 1) rfl rfl ?_
                  refine m_V1 C dX5_piece_108 sX5_150 rfl R (Nat.le_of_ble_eq_true rfl) (C_X5_hasLease R (by omega) (by omega) (fun z3 hz3 hb3 => ?_))
                  refine r_if_eq C dX5_piece_111 (t := 123) (by decide) (by first | assumption | exact R.rg _ _ | exact rg _ _ | (unfold inR; omega)) (fun c111 => ?_) (fun c111 => ?_)
                  · skip
                    have hl := hb3.f c111
                    refine r_iconst C dX5_piece_123 ?_
                    refine r_goto C dX5_piece_124 (t := 133) (by decide) ?_
                    refine r_iret C dX5_piece_133 (Or.inl rfl) ?_
                    have e := pv_c (s := s) (g := g) ge p w
                    refine k 0 _ _ _ (by unfold C2; omega) (fun _ => ⟨?_, by rw [hs]⟩) (fun z => absurd rfl z) R
                    rw [← e]
                    unfold pvG
                    first
                      | rw [if_pos (by omega)]
                      | rw [if_neg (by omega), if_pos (by omega)]
                      | rw [if_neg (by omega), if_neg (by omega), if_pos (by omega)]
                      | rw [if_neg (by omega), if_neg (by omega), if_neg (by omega), if_pos (by omega), if_pos hl]
                      | rw [if_neg (by omega), if_neg (by omega), if_neg (by omega), if_pos (by omega), if_neg hl]
                      | rw [if_neg (by omega), if_neg (by omega), if_neg (by omega), if_neg (by omega), if_pos (by omega), if_pos hl]
                      | rw [if_neg (by omega), if_neg (by omega), if_neg (by omega), if_neg (by omega), if_pos (by omega), if_neg hl]
                      | rw [if_neg (by omega), if_neg (by omega), if_neg (by omega), if_neg (by omega), if_neg (by omega)]
                  · skip
                    have hl := hb3.t c111
                    refine r_aload_n C dX5_piece_114 (i := 0) rfl rfl ?_
                    refine m_getA C dX5_piece_115 fX5_39 R (by decide) rfl ?_
                    refine r_iload_n C dX5_piece_118 (i := 1) rfl rfl ?_
                    refine m_iald C dX5_piece_119 R (N := 60) rfl (by decide) rfl (by omega) (by omega) (by omega) ?_
                    refine r_goto C dX5_piece_120 (t := 133) (by decide) ?_
                    refine r_iret C dX5_piece_133 (Or.inl rfl) ?_
                    have e := pv_c (s := s) (g := g) ge p w
                    refine k 0 _ _ _ (by unfold C2; omega) (fun _ => ⟨?_, by rw [hs]⟩) (fun z => absurd rfl z) R
                    rw [← e]
                    unfold pvG
                    first
                      | rw [if_pos (by omega)]
                      | rw [if_neg (by omega), if_pos (by omega)]
                      | rw [if_neg (by omega), if_neg (by omega), if_pos (by omega)]
                      | rw [if_neg (by omega), if_neg (by omega), if_neg (by omega), if_pos (by omega), if_pos hl]
                      | rw [if_neg (by omega), if_neg (by omega), if_neg (by omega), if_pos (by omega), if_neg hl]
                      | rw [if_neg (by omega), if_neg (by omega), if_neg (by omega), if_neg (by omega), if_pos (by omega), if_pos hl]
                      | rw [if_neg (by omega), if_neg (by omega), if_neg (by omega), if_neg (by omega), if_pos (by omega), if_neg hl]
                      | rw [if_neg (by omega), if_neg (by omega), if_neg (by omega), if_neg (by omega), if_neg (by omega)]
              · skip
                refine r_aload_n C dX5_piece_80 (i := 0) rfl rfl ?_
                refine r_iload_n C dX5_piece_81 (i := 1) rfl rfl ?_
                refine m_V1 C dX5_piece_82 sX5_150 rfl R (Nat.le_of_ble_eq_true rfl) (C_X5_hasLease R (by omega) (by omega) (fun z3 hz3 hb3 => ?_))
                refine r_if_eq C dX5_piece_85 (t := 97) (by decide) (by first | assumption | exact R.rg _ _ | exact rg _ _ | (unfold inR; omega)) (fun c85 => ?_) (fun c85 => ?_)
                · skip
                  have hl := hb3.f c85
                  refine r_iconst C dX5_piece_97 ?_
                  refine r_goto C dX5_piece_98 (t := 133) (by decide) ?_
                  refine r_iret C dX5_piece_133 (Or.inl rfl) ?_
                  have e := pv_c (s := s) (g := g) ge p w
                  refine k 0 _ _ _ (by unfold C2; omega) (fun _ => ⟨?_, by rw [hs]⟩) (fun z => absurd rfl z) R
                  rw [← e]
                  unfold pvG
                  first
                    | rw [if_pos (by omega)]
                    | rw [if_neg (by omega), if_pos (by omega)]
                    | rw [if_neg (by omega), if_neg (by omega), if_pos (by omega)]
                    | rw [if_neg (by omega), if_neg (by omega), if_neg (by omega), if_pos (by omega), if_pos hl]
                    | rw [if_neg (by omega), if_neg (by omega), if_neg (by omega), if_pos (by omega), if_neg hl]
                    | rw [if_neg (by omega), if_neg (by omega), if_neg (by omega), if_neg (by omega), if_pos (by omega), if_pos hl]
                    | rw [if_neg (by omega), if_neg (by omega), if_neg (by omega), if_neg (by omega), if_pos (by omega), if_neg hl]
                    | rw [if_neg (by omega), if_neg (by omega), if_neg (by omega), if_neg (by omega), if_neg (by omega)]
                · skip
                  have hl := hb3.t c85
                  refine r_aload_n C dX5_piece_88 (i := 0) rfl rfl ?_
                  refine m_getA C dX5_piece_89 fX5_36 R (by decide) rfl ?_
                  refine r_iload_n C dX5_piece_92 (i := 1) rfl rfl ?_
                  refine m_iald C dX5_piece_93 R (N := 60) rfl (by decide) rfl (by omega) (by omega) (by omega) ?_
                  refine r_goto C dX5_piece_94 (t := 133) (by decide) ?_
                  refine r_iret C dX5_piece_133 (Or.inl rfl) ?_
                  have e := pv_c (s := s) (g := g) ge p w
                  refine k 0 _ _ _ (by unfold C2; omega) (fun _ => ⟨?_, by rw [hs]⟩) (fun z => absurd rfl z) R
                  rw [← e]
                  unfold pvG
                  first
                    | rw [if_pos (by omega)]
                    | rw [if_neg (by omega), if_pos (by omega)]
                    | rw [if_neg (by omega), if_neg (by omega), if_pos (by omega)]
                    | rw [if_neg (by omega), if_neg (by omega), if_neg (by omega), if_pos (by omega), if_pos hl]
                    | rw [if_neg (by omega), if_neg (by omega), if_neg (by omega), if_pos (by omega), if_neg hl]
                    | rw [if_neg (by omega), if_neg (by omega), if_neg (by omega), if_neg (by omega), if_pos (by omega), if_pos hl]
                    | rw [if_neg (by omega), if_neg (by omega), if_neg (by omega), if_neg (by omega), if_pos (by omega), if_neg hl]
                    | rw [if_neg (by omega), if_neg (by omega), if_neg (by omega), if_neg (by omega), if_neg (by omega)]
            · skip
              refine r_aload_n C dX5_piece_67 (i := 0) rfl rfl ?_
              refine r_iload_n C dX5_piece_68 (i := 1) rfl rfl ?_
              refine m_V1 C dX5_piece_69 sX5_237 rfl R (Nat.le_of_ble_eq_true rfl) (C_X5_goodMany R SB (by omega) (by omega) ?_)
              refine r_goto C dX5_piece_72 (t := 133) (by decide) ?_
              refine r_iret C dX5_piece_133 (Or.inl rfl) ?_
              have e := pv_c (s := s) (g := g) ge p w
              refine k 0 _ _ _ (by unfold C2; omega) (fun _ => ⟨?_, by rw [hs]⟩) (fun z => absurd rfl z) R
              rw [← e]
              unfold pvG
              first
                | rw [if_pos (by omega)]
                | rw [if_neg (by omega), if_pos (by omega)]
                | rw [if_neg (by omega), if_neg (by omega), if_pos (by omega)]
                | rw [if_neg (by omega), if_neg (by omega), if_neg (by omega), if_pos (by omega), if_pos hl]
                | rw [if_neg (by omega), if_neg (by omega), if_neg (by omega), if_pos (by omega), if_neg hl]
                | rw [if_neg (by omega), if_neg (by omega), if_neg (by omega), if_neg (by omega), if_pos (by omega), if_pos hl]
                | rw [if_neg (by omega), if_neg (by omega), if_neg (by omega), if_neg (by omega), if_pos (by omega), if_neg hl]
                | rw [if_neg (by omega), if_neg (by omega), if_neg (by omega), if_neg (by omega), if_neg (by omega)]
          · skip
            refine r_aload_n C dX5_piece_53 (i := 0) rfl rfl ?_
            refine m_getA C dX5_piece_54 fX5_45 R (by decide) rfl ?_
            refine r_iload_n C dX5_piece_57 (i := 1) rfl rfl ?_
            refine m_iald C dX5_piece_58 R (N := 60) rfl (by decide) rfl (by omega) (by omega) (by omega) ?_
            refine r_goto C dX5_piece_59 (t := 133) (by decide) ?_
            refine r_iret C dX5_piece_133 (Or.inl rfl) ?_
            have e := pv_c (s := s) (g := g) ge p w
            refine k 0 _ _ _ (by unfold C2; omega) (fun _ => ⟨?_, by rw [hs]⟩) (fun z => absurd rfl z) R
            rw [← e]
            unfold pvG
            first
              | rw [if_pos (by omega)]
              | rw [if_neg (by omega), if_pos (by omega)]
              | rw [if_neg (by omega), if_neg (by omega), if_pos (by omega)]
              | rw [if_neg (by omega), if_neg (by omega), if_neg (by omega), if_pos (by omega), if_pos hl]
              | rw [if_neg (by omega), if_neg (by omega), if_neg (by omega), if_pos (by omega), if_neg hl]
              | rw [if_neg (by omega), if_neg (by omega), if_neg (by omega), if_neg (by omega), if_pos (by omega), if_pos hl]
              | rw [if_neg (by omega), if_neg (by omega), if_neg (by omega), if_neg (by omega), if_pos (by omega), if_neg hl]
              | rw [if_neg (by omega), if_neg (by omega), if_neg (by omega), if_neg (by omega), if_neg (by omega)]
        · skip
          refine r_aload_n C dX5_piece_39 (i := 0) rfl rfl ?_
          refine m_getA C dX5_piece_40 fX5_33 R (by decide) rfl ?_
          refine r_iload_n C dX5_piece_43 (i := 1) rfl rfl ?_
          refine m_iald C dX5_piece_44 R (N := 60) rfl (by decide) rfl (by omega) (by omega) (by omega) ?_
          refine r_goto C dX5_piece_45 (t := 133) (by decide) ?_
          refine r_iret C dX5_piece_133 (Or.inl rfl) ?_
          have e := pv_c (s := s) (g := g) ge p w
          refine k 0 _ _ _ (by unfold C2; omega) (fun _ => ⟨?_, by rw [hs]⟩) (fun z => absurd rfl z) R
          rw [← e]
          unfold pvG
          first
            | rw [if_pos (by omega)]
            | rw [if_neg (by omega), if_pos (by omega)]
            | rw [if_neg (by omega), if_neg (by omega), if_pos (by omega)]
            | rw [if_neg (by omega), if_neg (by omega), if_neg (by omega), if_pos (by omega), if_pos hl]
            | rw [if_neg (by omega), if_neg (by omega), if_neg (by omega), if_pos (by omega), if_neg hl]
            | rw [if_neg (by omega), if_neg (by omega), if_neg (by omega), if_neg (by omega), if_pos (by omega), if_pos hl]
            | rw [if_neg (by omega), if_neg (by omega), if_neg (by omega), if_neg (by omega), if_pos (by omega), if_neg hl]
            | rw [if_neg (by omega), if_neg (by omega), if_neg (by omega), if_neg (by omega), if_neg (by omega)]
      · skip
        exact absurd rfl (hH.f c30)
  · skip
    have hn1 := hb1.f c6
    refine r_iconst C dX5_piece_9 ?_
    refine r_goto C dX5_piece_10 (t := 27) (by decide) ?_
    refine m_V1 C dX5_piece_27 sX5_91 rfl R (Nat.le_of_ble_eq_true rfl) (C_X5_holds R (by unfold inR; omega) (fun zH h hzH hH R => ?_))
    refine r_if_ne C dX5_piece_30 (t := 35) (by decide) (by first | assumption | exact R.rg _ _ | exact rg _ _ | (unfold inR; omega)) (fun c30 => ?_) (fun c30 => ?_)
    · skip
      exact absurd (hH.t c30) (by decide)
    · skip
      refine r_iconst C dX5_piece_33 ?_
      refine r_iret C dX5_piece_34 (Or.inl rfl) ?_
      first | exact k 1 _ _ _ (by unfold C2; omega) (fun z => absurd z (by decide)) (fun _ => rfl) R | exact k 2 _ _ _ (by unfold C2; omega) (fun z => absurd z (by decide)) (fun _ => rfl) R

set_option maxRecDepth 100000 in
set_option maxHeartbeats 4000000 in
theorem C_X5_copyAt {gx : GX} {d : Nat} {Qr : Option AV → Hp → Prop} {Qx : String → Hp → Prop} {q : Nat} {ar : Nat → Nat} {g : GT} {h : Hp} {p w : Int} (R : RM q ar g h) (B : BD g) (hp : inR p) (hw : inR w) (k : ∀ c z h1 g1, C1 (pcP g p ∧ inP w 0 (g 16 p - 1)) c → (c = 0 → z = g 17 (8 * p + w) ∧ g1 = up g 0 0 0) → (c ≠ 0 → g1 = up g 0 0 c) → RM q ar g1 h1 → Qr (some (vi z)) h1) : aM gx (d + 3) mX5_copyAt [vr q, vi p, vi w] h 0 0 Qr Qx := by
  intro J C
  show J 0 [some (vr q), some (vi p), some (vi w)] [] h 0 0
  have b1 := B.nn; have b2 := B.np; have b3 := B.nf; have rg := R.rg
  refine r_aload_n C dX5_copyAt_0 (i := 0) rfl rfl ?_
  refine r_aload_n C dX5_copyAt_1 (i := 0) rfl rfl ?_
  refine r_iload_n C dX5_copyAt_2 (i := 1) rfl rfl ?_
  refine m_V1 C dX5_copyAt_3 sX5_101 rfl R (Nat.le_of_ble_eq_true rfl) (C_X5_isPiece R B hp (fun z1 hz1 hb1 => ?_))
  refine r_if_eq C dX5_copyAt_6 (t := 29) (by decide) (by first | assumption | exact R.rg _ _ | exact rg _ _ | (unfold inR; omega)) (fun c6 => ?_) (fun c6 => ?_)
  · skip
    have hn1 := hb1.f c6
    refine r_iconst C dX5_copyAt_29 ?_
    refine m_V1 C dX5_copyAt_30 sX5_91 rfl R (Nat.le_of_ble_eq_true rfl) (C_X5_holds R (by unfold inR; omega) (fun zH h hzH hH R => ?_))
    refine r_if_eq C dX5_copyAt_33 (t := 50) (by decide) (by first | assumption | exact R.rg _ _ | exact rg _ _ | (unfold inR; omega)) (fun c33 => ?_) (fun c33 => ?_)
    · skip
      refine r_iconst C dX5_copyAt_50 ?_
      refine r_iret C dX5_copyAt_51 (Or.inl rfl) ?_
      first | exact k 1 _ _ _ (by unfold C1; omega) (fun z => absurd z (by decide)) (fun _ => rfl) R | exact k 0 _ _ _ (by unfold C1; omega) (fun _ => ⟨by omega, by rw [hs]⟩) (fun z => absurd rfl z) R
    · skip
      exact absurd (hH.t c33) (by decide)
  · skip
    have hn1 := hb1.t c6; have bcp := B.cp p hn1.1 hn1.2
    refine r_iload_n C dX5_copyAt_9 (i := 2) rfl rfl ?_
    refine r_iconst C dX5_copyAt_10 ?_
    refine r_aload_n C dX5_copyAt_11 (i := 0) rfl rfl ?_
    refine m_getA C dX5_copyAt_12 fX5_45 R (by decide) rfl ?_
    refine r_iload_n C dX5_copyAt_15 (i := 1) rfl rfl ?_
    refine m_iald C dX5_copyAt_16 R (N := 60) rfl (by decide) rfl (by omega) (by omega) (by omega) ?_
    refine r_iconst C dX5_copyAt_17 ?_
    refine r_isub C dX5_copyAt_18 ?_
    refine r_S3 C dX5_copyAt_19 sX5_81 (Nat.le_of_ble_eq_true rfl) (C_X5_isIn (by first | assumption | (unfold inR; omega)) (by unfold inR; omega) (by unfold inR; omega) (fun z2 hz2 hb2 => ?_))
    refine r_if_eq C dX5_copyAt_22 (t := 29) (by decide) (by first | assumption | exact R.rg _ _ | exact rg _ _ | (unfold inR; omega)) (fun c22 => ?_) (fun c22 => ?_)
    · skip
      have hn2 := hb2.f c22
      refine r_iconst C dX5_copyAt_29 ?_
      refine m_V1 C dX5_copyAt_30 sX5_91 rfl R (Nat.le_of_ble_eq_true rfl) (C_X5_holds R (by unfold inR; omega) (fun zH h hzH hH R => ?_))
      refine r_if_eq C dX5_copyAt_33 (t := 50) (by decide) (by first | assumption | exact R.rg _ _ | exact rg _ _ | (unfold inR; omega)) (fun c33 => ?_) (fun c33 => ?_)
      · skip
        refine r_iconst C dX5_copyAt_50 ?_
        refine r_iret C dX5_copyAt_51 (Or.inl rfl) ?_
        first | exact k 1 _ _ _ (by unfold C1; omega) (fun z => absurd z (by decide)) (fun _ => rfl) R | exact k 0 _ _ _ (by unfold C1; omega) (fun _ => ⟨by omega, by rw [hs]⟩) (fun z => absurd rfl z) R
      · skip
        exact absurd (hH.t c33) (by decide)
    · skip
      have hn2 := hb2.t c22
      refine r_iconst C dX5_copyAt_25 ?_
      refine r_goto C dX5_copyAt_26 (t := 30) (by decide) ?_
      refine m_V1 C dX5_copyAt_30 sX5_91 rfl R (Nat.le_of_ble_eq_true rfl) (C_X5_holds R (by unfold inR; omega) (fun zH h hzH hH R => ?_))
      refine r_if_eq C dX5_copyAt_33 (t := 50) (by decide) (by first | assumption | exact R.rg _ _ | exact rg _ _ | (unfold inR; omega)) (fun c33 => ?_) (fun c33 => ?_)
      · skip
        exact absurd rfl (hH.f c33)
      · skip
        obtain ⟨s, hs⟩ : ∃ s, s = up g 0 0 0 := ⟨_, rfl⟩
        rw [← hs] at R
        have ge : ∀ k, k ≠ 0 → ∀ j, s k j = g k j := fun k hk j => by rw [hs, up_ne hk]
        have SB : BD s := by rw [hs]; exact bd_up0 B (by decide)
        have rg := R.rg
        have e4 := ge 4 (by decide) 0; have e11 := ge 11 (by decide) 0; have e22 := ge 22 (by decide) 0
        have e := ge 17 (by decide) (8 * p + w)
        refine r_aload_n C dX5_copyAt_36 (i := 0) rfl rfl ?_
        refine m_getA C dX5_copyAt_37 fX5_48 R (by decide) rfl ?_
        refine r_bipush C dX5_copyAt_40 (by decide) ?_
        refine r_iload_n C dX5_copyAt_42 (i := 1) rfl rfl ?_
        refine r_imul C dX5_copyAt_43 ?_
        refine r_iload_n C dX5_copyAt_44 (i := 2) rfl rfl ?_
        refine r_iadd C dX5_copyAt_45 ?_
        refine m_iald C dX5_copyAt_46 R (N := 480) rfl (by decide) rfl (by omega) (by omega) (by omega) ?_
        refine r_goto C dX5_copyAt_47 (t := 51) (by decide) ?_
        refine r_iret C dX5_copyAt_51 (Or.inl rfl) ?_
        first | exact k 1 _ _ _ (by unfold C1; omega) (fun z => absurd z (by decide)) (fun _ => rfl) R | exact k 0 _ _ _ (by unfold C1; omega) (fun _ => ⟨by omega, by rw [hs]⟩) (fun z => absurd rfl z) R

set_option maxRecDepth 100000 in
set_option maxHeartbeats 4000000 in
theorem C_X5_on {gx : GX} {d : Nat} {Qr : Option AV → Hp → Prop} {Qx : String → Hp → Prop} {q : Nat} {ar : Nat → Nat} {g : GT} {h : Hp} {n p w : Int} (R : RM q ar g h) (B : BD g) (hn : inR n) (hp : inR p) (hw : inR w) (k : ∀ c z h1 g1, C2 (ndP g n ∧ pcP g p) (inP w 0 2) c → (c = 0 → z = (if g 18 (60 * n + p) = 0 then -1 else if w = 0 then g 18 (60 * n + p) else if w = 1 then g 19 (60 * n + p) else g 21 (60 * n + p)) ∧ g1 = up g 0 0 0) → (c ≠ 0 → g1 = up g 0 0 c) → RM q ar g1 h1 → Qr (some (vi z)) h1) : aM gx (d + 3) mX5_on [vr q, vi n, vi p, vi w] h 0 0 Qr Qx := by
  intro J C
  show J 0 [some (vr q), some (vi n), some (vi p), some (vi w), none] [] h 0 0
  have b1 := B.nn; have b2 := B.np; have b3 := B.nf; have rg := R.rg
  refine r_aload_n C dX5_on_0 (i := 0) rfl rfl ?_
  refine r_aload_n C dX5_on_1 (i := 0) rfl rfl ?_
  refine r_iload_n C dX5_on_2 (i := 1) rfl rfl ?_
  refine m_V1 C dX5_on_3 sX5_95 rfl R (Nat.le_of_ble_eq_true rfl) (C_X5_isNode R B hn (fun z1 hz1 hb1 => ?_))
  refine r_if_eq C dX5_on_6 (t := 17) (by decide) (by first | assumption | exact R.rg _ _ | exact rg _ _ | (unfold inR; omega)) (fun c6 => ?_) (fun c6 => ?_)
  · skip
    have hn1 := hb1.f c6
    refine r_iconst C dX5_on_17 ?_
    refine r_goto C dX5_on_18 (t := 35) (by decide) ?_
    refine m_V1 C dX5_on_35 sX5_91 rfl R (Nat.le_of_ble_eq_true rfl) (C_X5_holds R (by unfold inR; omega) (fun zH h hzH hH R => ?_))
    refine r_if_ne C dX5_on_38 (t := 43) (by decide) (by first | assumption | exact R.rg _ _ | exact rg _ _ | (unfold inR; omega)) (fun c38 => ?_) (fun c38 => ?_)
    · skip
      exact absurd (hH.t c38) (by decide)
    · skip
      refine r_iconst C dX5_on_41 ?_
      refine r_iret C dX5_on_42 (Or.inl rfl) ?_
      first | exact k 1 _ _ _ (by unfold C2; omega) (fun z => absurd z (by decide)) (fun _ => rfl) R | exact k 2 _ _ _ (by unfold C2; omega) (fun z => absurd z (by decide)) (fun _ => rfl) R
  · skip
    have hn1 := hb1.t c6
    refine r_aload_n C dX5_on_9 (i := 0) rfl rfl ?_
    refine r_iload_n C dX5_on_10 (i := 2) rfl rfl ?_
    refine m_V1 C dX5_on_11 sX5_101 rfl R (Nat.le_of_ble_eq_true rfl) (C_X5_isPiece R B hp (fun z2 hz2 hb2 => ?_))
    refine r_if_ne C dX5_on_14 (t := 21) (by decide) (by first | assumption | exact R.rg _ _ | exact rg _ _ | (unfold inR; omega)) (fun c14 => ?_) (fun c14 => ?_)
    · skip
      have hn2 := hb2.t c14
      refine r_iload_n C dX5_on_21 (i := 3) rfl rfl ?_
      refine r_iconst C dX5_on_22 ?_
      refine r_iconst C dX5_on_23 ?_
      refine r_S3 C dX5_on_24 sX5_81 (Nat.le_of_ble_eq_true rfl) (C_X5_isIn (by first | assumption | (unfold inR; omega)) (by unfold inR; omega) (by unfold inR; omega) (fun z3 hz3 hb3 => ?_))
      refine r_if_eq C dX5_on_27 (t := 34) (by decide) (by first | assumption | exact R.rg _ _ | exact rg _ _ | (unfold inR; omega)) (fun c27 => ?_) (fun c27 => ?_)
      · skip
        have hn3 := hb3.f c27
        refine r_iconst C dX5_on_34 ?_
        refine m_V1 C dX5_on_35 sX5_91 rfl R (Nat.le_of_ble_eq_true rfl) (C_X5_holds R (by unfold inR; omega) (fun zH h hzH hH R => ?_))
        refine r_if_ne C dX5_on_38 (t := 43) (by decide) (by first | assumption | exact R.rg _ _ | exact rg _ _ | (unfold inR; omega)) (fun c38 => ?_) (fun c38 => ?_)
        · skip
          exact absurd (hH.t c38) (by decide)
        · skip
          refine r_iconst C dX5_on_41 ?_
          refine r_iret C dX5_on_42 (Or.inl rfl) ?_
          first | exact k 1 _ _ _ (by unfold C2; omega) (fun z => absurd z (by decide)) (fun _ => rfl) R | exact k 2 _ _ _ (by unfold C2; omega) (fun z => absurd z (by decide)) (fun _ => rfl) R
      · skip
        have hn3 := hb3.t c27
        refine r_iconst C dX5_on_30 ?_
        refine r_goto C dX5_on_31 (t := 35) (by decide) ?_
        refine m_V1 C dX5_on_35 sX5_91 rfl R (Nat.le_of_ble_eq_true rfl) (C_X5_holds R (by unfold inR; omega) (fun zH h hzH hH R => ?_))
        refine r_if_ne C dX5_on_38 (t := 43) (by decide) (by first | assumption | exact R.rg _ _ | exact rg _ _ | (unfold inR; omega)) (fun c38 => ?_) (fun c38 => ?_)
        · skip
          obtain ⟨s, hs⟩ : ∃ s, s = up g 0 0 0 := ⟨_, rfl⟩
          rw [← hs] at R
          have ge : ∀ k, k ≠ 0 → ∀ j, s k j = g k j := fun k hk j => by rw [hs, up_ne hk]
          have SB : BD s := by rw [hs]; exact bd_up0 B (by decide)
          have rg := R.rg
          have e4 := ge 4 (by decide) 0; have e11 := ge 11 (by decide) 0; have e22 := ge 22 (by decide) 0
          have e18 := ge 18 (by decide) (60 * n + p); have e19 := ge 19 (by decide) (60 * n + p); have e21 := ge 21 (by decide) (60 * n + p)
          refine r_iload_n C dX5_on_43 (i := 1) rfl rfl ?_
          refine r_iload_n C dX5_on_44 (i := 2) rfl rfl ?_
          refine r_S2 C dX5_on_45 sX5_104 (Nat.le_of_ble_eq_true rfl) (C_X5_at ?_)
          refine r_istore C dX5_on_48 (Nat.le_of_ble_eq_true rfl) ?_
          dsimp only [List.set]
          refine r_aload_n C dX5_on_50 (i := 0) rfl rfl ?_
          refine m_getA C dX5_on_51 fX5_51 R (by decide) rfl ?_
          refine r_iload C dX5_on_54 rfl ?_
          refine m_iald C dX5_on_56 R (N := 480) rfl (by decide) rfl (by omega) (by omega) (by omega) ?_
          refine r_if_ne C dX5_on_57 (t := 64) (by decide) (by first | assumption | exact R.rg _ _ | exact rg _ _ | (unfold inR; omega)) (fun c57 => ?_) (fun c57 => ?_)
          · skip
            refine r_iload_n C dX5_on_64 (i := 3) rfl rfl ?_
            refine r_if_ne C dX5_on_65 (t := 78) (by decide) (by first | assumption | exact R.rg _ _ | exact rg _ _ | (unfold inR; omega)) (fun c65 => ?_) (fun c65 => ?_)
            · skip
              refine r_iload_n C dX5_on_78 (i := 3) rfl rfl ?_
              refine r_iconst C dX5_on_79 ?_
              refine r_ic_ne C dX5_on_80 (t := 93) (by decide) (by first | assumption | exact R.rg _ _ | exact rg _ _ | (unfold inR; omega)) (by first | assumption | exact R.rg _ _ | exact rg _ _ | (unfold inR; omega)) (fun c80 => ?_) (fun c80 => ?_)
              · skip
                refine r_aload_n C dX5_on_93 (i := 0) rfl rfl ?_
                refine m_getA C dX5_on_94 fX5_60 R (by decide) rfl ?_
                refine r_iload C dX5_on_97 rfl ?_
                refine m_iald C dX5_on_99 R (N := 480) rfl (by decide) rfl (by omega) (by omega) (by omega) ?_
                refine r_iret C dX5_on_100 (Or.inl rfl) ?_
                refine k 0 _ _ _ (by unfold C2; omega) (fun _ => ⟨?_, by rw [hs]⟩) (fun z => absurd rfl z) R
                first
                  | rw [if_pos (by omega)]
                  | (rw [if_neg (by omega), if_pos (by omega)]; omega)
                  | (rw [if_neg (by omega), if_neg (by omega), if_pos (by omega)]; omega)
                  | (rw [if_neg (by omega), if_neg (by omega), if_neg (by omega)]; omega)
              · skip
                refine r_aload_n C dX5_on_83 (i := 0) rfl rfl ?_
                refine m_getA C dX5_on_84 fX5_54 R (by decide) rfl ?_
                refine r_iload C dX5_on_87 rfl ?_
                refine m_iald C dX5_on_89 R (N := 480) rfl (by decide) rfl (by omega) (by omega) (by omega) ?_
                refine r_goto C dX5_on_90 (t := 100) (by decide) ?_
                refine r_iret C dX5_on_100 (Or.inl rfl) ?_
                refine k 0 _ _ _ (by unfold C2; omega) (fun _ => ⟨?_, by rw [hs]⟩) (fun z => absurd rfl z) R
                first
                  | rw [if_pos (by omega)]
                  | (rw [if_neg (by omega), if_pos (by omega)]; omega)
                  | (rw [if_neg (by omega), if_neg (by omega), if_pos (by omega)]; omega)
                  | (rw [if_neg (by omega), if_neg (by omega), if_neg (by omega)]; omega)
            · skip
              refine r_aload_n C dX5_on_68 (i := 0) rfl rfl ?_
              refine m_getA C dX5_on_69 fX5_51 R (by decide) rfl ?_
              refine r_iload C dX5_on_72 rfl ?_
              refine m_iald C dX5_on_74 R (N := 480) rfl (by decide) rfl (by omega) (by omega) (by omega) ?_
              refine r_goto C dX5_on_75 (t := 100) (by decide) ?_
              refine r_iret C dX5_on_100 (Or.inl rfl) ?_
              refine k 0 _ _ _ (by unfold C2; omega) (fun _ => ⟨?_, by rw [hs]⟩) (fun z => absurd rfl z) R
              first
                | rw [if_pos (by omega)]
                | (rw [if_neg (by omega), if_pos (by omega)]; omega)
                | (rw [if_neg (by omega), if_neg (by omega), if_pos (by omega)]; omega)
                | (rw [if_neg (by omega), if_neg (by omega), if_neg (by omega)]; omega)
          · skip
            refine r_iconst C dX5_on_60 ?_
            refine r_goto C dX5_on_61 (t := 100) (by decide) ?_
            refine r_iret C dX5_on_100 (Or.inl rfl) ?_
            refine k 0 _ _ _ (by unfold C2; omega) (fun _ => ⟨?_, by rw [hs]⟩) (fun z => absurd rfl z) R
            first
              | rw [if_pos (by omega)]
              | (rw [if_neg (by omega), if_pos (by omega)]; omega)
              | (rw [if_neg (by omega), if_neg (by omega), if_pos (by omega)]; omega)
              | (rw [if_neg (by omega), if_neg (by omega), if_neg (by omega)]; omega)
        · skip
          exact absurd rfl (hH.f c38)
    · skip
      have hn2 := hb2.f c14
      refine r_iconst C dX5_on_17 ?_
      refine r_goto C dX5_on_18 (t := 35) (by decide) ?_
      refine m_V1 C dX5_on_35 sX5_91 rfl R (Nat.le_of_ble_eq_true rfl) (C_X5_holds R (by unfold inR; omega) (fun zH h hzH hH R => ?_))
      refine r_if_ne C dX5_on_38 (t := 43) (by decide) (by first | assumption | exact R.rg _ _ | exact rg _ _ | (unfold inR; omega)) (fun c38 => ?_) (fun c38 => ?_)
      · skip
        exact absurd (hH.t c38) (by decide)
      · skip
        refine r_iconst C dX5_on_41 ?_
        refine r_iret C dX5_on_42 (Or.inl rfl) ?_
        first | exact k 1 _ _ _ (by unfold C2; omega) (fun z => absurd z (by decide)) (fun _ => rfl) R | exact k 2 _ _ _ (by unfold C2; omega) (fun z => absurd z (by decide)) (fun _ => rfl) R

set_option maxRecDepth 100000 in
set_option maxHeartbeats 4000000 in
theorem C_X5_cellOn {gx : GX} {d : Nat} {Qr : Option AV → Hp → Prop} {Qx : String → Hp → Prop} {q : Nat} {ar : Nat → Nat} {g : GT} {h : Hp} {n p c : Int} (R : RM q ar g h) (B : BD g) (hn : inR n) (hp : inR p) (hc : inR c) (k : ∀ e z h1 g1, C1 (ndP g n ∧ pcP g p ∧ inP c 0 3) e → (e = 0 → z = (if g 18 (60 * n + p) = 0 ∨ g 19 (60 * n + p) ≤ c then -1 else g 20 (4 * (60 * n + p) + c)) ∧ g1 = up g 0 0 0) → (e ≠ 0 → g1 = up g 0 0 e) → RM q ar g1 h1 → Qr (some (vi z)) h1) : aM gx (d + 3) mX5_cellOn [vr q, vi n, vi p, vi c] h 0 0 Qr Qx := by
  intro J C
  show J 0 [some (vr q), some (vi n), some (vi p), some (vi c), none] [] h 0 0
  have b1 := B.nn; have b2 := B.np; have b3 := B.nf; have rg := R.rg
  refine r_aload_n C dX5_cellOn_0 (i := 0) rfl rfl ?_
  refine r_aload_n C dX5_cellOn_1 (i := 0) rfl rfl ?_
  refine r_iload_n C dX5_cellOn_2 (i := 1) rfl rfl ?_
  refine m_V1 C dX5_cellOn_3 sX5_95 rfl R (Nat.le_of_ble_eq_true rfl) (C_X5_isNode R B hn (fun z1 hz1 hb1 => ?_))
  refine r_if_eq C dX5_cellOn_6 (t := 30) (by decide) (by first | assumption | exact R.rg _ _ | exact rg _ _ | (unfold inR; omega)) (fun c6 => ?_) (fun c6 => ?_)
  · skip
    have hn1 := hb1.f c6
    refine r_iconst C dX5_cellOn_30 ?_
    refine m_V1 C dX5_cellOn_31 sX5_91 rfl R (Nat.le_of_ble_eq_true rfl) (C_X5_holds R (by unfold inR; omega) (fun zH h hzH hH R => ?_))
    refine r_if_ne C dX5_cellOn_34 (t := 39) (by decide) (by first | assumption | exact R.rg _ _ | exact rg _ _ | (unfold inR; omega)) (fun c34 => ?_) (fun c34 => ?_)
    · skip
      exact absurd (hH.t c34) (by decide)
    · skip
      refine r_iconst C dX5_cellOn_37 ?_
      refine r_iret C dX5_cellOn_38 (Or.inl rfl) ?_
      exact k 1 _ _ _ (by unfold C1; omega) (fun z => absurd z (by decide)) (fun _ => rfl) R
  · skip
    have hn1 := hb1.t c6
    refine r_aload_n C dX5_cellOn_9 (i := 0) rfl rfl ?_
    refine r_iload_n C dX5_cellOn_10 (i := 2) rfl rfl ?_
    refine m_V1 C dX5_cellOn_11 sX5_101 rfl R (Nat.le_of_ble_eq_true rfl) (C_X5_isPiece R B hp (fun z2 hz2 hb2 => ?_))
    refine r_if_eq C dX5_cellOn_14 (t := 30) (by decide) (by first | assumption | exact R.rg _ _ | exact rg _ _ | (unfold inR; omega)) (fun c14 => ?_) (fun c14 => ?_)
    · skip
      have hn2 := hb2.f c14
      refine r_iconst C dX5_cellOn_30 ?_
      refine m_V1 C dX5_cellOn_31 sX5_91 rfl R (Nat.le_of_ble_eq_true rfl) (C_X5_holds R (by unfold inR; omega) (fun zH h hzH hH R => ?_))
      refine r_if_ne C dX5_cellOn_34 (t := 39) (by decide) (by first | assumption | exact R.rg _ _ | exact rg _ _ | (unfold inR; omega)) (fun c34 => ?_) (fun c34 => ?_)
      · skip
        exact absurd (hH.t c34) (by decide)
      · skip
        refine r_iconst C dX5_cellOn_37 ?_
        refine r_iret C dX5_cellOn_38 (Or.inl rfl) ?_
        exact k 1 _ _ _ (by unfold C1; omega) (fun z => absurd z (by decide)) (fun _ => rfl) R
    · skip
      have hn2 := hb2.t c14
      refine r_iload_n C dX5_cellOn_17 (i := 3) rfl rfl ?_
      refine r_iconst C dX5_cellOn_18 ?_
      refine r_iconst C dX5_cellOn_19 ?_
      refine r_S3 C dX5_cellOn_20 sX5_81 (Nat.le_of_ble_eq_true rfl) (C_X5_isIn (by first | assumption | (unfold inR; omega)) (by unfold inR; omega) (by unfold inR; omega) (fun z3 hz3 hb3 => ?_))
      refine r_if_eq C dX5_cellOn_23 (t := 30) (by decide) (by first | assumption | exact R.rg _ _ | exact rg _ _ | (unfold inR; omega)) (fun c23 => ?_) (fun c23 => ?_)
      · skip
        have hn3 := hb3.f c23
        refine r_iconst C dX5_cellOn_30 ?_
        refine m_V1 C dX5_cellOn_31 sX5_91 rfl R (Nat.le_of_ble_eq_true rfl) (C_X5_holds R (by unfold inR; omega) (fun zH h hzH hH R => ?_))
        refine r_if_ne C dX5_cellOn_34 (t := 39) (by decide) (by first | assumption | exact R.rg _ _ | exact rg _ _ | (unfold inR; omega)) (fun c34 => ?_) (fun c34 => ?_)
        · skip
          exact absurd (hH.t c34) (by decide)
        · skip
          refine r_iconst C dX5_cellOn_37 ?_
          refine r_iret C dX5_cellOn_38 (Or.inl rfl) ?_
          exact k 1 _ _ _ (by unfold C1; omega) (fun z => absurd z (by decide)) (fun _ => rfl) R
      · skip
        have hn3 := hb3.t c23
        refine r_iconst C dX5_cellOn_26 ?_
        refine r_goto C dX5_cellOn_27 (t := 31) (by decide) ?_
        refine m_V1 C dX5_cellOn_31 sX5_91 rfl R (Nat.le_of_ble_eq_true rfl) (C_X5_holds R (by unfold inR; omega) (fun zH h hzH hH R => ?_))
        refine r_if_ne C dX5_cellOn_34 (t := 39) (by decide) (by first | assumption | exact R.rg _ _ | exact rg _ _ | (unfold inR; omega)) (fun c34 => ?_) (fun c34 => ?_)
        · skip
          obtain ⟨s, hs⟩ : ∃ s, s = up g 0 0 0 := ⟨_, rfl⟩
          rw [← hs] at R
          have ge : ∀ k, k ≠ 0 → ∀ j, s k j = g k j := fun k hk j => by rw [hs, up_ne hk]
          have SB : BD s := by rw [hs]; exact bd_up0 B (by decide)
          have rg := R.rg
          have e4 := ge 4 (by decide) 0; have e11 := ge 11 (by decide) 0; have e22 := ge 22 (by decide) 0
          have e18 := ge 18 (by decide) (60 * n + p); have e19 := ge 19 (by decide) (60 * n + p); have e20 := ge 20 (by decide) (4 * (60 * n + p) + c)
          refine r_iload_n C dX5_cellOn_39 (i := 1) rfl rfl ?_
          refine r_iload_n C dX5_cellOn_40 (i := 2) rfl rfl ?_
          refine r_S2 C dX5_cellOn_41 sX5_104 (Nat.le_of_ble_eq_true rfl) (C_X5_at ?_)
          refine r_istore C dX5_cellOn_44 (Nat.le_of_ble_eq_true rfl) ?_
          dsimp only [List.set]
          refine r_aload_n C dX5_cellOn_46 (i := 0) rfl rfl ?_
          refine m_getA C dX5_cellOn_47 fX5_51 R (by decide) rfl ?_
          refine r_iload C dX5_cellOn_50 rfl ?_
          refine m_iald C dX5_cellOn_52 R (N := 480) rfl (by decide) rfl (by omega) (by omega) (by omega) ?_
          refine r_if_eq C dX5_cellOn_53 (t := 67) (by decide) (by first | assumption | exact R.rg _ _ | exact rg _ _ | (unfold inR; omega)) (fun c53 => ?_) (fun c53 => ?_)
          · skip
            refine r_iconst C dX5_cellOn_67 ?_
            refine r_goto C dX5_cellOn_68 (t := 82) (by decide) ?_
            refine r_iret C dX5_cellOn_82 (Or.inl rfl) ?_
            refine k 0 _ _ _ (by unfold C1; omega) (fun _ => ⟨?_, by rw [hs]⟩) (fun z => absurd rfl z) R
            first
              | rw [if_pos (by omega)]
              | (rw [if_neg (by omega)]; omega)
          · skip
            refine r_aload_n C dX5_cellOn_56 (i := 0) rfl rfl ?_
            refine m_getA C dX5_cellOn_57 fX5_54 R (by decide) rfl ?_
            refine r_iload C dX5_cellOn_60 rfl ?_
            refine m_iald C dX5_cellOn_62 R (N := 480) rfl (by decide) rfl (by omega) (by omega) (by omega) ?_
            refine r_iload_n C dX5_cellOn_63 (i := 3) rfl rfl ?_
            refine r_ic_gt C dX5_cellOn_64 (t := 71) (by decide) (by first | assumption | exact R.rg _ _ | exact rg _ _ | (unfold inR; omega)) (by first | assumption | exact R.rg _ _ | exact rg _ _ | (unfold inR; omega)) (fun c64 => ?_) (fun c64 => ?_)
            · skip
              refine r_aload_n C dX5_cellOn_71 (i := 0) rfl rfl ?_
              refine m_getA C dX5_cellOn_72 fX5_57 R (by decide) rfl ?_
              refine r_iconst C dX5_cellOn_75 ?_
              refine r_iload C dX5_cellOn_76 rfl ?_
              refine r_imul C dX5_cellOn_78 ?_
              refine r_iload_n C dX5_cellOn_79 (i := 3) rfl rfl ?_
              refine r_iadd C dX5_cellOn_80 ?_
              refine m_iald C dX5_cellOn_81 R (N := 1920) rfl (by decide) rfl (by omega) (by omega) (by omega) ?_
              refine r_iret C dX5_cellOn_82 (Or.inl rfl) ?_
              refine k 0 _ _ _ (by unfold C1; omega) (fun _ => ⟨?_, by rw [hs]⟩) (fun z => absurd rfl z) R
              first
                | rw [if_pos (by omega)]
                | (rw [if_neg (by omega)]; omega)
            · skip
              refine r_iconst C dX5_cellOn_67 ?_
              refine r_goto C dX5_cellOn_68 (t := 82) (by decide) ?_
              refine r_iret C dX5_cellOn_82 (Or.inl rfl) ?_
              refine k 0 _ _ _ (by unfold C1; omega) (fun _ => ⟨?_, by rw [hs]⟩) (fun z => absurd rfl z) R
              first
                | rw [if_pos (by omega)]
                | (rw [if_neg (by omega)]; omega)
        · skip
          exact absurd rfl (hH.f c34)

set_option maxRecDepth 100000 in
set_option maxHeartbeats 4000000 in
theorem C_X5_load {gx : GX} {d : Nat} {Qr : Option AV → Hp → Prop} {Qx : String → Hp → Prop} {q : Nat} {ar : Nat → Nat} {g : GT} {h : Hp} {n : Int} (R : RM q ar g h) (B : BD g) (hn : inR n) (k : ∀ c z h1 g1, C1 (ndP g n) c → (c = 0 → z = loadG g n ∧ g1 = up g 0 0 0) → (c ≠ 0 → g1 = up g 0 0 c) → RM q ar g1 h1 → Qr (some (vi z)) h1) : aM gx (d + 3) mX5_load [vr q, vi n] h 0 0 Qr Qx := by
  intro J C
  show J 0 [some (vr q), some (vi n)] [] h 0 0
  have b1 := B.nn; have b2 := B.np; have b3 := B.nf; have rg := R.rg
  refine r_aload_n C dX5_load_0 (i := 0) rfl rfl ?_
  refine r_aload_n C dX5_load_1 (i := 0) rfl rfl ?_
  refine r_iload_n C dX5_load_2 (i := 1) rfl rfl ?_
  refine m_V1 C dX5_load_3 sX5_95 rfl R (Nat.le_of_ble_eq_true rfl) (C_X5_isNode R B hn (fun z1 hz1 hb1 => ?_))
  refine r_if_eq C dX5_load_6 (t := 13) (by decide) (by first | assumption | exact R.rg _ _ | exact rg _ _ | (unfold inR; omega)) (fun c6 => ?_) (fun c6 => ?_)
  · skip
    have hn1 := hb1.f c6
    refine r_iconst C dX5_load_13 ?_
    refine m_V1 C dX5_load_14 sX5_91 rfl R (Nat.le_of_ble_eq_true rfl) (C_X5_holds R (by unfold inR; omega) (fun zH h hzH hH R => ?_))
    refine r_if_eq C dX5_load_17 (t := 28) (by decide) (by first | assumption | exact R.rg _ _ | exact rg _ _ | (unfold inR; omega)) (fun c17 => ?_) (fun c17 => ?_)
    · skip
      refine r_iconst C dX5_load_28 ?_
      refine r_iret C dX5_load_29 (Or.inl rfl) ?_
      first | exact k 1 _ _ _ (by unfold C1; omega) (fun z => absurd z (by decide)) (fun _ => rfl) R | exact k 0 _ _ _ (by unfold C1; omega) (fun _ => ⟨by omega, by rw [hs]⟩) (fun z => absurd rfl z) R
    · skip
      exact absurd (hH.t c17) (by decide)
  · skip
    have hn1 := hb1.t c6
    refine r_iconst C dX5_load_9 ?_
    refine r_goto C dX5_load_10 (t := 14) (by decide) ?_
    refine m_V1 C dX5_load_14 sX5_91 rfl R (Nat.le_of_ble_eq_true rfl) (C_X5_holds R (by unfold inR; omega) (fun zH h hzH hH R => ?_))
    refine r_if_eq C dX5_load_17 (t := 28) (by decide) (by first | assumption | exact R.rg _ _ | exact rg _ _ | (unfold inR; omega)) (fun c17 => ?_) (fun c17 => ?_)
    · skip
      exact absurd rfl (hH.f c17)
    · skip
      obtain ⟨s, hs⟩ : ∃ s, s = up g 0 0 0 := ⟨_, rfl⟩
      rw [← hs] at R
      have ge : ∀ k, k ≠ 0 → ∀ j, s k j = g k j := fun k hk j => by rw [hs, up_ne hk]
      have SB : BD s := by rw [hs]; exact bd_up0 B (by decide)
      have rg := R.rg
      have e4 := ge 4 (by decide) 0; have e11 := ge 11 (by decide) 0; have e22 := ge 22 (by decide) 0
      have e := load_c (ge 18 (by decide)) e11 n
      refine r_aload_n C dX5_load_20 (i := 0) rfl rfl ?_
      refine r_iload_n C dX5_load_21 (i := 1) rfl rfl ?_
      refine m_V1 C dX5_load_22 sX5_127 rfl R (Nat.le_of_ble_eq_true rfl) (C_X5_loadOf R SB (by omega) (by omega) ?_)
      refine r_goto C dX5_load_25 (t := 29) (by decide) ?_
      refine r_iret C dX5_load_29 (Or.inl rfl) ?_
      first | exact k 1 _ _ _ (by unfold C1; omega) (fun z => absurd z (by decide)) (fun _ => rfl) R | exact k 0 _ _ _ (by unfold C1; omega) (fun _ => ⟨by omega, by rw [hs]⟩) (fun z => absurd rfl z) R

set_option maxRecDepth 100000 in
set_option maxHeartbeats 4000000 in
theorem C_X5_isCounted {gx : GX} {d : Nat} {Qr : Option AV → Hp → Prop} {Qx : String → Hp → Prop} {q : Nat} {ar : Nat → Nat} {g : GT} {h : Hp} {n : Int} (R : RM q ar g h) (B : BD g) (hn : inR n) (k : ∀ c z h1 g1, C1 (ndP g n) c → (c = 0 → z = g 9 n ∧ g1 = up g 0 0 0) → (c ≠ 0 → g1 = up g 0 0 c) → RM q ar g1 h1 → Qr (some (vi z)) h1) : aM gx (d + 3) mX5_isCounted [vr q, vi n] h 0 0 Qr Qx := by
  intro J C
  show J 0 [some (vr q), some (vi n)] [] h 0 0
  have b1 := B.nn; have b2 := B.np; have b3 := B.nf; have rg := R.rg
  refine r_aload_n C dX5_isCounted_0 (i := 0) rfl rfl ?_
  refine r_aload_n C dX5_isCounted_1 (i := 0) rfl rfl ?_
  refine r_iload_n C dX5_isCounted_2 (i := 1) rfl rfl ?_
  refine m_V1 C dX5_isCounted_3 sX5_95 rfl R (Nat.le_of_ble_eq_true rfl) (C_X5_isNode R B hn (fun z1 hz1 hb1 => ?_))
  refine r_if_eq C dX5_isCounted_6 (t := 13) (by decide) (by first | assumption | exact R.rg _ _ | exact rg _ _ | (unfold inR; omega)) (fun c6 => ?_) (fun c6 => ?_)
  · skip
    have hn1 := hb1.f c6
    refine r_iconst C dX5_isCounted_13 ?_
    refine m_V1 C dX5_isCounted_14 sX5_91 rfl R (Nat.le_of_ble_eq_true rfl) (C_X5_holds R (by unfold inR; omega) (fun zH h hzH hH R => ?_))
    refine r_if_eq C dX5_isCounted_17 (t := 33) (by decide) (by first | assumption | exact R.rg _ _ | exact rg _ _ | (unfold inR; omega)) (fun c17 => ?_) (fun c17 => ?_)
    · skip
      refine r_iconst C dX5_isCounted_33 ?_
      refine r_iret C dX5_isCounted_34 (Or.inr ⟨rfl, (by first | assumption | omega | decide)⟩) ?_
      first | exact k 1 _ _ _ (by unfold C1; omega) (fun z => absurd z (by decide)) (fun _ => rfl) R | exact k 0 _ _ _ (by unfold C1; omega) (fun _ => ⟨by omega, by rw [hs]⟩) (fun z => absurd rfl z) R
    · skip
      exact absurd (hH.t c17) (by decide)
  · skip
    have hn1 := hb1.t c6
    refine r_iconst C dX5_isCounted_9 ?_
    refine r_goto C dX5_isCounted_10 (t := 14) (by decide) ?_
    refine m_V1 C dX5_isCounted_14 sX5_91 rfl R (Nat.le_of_ble_eq_true rfl) (C_X5_holds R (by unfold inR; omega) (fun zH h hzH hH R => ?_))
    refine r_if_eq C dX5_isCounted_17 (t := 33) (by decide) (by first | assumption | exact R.rg _ _ | exact rg _ _ | (unfold inR; omega)) (fun c17 => ?_) (fun c17 => ?_)
    · skip
      exact absurd rfl (hH.f c17)
    · skip
      obtain ⟨s, hs⟩ : ∃ s, s = up g 0 0 0 := ⟨_, rfl⟩
      rw [← hs] at R
      have ge : ∀ k, k ≠ 0 → ∀ j, s k j = g k j := fun k hk j => by rw [hs, up_ne hk]
      have SB : BD s := by rw [hs]; exact bd_up0 B (by decide)
      have rg := R.rg
      have e4 := ge 4 (by decide) 0; have e11 := ge 11 (by decide) 0; have e22 := ge 22 (by decide) 0
      have e := ge 9 (by decide) n; have e9 := B.ct n
      refine r_aload_n C dX5_isCounted_20 (i := 0) rfl rfl ?_
      refine m_getA C dX5_isCounted_21 fX5_27 R (by decide) rfl ?_
      refine r_iload_n C dX5_isCounted_24 (i := 1) rfl rfl ?_
      refine m_zald C dX5_isCounted_25 R (N := 8) rfl (by decide) rfl (by omega) (by omega) (by omega) ?_
      refine r_if_eq C dX5_isCounted_26 (t := 33) (by decide) (by first | assumption | exact R.rg _ _ | exact rg _ _ | (unfold inR; omega)) (fun c26 => ?_) (fun c26 => ?_)
      · skip
        refine r_iconst C dX5_isCounted_33 ?_
        refine r_iret C dX5_isCounted_34 (Or.inr ⟨rfl, (by first | assumption | omega | decide)⟩) ?_
        first | exact k 1 _ _ _ (by unfold C1; omega) (fun z => absurd z (by decide)) (fun _ => rfl) R | exact k 0 _ _ _ (by unfold C1; omega) (fun _ => ⟨by omega, by rw [hs]⟩) (fun z => absurd rfl z) R
      · skip
        refine r_iconst C dX5_isCounted_29 ?_
        refine r_goto C dX5_isCounted_30 (t := 34) (by decide) ?_
        refine r_iret C dX5_isCounted_34 (Or.inr ⟨rfl, (by first | assumption | omega | decide)⟩) ?_
        first | exact k 1 _ _ _ (by unfold C1; omega) (fun z => absurd z (by decide)) (fun _ => rfl) R | exact k 0 _ _ _ (by unfold C1; omega) (fun _ => ⟨by omega, by rw [hs]⟩) (fun z => absurd rfl z) R

