/-! ===== the law, case by case, 1 ===== -/
set_option maxRecDepth 100000 in
set_option maxHeartbeats 4000000 in
theorem LW_restore {gx : GX} {Qr : Option AV → Hp → Prop} {Qx : String → Hp → Prop} {J : JT} (C : Cl gx 14 (aM gx 13) mLaw Qr Qx J) {x q o : Nat} {ar : Nat → Nat} {t i : Int} {g : GT} {H : Hp} {cc ss : Nat} {y5 y6 : Option AV} (hx : ∀ j, inR (gx.2.2.2.1 j)) (hL : gx.2.2.1 ≤ 2560) (i0 : 0 ≤ i) (i5 : i + 5 ≤ gx.2.2.1) (t0 : 0 ≤ t) (t1 : t ≤ 9999) (hw : WD gx x q o ar t g H) (hcc : 300 ≤ cc) (hss : 3000 ≤ ss) (K : ∀ g' H' y5' y6', WD gx x q o ar (t + 1) g' H' → ∀ c' s', cc ≤ c' + 300 → ss ≤ s' + 3000 → J 1625 [some (vr gx.2.1), some (vr x), some (vr q), some (vr o), some (vi i), y5', y6'] [] H' c' s') : J 679 [some (vr gx.2.1), some (vr x), some (vr q), some (vr o), some (vi i), y5, y6] [] H cc ss := by
  obtain ⟨A, u, hc, hm, ho, w0, w3, Z, R, O, X⟩ := hw
  have W := Z.1.2.1
  have B := W.b
  obtain ⟨s, hs⟩ : ∃ s, s = up g 0 0 0 := ⟨_, rfl⟩
  have s00 : s 0 0 = 0 := by rw [hs, up_self]
  have Zs : Rs gx x A u s hc := by rw [hs]; exact Z.up0 0 inR0
  have hg : ∀ k, k ≠ 0 → ∀ j, s k j = g k j := fun k hk j => by rw [hs, up_ne hk]
  have Xs : XG t s := xg_sm X (fun k hk j => hg k (by omega) j)
  have hvv : ∀ j, 0 ≤ g 12 j ∧ g 12 j < 1000000 := fun j => by have := X.2.2.2.2.2.2.2 j; omega
  have hvs : ∀ j, 0 ≤ s 12 j ∧ s 12 j < 1000000 := fun j => by have := Xs.2.2.2.2.2.2.2 j; omega
  obtain ⟨v1, ev1⟩ : ∃ v, v = gx.2.2.2.1 (i + 1).toNat := ⟨_, rfl⟩
  have hv1 : inR v1 := by rw [ev1]; exact hx _
  refine r_aload_n C dL_law_679 (i := 1) rfl rfl ?_
  refine r_aload_n C dL_law_680 (i := 0) rfl rfl ?_
  refine r_iload C dL_law_681 rfl ?_
  refine r_iconst C dL_law_683 ?_
  refine r_iadd C dL_law_684 ?_
  refine r_ialdS C dL_law_685 (by omega) (by omega) (by omega) ?_
  rw [← ev1]
  refine r_callSX C (As := [vr x, vi v1]) dL_law_686 sL_135 (fun v hv => by simp only [List.mem_cons, List.not_mem_nil, or_false] at hv; rcases hv with z | z <;> (rw [z]; rfl)) (Nat.le_of_ble_eq_true rfl) (c1 := 2) (s1 := 12) (by omega) (by omega) (aM_mono _ _ _ _ _ _ _ _ _ _ _ (C_L_restore w3 Zs O hv1 ) (fun vv H1 hvv9 => ?_) (fun _ _ z => z.elim))
  obtain ⟨kk, wv, g1, A1, u1, hc1, ho1, rfl, w4, Z1, O1, cnd, y0, yn⟩ := hvv9
  refine r_istore C dL_law_689 (Nat.le_of_ble_eq_true rfl) ?_
  dsimp only [List.set]
  refine r_aload_n C dL_law_691 (i := 2) rfl rfl ?_
  refine r_aload_n C dL_law_692 (i := 0) rfl rfl ?_
  refine r_iload C dL_law_693 rfl ?_
  refine r_iconst C dL_law_695 ?_
  refine r_iadd C dL_law_696 ?_
  refine r_ialdS C dL_law_697 (by omega) (by omega) (by omega) ?_
  rw [← ev1]
  have qm : q ∈ hD H1 := (w4.1 q).mpr (Or.inr (Or.inl R.1.1))
  have qk : hK H1 q = 7 := (w4.2.2.2.2.1 q R.1.1).1.trans R.1.2
  refine r_callV C (As := [vi v1]) dL_law_698 sL_137 (fun v hv => by rw [List.mem_singleton.mp hv]; rfl) (ci := 6) (by decide) rfl qm qk (Nat.le_of_ble_eq_true rfl) (c1 := 0) (s1 := 0) (Nat.zero_le _) (Nat.zero_le _) (aM_w w4.r (C_X5_restore R B hv1 (fun c h2 g2 cnd2 y02 yn2 R2 H2 X2 => ?_)))
  have w5 := w4.r2 X2
  rw [← hs] at y02
  have ek : kk = c := c2_eq cnd cnd2 (by unfold flP; rw [hg 22 (by decide)]) (fun _ => by rw [hg 23 (by decide)])
  have cr := c2_r cnd2
  have e1 : kk = 0 → g1 = rsG s v1 := y0
  have e2 : c = 0 → g2 = rsG s v1 := y02
  have E := op_end hs ek e1 yn e2 yn2 (fun h0 => by unfold rsG; rw [up_ne (by decide)]; exact s00) Z1 cr
  have XN : XG (t + 1) g2 := xg_end X (fun h0 => xg_rs Xs _) e2 yn2
  refine r_aload_n C dL_law_701 (i := 2) rfl rfl ?_
  have qm2 : q ∈ hD H2 := (w5.1 q).mpr (Or.inr (Or.inl R2.1.1))
  have qk2 : hK H2 q = 7 := (w5.2.2.2.2.1 q R2.1.1).1.trans R2.1.2
  refine r_callV C (As := []) dL_law_702 sL_101 (fun v hv => by cases hv) (ci := 6) (by decide) rfl qm2 qk2 (Nat.le_of_ble_eq_true rfl) (c1 := 0) (s1 := 0) (Nat.zero_le _) (Nat.zero_le _) (aM_w w5.r (C_X5_thrown R2 (fun H3 X3 => ?_)))
  have w6 := w5.r2 X3
  rw [E.1]
  refine r_iload C dL_law_705 rfl ?_
  refine r_ic_eq C dL_law_707 (t := 712) (by decide) ⟨by omega, by omega⟩ ⟨by omega, by omega⟩ (fun e9 => ?_) (fun e9 => absurd ek.symm e9)
  refine r_goto C dL_law_712 (t := 1625) (by decide) ?_
  exact K _ _ _ _ ⟨A1, u1, hc1, h2, ho1, wv, w6, E.2, R2, O1, XN⟩ _ _ (by omega) (by omega)
set_option maxRecDepth 100000 in
set_option maxHeartbeats 4000000 in
theorem LW_append {gx : GX} {Qr : Option AV → Hp → Prop} {Qx : String → Hp → Prop} {J : JT} (C : Cl gx 14 (aM gx 13) mLaw Qr Qx J) {x q o : Nat} {ar : Nat → Nat} {t i : Int} {g : GT} {H : Hp} {cc ss : Nat} {y5 y6 : Option AV} (hx : ∀ j, inR (gx.2.2.2.1 j)) (hL : gx.2.2.1 ≤ 2560) (i0 : 0 ≤ i) (i5 : i + 5 ≤ gx.2.2.1) (t0 : 0 ≤ t) (t1 : t ≤ 9999) (hw : WD gx x q o ar t g H) (hcc : 300 ≤ cc) (hss : 3000 ≤ ss) (K : ∀ g' H' y5' y6', WD gx x q o ar (t + 1) g' H' → ∀ c' s', cc ≤ c' + 300 → ss ≤ s' + 3000 → J 1625 [some (vr gx.2.1), some (vr x), some (vr q), some (vr o), some (vi i), y5', y6'] [] H' c' s') : J 715 [some (vr gx.2.1), some (vr x), some (vr q), some (vr o), some (vi i), y5, y6] [] H cc ss := by
  obtain ⟨A, u, hc, hm, ho, w0, w3, Z, R, O, X⟩ := hw
  have W := Z.1.2.1
  have B := W.b
  obtain ⟨s, hs⟩ : ∃ s, s = up g 0 0 0 := ⟨_, rfl⟩
  have s00 : s 0 0 = 0 := by rw [hs, up_self]
  have Zs : Rs gx x A u s hc := by rw [hs]; exact Z.up0 0 inR0
  have hg : ∀ k, k ≠ 0 → ∀ j, s k j = g k j := fun k hk j => by rw [hs, up_ne hk]
  have Xs : XG t s := xg_sm X (fun k hk j => hg k (by omega) j)
  have hvv : ∀ j, 0 ≤ g 12 j ∧ g 12 j < 1000000 := fun j => by have := X.2.2.2.2.2.2.2 j; omega
  have hvs : ∀ j, 0 ≤ s 12 j ∧ s 12 j < 1000000 := fun j => by have := Xs.2.2.2.2.2.2.2 j; omega
  obtain ⟨v1, ev1⟩ : ∃ v, v = gx.2.2.2.1 (i + 1).toNat := ⟨_, rfl⟩
  have hv1 : inR v1 := by rw [ev1]; exact hx _
  obtain ⟨v2, ev2⟩ : ∃ v, v = gx.2.2.2.1 (i + 2).toNat := ⟨_, rfl⟩
  have hv2 : inR v2 := by rw [ev2]; exact hx _
  refine r_aload_n C dL_law_715 (i := 1) rfl rfl ?_
  refine r_aload_n C dL_law_716 (i := 0) rfl rfl ?_
  refine r_iload C dL_law_717 rfl ?_
  refine r_iconst C dL_law_719 ?_
  refine r_iadd C dL_law_720 ?_
  refine r_ialdS C dL_law_721 (by omega) (by omega) (by omega) ?_
  rw [← ev1]
  refine r_aload_n C dL_law_722 (i := 0) rfl rfl ?_
  refine r_iload C dL_law_723 rfl ?_
  refine r_iconst C dL_law_725 ?_
  refine r_iadd C dL_law_726 ?_
  refine r_ialdS C dL_law_727 (by omega) (by omega) (by omega) ?_
  rw [← ev2]
  refine r_aload_n C dL_law_728 (i := 3) rfl rfl ?_
  refine r_callSX C (As := [vr x, vi v1, vi v2, vr o]) dL_law_729 sL_138 (fun v hv => by simp only [List.mem_cons, List.not_mem_nil, or_false] at hv; rcases hv with z | z | z | z <;> (rw [z]; rfl)) (Nat.le_of_ble_eq_true rfl) (c1 := 60) (s1 := 900) (by omega) (by omega) (aM_mono _ _ _ _ _ _ _ _ _ _ _ (C_L_append w3 Zs O hv1 hv2 Xs.1 Xs.2.1 Xs.2.2.1 hvs) (fun vv H1 hvv9 => ?_) (fun _ _ z => z.elim))
  obtain ⟨kk, wv, g1, A1, u1, hc1, ho1, rfl, w4, Z1, O1, cnd, y0, yn⟩ := hvv9
  refine r_istore C dL_law_732 (Nat.le_of_ble_eq_true rfl) ?_
  dsimp only [List.set]
  refine r_aload_n C dL_law_734 (i := 2) rfl rfl ?_
  refine r_aload_n C dL_law_735 (i := 0) rfl rfl ?_
  refine r_iload C dL_law_736 rfl ?_
  refine r_iconst C dL_law_738 ?_
  refine r_iadd C dL_law_739 ?_
  refine r_ialdS C dL_law_740 (by omega) (by omega) (by omega) ?_
  rw [← ev1]
  refine r_aload_n C dL_law_741 (i := 0) rfl rfl ?_
  refine r_iload C dL_law_742 rfl ?_
  refine r_iconst C dL_law_744 ?_
  refine r_iadd C dL_law_745 ?_
  refine r_ialdS C dL_law_746 (by omega) (by omega) (by omega) ?_
  rw [← ev2]
  have qm : q ∈ hD H1 := (w4.1 q).mpr (Or.inr (Or.inl R.1.1))
  have qk : hK H1 q = 7 := (w4.2.2.2.2.1 q R.1.1).1.trans R.1.2
  refine r_callV C (As := [vi v1, vi v2]) dL_law_747 sL_140 (fun v hv => by simp only [List.mem_cons, List.not_mem_nil, or_false] at hv; rcases hv with z | z <;> (rw [z]; rfl)) (ci := 6) (by decide) rfl qm qk (Nat.le_of_ble_eq_true rfl) (c1 := 0) (s1 := 0) (Nat.zero_le _) (Nat.zero_le _) (aM_w w4.r (C_X5_append R W.i W.z hv1 hv2 hvv X.2.2.1.1 X.2.2.1.2 (fun c z h2 g2 cnd2 y02 yn2 R2 H2 X2 => ?_)))
  have w5 := w4.r2 X2
  rw [← hs] at y02
  have ek : kk = c := c3_eq cnd cnd2 (by unfold flP; rw [hg 22 (by decide)]) (fun _ => Iff.rfl) (fun _ => ca_c hg v1)
  have cr := c3_r cnd2
  have e1 : kk = 0 → g1 = g2 := fun h0 => by
    obtain ⟨z9, a9, -⟩ := y0 h0
    exact (ap_det a9 (y02 (ek.symm.trans h0))).2
  have e2 : c = 0 → g2 = g2 := fun _ => rfl
  have ew : c = 0 → wv = z := fun h0 => by
    obtain ⟨z9, a9, b9⟩ := y0 (ek.trans h0)
    rw [b9, (ap_det a9 (y02 h0)).1]
  have E := op_end hs ek e1 yn e2 yn2 (fun h0 => (ap_0 (y02 h0)).trans s00) Z1 cr
  have XN : XG (t + 1) g2 := xg_end X (fun h0 => xg_ap Xs t0 t1 Zs.1.2.1 (c3_0 cnd (ek.trans h0)).1.1 (c3_0 cnd (ek.trans h0)).1.2 (c3_0 cnd (ek.trans h0)).2.2 (y02 h0)) e2 yn2
  refine r_istore C dL_law_750 (Nat.le_of_ble_eq_true rfl) ?_
  dsimp only [List.set]
  refine r_aload_n C dL_law_752 (i := 2) rfl rfl ?_
  have qm2 : q ∈ hD H2 := (w5.1 q).mpr (Or.inr (Or.inl R2.1.1))
  have qk2 : hK H2 q = 7 := (w5.2.2.2.2.1 q R2.1.1).1.trans R2.1.2
  refine r_callV C (As := []) dL_law_753 sL_101 (fun v hv => by cases hv) (ci := 6) (by decide) rfl qm2 qk2 (Nat.le_of_ble_eq_true rfl) (c1 := 0) (s1 := 0) (Nat.zero_le _) (Nat.zero_le _) (aM_w w5.r (C_X5_thrown R2 (fun H3 X3 => ?_)))
  have w6 := w5.r2 X3
  rw [E.1]
  refine r_iload C dL_law_756 rfl ?_
  refine r_ic_eq C dL_law_758 (t := 763) (by decide) ⟨by omega, by omega⟩ ⟨by omega, by omega⟩ (fun e9 => ?_) (fun e9 => absurd ek.symm e9)
  refine r_iload C dL_law_763 rfl ?_
  refine r_if_ne C dL_law_765 (t := 780) (by decide) ⟨by omega, by omega⟩ (fun e8 => ?_) (fun e8 => ?_)
  · skip
    refine r_goto C dL_law_780 (t := 1625) (by decide) ?_
    exact K _ _ _ _ ⟨A1, u1, hc1, h2, ho1, wv, w6, E.2, R2, O1, XN⟩ _ _ (by omega) (by omega)
  · skip
    refine r_aload_n C dL_law_768 (i := 3) rfl rfl ?_
    refine r_iconst C dL_law_769 ?_
    have c0 : c = 0 := ek.symm.trans e8
    have om : o ∈ hD H3 := (w6.1 o).mpr (Or.inr (Or.inr O1.1))
    have oq := w6.2.2.2.2.2 o O1.1
    refine r_lald C dL_law_770 om (oq.1.trans O1.2.1) (by decide) (by rw [oq.2.1, O1.2.2.1]; decide) (by decide) ?_
    rw [show hI H3 o 0 = wv from (oq.2.2.1 0).trans O1.2.2.2, ew c0]
    refine r_iload C dL_law_771 rfl ?_
    
    have hzr : inR z := by
      obtain ⟨s9, u9, p9, pl9, cl9, b9, es9, epl9, eu9, ep9, ec9, bv9, ez9, -⟩ := y02 c0
      have p := c3_0 cnd e8
      have AF := ap_f Zs.1.2.1.i Zs.1.2.1.z p.1.1 p.1.2 p.2.2 hvs
      rw [← es9] at AF
      obtain ⟨TI, t22, t25, tcw, tc4, tz, thv, tt1⟩ := AF
      have RF := (rd_f TI (z := s9 25 v1 - 1) tz p.1.1 (by rw [t22]; exact p.1.2) (by omega) (by omega) tcw).2.2.2
      rw [epl9] at eu9 ep9
      rw [← eu9, ← ep9, ← ec9] at RF
      rw [ez9]
      split
      · exact inRn1
      · exact ⟨by omega, by omega⟩
    refine r_i2l C dL_law_773 hzr ?_
    refine r_lcmp C dL_law_774 (hzr) (hzr) ?_
    rw [if_pos rfl]
    refine r_if_eq C dL_law_775 (t := 780) (by decide) inR0 (fun _ => ?_) (fun e7 => absurd rfl e7)
    refine r_goto C dL_law_780 (t := 1625) (by decide) ?_
    exact K _ _ _ _ ⟨A1, u1, hc1, h2, ho1, wv, w6, E.2, R2, O1, XN⟩ _ _ (by omega) (by omega)
set_option maxRecDepth 100000 in
set_option maxHeartbeats 4000000 in
theorem LW_put {gx : GX} {Qr : Option AV → Hp → Prop} {Qx : String → Hp → Prop} {J : JT} (C : Cl gx 14 (aM gx 13) mLaw Qr Qx J) {x q o : Nat} {ar : Nat → Nat} {t i : Int} {g : GT} {H : Hp} {cc ss : Nat} {y5 y6 : Option AV} (hx : ∀ j, inR (gx.2.2.2.1 j)) (hL : gx.2.2.1 ≤ 2560) (i0 : 0 ≤ i) (i5 : i + 5 ≤ gx.2.2.1) (t0 : 0 ≤ t) (t1 : t ≤ 9999) (hw : WD gx x q o ar t g H) (hcc : 300 ≤ cc) (hss : 3000 ≤ ss) (K : ∀ g' H' y5' y6', WD gx x q o ar (t + 1) g' H' → ∀ c' s', cc ≤ c' + 300 → ss ≤ s' + 3000 → J 1625 [some (vr gx.2.1), some (vr x), some (vr q), some (vr o), some (vi i), y5', y6'] [] H' c' s') : J 783 [some (vr gx.2.1), some (vr x), some (vr q), some (vr o), some (vi i), y5, y6] [] H cc ss := by
  obtain ⟨A, u, hc, hm, ho, w0, w3, Z, R, O, X⟩ := hw
  have W := Z.1.2.1
  have B := W.b
  obtain ⟨s, hs⟩ : ∃ s, s = up g 0 0 0 := ⟨_, rfl⟩
  have s00 : s 0 0 = 0 := by rw [hs, up_self]
  have Zs : Rs gx x A u s hc := by rw [hs]; exact Z.up0 0 inR0
  have hg : ∀ k, k ≠ 0 → ∀ j, s k j = g k j := fun k hk j => by rw [hs, up_ne hk]
  have Xs : XG t s := xg_sm X (fun k hk j => hg k (by omega) j)
  have hvv : ∀ j, 0 ≤ g 12 j ∧ g 12 j < 1000000 := fun j => by have := X.2.2.2.2.2.2.2 j; omega
  have hvs : ∀ j, 0 ≤ s 12 j ∧ s 12 j < 1000000 := fun j => by have := Xs.2.2.2.2.2.2.2 j; omega
  obtain ⟨v1, ev1⟩ : ∃ v, v = gx.2.2.2.1 (i + 1).toNat := ⟨_, rfl⟩
  have hv1 : inR v1 := by rw [ev1]; exact hx _
  obtain ⟨v2, ev2⟩ : ∃ v, v = gx.2.2.2.1 (i + 2).toNat := ⟨_, rfl⟩
  have hv2 : inR v2 := by rw [ev2]; exact hx _
  obtain ⟨v3, ev3⟩ : ∃ v, v = gx.2.2.2.1 (i + 3).toNat := ⟨_, rfl⟩
  have hv3 : inR v3 := by rw [ev3]; exact hx _
  obtain ⟨v4, ev4⟩ : ∃ v, v = gx.2.2.2.1 (i + 4).toNat := ⟨_, rfl⟩
  have hv4 : inR v4 := by rw [ev4]; exact hx _
  refine r_aload_n C dL_law_783 (i := 1) rfl rfl ?_
  refine r_aload_n C dL_law_784 (i := 0) rfl rfl ?_
  refine r_iload C dL_law_785 rfl ?_
  refine r_iconst C dL_law_787 ?_
  refine r_iadd C dL_law_788 ?_
  refine r_ialdS C dL_law_789 (by omega) (by omega) (by omega) ?_
  rw [← ev1]
  refine r_aload_n C dL_law_790 (i := 0) rfl rfl ?_
  refine r_iload C dL_law_791 rfl ?_
  refine r_iconst C dL_law_793 ?_
  refine r_iadd C dL_law_794 ?_
  refine r_ialdS C dL_law_795 (by omega) (by omega) (by omega) ?_
  rw [← ev2]
  refine r_aload_n C dL_law_796 (i := 0) rfl rfl ?_
  refine r_iload C dL_law_797 rfl ?_
  refine r_iconst C dL_law_799 ?_
  refine r_iadd C dL_law_800 ?_
  refine r_ialdS C dL_law_801 (by omega) (by omega) (by omega) ?_
  rw [← ev3]
  refine r_aload_n C dL_law_802 (i := 0) rfl rfl ?_
  refine r_iload C dL_law_803 rfl ?_
  refine r_iconst C dL_law_805 ?_
  refine r_iadd C dL_law_806 ?_
  refine r_ialdS C dL_law_807 (by omega) (by omega) (by omega) ?_
  rw [← ev4]
  refine r_aload_n C dL_law_808 (i := 3) rfl rfl ?_
  refine r_callSX C (As := [vr x, vi v1, vi v2, vi v3, vi v4, vr o]) dL_law_809 sL_141 (fun v hv => by simp only [List.mem_cons, List.not_mem_nil, or_false] at hv; rcases hv with z | z | z | z | z | z <;> (rw [z]; rfl)) (Nat.le_of_ble_eq_true rfl) (c1 := 60) (s1 := 900) (by omega) (by omega) (aM_mono _ _ _ _ _ _ _ _ _ _ _ (C_L_put w3 Zs O hv1 hv2 hv3 hv4 Xs.1 Xs.2.1 Xs.2.2.1 hvs) (fun vv H1 hvv9 => ?_) (fun _ _ z => z.elim))
  obtain ⟨kk, wv, g1, A1, u1, hc1, ho1, rfl, w4, Z1, O1, cnd, y0, yn⟩ := hvv9
  refine r_istore C dL_law_812 (Nat.le_of_ble_eq_true rfl) ?_
  dsimp only [List.set]
  refine r_aload_n C dL_law_814 (i := 2) rfl rfl ?_
  refine r_aload_n C dL_law_815 (i := 0) rfl rfl ?_
  refine r_iload C dL_law_816 rfl ?_
  refine r_iconst C dL_law_818 ?_
  refine r_iadd C dL_law_819 ?_
  refine r_ialdS C dL_law_820 (by omega) (by omega) (by omega) ?_
  rw [← ev1]
  refine r_aload_n C dL_law_821 (i := 0) rfl rfl ?_
  refine r_iload C dL_law_822 rfl ?_
  refine r_iconst C dL_law_824 ?_
  refine r_iadd C dL_law_825 ?_
  refine r_ialdS C dL_law_826 (by omega) (by omega) (by omega) ?_
  rw [← ev2]
  refine r_aload_n C dL_law_827 (i := 0) rfl rfl ?_
  refine r_iload C dL_law_828 rfl ?_
  refine r_iconst C dL_law_830 ?_
  refine r_iadd C dL_law_831 ?_
  refine r_ialdS C dL_law_832 (by omega) (by omega) (by omega) ?_
  rw [← ev3]
  refine r_aload_n C dL_law_833 (i := 0) rfl rfl ?_
  refine r_iload C dL_law_834 rfl ?_
  refine r_iconst C dL_law_836 ?_
  refine r_iadd C dL_law_837 ?_
  refine r_ialdS C dL_law_838 (by omega) (by omega) (by omega) ?_
  rw [← ev4]
  have qm : q ∈ hD H1 := (w4.1 q).mpr (Or.inr (Or.inl R.1.1))
  have qk : hK H1 q = 7 := (w4.2.2.2.2.1 q R.1.1).1.trans R.1.2
  refine r_callV C (As := [vi v1, vi v2, vi v3, vi v4]) dL_law_839 sL_144 (fun v hv => by simp only [List.mem_cons, List.not_mem_nil, or_false] at hv; rcases hv with z | z | z | z <;> (rw [z]; rfl)) (ci := 6) (by decide) rfl qm qk (Nat.le_of_ble_eq_true rfl) (c1 := 0) (s1 := 0) (Nat.zero_le _) (Nat.zero_le _) (aM_w w4.r (C_X5_put R W.i W.z hv1 hv2 hv3 hv4 hvv X.2.2.1.1 X.2.2.1.2 (fun c z h2 g2 cnd2 y02 yn2 R2 H2 X2 => ?_)))
  have w5 := w4.r2 X2
  rw [← hs] at y02
  have ek : kk = c := c3_eq cnd cnd2 (by unfold flP; rw [hg 22 (by decide), rwc hg]) (fun _ => Iff.rfl) (fun _ => pu_c hg v1 v2 v3)
  have cr := c3_r cnd2
  have e1 : kk = 0 → g1 = g2 := fun h0 => by
    obtain ⟨z9, a9, -⟩ := y0 h0
    exact (pu_det a9 (y02 (ek.symm.trans h0))).2
  have e2 : c = 0 → g2 = g2 := fun _ => rfl
  have ew : c = 0 → wv = bz z := fun h0 => by
    obtain ⟨z9, a9, b9⟩ := y0 (ek.trans h0)
    rw [b9, (pu_det a9 (y02 h0)).1]
  have E := op_end hs ek e1 yn e2 yn2 (fun h0 => (pu_0 (y02 h0)).trans s00) Z1 cr
  have XN : XG (t + 1) g2 := xg_end X (fun h0 => (by
    have p := c3_0 cnd (ek.trans h0)
    have q := p.1.2.1
    have er : rwG s v1 = s 25 v1 := if_neg (by have := p.2.2.1; omega)
    exact xg_pu Xs t0 Zs.1.2.1 p.1.1.1 p.1.1.2 q.1 (by have := q.2; omega) p.1.2.2.1 (by have := p.1.2.2.2; omega) p.2.2 (y02 h0))) e2 yn2
  refine r_istore C dL_law_842 (Nat.le_of_ble_eq_true rfl) ?_
  dsimp only [List.set]
  refine r_aload_n C dL_law_844 (i := 2) rfl rfl ?_
  have qm2 : q ∈ hD H2 := (w5.1 q).mpr (Or.inr (Or.inl R2.1.1))
  have qk2 : hK H2 q = 7 := (w5.2.2.2.2.1 q R2.1.1).1.trans R2.1.2
  refine r_callV C (As := []) dL_law_845 sL_101 (fun v hv => by cases hv) (ci := 6) (by decide) rfl qm2 qk2 (Nat.le_of_ble_eq_true rfl) (c1 := 0) (s1 := 0) (Nat.zero_le _) (Nat.zero_le _) (aM_w w5.r (C_X5_thrown R2 (fun H3 X3 => ?_)))
  have w6 := w5.r2 X3
  rw [E.1]
  refine r_iload C dL_law_848 rfl ?_
  refine r_ic_eq C dL_law_850 (t := 855) (by decide) ⟨by omega, by omega⟩ ⟨by omega, by omega⟩ (fun e9 => ?_) (fun e9 => absurd ek.symm e9)
  refine r_iload C dL_law_855 rfl ?_
  refine r_if_ne C dL_law_857 (t := 879) (by decide) ⟨by omega, by omega⟩ (fun e8 => ?_) (fun e8 => ?_)
  · skip
    refine r_goto C dL_law_879 (t := 1625) (by decide) ?_
    exact K _ _ _ _ ⟨A1, u1, hc1, h2, ho1, wv, w6, E.2, R2, O1, XN⟩ _ _ (by omega) (by omega)
  · skip
    refine r_aload_n C dL_law_860 (i := 3) rfl rfl ?_
    refine r_iconst C dL_law_861 ?_
    have c0 : c = 0 := ek.symm.trans e8
    have om : o ∈ hD H3 := (w6.1 o).mpr (Or.inr (Or.inr O1.1))
    have oq := w6.2.2.2.2.2 o O1.1
    refine r_lald C dL_law_862 om (oq.1.trans O1.2.1) (by decide) (by rw [oq.2.1, O1.2.2.1]; decide) (by decide) ?_
    rw [show hI H3 o 0 = wv from (oq.2.2.1 0).trans O1.2.2.2, ew c0]
    refine r_iload C dL_law_863 rfl ?_
    
    refine lw_bl C dL_law_865 dL_law_868 dL_law_869 dL_law_872 (by obtain ⟨u9, p9, -, -, bv9, -⟩ := y02 c0; have := bv9.b; exact ⟨by omega, by omega⟩) ?_
    refine r_lcmp C dL_law_873 (bz_r z) (bz_r z) ?_
    rw [if_pos rfl]
    refine r_if_eq C dL_law_874 (t := 879) (by decide) inR0 (fun _ => ?_) (fun e7 => absurd rfl e7)
    refine r_goto C dL_law_879 (t := 1625) (by decide) ?_
    exact K _ _ _ _ ⟨A1, u1, hc1, h2, ho1, wv, w6, E.2, R2, O1, XN⟩ _ _ (by omega) (by omega)
set_option maxRecDepth 100000 in
set_option maxHeartbeats 4000000 in
theorem LW_read {gx : GX} {Qr : Option AV → Hp → Prop} {Qx : String → Hp → Prop} {J : JT} (C : Cl gx 14 (aM gx 13) mLaw Qr Qx J) {x q o : Nat} {ar : Nat → Nat} {t i : Int} {g : GT} {H : Hp} {cc ss : Nat} {y5 y6 : Option AV} (hx : ∀ j, inR (gx.2.2.2.1 j)) (hL : gx.2.2.1 ≤ 2560) (i0 : 0 ≤ i) (i5 : i + 5 ≤ gx.2.2.1) (t0 : 0 ≤ t) (t1 : t ≤ 9999) (hw : WD gx x q o ar t g H) (hcc : 300 ≤ cc) (hss : 3000 ≤ ss) (K : ∀ g' H' y5' y6', WD gx x q o ar (t + 1) g' H' → ∀ c' s', cc ≤ c' + 300 → ss ≤ s' + 3000 → J 1625 [some (vr gx.2.1), some (vr x), some (vr q), some (vr o), some (vi i), y5', y6'] [] H' c' s') : J 882 [some (vr gx.2.1), some (vr x), some (vr q), some (vr o), some (vi i), y5, y6] [] H cc ss := by
  obtain ⟨A, u, hc, hm, ho, w0, w3, Z, R, O, X⟩ := hw
  have W := Z.1.2.1
  have B := W.b
  obtain ⟨s, hs⟩ : ∃ s, s = up g 0 0 0 := ⟨_, rfl⟩
  have s00 : s 0 0 = 0 := by rw [hs, up_self]
  have Zs : Rs gx x A u s hc := by rw [hs]; exact Z.up0 0 inR0
  have hg : ∀ k, k ≠ 0 → ∀ j, s k j = g k j := fun k hk j => by rw [hs, up_ne hk]
  have Xs : XG t s := xg_sm X (fun k hk j => hg k (by omega) j)
  have hvv : ∀ j, 0 ≤ g 12 j ∧ g 12 j < 1000000 := fun j => by have := X.2.2.2.2.2.2.2 j; omega
  have hvs : ∀ j, 0 ≤ s 12 j ∧ s 12 j < 1000000 := fun j => by have := Xs.2.2.2.2.2.2.2 j; omega
  obtain ⟨v1, ev1⟩ : ∃ v, v = gx.2.2.2.1 (i + 1).toNat := ⟨_, rfl⟩
  have hv1 : inR v1 := by rw [ev1]; exact hx _
  obtain ⟨v2, ev2⟩ : ∃ v, v = gx.2.2.2.1 (i + 2).toNat := ⟨_, rfl⟩
  have hv2 : inR v2 := by rw [ev2]; exact hx _
  obtain ⟨v3, ev3⟩ : ∃ v, v = gx.2.2.2.1 (i + 3).toNat := ⟨_, rfl⟩
  have hv3 : inR v3 := by rw [ev3]; exact hx _
  obtain ⟨v4, ev4⟩ : ∃ v, v = gx.2.2.2.1 (i + 4).toNat := ⟨_, rfl⟩
  have hv4 : inR v4 := by rw [ev4]; exact hx _
  refine r_aload_n C dL_law_882 (i := 1) rfl rfl ?_
  refine r_aload_n C dL_law_883 (i := 0) rfl rfl ?_
  refine r_iload C dL_law_884 rfl ?_
  refine r_iconst C dL_law_886 ?_
  refine r_iadd C dL_law_887 ?_
  refine r_ialdS C dL_law_888 (by omega) (by omega) (by omega) ?_
  rw [← ev1]
  refine r_aload_n C dL_law_889 (i := 0) rfl rfl ?_
  refine r_iload C dL_law_890 rfl ?_
  refine r_iconst C dL_law_892 ?_
  refine r_iadd C dL_law_893 ?_
  refine r_ialdS C dL_law_894 (by omega) (by omega) (by omega) ?_
  rw [← ev2]
  refine r_aload_n C dL_law_895 (i := 0) rfl rfl ?_
  refine r_iload C dL_law_896 rfl ?_
  refine r_iconst C dL_law_898 ?_
  refine r_iadd C dL_law_899 ?_
  refine r_ialdS C dL_law_900 (by omega) (by omega) (by omega) ?_
  rw [← ev3]
  refine r_aload_n C dL_law_901 (i := 0) rfl rfl ?_
  refine r_iload C dL_law_902 rfl ?_
  refine r_iconst C dL_law_904 ?_
  refine r_iadd C dL_law_905 ?_
  refine r_ialdS C dL_law_906 (by omega) (by omega) (by omega) ?_
  rw [← ev4]
  refine r_aload_n C dL_law_907 (i := 3) rfl rfl ?_
  refine r_callSX C (As := [vr x, vi v1, vi v2, vi v3, vi v4, vr o]) dL_law_908 sL_145 (fun v hv => by simp only [List.mem_cons, List.not_mem_nil, or_false] at hv; rcases hv with z | z | z | z | z | z <;> (rw [z]; rfl)) (Nat.le_of_ble_eq_true rfl) (c1 := 5) (s1 := 30) (by omega) (by omega) (aM_mono _ _ _ _ _ _ _ _ _ _ _ (C_L_read w3 Zs O hv1 hv2 hv3 hv4 ) (fun vv H1 hvv9 => ?_) (fun _ _ z => z.elim))
  obtain ⟨kk, wv, g1, A1, u1, hc1, ho1, rfl, w4, Z1, O1, cnd, y0, yn⟩ := hvv9
  refine r_istore C dL_law_911 (Nat.le_of_ble_eq_true rfl) ?_
  dsimp only [List.set]
  refine r_aload_n C dL_law_913 (i := 2) rfl rfl ?_
  refine r_aload_n C dL_law_914 (i := 0) rfl rfl ?_
  refine r_iload C dL_law_915 rfl ?_
  refine r_iconst C dL_law_917 ?_
  refine r_iadd C dL_law_918 ?_
  refine r_ialdS C dL_law_919 (by omega) (by omega) (by omega) ?_
  rw [← ev1]
  refine r_aload_n C dL_law_920 (i := 0) rfl rfl ?_
  refine r_iload C dL_law_921 rfl ?_
  refine r_iconst C dL_law_923 ?_
  refine r_iadd C dL_law_924 ?_
  refine r_ialdS C dL_law_925 (by omega) (by omega) (by omega) ?_
  rw [← ev2]
  refine r_aload_n C dL_law_926 (i := 0) rfl rfl ?_
  refine r_iload C dL_law_927 rfl ?_
  refine r_iconst C dL_law_929 ?_
  refine r_iadd C dL_law_930 ?_
  refine r_ialdS C dL_law_931 (by omega) (by omega) (by omega) ?_
  rw [← ev3]
  refine r_aload_n C dL_law_932 (i := 0) rfl rfl ?_
  refine r_iload C dL_law_933 rfl ?_
  refine r_iconst C dL_law_935 ?_
  refine r_iadd C dL_law_936 ?_
  refine r_ialdS C dL_law_937 (by omega) (by omega) (by omega) ?_
  rw [← ev4]
  have qm : q ∈ hD H1 := (w4.1 q).mpr (Or.inr (Or.inl R.1.1))
  have qk : hK H1 q = 7 := (w4.2.2.2.2.1 q R.1.1).1.trans R.1.2
  refine r_callV C (As := [vi v1, vi v2, vi v3, vi v4]) dL_law_938 sL_147 (fun v hv => by simp only [List.mem_cons, List.not_mem_nil, or_false] at hv; rcases hv with z | z | z | z <;> (rw [z]; rfl)) (ci := 6) (by decide) rfl qm qk (Nat.le_of_ble_eq_true rfl) (c1 := 0) (s1 := 0) (Nat.zero_le _) (Nat.zero_le _) (aM_w w4.r (C_X5_read R B hv1 hv2 hv3 hv4 (fun c z h2 g2 cnd2 y02 yn2 R2 H2 X2 => ?_)))
  have w5 := w4.r2 X2
  rw [← hs] at y02
  have ek : kk = c := c2_eq cnd cnd2 (by unfold flP; rw [hg 22 (by decide), rwc hg]) (fun _ => by rw [hg 23 (by decide)])
  have cr := c2_r cnd2
  rw [hg 26 (by decide)] at y0
  have e1 : kk = 0 → g1 = rfG s (g 26 (6 * v1 + v2)) v3 v4 := fun h0 => (y0 h0).2
  have e2 : c = 0 → g2 = rfG s (g 26 (6 * v1 + v2)) v3 v4 := fun h0 => (y02 h0).2
  have ew : c = 0 → wv = z := fun h0 => by
    rw [(y0 (ek.trans h0)).1, (y02 h0).1, e2 h0]
  have E := op_end hs ek e1 yn e2 yn2 (fun h0 => (rf_0 s _ _ _).trans s00) Z1 cr
  have XN : XG (t + 1) g2 := xg_end X (fun h0 => xg_rf Xs _ _ _) e2 yn2
  refine r_istore C dL_law_941 (Nat.le_of_ble_eq_true rfl) ?_
  dsimp only [List.set]
  refine r_aload_n C dL_law_943 (i := 2) rfl rfl ?_
  have qm2 : q ∈ hD H2 := (w5.1 q).mpr (Or.inr (Or.inl R2.1.1))
  have qk2 : hK H2 q = 7 := (w5.2.2.2.2.1 q R2.1.1).1.trans R2.1.2
  refine r_callV C (As := []) dL_law_944 sL_101 (fun v hv => by cases hv) (ci := 6) (by decide) rfl qm2 qk2 (Nat.le_of_ble_eq_true rfl) (c1 := 0) (s1 := 0) (Nat.zero_le _) (Nat.zero_le _) (aM_w w5.r (C_X5_thrown R2 (fun H3 X3 => ?_)))
  have w6 := w5.r2 X3
  rw [E.1]
  refine r_iload C dL_law_947 rfl ?_
  refine r_ic_eq C dL_law_949 (t := 954) (by decide) ⟨by omega, by omega⟩ ⟨by omega, by omega⟩ (fun e9 => ?_) (fun e9 => absurd ek.symm e9)
  refine r_iload C dL_law_954 rfl ?_
  refine r_if_ne C dL_law_956 (t := 971) (by decide) ⟨by omega, by omega⟩ (fun e8 => ?_) (fun e8 => ?_)
  · skip
    refine r_goto C dL_law_971 (t := 1625) (by decide) ?_
    exact K _ _ _ _ ⟨A1, u1, hc1, h2, ho1, wv, w6, E.2, R2, O1, XN⟩ _ _ (by omega) (by omega)
  · skip
    refine r_aload_n C dL_law_959 (i := 3) rfl rfl ?_
    refine r_iconst C dL_law_960 ?_
    have c0 : c = 0 := ek.symm.trans e8
    have om : o ∈ hD H3 := (w6.1 o).mpr (Or.inr (Or.inr O1.1))
    have oq := w6.2.2.2.2.2 o O1.1
    refine r_lald C dL_law_961 om (oq.1.trans O1.2.1) (by decide) (by rw [oq.2.1, O1.2.2.1]; decide) (by decide) ?_
    rw [show hI H3 o 0 = wv from (oq.2.2.1 0).trans O1.2.2.2, ew c0]
    refine r_iload C dL_law_962 rfl ?_
    have hzr : inR z := by rw [(y02 c0).1]; exact rv_rg R2.rg _ _ _
    refine r_i2l C dL_law_964 hzr ?_
    refine r_lcmp C dL_law_965 (hzr) (hzr) ?_
    rw [if_pos rfl]
    refine r_if_eq C dL_law_966 (t := 971) (by decide) inR0 (fun _ => ?_) (fun e7 => absurd rfl e7)
    refine r_goto C dL_law_971 (t := 1625) (by decide) ?_
    exact K _ _ _ _ ⟨A1, u1, hc1, h2, ho1, wv, w6, E.2, R2, O1, XN⟩ _ _ (by omega) (by omega)
set_option maxRecDepth 100000 in
set_option maxHeartbeats 4000000 in
theorem LW_state {gx : GX} {Qr : Option AV → Hp → Prop} {Qx : String → Hp → Prop} {J : JT} (C : Cl gx 14 (aM gx 13) mLaw Qr Qx J) {x q o : Nat} {ar : Nat → Nat} {t i : Int} {g : GT} {H : Hp} {cc ss : Nat} {y5 y6 : Option AV} (hx : ∀ j, inR (gx.2.2.2.1 j)) (hL : gx.2.2.1 ≤ 2560) (i0 : 0 ≤ i) (i5 : i + 5 ≤ gx.2.2.1) (t0 : 0 ≤ t) (t1 : t ≤ 9999) (hw : WD gx x q o ar t g H) (hcc : 300 ≤ cc) (hss : 3000 ≤ ss) (K : ∀ g' H' y5' y6', WD gx x q o ar (t + 1) g' H' → ∀ c' s', cc ≤ c' + 300 → ss ≤ s' + 3000 → J 1625 [some (vr gx.2.1), some (vr x), some (vr q), some (vr o), some (vi i), y5', y6'] [] H' c' s') : J 974 [some (vr gx.2.1), some (vr x), some (vr q), some (vr o), some (vi i), y5, y6] [] H cc ss := by
  obtain ⟨A, u, hc, hm, ho, w0, w3, Z, R, O, X⟩ := hw
  have W := Z.1.2.1
  have B := W.b
  obtain ⟨s, hs⟩ : ∃ s, s = up g 0 0 0 := ⟨_, rfl⟩
  have s00 : s 0 0 = 0 := by rw [hs, up_self]
  have Zs : Rs gx x A u s hc := by rw [hs]; exact Z.up0 0 inR0
  have hg : ∀ k, k ≠ 0 → ∀ j, s k j = g k j := fun k hk j => by rw [hs, up_ne hk]
  have Xs : XG t s := xg_sm X (fun k hk j => hg k (by omega) j)
  have hvv : ∀ j, 0 ≤ g 12 j ∧ g 12 j < 1000000 := fun j => by have := X.2.2.2.2.2.2.2 j; omega
  have hvs : ∀ j, 0 ≤ s 12 j ∧ s 12 j < 1000000 := fun j => by have := Xs.2.2.2.2.2.2.2 j; omega
  obtain ⟨v1, ev1⟩ : ∃ v, v = gx.2.2.2.1 (i + 1).toNat := ⟨_, rfl⟩
  have hv1 : inR v1 := by rw [ev1]; exact hx _
  refine r_aload_n C dL_law_974 (i := 1) rfl rfl ?_
  refine r_aload_n C dL_law_975 (i := 0) rfl rfl ?_
  refine r_iload C dL_law_976 rfl ?_
  refine r_iconst C dL_law_978 ?_
  refine r_iadd C dL_law_979 ?_
  refine r_ialdS C dL_law_980 (by omega) (by omega) (by omega) ?_
  rw [← ev1]
  refine r_aload_n C dL_law_981 (i := 3) rfl rfl ?_
  refine r_callSX C (As := [vr x, vi v1, vr o]) dL_law_982 sL_148 (fun v hv => by simp only [List.mem_cons, List.not_mem_nil, or_false] at hv; rcases hv with z | z | z <;> (rw [z]; rfl)) (Nat.le_of_ble_eq_true rfl) (c1 := 1) (s1 := 6) (by omega) (by omega) (aM_mono _ _ _ _ _ _ _ _ _ _ _ (C_L_state w3 Zs O hv1 ) (fun vv H1 hvv9 => ?_) (fun _ _ z => z.elim))
  obtain ⟨kk, wv, g1, A1, u1, hc1, ho1, rfl, w4, Z1, O1, cnd, y0, yn⟩ := hvv9
  refine r_istore C dL_law_985 (Nat.le_of_ble_eq_true rfl) ?_
  dsimp only [List.set]
  refine r_aload_n C dL_law_987 (i := 2) rfl rfl ?_
  refine r_aload_n C dL_law_988 (i := 0) rfl rfl ?_
  refine r_iload C dL_law_989 rfl ?_
  refine r_iconst C dL_law_991 ?_
  refine r_iadd C dL_law_992 ?_
  refine r_ialdS C dL_law_993 (by omega) (by omega) (by omega) ?_
  rw [← ev1]
  have qm : q ∈ hD H1 := (w4.1 q).mpr (Or.inr (Or.inl R.1.1))
  have qk : hK H1 q = 7 := (w4.2.2.2.2.1 q R.1.1).1.trans R.1.2
  refine r_callV C (As := [vi v1]) dL_law_994 sL_150 (fun v hv => by rw [List.mem_singleton.mp hv]; rfl) (ci := 6) (by decide) rfl qm qk (Nat.le_of_ble_eq_true rfl) (c1 := 0) (s1 := 0) (Nat.zero_le _) (Nat.zero_le _) (aM_w w4.r (C_X5_state R B hv1 (fun c z h2 g2 cnd2 y02 yn2 R2 H2 X2 => ?_)))
  have w5 := w4.r2 X2
  rw [← hs] at y02
  have ek : kk = c := c1_eq cnd cnd2 (by unfold flP; rw [hg 22 (by decide)])
  have cr := c1_r cnd2
  have e1 : kk = 0 → g1 = s := fun h0 => (y0 h0).2
  have e2 : c = 0 → g2 = s := fun h0 => (y02 h0).2
  have ew : c = 0 → wv = z := fun h0 => by
    rw [(y0 (ek.trans h0)).1, (y02 h0).1]
    exact (hg 23 (by decide) v1)
  have E := op_end hs ek e1 yn e2 yn2 (fun h0 => s00) Z1 cr
  have XN : XG (t + 1) g2 := xg_end X (fun h0 => xg_le Xs) e2 yn2
  refine r_istore C dL_law_997 (Nat.le_of_ble_eq_true rfl) ?_
  dsimp only [List.set]
  refine r_aload_n C dL_law_999 (i := 2) rfl rfl ?_
  have qm2 : q ∈ hD H2 := (w5.1 q).mpr (Or.inr (Or.inl R2.1.1))
  have qk2 : hK H2 q = 7 := (w5.2.2.2.2.1 q R2.1.1).1.trans R2.1.2
  refine r_callV C (As := []) dL_law_1000 sL_101 (fun v hv => by cases hv) (ci := 6) (by decide) rfl qm2 qk2 (Nat.le_of_ble_eq_true rfl) (c1 := 0) (s1 := 0) (Nat.zero_le _) (Nat.zero_le _) (aM_w w5.r (C_X5_thrown R2 (fun H3 X3 => ?_)))
  have w6 := w5.r2 X3
  rw [E.1]
  refine r_iload C dL_law_1003 rfl ?_
  refine r_ic_eq C dL_law_1005 (t := 1010) (by decide) ⟨by omega, by omega⟩ ⟨by omega, by omega⟩ (fun e9 => ?_) (fun e9 => absurd ek.symm e9)
  refine r_iload C dL_law_1010 rfl ?_
  refine r_if_ne C dL_law_1012 (t := 1027) (by decide) ⟨by omega, by omega⟩ (fun e8 => ?_) (fun e8 => ?_)
  · skip
    refine r_goto C dL_law_1027 (t := 1625) (by decide) ?_
    exact K _ _ _ _ ⟨A1, u1, hc1, h2, ho1, wv, w6, E.2, R2, O1, XN⟩ _ _ (by omega) (by omega)
  · skip
    refine r_aload_n C dL_law_1015 (i := 3) rfl rfl ?_
    refine r_iconst C dL_law_1016 ?_
    have c0 : c = 0 := ek.symm.trans e8
    have om : o ∈ hD H3 := (w6.1 o).mpr (Or.inr (Or.inr O1.1))
    have oq := w6.2.2.2.2.2 o O1.1
    refine r_lald C dL_law_1017 om (oq.1.trans O1.2.1) (by decide) (by rw [oq.2.1, O1.2.2.1]; decide) (by decide) ?_
    rw [show hI H3 o 0 = wv from (oq.2.2.1 0).trans O1.2.2.2, ew c0]
    refine r_iload C dL_law_1018 rfl ?_
    have hzr : inR z := by rw [(y02 c0).1]; exact R.rg _ _
    refine r_i2l C dL_law_1020 hzr ?_
    refine r_lcmp C dL_law_1021 (hzr) (hzr) ?_
    rw [if_pos rfl]
    refine r_if_eq C dL_law_1022 (t := 1027) (by decide) inR0 (fun _ => ?_) (fun e7 => absurd rfl e7)
    refine r_goto C dL_law_1027 (t := 1625) (by decide) ?_
    exact K _ _ _ _ ⟨A1, u1, hc1, h2, ho1, wv, w6, E.2, R2, O1, XN⟩ _ _ (by omega) (by omega)
set_option maxRecDepth 100000 in
set_option maxHeartbeats 4000000 in
theorem LW_pieces {gx : GX} {Qr : Option AV → Hp → Prop} {Qx : String → Hp → Prop} {J : JT} (C : Cl gx 14 (aM gx 13) mLaw Qr Qx J) {x q o : Nat} {ar : Nat → Nat} {t i : Int} {g : GT} {H : Hp} {cc ss : Nat} {y5 y6 : Option AV} (hx : ∀ j, inR (gx.2.2.2.1 j)) (hL : gx.2.2.1 ≤ 2560) (i0 : 0 ≤ i) (i5 : i + 5 ≤ gx.2.2.1) (t0 : 0 ≤ t) (t1 : t ≤ 9999) (hw : WD gx x q o ar t g H) (hcc : 300 ≤ cc) (hss : 3000 ≤ ss) (K : ∀ g' H' y5' y6', WD gx x q o ar (t + 1) g' H' → ∀ c' s', cc ≤ c' + 300 → ss ≤ s' + 3000 → J 1625 [some (vr gx.2.1), some (vr x), some (vr q), some (vr o), some (vi i), y5', y6'] [] H' c' s') : J 1030 [some (vr gx.2.1), some (vr x), some (vr q), some (vr o), some (vi i), y5, y6] [] H cc ss := by
  obtain ⟨A, u, hc, hm, ho, w0, w3, Z, R, O, X⟩ := hw
  have W := Z.1.2.1
  have B := W.b
  obtain ⟨s, hs⟩ : ∃ s, s = up g 0 0 0 := ⟨_, rfl⟩
  have s00 : s 0 0 = 0 := by rw [hs, up_self]
  have Zs : Rs gx x A u s hc := by rw [hs]; exact Z.up0 0 inR0
  have hg : ∀ k, k ≠ 0 → ∀ j, s k j = g k j := fun k hk j => by rw [hs, up_ne hk]
  have Xs : XG t s := xg_sm X (fun k hk j => hg k (by omega) j)
  have hvv : ∀ j, 0 ≤ g 12 j ∧ g 12 j < 1000000 := fun j => by have := X.2.2.2.2.2.2.2 j; omega
  have hvs : ∀ j, 0 ≤ s 12 j ∧ s 12 j < 1000000 := fun j => by have := Xs.2.2.2.2.2.2.2 j; omega
  obtain ⟨v1, ev1⟩ : ∃ v, v = gx.2.2.2.1 (i + 1).toNat := ⟨_, rfl⟩
  have hv1 : inR v1 := by rw [ev1]; exact hx _
  refine r_aload_n C dL_law_1030 (i := 1) rfl rfl ?_
  refine r_aload_n C dL_law_1031 (i := 0) rfl rfl ?_
  refine r_iload C dL_law_1032 rfl ?_
  refine r_iconst C dL_law_1034 ?_
  refine r_iadd C dL_law_1035 ?_
  refine r_ialdS C dL_law_1036 (by omega) (by omega) (by omega) ?_
  rw [← ev1]
  refine r_aload_n C dL_law_1037 (i := 3) rfl rfl ?_
  refine r_callSX C (As := [vr x, vi v1, vr o]) dL_law_1038 sL_151 (fun v hv => by simp only [List.mem_cons, List.not_mem_nil, or_false] at hv; rcases hv with z | z | z <;> (rw [z]; rfl)) (Nat.le_of_ble_eq_true rfl) (c1 := 1) (s1 := 6) (by omega) (by omega) (aM_mono _ _ _ _ _ _ _ _ _ _ _ (C_L_pieces w3 Zs O hv1 ) (fun vv H1 hvv9 => ?_) (fun _ _ z => z.elim))
  obtain ⟨kk, wv, g1, A1, u1, hc1, ho1, rfl, w4, Z1, O1, cnd, y0, yn⟩ := hvv9
  refine r_istore C dL_law_1041 (Nat.le_of_ble_eq_true rfl) ?_
  dsimp only [List.set]
  refine r_aload_n C dL_law_1043 (i := 2) rfl rfl ?_
  refine r_aload_n C dL_law_1044 (i := 0) rfl rfl ?_
  refine r_iload C dL_law_1045 rfl ?_
  refine r_iconst C dL_law_1047 ?_
  refine r_iadd C dL_law_1048 ?_
  refine r_ialdS C dL_law_1049 (by omega) (by omega) (by omega) ?_
  rw [← ev1]
  have qm : q ∈ hD H1 := (w4.1 q).mpr (Or.inr (Or.inl R.1.1))
  have qk : hK H1 q = 7 := (w4.2.2.2.2.1 q R.1.1).1.trans R.1.2
  refine r_callV C (As := [vi v1]) dL_law_1050 sL_153 (fun v hv => by rw [List.mem_singleton.mp hv]; rfl) (ci := 6) (by decide) rfl qm qk (Nat.le_of_ble_eq_true rfl) (c1 := 0) (s1 := 0) (Nat.zero_le _) (Nat.zero_le _) (aM_w w4.r (C_X5_pieces R B hv1 (fun c z h2 g2 cnd2 y02 yn2 R2 H2 X2 => ?_)))
  have w5 := w4.r2 X2
  rw [← hs] at y02
  have ek : kk = c := c1_eq cnd cnd2 (by unfold flP; rw [hg 22 (by decide)])
  have cr := c1_r cnd2
  have e1 : kk = 0 → g1 = s := fun h0 => (y0 h0).2
  have e2 : c = 0 → g2 = s := fun h0 => (y02 h0).2
  have ew : c = 0 → wv = z := fun h0 => by
    rw [(y0 (ek.trans h0)).1, (y02 h0).1]
    exact (rwc hg v1)
  have E := op_end hs ek e1 yn e2 yn2 (fun h0 => s00) Z1 cr
  have XN : XG (t + 1) g2 := xg_end X (fun h0 => xg_le Xs) e2 yn2
  refine r_istore C dL_law_1053 (Nat.le_of_ble_eq_true rfl) ?_
  dsimp only [List.set]
  refine r_aload_n C dL_law_1055 (i := 2) rfl rfl ?_
  have qm2 : q ∈ hD H2 := (w5.1 q).mpr (Or.inr (Or.inl R2.1.1))
  have qk2 : hK H2 q = 7 := (w5.2.2.2.2.1 q R2.1.1).1.trans R2.1.2
  refine r_callV C (As := []) dL_law_1056 sL_101 (fun v hv => by cases hv) (ci := 6) (by decide) rfl qm2 qk2 (Nat.le_of_ble_eq_true rfl) (c1 := 0) (s1 := 0) (Nat.zero_le _) (Nat.zero_le _) (aM_w w5.r (C_X5_thrown R2 (fun H3 X3 => ?_)))
  have w6 := w5.r2 X3
  rw [E.1]
  refine r_iload C dL_law_1059 rfl ?_
  refine r_ic_eq C dL_law_1061 (t := 1066) (by decide) ⟨by omega, by omega⟩ ⟨by omega, by omega⟩ (fun e9 => ?_) (fun e9 => absurd ek.symm e9)
  refine r_iload C dL_law_1066 rfl ?_
  refine r_if_ne C dL_law_1068 (t := 1083) (by decide) ⟨by omega, by omega⟩ (fun e8 => ?_) (fun e8 => ?_)
  · skip
    refine r_goto C dL_law_1083 (t := 1625) (by decide) ?_
    exact K _ _ _ _ ⟨A1, u1, hc1, h2, ho1, wv, w6, E.2, R2, O1, XN⟩ _ _ (by omega) (by omega)
  · skip
    refine r_aload_n C dL_law_1071 (i := 3) rfl rfl ?_
    refine r_iconst C dL_law_1072 ?_
    have c0 : c = 0 := ek.symm.trans e8
    have om : o ∈ hD H3 := (w6.1 o).mpr (Or.inr (Or.inr O1.1))
    have oq := w6.2.2.2.2.2 o O1.1
    refine r_lald C dL_law_1073 om (oq.1.trans O1.2.1) (by decide) (by rw [oq.2.1, O1.2.2.1]; decide) (by decide) ?_
    rw [show hI H3 o 0 = wv from (oq.2.2.1 0).trans O1.2.2.2, ew c0]
    refine r_iload C dL_law_1074 rfl ?_
    have hzr : inR z := by rw [(y02 c0).1]; unfold rwG; split; exact inR0; exact R.rg _ _
    refine r_i2l C dL_law_1076 hzr ?_
    refine r_lcmp C dL_law_1077 (hzr) (hzr) ?_
    rw [if_pos rfl]
    refine r_if_eq C dL_law_1078 (t := 1083) (by decide) inR0 (fun _ => ?_) (fun e7 => absurd rfl e7)
    refine r_goto C dL_law_1083 (t := 1625) (by decide) ?_
    exact K _ _ _ _ ⟨A1, u1, hc1, h2, ho1, wv, w6, E.2, R2, O1, XN⟩ _ _ (by omega) (by omega)
set_option maxRecDepth 100000 in
set_option maxHeartbeats 4000000 in
theorem LW_pieceAt {gx : GX} {Qr : Option AV → Hp → Prop} {Qx : String → Hp → Prop} {J : JT} (C : Cl gx 14 (aM gx 13) mLaw Qr Qx J) {x q o : Nat} {ar : Nat → Nat} {t i : Int} {g : GT} {H : Hp} {cc ss : Nat} {y5 y6 : Option AV} (hx : ∀ j, inR (gx.2.2.2.1 j)) (hL : gx.2.2.1 ≤ 2560) (i0 : 0 ≤ i) (i5 : i + 5 ≤ gx.2.2.1) (t0 : 0 ≤ t) (t1 : t ≤ 9999) (hw : WD gx x q o ar t g H) (hcc : 300 ≤ cc) (hss : 3000 ≤ ss) (K : ∀ g' H' y5' y6', WD gx x q o ar (t + 1) g' H' → ∀ c' s', cc ≤ c' + 300 → ss ≤ s' + 3000 → J 1625 [some (vr gx.2.1), some (vr x), some (vr q), some (vr o), some (vi i), y5', y6'] [] H' c' s') : J 1086 [some (vr gx.2.1), some (vr x), some (vr q), some (vr o), some (vi i), y5, y6] [] H cc ss := by
  obtain ⟨A, u, hc, hm, ho, w0, w3, Z, R, O, X⟩ := hw
  have W := Z.1.2.1
  have B := W.b
  obtain ⟨s, hs⟩ : ∃ s, s = up g 0 0 0 := ⟨_, rfl⟩
  have s00 : s 0 0 = 0 := by rw [hs, up_self]
  have Zs : Rs gx x A u s hc := by rw [hs]; exact Z.up0 0 inR0
  have hg : ∀ k, k ≠ 0 → ∀ j, s k j = g k j := fun k hk j => by rw [hs, up_ne hk]
  have Xs : XG t s := xg_sm X (fun k hk j => hg k (by omega) j)
  have hvv : ∀ j, 0 ≤ g 12 j ∧ g 12 j < 1000000 := fun j => by have := X.2.2.2.2.2.2.2 j; omega
  have hvs : ∀ j, 0 ≤ s 12 j ∧ s 12 j < 1000000 := fun j => by have := Xs.2.2.2.2.2.2.2 j; omega
  obtain ⟨v1, ev1⟩ : ∃ v, v = gx.2.2.2.1 (i + 1).toNat := ⟨_, rfl⟩
  have hv1 : inR v1 := by rw [ev1]; exact hx _
  obtain ⟨v2, ev2⟩ : ∃ v, v = gx.2.2.2.1 (i + 2).toNat := ⟨_, rfl⟩
  have hv2 : inR v2 := by rw [ev2]; exact hx _
  refine r_aload_n C dL_law_1086 (i := 1) rfl rfl ?_
  refine r_aload_n C dL_law_1087 (i := 0) rfl rfl ?_
  refine r_iload C dL_law_1088 rfl ?_
  refine r_iconst C dL_law_1090 ?_
  refine r_iadd C dL_law_1091 ?_
  refine r_ialdS C dL_law_1092 (by omega) (by omega) (by omega) ?_
  rw [← ev1]
  refine r_aload_n C dL_law_1093 (i := 0) rfl rfl ?_
  refine r_iload C dL_law_1094 rfl ?_
  refine r_iconst C dL_law_1096 ?_
  refine r_iadd C dL_law_1097 ?_
  refine r_ialdS C dL_law_1098 (by omega) (by omega) (by omega) ?_
  rw [← ev2]
  refine r_aload_n C dL_law_1099 (i := 3) rfl rfl ?_
  refine r_callSX C (As := [vr x, vi v1, vi v2, vr o]) dL_law_1100 sL_154 (fun v hv => by simp only [List.mem_cons, List.not_mem_nil, or_false] at hv; rcases hv with z | z | z | z <;> (rw [z]; rfl)) (Nat.le_of_ble_eq_true rfl) (c1 := 2) (s1 := 12) (by omega) (by omega) (aM_mono _ _ _ _ _ _ _ _ _ _ _ (C_L_pieceAt w3 Zs O hv1 hv2 ) (fun vv H1 hvv9 => ?_) (fun _ _ z => z.elim))
  obtain ⟨kk, wv, g1, A1, u1, hc1, ho1, rfl, w4, Z1, O1, cnd, y0, yn⟩ := hvv9
  refine r_istore C dL_law_1103 (Nat.le_of_ble_eq_true rfl) ?_
  dsimp only [List.set]
  refine r_aload_n C dL_law_1105 (i := 2) rfl rfl ?_
  refine r_aload_n C dL_law_1106 (i := 0) rfl rfl ?_
  refine r_iload C dL_law_1107 rfl ?_
  refine r_iconst C dL_law_1109 ?_
  refine r_iadd C dL_law_1110 ?_
  refine r_ialdS C dL_law_1111 (by omega) (by omega) (by omega) ?_
  rw [← ev1]
  refine r_aload_n C dL_law_1112 (i := 0) rfl rfl ?_
  refine r_iload C dL_law_1113 rfl ?_
  refine r_iconst C dL_law_1115 ?_
  refine r_iadd C dL_law_1116 ?_
  refine r_ialdS C dL_law_1117 (by omega) (by omega) (by omega) ?_
  rw [← ev2]
  have qm : q ∈ hD H1 := (w4.1 q).mpr (Or.inr (Or.inl R.1.1))
  have qk : hK H1 q = 7 := (w4.2.2.2.2.1 q R.1.1).1.trans R.1.2
  refine r_callV C (As := [vi v1, vi v2]) dL_law_1118 sL_156 (fun v hv => by simp only [List.mem_cons, List.not_mem_nil, or_false] at hv; rcases hv with z | z <;> (rw [z]; rfl)) (ci := 6) (by decide) rfl qm qk (Nat.le_of_ble_eq_true rfl) (c1 := 0) (s1 := 0) (Nat.zero_le _) (Nat.zero_le _) (aM_w w4.r (C_X5_pieceAt R B hv1 hv2 (fun c z h2 g2 cnd2 y02 yn2 R2 H2 X2 => ?_)))
  have w5 := w4.r2 X2
  rw [← hs] at y02
  have ek : kk = c := c1_eq cnd cnd2 (by unfold flP; rw [hg 22 (by decide), rwc hg])
  have cr := c1_r cnd2
  have e1 : kk = 0 → g1 = s := fun h0 => (y0 h0).2
  have e2 : c = 0 → g2 = s := fun h0 => (y02 h0).2
  have ew : c = 0 → wv = z := fun h0 => by
    rw [(y0 (ek.trans h0)).1, (y02 h0).1]
    exact (hg 26 (by decide) _)
  have E := op_end hs ek e1 yn e2 yn2 (fun h0 => s00) Z1 cr
  have XN : XG (t + 1) g2 := xg_end X (fun h0 => xg_le Xs) e2 yn2
  refine r_istore C dL_law_1121 (Nat.le_of_ble_eq_true rfl) ?_
  dsimp only [List.set]
  refine r_aload_n C dL_law_1123 (i := 2) rfl rfl ?_
  have qm2 : q ∈ hD H2 := (w5.1 q).mpr (Or.inr (Or.inl R2.1.1))
  have qk2 : hK H2 q = 7 := (w5.2.2.2.2.1 q R2.1.1).1.trans R2.1.2
  refine r_callV C (As := []) dL_law_1124 sL_101 (fun v hv => by cases hv) (ci := 6) (by decide) rfl qm2 qk2 (Nat.le_of_ble_eq_true rfl) (c1 := 0) (s1 := 0) (Nat.zero_le _) (Nat.zero_le _) (aM_w w5.r (C_X5_thrown R2 (fun H3 X3 => ?_)))
  have w6 := w5.r2 X3
  rw [E.1]
  refine r_iload C dL_law_1127 rfl ?_
  refine r_ic_eq C dL_law_1129 (t := 1134) (by decide) ⟨by omega, by omega⟩ ⟨by omega, by omega⟩ (fun e9 => ?_) (fun e9 => absurd ek.symm e9)
  refine r_iload C dL_law_1134 rfl ?_
  refine r_if_ne C dL_law_1136 (t := 1151) (by decide) ⟨by omega, by omega⟩ (fun e8 => ?_) (fun e8 => ?_)
  · skip
    refine r_goto C dL_law_1151 (t := 1625) (by decide) ?_
    exact K _ _ _ _ ⟨A1, u1, hc1, h2, ho1, wv, w6, E.2, R2, O1, XN⟩ _ _ (by omega) (by omega)
  · skip
    refine r_aload_n C dL_law_1139 (i := 3) rfl rfl ?_
    refine r_iconst C dL_law_1140 ?_
    have c0 : c = 0 := ek.symm.trans e8
    have om : o ∈ hD H3 := (w6.1 o).mpr (Or.inr (Or.inr O1.1))
    have oq := w6.2.2.2.2.2 o O1.1
    refine r_lald C dL_law_1141 om (oq.1.trans O1.2.1) (by decide) (by rw [oq.2.1, O1.2.2.1]; decide) (by decide) ?_
    rw [show hI H3 o 0 = wv from (oq.2.2.1 0).trans O1.2.2.2, ew c0]
    refine r_iload C dL_law_1142 rfl ?_
    have hzr : inR z := by rw [(y02 c0).1]; exact R.rg _ _
    refine r_i2l C dL_law_1144 hzr ?_
    refine r_lcmp C dL_law_1145 (hzr) (hzr) ?_
    rw [if_pos rfl]
    refine r_if_eq C dL_law_1146 (t := 1151) (by decide) inR0 (fun _ => ?_) (fun e7 => absurd rfl e7)
    refine r_goto C dL_law_1151 (t := 1625) (by decide) ?_
    exact K _ _ _ _ ⟨A1, u1, hc1, h2, ho1, wv, w6, E.2, R2, O1, XN⟩ _ _ (by omega) (by omega)
