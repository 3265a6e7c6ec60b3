/-! ===== the law ===== -/
set_option maxRecDepth 100000 in
set_option maxHeartbeats 4000000 in
theorem LW_balance {gx : GX} {Qr : Option AV → Hp → Prop} {Qx : String → Hp → Prop} {J : JT} (C : Cl gx 14 (aM gx 13) mLaw Qr Qx J) {x q o : Nat} {ar : Nat → Nat} {t i : Int} {g : GT} {H : Hp} {cc ss : Nat} {y5 y6 : Option AV} (hx : ∀ j, inR (gx.2.2.2.1 j)) (hL : gx.2.2.1 ≤ 2560) (i0 : 0 ≤ i) (i5 : i + 5 ≤ gx.2.2.1) (t0 : 0 ≤ t) (t1 : t ≤ 9999) (hw : WD gx x q o ar t g H) (hcc : 300 ≤ cc) (hss : 3000 ≤ ss) (K : ∀ g' H' y5' y6', WD gx x q o ar (t + 1) g' H' → ∀ c' s', cc ≤ c' + 300 → ss ≤ s' + 3000 → J 1625 [some (vr gx.2.1), some (vr x), some (vr q), some (vr o), some (vi i), y5', y6'] [] H' c' s') : J 446 [some (vr gx.2.1), some (vr x), some (vr q), some (vr o), some (vi i), y5, y6] [] H cc ss := by
  obtain ⟨A, u, hc, hm, ho, w0, w3, Z, R, O, X⟩ := hw
  have W := Z.1.2.1
  have B := W.b
  obtain ⟨s, hs⟩ : ∃ s, s = up g 0 0 0 := ⟨_, rfl⟩
  have Zs : Rs gx x A u s hc := by rw [hs]; exact Z.up0 0 inR0
  have hg : ∀ k, k ≠ 0 → ∀ j, s k j = g k j := fun k hk j => by rw [hs, up_ne hk]
  have Xs : XG t s := xg_sm X (fun k hk j => hg k (by omega) j)
  obtain ⟨v1, ev1⟩ : ∃ v, v = gx.2.2.2.1 (i + 1).toNat := ⟨_, rfl⟩
  have hv1 : inR v1 := by rw [ev1]; exact hx _
  have xc := Zs.1.1.xx.1
  have xm : x ∈ hD H := (w3.1 x).mpr (Or.inl xc.1)
  have xk : hK H x = 6 := (w3.2.2.2.1 x xc.1).1.trans xc.2
  refine r_aload_n C dL_law_446 (i := 1) rfl rfl ?_
  refine r_aload_n C dL_law_447 (i := 0) rfl rfl ?_
  refine r_iload C dL_law_448 rfl ?_
  refine r_iconst C dL_law_450 ?_
  refine r_iadd C dL_law_451 ?_
  refine r_ialdS C dL_law_452 (by omega) (by omega) (by omega) ?_
  rw [← ev1]
  refine lw_bz C dL_law_453 dL_law_456 dL_law_457 dL_law_460 hv1 ?_
  refine r_callV C (As := [vi (bz v1)]) dL_law_461 sL_116 (fun v hv => by rw [List.mem_singleton.mp hv]; rfl) (ci := 5) (by decide) rfl xm xk (Nat.le_of_ble_eq_true rfl) (c1 := 0) (s1 := 0) (Nat.zero_le _) (Nat.zero_le _) (aM_w w3.c (C_X4_balance Zs (bz_b v1) Xs.2.2.2.2.1 (fun hc1 Z1 H1 X1 => ?_)))
  have w4 := w3.c2 X1
  have qm : q ∈ hD H1 := (w4.1 q).mpr (Or.inr (Or.inl R.1.1))
  have qk : hK H1 q = 7 := (w4.2.2.2.2.1 q R.1.1).1.trans R.1.2
  refine r_aload_n C dL_law_464 (i := 2) rfl rfl ?_
  refine r_aload_n C dL_law_465 (i := 0) rfl rfl ?_
  refine r_iload C dL_law_466 rfl ?_
  refine r_iconst C dL_law_468 ?_
  refine r_iadd C dL_law_469 ?_
  refine r_ialdS C dL_law_470 (by omega) (by omega) (by omega) ?_
  rw [← ev1]
  refine lw_bz C dL_law_471 dL_law_474 dL_law_475 dL_law_478 hv1 ?_
  refine r_callV C (As := [vi (bz v1)]) dL_law_479 sL_120 (fun v hv => by rw [List.mem_singleton.mp hv]; rfl) (ci := 6) (by decide) rfl qm qk (Nat.le_of_ble_eq_true rfl) (c1 := 0) (s1 := 0) (Nat.zero_le _) (Nat.zero_le _) (aM_w w4.r (C_X5_balance R B (bz_b v1) X.2.2.2.2.1 (fun h2 R2 H2 X2 => ?_)))
  have w5 := w4.r2 X2
  rw [← hs] at R2
  refine r_ic_eq C dL_law_482 (t := 1625) (by decide) (Zs.1.1.rg _ _) (R.rg _ _) (fun e9 => ?_) (fun e9 => absurd (hg 3 (by decide) 0) e9)
  exact K _ _ _ _ ⟨A, u, hc1, h2, ho, w0, w5, Z1, R2, O, xg_ba Xs (bz_b v1)⟩ _ _ (by omega) (by omega)
theorem xg_0 : XG 0 g0T := by
  have z := fun (k : Nat) (h : k ≠ 2) (j : Int) => g0_z h j
  refine ⟨fun n n0 n1 => ?_, fun f i j f0 f1 => ?_, by rw [z 1 (by decide)]; decide, by rw [g0_2]; decide, Or.inl (z 3 (by decide) 0), fun j => by rw [z 8 (by decide)]; decide, fun j => by rw [z 24 (by decide)]; decide, fun j => by rw [z 12 (by decide)]; decide⟩
  · rw [z 4 (by decide)] at n1; omega
  · rw [z 22 (by decide)] at f1; omega
theorem w3_z (h : Hp) : W3 h hp0 hp0 h := by
  have no : ∀ z, z ∉ hD hp0 := fun z y => by cases y
  refine ⟨fun z => ⟨Or.inl, fun y => ?_⟩, fun z _ => ⟨no z, no z⟩, fun z y => absurd y (no z), fun z _ => ⟨rfl, rfl, fun _ => rfl, fun _ => rfl⟩, fun z y => absurd y (no z), fun z y => absurd y (no z)⟩
  rcases y with y | y | y
  · exact y
  · exact absurd y (no z)
  · exact absurd y (no z)
theorem wd_le {gx : GX} {x q o : Nat} {ar : Nat → Nat} {t : Int} {g : GT} {H : Hp} (hw : WD gx x q o ar t g H) : WD gx x q o ar (t + 1) g H := by
  obtain ⟨A, u, hc, hm, ho, w, w3, Z, R, O, X⟩ := hw
  exact ⟨A, u, hc, hm, ho, w, w3, Z, R, O, xg_le X⟩
set_option maxRecDepth 100000 in
set_option maxHeartbeats 4000000 in
theorem C_law {gx : GX} (hx : ∀ j, inR (gx.2.2.2.1 j)) (hL : gx.2.2.1 ≤ 2560) : aM gx (13 + 1) mLaw [vr gx.2.1] hp0 601024 7293034 (fun v _ => v = some (vi 1)) (fun _ _ => False) := by
  intro J C
  show J 0 [some (vr gx.2.1), none, none, none, none, none, none] [] hp0 601024 7293034
  refine r_new C dL_law_0 (ci := 5) (by decide) kL_8 (Nat.le_of_ble_eq_true rfl) (Nat.le_of_ble_eq_true rfl) (fun x hx0 => ?_)
  refine r_dup C dL_law_3 rfl ?_
  refine r_callI C dL_law_4 sL_91 (As := []) (fun v hv => by cases hv) (Nat.le_of_ble_eq_true rfl) (c1 := 3) (s1 := 9) (Nat.le_of_ble_eq_true rfl) (Nat.le_of_ble_eq_true rfl) (C_X4_init (List.mem_append.mpr (Or.inr (List.mem_singleton.mpr rfl))) (if_pos rfl) (fun A u h1 Z => ?_))
  refine r_astore_n C dL_law_7 (i := 1) rfl (Nat.le_of_ble_eq_true rfl) ?_
  dsimp only [List.set]
  have w1 := w3_z h1
  refine r_new C dL_law_8 (ci := 6) (by decide) kL_92 (Nat.le_of_ble_eq_true rfl) (Nat.le_of_ble_eq_true rfl) (fun q hq => ?_)
  have w2 := w1.nb hq 7 27
  refine r_dup C dL_law_11 rfl ?_
  refine r_callI C dL_law_12 sL_94 (As := []) (fun v hv => by cases hv) (Nat.le_of_ble_eq_true rfl) (c1 := 20) (s1 := 4368) (Nat.le_of_ble_eq_true rfl) (Nat.le_of_ble_eq_true rfl) (aM_w w2.r (C_X5_init (List.mem_append.mpr (Or.inr (List.mem_singleton.mpr rfl))) (if_pos rfl) (fun k => if_pos rfl) (Nat.le_refl _) (Nat.le_refl _) (fun ar hm R H2 X2 => ?_)))
  have w3 := w2.r2 X2
  refine r_astore_n C dL_law_15 (i := 2) rfl (Nat.le_of_ble_eq_true rfl) ?_
  dsimp only [List.set]
  refine r_iconst C dL_law_16 ?_
  refine r_newL C dL_law_17 (by decide) (by decide) (Nat.le_of_ble_eq_true rfl) (Nat.le_of_ble_eq_true rfl) (fun o ho => ?_)
  have w4 := w3.no ho 12 1
  have O : OU o (hNew hp0 o 12 1) 0 := ⟨List.mem_append.mpr (Or.inr (List.mem_singleton.mpr rfl)), if_pos rfl, if_pos rfl, if_pos rfl⟩
  have WD0 : WD gx x q o ar 0 g0T (hNew H2 o 12 1) := ⟨A, u, h1, hm, _, 0, w4, Z, R, O, xg_0⟩
  refine r_astore_n C dL_law_19 (i := 3) rfl (Nat.le_of_ble_eq_true rfl) ?_
  dsimp only [List.set]
  refine r_iconst C dL_law_20 ?_
  refine r_istore C dL_law_21 (Nat.le_of_ble_eq_true rfl) ?_
  dsimp only [List.set]
  suffices LOOP : ∀ (m9 : Nat) (i t : Int) (g : GT) (H : Hp) (y5 y6 : Option AV) (cc ss : Nat), gx.2.2.1 + 5 - i < (m9 : Int) → i ≤ gx.2.2.1 → 0 ≤ i → 0 ≤ t → t ≤ i → WD gx x q o ar t g H → 60 * (gx.2.2.1 - i) ≤ cc → 600 * (gx.2.2.1 - i) ≤ ss → J 23 [some (vr gx.2.1), some (vr x), some (vr q), some (vr o), some (vi i), y5, y6] [] H cc ss by
    refine LOOP (gx.2.2.1 + 6) 0 0 _ _ _ _ _ _ (by omega) (by omega) (by omega) (by omega) (by omega) WD0 ?_ ?_
    · show (60 * ((gx.2.2.1 : Int) - 0)) ≤ ((601024 - 1 - 3 - 1 - 20 - 1 : Nat) : Int)
      omega
    · show (600 * ((gx.2.2.1 : Int) - 0)) ≤ ((7293034 - 6 - 9 - 27 - 4368 - 1 : Nat) : Int)
      omega
  intro m9
  induction m9 with
  | zero => intro i t g H y5 y6 cc ss hm9 iL i0 t0 ti hw hcc hss; exact absurd hm9 (by omega)
  | succ m9 ih9 =>
    intro i t g H y5 y6 cc ss hm9 iL i0 t0 ti hw hcc hss
    refine r_iload C dL_law_23 rfl ?_
    refine r_aload_n C dL_law_25 (i := 0) rfl rfl ?_
    refine r_alenS C dL_law_26 ?_
    refine r_iconst C dL_law_27 ?_
    refine r_isub C dL_law_28 ?_
    refine r_ic_gt C dL_law_29 (t := 1631) (by decide) ⟨by omega, by omega⟩ ⟨by omega, by omega⟩ (fun e5 => ?_) (fun e5 => ?_)
    · refine r_iconst C dL_law_1631 ?_
      exact r_iret C dL_law_1632 (Or.inr ⟨rfl, Or.inr rfl⟩) rfl
    · have i5 : i + 5 ≤ gx.2.2.1 := by omega
      have KB : ∀ g' H' y5' y6', WD gx x q o ar (t + 1) g' H' → ∀ c' s', cc ≤ c' + 300 → ss ≤ s' + 3000 → J 1625 [some (vr gx.2.1), some (vr x), some (vr q), some (vr o), some (vi i), y5', y6'] [] H' c' s' := by
        intro g' H' y5' y6' hw' c' s' h1 h2
        refine r_iinc C dL_law_1625 rfl ?_
        dsimp only [List.set]
        refine r_goto C dL_law_1628 (t := 23) (by decide) ?_
        exact ih9 _ _ _ _ _ _ _ _ (by omega) (by omega) (by omega) (by omega) (by omega) hw' (by omega) (by omega)
      refine r_aload_n C dL_law_32 (i := 0) rfl rfl ?_
      refine r_iload C dL_law_33 rfl ?_
      refine r_ialdS C dL_law_35 (by omega) (by omega) (by omega) ?_
      refine r_bipush C dL_law_36 (by decide) ?_
      refine r_iand C dL_law_38 ?_
      obtain ⟨v, ev⟩ : ∃ v, v = (zI (gx.2.2.2.1 i.toNat) &&& zI 31).toInt := ⟨_, rfl⟩
      have hv : inR v := by rw [ev]; exact inR_toInt _
      rw [← ev]
      clear ev
      rcases (show v = 0 ∨ v = 1 ∨ v = 2 ∨ v = 3 ∨ v = 4 ∨ v = 5 ∨ v = 6 ∨ v = 7 ∨ v = 8 ∨ v = 9 ∨ v = 10 ∨ v = 11 ∨ v = 12 ∨ v = 13 ∨ v = 14 ∨ v = 15 ∨ v = 16 ∨ v = 17 ∨ v = 18 ∨ v = 19 ∨ v = 20 ∨ v = 21 ∨ v = 22 ∨ (v < 0 ∨ 22 < v) by omega) with e9 | e9 | e9 | e9 | e9 | e9 | e9 | e9 | e9 | e9 | e9 | e9 | e9 | e9 | e9 | e9 | e9 | e9 | e9 | e9 | e9 | e9 | e9 | e9
      · subst e9
        refine r_tsw C dL_law_39 (off := 105) (t := 144) hv (by decide) (by decide) rfl (by decide) ?_
        exact LW_node C hx hL i0 i5 t0 (by omega) hw (by omega) (by omega) KB
      · subst e9
        refine r_tsw C dL_law_39 (off := 173) (t := 212) hv (by decide) (by decide) rfl (by decide) ?_
        exact LW_up C hx hL i0 i5 t0 (by omega) hw (by omega) (by omega) KB
      · subst e9
        refine r_tsw C dL_law_39 (off := 264) (t := 303) hv (by decide) (by decide) rfl (by decide) ?_
        exact LW_spoil C hx hL i0 i5 t0 (by omega) hw (by omega) (by omega) KB
      · subst e9
        refine r_tsw C dL_law_39 (off := 351) (t := 390) hv (by decide) (by decide) rfl (by decide) ?_
        exact LW_limit C hx hL i0 i5 t0 (by omega) hw (by omega) (by omega) KB
      · subst e9
        refine r_tsw C dL_law_39 (off := 407) (t := 446) hv (by decide) (by decide) rfl (by decide) ?_
        exact LW_balance C hx hL i0 i5 t0 (by omega) hw (by omega) (by omega) KB
      · subst e9
        refine r_tsw C dL_law_39 (off := 448) (t := 487) hv (by decide) (by decide) rfl (by decide) ?_
        exact LW_pass C hx hL i0 i5 t0 (by omega) hw (by omega) (by omega) KB
      · subst e9
        refine r_tsw C dL_law_39 (off := 504) (t := 543) hv (by decide) (by decide) rfl (by decide) ?_
        exact LW_file C hx hL i0 i5 t0 (by omega) hw (by omega) (by omega) KB
      · subst e9
        refine r_tsw C dL_law_39 (off := 548) (t := 587) hv (by decide) (by decide) rfl (by decide) ?_
        exact LW_snapshot C hx hL i0 i5 t0 (by omega) hw (by omega) (by omega) KB
      · subst e9
        refine r_tsw C dL_law_39 (off := 604) (t := 643) hv (by decide) (by decide) rfl (by decide) ?_
        exact LW_remove C hx hL i0 i5 t0 (by omega) hw (by omega) (by omega) KB
      · subst e9
        refine r_tsw C dL_law_39 (off := 640) (t := 679) hv (by decide) (by decide) rfl (by decide) ?_
        exact LW_restore C hx hL i0 i5 t0 (by omega) hw (by omega) (by omega) KB
      · subst e9
        refine r_tsw C dL_law_39 (off := 676) (t := 715) hv (by decide) (by decide) rfl (by decide) ?_
        exact LW_append C hx hL i0 i5 t0 (by omega) hw (by omega) (by omega) KB
      · subst e9
        refine r_tsw C dL_law_39 (off := 744) (t := 783) hv (by decide) (by decide) rfl (by decide) ?_
        exact LW_put C hx hL i0 i5 t0 (by omega) hw (by omega) (by omega) KB
      · subst e9
        refine r_tsw C dL_law_39 (off := 843) (t := 882) hv (by decide) (by decide) rfl (by decide) ?_
        exact LW_read C hx hL i0 i5 t0 (by omega) hw (by omega) (by omega) KB
      · subst e9
        refine r_tsw C dL_law_39 (off := 935) (t := 974) hv (by decide) (by decide) rfl (by decide) ?_
        exact LW_state C hx hL i0 i5 t0 (by omega) hw (by omega) (by omega) KB
      · subst e9
        refine r_tsw C dL_law_39 (off := 991) (t := 1030) hv (by decide) (by decide) rfl (by decide) ?_
        exact LW_pieces C hx hL i0 i5 t0 (by omega) hw (by omega) (by omega) KB
      · subst e9
        refine r_tsw C dL_law_39 (off := 1047) (t := 1086) hv (by decide) (by decide) rfl (by decide) ?_
        exact LW_pieceAt C hx hL i0 i5 t0 (by omega) hw (by omega) (by omega) KB
      · subst e9
        refine r_tsw C dL_law_39 (off := 1115) (t := 1154) hv (by decide) (by decide) rfl (by decide) ?_
        exact LW_piece C hx hL i0 i5 t0 (by omega) hw (by omega) (by omega) KB
      · subst e9
        refine r_tsw C dL_law_39 (off := 1183) (t := 1222) hv (by decide) (by decide) rfl (by decide) ?_
        exact LW_copyAt C hx hL i0 i5 t0 (by omega) hw (by omega) (by omega) KB
      · subst e9
        refine r_tsw C dL_law_39 (off := 1251) (t := 1290) hv (by decide) (by decide) rfl (by decide) ?_
        exact LW_on C hx hL i0 i5 t0 (by omega) hw (by omega) (by omega) KB
      · subst e9
        refine r_tsw C dL_law_39 (off := 1331) (t := 1370) hv (by decide) (by decide) rfl (by decide) ?_
        exact LW_cellOn C hx hL i0 i5 t0 (by omega) hw (by omega) (by omega) KB
      · subst e9
        refine r_tsw C dL_law_39 (off := 1411) (t := 1450) hv (by decide) (by decide) rfl (by decide) ?_
        exact LW_load C hx hL i0 i5 t0 (by omega) hw (by omega) (by omega) KB
      · subst e9
        refine r_tsw C dL_law_39 (off := 1467) (t := 1506) hv (by decide) (by decide) rfl (by decide) ?_
        exact LW_isCounted C hx hL i0 i5 t0 (by omega) hw (by omega) (by omega) KB
      · subst e9
        refine r_tsw C dL_law_39 (off := 1530) (t := 1569) hv (by decide) (by decide) rfl (by decide) ?_
        exact LW_walk C hx hL i0 i5 t0 (by omega) hw (by omega) (by omega) KB
      · refine r_tswD C dL_law_39 (t := 1625) hv e9 (by decide) ?_
        exact KB _ _ _ _ (wd_le hw) _ _ (by omega) (by omega)
