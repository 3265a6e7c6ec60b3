/-! ===== the class: append and put ===== -/
theorem C_X4_endOfLastPieceF {gx : GX} {d : Nat} {Qr : Option AV → Hp → Prop} {Qx : String → Hp → Prop} {x : Nat} {A : Nat → Int → Nat} {u g : GT} {h : Hp} {f : Int} (Z : Rs gx x A u g h) (f0 : 0 ≤ f) (f1 : f < g 22 0) (h23 : g 23 f ≠ 2) (K : ∀ c, 0 ≤ c → c ≤ 4 → (c = 4 → fuP g f) → (c < 4 → ¬ fuP g f ∧ 1 ≤ g 25 f ∧ fuG g (g 26 (6 * f + (g 25 f - 1))) ≠ -1 ∧ c = g 19 (60 * fuG g (g 26 (6 * f + (g 25 f - 1))) + g 26 (6 * f + (g 25 f - 1)))) → Qr (some (vi c)) h) (kx : ¬ caP g f → Qx "java/lang/IllegalStateException" h) : aM gx (d + 7) mX4_endOfLastPiece [vr x, vr (A 6 f)] h 1 6 Qr Qx := by
  have W := Z.1.2.1
  have B := W.b
  have b25 := B.rw f f0 f1
  have e : 6 * f + g 25 f - 1 = 6 * f + (g 25 f - 1) := by omega
  refine C_X4_endOfLastPiece Z f0 f1 h23 (fun h0 => ?_) (fun h1 hf => ?_) (fun h1 hf => ?_)
  · exact K 4 (by decide) (by decide) (fun _ => Or.inl h0) (fun z => absurd z (by decide))
  · have bre := B.re f (g 25 f - 1) f0 f1 (by omega) (by omega)
    have hff := ff_fu W f bre.1 bre.2
    have c4 := W.i.2.2.1 (60 * fuG g (g 26 (6 * f + (g 25 f - 1))) + g 26 (6 * f + (g 25 f - 1)))
    refine K _ c4.1 c4.2 (fun h4 => Or.inr ?_) (fun h4 => ⟨fun z => ?_, h1, hf, rfl⟩)
    · rw [e, hff]
      exact ⟨hf, h4⟩
    · unfold fuP at z
      rw [e, hff] at z
      omega
  · have bre := B.re f (g 25 f - 1) f0 f1 (by omega) (by omega)
    have hff := ff_fu W f bre.1 bre.2
    refine kx (fun z => ?_)
    unfold caP fuP cwP at z
    rw [e, hff] at z
    rcases z.2 with q | q
    · rcases q.1 with r | r
      · omega
      · exact r.1 hf
    · exact q.2.1 hf
theorem ro_ad {g : GT} (B : BD g) (ro : RO g) {f : Int} (f0 : 0 ≤ f) (f1 : f < g 22 0) (hr : g 25 f < 6) {t : GT} (t22 : t 22 0 = g 22 0) (t25 : ∀ j, t 25 j = if j = f then g 25 f + 1 else g 25 j) (t26 : ∀ j, t 26 j = if j = 6 * f + g 25 f then g 11 0 else g 26 j) : RO t := by
  intro q i j q0 q1 i0 ij j1
  rw [t22] at q1
  rw [t25] at j1
  rw [t26, t26]
  have bq := B.rw q q0 q1
  have bf := B.rw f f0 f1
  by_cases c : q = f
  · subst c
    rw [if_pos rfl] at j1
    rw [if_neg (by omega)]
    have re := B.re q i q0 q1 i0 (by omega)
    split
    · omega
    · exact ro q i j q0 q1 i0 ij (by omega)
  · rw [if_neg c] at j1
    rw [if_neg (by omega), if_neg (by omega)]
    exact ro q i j q0 q1 i0 ij j1
theorem ad_25 {g : GT} (f j : Int) : adG g f 25 j = if j = f then g 25 f + 1 else g 25 j := by
  have e25 : ∀ j, ad1 g 25 j = g 25 j := fun j => by unfold ad1; rw [adi_ne _ (by decide), np_ne g (by decide)]
  unfold adG
  rw [up_at, up_ne (by decide), e25, e25]
theorem ad_26 {g : GT} (f j : Int) : adG g f 26 j = if j = 6 * f + g 25 f then g 11 0 else g 26 j := by
  have e25 : ad1 g 25 f = g 25 f := by unfold ad1; rw [adi_ne _ (by decide), np_ne g (by decide)]
  have e26 : ∀ j, ad1 g 26 j = g 26 j := fun j => by unfold ad1; rw [adi_ne _ (by decide), np_ne g (by decide)]
  unfold adG
  rw [up_ne (by decide), up_at, e25, e26]
theorem ad_ne {g : GT} (f : Int) {k : Nat} (h : k ≠ 11 ∧ k ≠ 12 ∧ k ≠ 13 ∧ k ≠ 14 ∧ k ≠ 16 ∧ k ≠ 17 ∧ k ≠ 18 ∧ k ≠ 19 ∧ k ≠ 21 ∧ k ≠ 25 ∧ k ≠ 26) (j : Int) : adG g f k j = g k j := by
  unfold adG ad1
  rw [up_ne (by omega), up_ne (by omega), adi_ne _ (by omega), np_ne g (by omega)]
theorem rk_c {g t : GT} (rk : RK g) (h4 : t 4 0 = g 4 0) (h5 : ∀ j, t 5 j = g 5 j) : RK t := fun n n0 n1 => by
  rw [h4] at n1
  rw [h5]
  exact rk n n0 n1

set_option maxRecDepth 100000 in
set_option maxHeartbeats 4000000 in
theorem C_X4_append {gx : GX} {d : Nat} {Qr : Option AV → Hp → Prop} {Qx : String → Hp → Prop} {x : Nat} {A : Nat → Int → Nat} {u g : GT} {h : Hp} {f y : Int} (Z : Rs gx x A u g h) (hf : inR f) (hy : inR y) (rk : RK g) (ro : RO g) (ht : 0 ≤ g 1 0 ∧ g 1 0 ≤ 3000) (hv : ∀ j, 0 ≤ g 12 j ∧ g 12 j < 1000000) (K : flP g f → inP y 0 999 → caP g f → ∀ A' u' h1 z g1, inR z → apQ g f y z g1 → Rs gx x A' u' g1 h1 → Qr (some (vi z)) h1) (kx1 : ¬ flP g f → Qx "java/lang/IndexOutOfBoundsException" h) (kx2 : flP g f → ¬ inP y 0 999 → Qx "java/lang/IllegalArgumentException" h) (kx3 : flP g f → inP y 0 999 → ¬ caP g f → ∀ h1, Rs gx x A u g h1 → Qx "java/lang/IllegalStateException" h1) : aM gx (d + 10) mX4_append [vr x, vi f, vi y] h 60 900 Qr Qx := by
  intro J C
  show J 0 [some (vr x), some (vi f), some (vi y), none, none, none, none] [] h 60 900
  have TAIL : ∀ (A : Nat → Int → Nat) (u t : GT) (h : Hp) (cc ss : Nat) (c : Int), Rs gx x A u t h → t = ap1 g f → 0 ≤ f → f < t 22 0 → 1 ≤ t 25 f → 0 ≤ c → c < 4 → inR y → t 23 f = 0 → RK t → RO t → (0 ≤ t 1 0 ∧ t 1 0 ≤ 3000) → (∀ j, t 12 j < 1000000) → fuG t (t 26 (6 * f + (t 25 f - 1))) ≠ -1 → c = t 19 (60 * fuG t (t 26 (6 * f + (t 25 f - 1))) + (t 26 (6 * f + (t 25 f - 1)))) → ((¬ 0 < fwG t (t 26 (6 * f + (t 25 f - 1))) f ∨ cpP t (t 26 (6 * f + (t 25 f - 1)))) → caP g f) → (0 < fwG t (t 26 (6 * f + (t 25 f - 1))) f → ¬ cpP t (t 26 (6 * f + (t 25 f - 1))) → Qx "java/lang/IllegalStateException" h) → (caP g f → ∀ A1 u1 h1 z g1, inR z → apQ g f y z g1 → Rs gx x A1 u1 g1 h1 → Qr (some (vi z)) h1) → 30 ≤ cc → 400 ≤ ss → J 35 [some (vr x), some (vi f), some (vi y), some (vr (A 6 f)), some (vi c), none, none] [] h cc ss := by
    intro A u t h cc ss c Z et f0 f1 h25 c0 c1 hy h23 rk ro ht hv hu hc hcw kx K hcc hss
    have R := Z.1.1; have W := Z.1.2.1; have F := Z.2.1; have I := W.i; have B := W.b; have b25 := B.rw f f0 f1
    have po := B.re f (t 25 f - 1) f0 f1 (by omega) (by omega)
    have f5 : u 5 f = t 25 f := (F.2 f f0 f1).2.trans (if_neg (by omega))
    refine r_aload_n C dX4_append_35 (i := 3) rfl rfl ?_
    refine c_2_3 C dX4_append_36 fX4_124 R (by omega) (by omega) ?_
    refine c_szR C dX4_append_39 sX4_44 R (by omega) (by omega) (Nat.le_of_ble_eq_true rfl) ?_
    rw [f5]
    refine r_iconst C dX4_append_42 ?_
    refine r_isub C dX4_append_43 ?_
    refine r_istore C dX4_append_44 (Nat.le_of_ble_eq_true rfl) ?_
    dsimp only [List.set]
    refine r_aload_n C dX4_append_46 (i := 0) rfl rfl ?_
    refine r_aload_n C dX4_append_47 (i := 3) rfl rfl ?_
    refine r_iload C dX4_append_48 rfl ?_
    refine r_iload C dX4_append_50 rfl ?_
    refine r_iload_n C dX4_append_52 (i := 2) rfl rfl ?_
    refine c_VX4 C dX4_append_53 sX4_154 rfl R  rfl rfl rfl rfl (Nat.le_of_ble_eq_true rfl) 30 400 (by omega) (by omega) (C_X4_writeEverywhere Z f0 f1 (by omega) (by omega) c0 c1 hy (by omega) rk ro ht hv hu (fun hs A1 u1 h1 z BZ Z9 => ?_) kx)
    have hca := hcw hs
    have zb := BZ.b
    have zr : inR z := ⟨by omega, by omega⟩
    have ff := ff_fu W f po.1 po.2
    have RF := (rd_f I (z := t 25 f - 1) (fun _ => W.z) f0 f1 (by omega) (by omega) ⟨by rw [ff]; exact hu, hs⟩).2.2.2
    rw [ff, ← hc] at RF
    refine r_istore C dX4_append_56 (Nat.le_of_ble_eq_true rfl) ?_
    dsimp only [List.set]
    refine r_iload C dX4_append_58 rfl ?_
    refine r_if_eq C dX4_append_60 (t := 74) (by decide) (by first | assumption | exact R.rg _ _ | exact R.ru _ _ | (unfold inR; omega)) (fun c60 => ?_) (fun c60 => ?_)
    · skip
      refine r_iconst C dX4_append_74 ?_
      refine r_iret C dX4_append_75 (Or.inl rfl) ?_
      first
        | exact K hca _ _ _ _ _ (by first | exact inRn1 | (unfold inR; omega)) ⟨t, _, _, _, c, z, et, rfl, rfl, rfl, RF.symm, BZ, by rw [if_pos c60], rfl⟩ Z9
        | exact K hca _ _ _ _ _ (by first | exact inRn1 | (unfold inR; omega)) ⟨t, _, _, _, c, z, et, rfl, rfl, rfl, RF.symm, BZ, by rw [if_neg c60], rfl⟩ Z9
    · skip
      refine r_bipush C dX4_append_63 (by decide) ?_
      refine r_iload C dX4_append_65 rfl ?_
      refine r_imul C dX4_append_67 ?_
      refine r_iload C dX4_append_68 rfl ?_
      refine r_iadd C dX4_append_70 ?_
      refine r_goto C dX4_append_71 (t := 75) (by decide) ?_
      refine r_iret C dX4_append_75 (Or.inl rfl) ?_
      first
        | exact K hca _ _ _ _ _ (by first | exact inRn1 | (unfold inR; omega)) ⟨t, _, _, _, c, z, et, rfl, rfl, rfl, RF.symm, BZ, by rw [if_pos c60], rfl⟩ Z9
        | exact K hca _ _ _ _ _ (by first | exact inRn1 | (unfold inR; omega)) ⟨t, _, _, _, c, z, et, rfl, rfl, rfl, RF.symm, BZ, by rw [if_neg c60], rfl⟩ Z9
  have R := Z.1.1; have W := Z.1.2.1; have Ci := Z.1.2.2; have F := Z.2.1; have I := W.i; have B := W.b; have b1 := B.nn; have b2 := B.np; have b3 := B.nf; have Zd := Z.1.z
  refine r_aload_n C dX4_append_0 (i := 0) rfl rfl ?_
  refine r_iload_n C dX4_append_1 (i := 1) rfl rfl ?_
  refine c_VX1 C dX4_append_2 sX4_116 rfl R  rfl (Nat.le_of_ble_eq_true rfl) 1 6 (by omega) (by omega) (C_X4_fileNumbered R B hf (fun hd => ?_) (fun hd => ?_))
  · skip
    refine r_astore_n C dX4_append_5 (i := 3) rfl (Nat.le_of_ble_eq_true rfl) ?_
    dsimp only [List.set]
    refine r_iload_n C dX4_append_6 (i := 2) rfl rfl ?_
    refine c_S1 C dX4_append_7 sX4_144 rfl (Nat.le_of_ble_eq_true rfl) 1 6 (by omega) (by omega) (C_X4_requireNumber hy (fun hn => ?_) (fun hn => ?_))
    · skip
      refine r_aload_n C dX4_append_10 (i := 3) rfl rfl ?_
      refine c_S1 C dX4_append_11 sX4_120 rfl (Nat.le_of_ble_eq_true rfl) 1 6 (by omega) (by omega) (C_X4_requireThere R hd.1 hd.2 (fun h4 => ?_) (fun h4 => ?_))
      · skip
        have f4 := (F.2 f hd.1 hd.2).1
        have h23 : g 23 f = 0 := by omega
        refine r_aload_n C dX4_append_14 (i := 0) rfl rfl ?_
        refine r_aload_n C dX4_append_15 (i := 3) rfl rfl ?_
        refine c_VX1 C dX4_append_16 sX4_147 rfl R  rfl (Nat.le_of_ble_eq_true rfl) 1 6 (by omega) (by omega) (C_X4_endOfLastPieceF Z hd.1 hd.2 (by omega) (fun c c0 c4 hc4 hcl => ?_) (fun hn2 => kx3 hd (by omega) hn2 _ Z))
        refine r_istore C dX4_append_19 (Nat.le_of_ble_eq_true rfl) ?_
        dsimp only [List.set]
        refine r_iload C dX4_append_21 rfl ?_
        refine r_iconst C dX4_append_23 ?_
        refine r_ic_lt C dX4_append_24 (t := 35) (by decide) (by first | assumption | exact R.rg _ _ | exact R.ru _ _ | (unfold inR; omega)) (by first | assumption | exact R.rg _ _ | exact R.ru _ _ | (unfold inR; omega)) (fun c24 => ?_) (fun c24 => ?_)
        · skip
          obtain ⟨hnf, h25, hu, hc⟩ := hcl c24
          have po := B.re f (g 25 f - 1) hd.1 hd.2 (by omega) (by have := B.rw f hd.1 hd.2; omega)
          have ff := ff_fu W f po.1 po.2
          have e : 6 * f + g 25 f - 1 = 6 * f + (g 25 f - 1) := by omega
          refine TAIL _ _ _ _ _ _ _ Z (ap1_n hnf).symm hd.1 hd.2 h25 c0 c24 hy h23 rk ro ht (fun j => (hv j).2) hu hc (fun hs => ⟨h23, Or.inr ⟨hnf, ?_⟩⟩) (fun hs hn2 => kx3 hd (by omega) (fun z => ?_) _ Z) (fun hca => K hd (by omega) hca) (by omega) (by omega)
          · rw [e]
            exact ⟨by rw [ff]; exact hu, hs⟩
          · rcases z.2 with q | q
            · exact hnf q.1
            · have q2 := q.2.2
              rw [e] at q2
              rcases q2 with r | r
              · exact r hs
              · exact hn2 r
        · skip
          have hfu : fuP g f := hc4 (by omega)
          refine r_aload_n C dX4_append_27 (i := 0) rfl rfl ?_
          refine r_aload_n C dX4_append_28 (i := 3) rfl rfl ?_
          refine c_VX1 C dX4_append_29 sX4_151 rfl R  rfl (Nat.le_of_ble_eq_true rfl) 10 300 (by omega) (by omega) (C_X4_startPiece Z hd.1 hd.2 (by omega) ht.1 (fun hc A2 u2 h2 Z2 e6 => ?_) (fun hn2 h2 Z2 => kx3 hd (by omega) (fun z => by
            rcases z.2 with q | q
            · exact hn2 ⟨q.2.1, q.2.2⟩
            · exact q.1 hfu) _ Z2))
          have hca : caP g f := ⟨h23, Or.inl ⟨hfu, hc⟩⟩
          have AF := ap_f I W.z hd.1 hd.2 hca hv
          rw [ap1_y hfu] at AF
          obtain ⟨TI, t22, t25, tcw, tc4, tz, thv, t1⟩ := AF
          have t25f : adG g f 25 f = g 25 f + 1 := by rw [ad_25, if_pos rfl]
          have po := TI.1.re f (adG g f 25 f - 1) hd.1 (by omega) (by omega) (by omega)
          have ff := ff_fu Z2.1.2.1 f po.1 po.2
          have tc0 := (ad_cw I W.z hc.2 hd.1 hd.2 hc.1).2
          have el : adG g f 26 (6 * f + (adG g f 25 f - 1)) = g 11 0 := by rw [t25f, show 6 * f + (g 25 f + 1 - 1) = 6 * f + g 25 f by omega, ad_26, if_pos rfl]
          rw [← e6]
          refine r_iconst C dX4_append_32 ?_
          refine r_istore C dX4_append_33 (Nat.le_of_ble_eq_true rfl) ?_
          dsimp only [List.set]
          refine TAIL _ _ _ _ _ _ _ Z2 (ap1_y hfu).symm hd.1 (by omega) (by omega) (by decide) (by decide) hy ((ad_ne f (by decide) f).trans h23) (rk_c rk (ad_ne f (by decide) 0) (ad_ne f (by decide))) (ro_ad B ro hd.1 hd.2 hc.1 t22 (ad_25 f) (ad_26 f)) (by omega) (fun j => (thv j).2) (by rw [← ff]; exact tcw.1) ?_ (fun _ => hca) (fun hs hn2 => ?_) (fun hca => K hd (by omega) hca) (by omega) (by omega)
          · rw [← ff, el]
            exact tc0.symm
          · rcases tcw.2 with q | q
            · exact absurd hs q
            · exact absurd q hn2
      · skip
        have f4 := (F.2 f hd.1 hd.2).1
        exact kx3 hd (by omega) (fun z => by have := z.1; omega) _ Z
    · skip
      exact kx2 hd (by omega)
  · skip
    exact kx1 hd

set_option maxRecDepth 100000 in
set_option maxHeartbeats 4000000 in
theorem C_X4_put {gx : GX} {d : Nat} {Qr : Option AV → Hp → Prop} {Qx : String → Hp → Prop} {x : Nat} {A : Nat → Int → Nat} {u g : GT} {h : Hp} {f w c y : Int} (Z : Rs gx x A u g h) (hf : inR f) (hw : inR w) (hc : inR c) (hy : inR y) (rk : RK g) (ro : RO g) (ht : 0 ≤ g 1 0 ∧ g 1 0 ≤ 3000) (hv : ∀ j, 0 ≤ g 12 j ∧ g 12 j < 1000000) (K : flP g f ∧ inP w 0 (rwG g f - 1) ∧ inP c 0 3 → inP y 0 999 → puP g f w c → ∀ A' u' h1 z g1, puQ g f w c y z g1 → Rs gx x A' u' g1 h1 → Qr (some (vi z)) h1) (kx1 : ¬ (flP g f ∧ inP w 0 (rwG g f - 1) ∧ inP c 0 3) → Qx "java/lang/IndexOutOfBoundsException" h) (kx2 : flP g f ∧ inP w 0 (rwG g f - 1) ∧ inP c 0 3 → ¬ inP y 0 999 → Qx "java/lang/IllegalArgumentException" h) (kx3 : flP g f ∧ inP w 0 (rwG g f - 1) ∧ inP c 0 3 → inP y 0 999 → ¬ puP g f w c → Qx "java/lang/IllegalStateException" h) : aM gx (d + 10) mX4_put [vr x, vi f, vi w, vi c, vi y] h 60 900 Qr Qx := by
  intro J C
  show J 0 [some (vr x), some (vi f), some (vi w), some (vi c), some (vi y), none, none] [] h 60 900
  have R := Z.1.1; have W := Z.1.2.1; have Ci := Z.1.2.2; have F := Z.2.1; have I := W.i; have B := W.b; have b1 := B.nn; have b2 := B.np; have b3 := B.nf; have Zd := Z.1.z
  refine r_aload_n C dX4_put_0 (i := 0) rfl rfl ?_
  refine r_iload_n C dX4_put_1 (i := 1) rfl rfl ?_
  refine c_VX1 C dX4_put_2 sX4_116 rfl R  rfl (Nat.le_of_ble_eq_true rfl) 1 6 (by omega) (by omega) (C_X4_fileNumbered R B hf (fun hd => ?_) (fun hd => ?_))
  · skip
    have f5 := (F.2 f hd.1 hd.2).2
    have rwb : rwG g f ≤ g 25 f ∧ g 25 f ≤ 6 := by
      have := B.rw f hd.1 hd.2
      unfold rwG
      split <;> omega
    refine r_astore C dX4_put_5 (Nat.le_of_ble_eq_true rfl) ?_
    dsimp only [List.set]
    refine r_aload C dX4_put_7 rfl ?_
    refine r_iload_n C dX4_put_9 (i := 2) rfl rfl ?_
    refine c_S2 C dX4_put_10 sX4_158 rfl rfl (Nat.le_of_ble_eq_true rfl) 1 6 (by omega) (by omega) (C_X4_pieceInFile R hd.1 hd.2 hw (by omega) (fun k k0 k1 => B.re f k hd.1 hd.2 k0 (by omega)) (fun hd2 => ?_) (fun hd2 => ?_))
    · skip
      have hre := B.re f w hd.1 hd.2 hd2.1 (by omega)
      refine r_astore C dX4_put_13 (Nat.le_of_ble_eq_true rfl) ?_
      dsimp only [List.set]
      refine r_iload_n C dX4_put_15 (i := 3) rfl rfl ?_
      refine c_S1 C dX4_put_16 sX4_79 rfl (Nat.le_of_ble_eq_true rfl) 1 6 (by omega) (by omega) (C_X4_requireCell hc (fun hd3 => ?_) (fun hd3 => ?_))
      · skip
        have hall : flP g f ∧ inP w 0 (rwG g f - 1) ∧ inP c 0 3 := ⟨hd, by omega, by omega⟩
        refine r_iload C dX4_put_19 rfl ?_
        refine c_S1 C dX4_put_21 sX4_144 rfl (Nat.le_of_ble_eq_true rfl) 1 6 (by omega) (by omega) (C_X4_requireNumber hy (fun hn => ?_) (fun hn => ?_))
        · skip
          refine r_aload C dX4_put_24 rfl ?_
          refine c_S1 C dX4_put_26 sX4_120 rfl (Nat.le_of_ble_eq_true rfl) 1 6 (by omega) (by omega) (C_X4_requireThere R hd.1 hd.2 (fun h4 => ?_) (fun h4 => ?_))
          · skip
            have f4 := (F.2 f hd.1 hd.2).1
            have h23 : g 23 f = 0 := by omega
            have ff := ff_fu W f hre.1 hre.2
            have er : rwG g f = g 25 f := if_neg (by omega)
            refine r_iload_n C dX4_put_29 (i := 3) rfl rfl ?_
            refine r_aload_n C dX4_put_30 (i := 0) rfl rfl ?_
            refine r_aload C dX4_put_31 rfl ?_
            refine c_VX1 C dX4_put_33 sX4_162 rfl R  rfl (Nat.le_of_ble_eq_true rfl) 1 6 (by omega) (by omega) (C_X4_primaryLengthF Z.1 hre.1 hre.2 (fun hu => ?_) (fun hu => kx3 hall (by omega) (fun z => z.2.1.1 (ff.trans hu))))
            refine r_ic_lt C dX4_put_36 (t := 49) (by decide) (by first | assumption | exact R.rg _ _ | exact R.ru _ _ | (unfold inR; omega)) (by first | assumption | exact R.rg _ _ | exact R.ru _ _ | (unfold inR; omega)) (fun c36 => ?_) (fun c36 => ?_)
            · skip
              refine r_aload_n C dX4_put_49 (i := 0) rfl rfl ?_
              refine r_aload C dX4_put_50 rfl ?_
              refine r_iload_n C dX4_put_52 (i := 2) rfl rfl ?_
              refine r_iload_n C dX4_put_53 (i := 3) rfl rfl ?_
              refine r_iload C dX4_put_54 rfl ?_
              refine c_VX4 C dX4_put_56 sX4_154 rfl R  rfl rfl rfl rfl (Nat.le_of_ble_eq_true rfl) 30 400 (by omega) (by omega) (C_X4_writeEverywhere Z hd.1 hd.2 hd2.1 (by omega) hd3.1 hd3.2 hy (by omega) rk ro ht (fun j => (hv j).2) hu (fun hs A1 u1 h1 z BZ Z9 => ?_) (fun hs hn2 => kx3 hall (by omega) (fun z => by
                rcases z.2.1.2 with q | q
                · exact q hs
                · exact hn2 q)))
              have zb := BZ.b
              have hS : puP g f w c := ⟨h23, ⟨by rw [ff]; exact hu, hs⟩, by rw [ff]; exact c36⟩
              refine r_iret C dX4_put_59 (Or.inr ⟨rfl, (by first | assumption | omega | decide)⟩) ?_
              exact K hall (by omega) hS _ _ _ _ _ ⟨_, _, rfl, rfl, BZ, rfl⟩ Z9
            · skip
              refine r_thr C tX4_put_39 rfl (by omega) (Nat.le_of_ble_eq_true rfl) (by omega) (by omega) ?_
              exact kx3 hall (by omega) (fun z => by have q := z.2.2; rw [ff] at q; omega)
          · skip
            have f4 := (F.2 f hd.1 hd.2).1
            exact kx3 hall (by omega) (fun z => by have := z.1; omega)
        · skip
          exact kx2 hall (by omega)
      · skip
        exact kx1 (fun z => hd3 (by have := z.2.2; omega))
    · skip
      exact kx1 (fun z => hd2 (by have := z.2.1; omega))
  · skip
    exact kx1 (fun z => hd z.1)

