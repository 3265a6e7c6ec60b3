/-! ===== the class: what is asked, small calls ===== -/
section OPs
variable {gx : GX} {x : Nat} {A : Nat → Int → Nat} {u u' : GT} {g g' : GT} {h h' : Hp}
theorem Rs.op (Z : Rs gx x A u g h) (R : Rp gx x A u' (g 11 0) g' h') (W : IW g') (C : CI u' g') (F : CF u' g') (e11 : g' 11 0 = g 11 0) (e1 : g' 1 0 = g 1 0) (u6 : ∀ p, u' 6 p = u 6 p) (u1 : ∀ p, u' 1 p = u 1 p) : Rs gx x A u' g' h' := by
  show Rt gx x A (g' 11 0) (g' 1 0) u' g' h'
  rw [e11, e1]
  exact ⟨⟨R, W, C⟩, F, fun p a b => (u6 p).trans (Z.2.2.1 p a b), fun p a b => by rw [u1]; exact Z.2.2.2 p a b⟩
theorem Rs.up0 (Z : Rs gx x A u g h) (y : Int) (hy : inR y) : Rs gx x A u (up g 0 0 y) h := by
  have b2 := Z.1.2.1.b.np
  exact Z.op (Z.1.1.up0 hy) (iw_same Z.1.2.1 (fun k hk j => up_ne (by omega))) (Z.1.2.2.same (fun _ => rfl) (fun _ => rfl) (fun n p _ _ => by rw [up_ne (by decide)]) (up_ne (by decide)) (fun _ => up_ne (by decide)) (up_ne (by decide)) (Z.1.1.rvl b2.1)) (Z.2.1.c (fun _ => rfl) (fun _ => rfl) (fun _ => rfl) (fun k hk j => up_ne (by omega))) (up_ne (by decide)) (up_ne (by decide)) (fun _ => rfl) (fun _ => rfl)
/-- one cell of the table changes, none that the invariants tie -/
theorem Rs.u1 (Z : Rs gx x A u g h) {k : Nat} {i y : Int} (R : Rp gx x A u (g 11 0) (up g k i y) h') (W : IW (up g k i y)) (hk : k ≠ 1 ∧ k ≠ 4 ∧ k ≠ 6 ∧ k ≠ 11 ∧ k ≠ 18 ∧ k ≠ 22 ∧ k ≠ 23 ∧ k ≠ 25 ∧ k ≠ 26) : Rs gx x A u (up g k i y) h' := by
  have b2 := Z.1.2.1.b.np
  exact Z.op R W (Z.1.2.2.same (fun _ => rfl) (fun _ => rfl) (fun n p _ _ => by rw [up_ne (by omega)]) (up_ne (by omega)) (fun _ => up_ne (by omega)) (up_ne (by omega)) (Z.1.1.rvl b2.1)) (Z.2.1.c (fun _ => rfl) (fun _ => rfl) (fun _ => rfl) (fun k hk j => up_ne (by omega))) (up_ne (by omega)) (up_ne (by omega)) (fun _ => rfl) (fun _ => rfl)
end OPs
theorem itr_st {F : Int → GT → GT} {g s : GT} (hF : ∀ i, F i s = s) {k N : Int} (k0 : 0 ≤ k) (kN : k ≤ N) (h : itrI F k g = s) : itrI F N g = s := by
  have key : ∀ m : Nat, itrI F (k + m) g = s := by
    intro m
    induction m with
    | zero => rw [show k + ((0 : Nat) : Int) = k by omega]; exact h
    | succ m ih =>
      rw [show k + ((m + 1 : Nat) : Int) = (k + m) + 1 by omega, itrI_s _ _ (by omega), ih, hF]
  have := key (N - k).toNat
  rwa [show k + ((N - k).toNat : Int) = N by omega] at this

set_option maxRecDepth 100000 in
set_option maxHeartbeats 4000000 in
theorem C_X4_requireRack {gx : GX} {d : Nat} {Qr : Option AV → Hp → Prop} {Qx : String → Hp → Prop} {r : Int} {h : Hp} (hr : inR r) (K : 0 ≤ r ∧ r < 4 → Qr none h) (kx : ¬ (0 ≤ r ∧ r < 4) → Qx "java/lang/IndexOutOfBoundsException" h) : aM gx (d + 6) mX4_requireRack [vi r] h 1 6 Qr Qx := by
  intro J C
  show J 0 [some (vi r)] [] h 1 6
  refine r_iload_n C dX4_requireRack_0 (i := 0) rfl rfl ?_
  refine r_if_lt C dX4_requireRack_1 (t := 9) (by decide) (by first | assumption | (unfold inR; omega)) (fun c1 => ?_) (fun c1 => ?_)
  · skip
    refine r_thr C tX4_requireRack_9 rfl (by omega) (Nat.le_of_ble_eq_true rfl) (by omega) (by omega) ?_
    exact kx (by omega)
  · skip
    refine r_iload_n C dX4_requireRack_4 (i := 0) rfl rfl ?_
    refine r_iconst C dX4_requireRack_5 ?_
    refine r_ic_lt C dX4_requireRack_6 (t := 19) (by decide) (by first | assumption | (unfold inR; omega)) (by first | assumption | (unfold inR; omega)) (fun c6 => ?_) (fun c6 => ?_)
    · skip
      refine r_ret C dX4_requireRack_19 rfl ?_
      exact K (by omega)
    · skip
      refine r_thr C tX4_requireRack_9 rfl (by omega) (Nat.le_of_ble_eq_true rfl) (by omega) (by omega) ?_
      exact kx (by omega)

set_option maxRecDepth 100000 in
set_option maxHeartbeats 4000000 in
theorem C_X4_requireCell {gx : GX} {d : Nat} {Qr : Option AV → Hp → Prop} {Qx : String → Hp → Prop} {r : Int} {h : Hp} (hr : inR r) (K : 0 ≤ r ∧ r < 4 → Qr none h) (kx : ¬ (0 ≤ r ∧ r < 4) → Qx "java/lang/IndexOutOfBoundsException" h) : aM gx (d + 6) mX4_requireCell [vi r] h 1 6 Qr Qx := by
  intro J C
  show J 0 [some (vi r)] [] h 1 6
  refine r_iload_n C dX4_requireCell_0 (i := 0) rfl rfl ?_
  refine r_if_lt C dX4_requireCell_1 (t := 9) (by decide) (by first | assumption | (unfold inR; omega)) (fun c1 => ?_) (fun c1 => ?_)
  · skip
    refine r_thr C tX4_requireCell_9 rfl (by omega) (Nat.le_of_ble_eq_true rfl) (by omega) (by omega) ?_
    exact kx (by omega)
  · skip
    refine r_iload_n C dX4_requireCell_4 (i := 0) rfl rfl ?_
    refine r_iconst C dX4_requireCell_5 ?_
    refine r_ic_lt C dX4_requireCell_6 (t := 19) (by decide) (by first | assumption | (unfold inR; omega)) (by first | assumption | (unfold inR; omega)) (fun c6 => ?_) (fun c6 => ?_)
    · skip
      refine r_ret C dX4_requireCell_19 rfl ?_
      exact K (by omega)
    · skip
      refine r_thr C tX4_requireCell_9 rfl (by omega) (Nat.le_of_ble_eq_true rfl) (by omega) (by omega) ?_
      exact kx (by omega)

set_option maxRecDepth 100000 in
set_option maxHeartbeats 4000000 in
theorem C_X4_requireNumber {gx : GX} {d : Nat} {Qr : Option AV → Hp → Prop} {Qx : String → Hp → Prop} {r : Int} {h : Hp} (hr : inR r) (K : 0 ≤ r ∧ r ≤ 999 → Qr none h) (kx : ¬ (0 ≤ r ∧ r ≤ 999) → Qx "java/lang/IllegalArgumentException" h) : aM gx (d + 6) mX4_requireNumber [vi r] h 1 6 Qr Qx := by
  intro J C
  show J 0 [some (vi r)] [] h 1 6
  refine r_iload_n C dX4_requireNumber_0 (i := 0) rfl rfl ?_
  refine r_if_lt C dX4_requireNumber_1 (t := 11) (by decide) (by first | assumption | (unfold inR; omega)) (fun c1 => ?_) (fun c1 => ?_)
  · skip
    refine r_thr C tX4_requireNumber_11 rfl (by omega) (Nat.le_of_ble_eq_true rfl) (by omega) (by omega) ?_
    exact kx (by omega)
  · skip
    refine r_iload_n C dX4_requireNumber_4 (i := 0) rfl rfl ?_
    refine r_sipush C dX4_requireNumber_5 (by decide) ?_
    refine r_ic_le C dX4_requireNumber_8 (t := 21) (by decide) (by first | assumption | (unfold inR; omega)) (by first | assumption | (unfold inR; omega)) (fun c8 => ?_) (fun c8 => ?_)
    · skip
      refine r_ret C dX4_requireNumber_21 rfl ?_
      exact K (by omega)
    · skip
      refine r_thr C tX4_requireNumber_11 rfl (by omega) (Nat.le_of_ble_eq_true rfl) (by omega) (by omega) ?_
      exact kx (by omega)

set_option maxRecDepth 100000 in
set_option maxHeartbeats 4000000 in
theorem C_X4_requireThere {gx : GX} {d : Nat} {Qr : Option AV → Hp → Prop} {Qx : String → Hp → Prop} {x : Nat} {A : Nat → Int → Nat} {u : GT} {m : Int} {g : GT} {h : Hp} {f : Int} (R : Rp gx x A u m g h) (f0 : 0 ≤ f) (f1 : f < g 22 0) (K : u 4 f = 0 → Qr none h) (kx : ¬ u 4 f = 0 → Qx "java/lang/IllegalStateException" h) : aM gx (d + 6) mX4_requireThere [vr (A 6 f)] h 1 6 Qr Qx := by
  intro J C
  show J 0 [some (vr (A 6 f))] [] h 1 6
  refine r_aload_n C dX4_requireThere_0 (i := 0) rfl rfl ?_
  refine c_2_1 C dX4_requireThere_1 fX4_136 R (by omega) (by omega) ?_
  refine r_if_eq C dX4_requireThere_4 (t := 17) (by decide) (by first | assumption | exact R.rg _ _ | exact R.ru _ _ | (unfold inR; omega)) (fun c4 => ?_) (fun c4 => ?_)
  · skip
    have hh := c4
    refine r_ret C dX4_requireThere_17 rfl ?_
    exact K (by assumption)
  · skip
    have hh := c4
    refine r_thr C tX4_requireThere_7 rfl (by omega) (Nat.le_of_ble_eq_true rfl) (by omega) (by omega) ?_
    exact kx (by assumption)

set_option maxRecDepth 100000 in
set_option maxHeartbeats 4000000 in
theorem C_X4_requireRoomForPiece {gx : GX} {d : Nat} {Qr : Option AV → Hp → Prop} {Qx : String → Hp → Prop} {x : Nat} {A : Nat → Int → Nat} {u : GT} {m : Int} {g : GT} {h : Hp} (R : Rp gx x A u m g h) (m0 : 0 ≤ m) (m1 : m ≤ 60) (K : m < 60 → Qr none h) (kx : ¬ m < 60 → Qx "java/lang/IllegalStateException" h) : aM gx (d + 6) mX4_requireRoomForPiece [vr x] h 1 6 Qr Qx := by
  intro J C
  show J 0 [some (vr x)] [] h 1 6
  refine r_aload_n C dX4_requireRoomForPiece_0 (i := 0) rfl rfl ?_
  refine c_5_1 C dX4_requireRoomForPiece_1 fX4_16 R  ?_
  refine c_szA C dX4_requireRoomForPiece_4 sX4_44 R  (Nat.le_of_ble_eq_true rfl) ?_
  refine r_bipush C dX4_requireRoomForPiece_7 (by decide) ?_
  refine r_ic_lt C dX4_requireRoomForPiece_9 (t := 22) (by decide) (by first | assumption | exact R.rg _ _ | exact R.ru _ _ | (unfold inR; omega)) (by first | assumption | exact R.rg _ _ | exact R.ru _ _ | (unfold inR; omega)) (fun c9 => ?_) (fun c9 => ?_)
  · skip
    refine r_ret C dX4_requireRoomForPiece_22 rfl ?_
    exact K (by omega)
  · skip
    refine r_thr C tX4_requireRoomForPiece_12 rfl (by omega) (Nat.le_of_ble_eq_true rfl) (by omega) (by omega) ?_
    exact kx (by omega)

set_option maxRecDepth 100000 in
set_option maxHeartbeats 4000000 in
theorem C_X4_nodeNumbered {gx : GX} {d : Nat} {Qr : Option AV → Hp → Prop} {Qx : String → Hp → Prop} {x : Nat} {A : Nat → Int → Nat} {u : GT} {m : Int} {g : GT} {h : Hp} {i : Int} (R : Rp gx x A u m g h) (B : BD g) (hi : inR i) (K : 0 ≤ i ∧ i < g 4 0 → Qr (some (vr (A 0 i))) h) (kx : ¬ (0 ≤ i ∧ i < g 4 0) → Qx "java/lang/IndexOutOfBoundsException" h) : aM gx (d + 6) mX4_nodeNumbered [vr x, vi i] h 1 6 Qr Qx := by
  intro J C
  show J 0 [some (vr x), some (vi i)] [] h 1 6
  have b1 := B.nn; have b2 := B.np; have b3 := B.nf
  refine r_iload_n C dX4_nodeNumbered_0 (i := 1) rfl rfl ?_
  refine r_if_lt C dX4_nodeNumbered_1 (t := 15) (by decide) (by first | assumption | exact R.rg _ _ | exact R.ru _ _ | (unfold inR; omega)) (fun c1 => ?_) (fun c1 => ?_)
  · skip
    refine r_thr C tX4_nodeNumbered_15 rfl (by omega) (Nat.le_of_ble_eq_true rfl) (by omega) (by omega) ?_
    exact kx (by omega)
  · skip
    refine r_iload_n C dX4_nodeNumbered_4 (i := 1) rfl rfl ?_
    refine r_aload_n C dX4_nodeNumbered_5 (i := 0) rfl rfl ?_
    refine c_5_0 C dX4_nodeNumbered_6 fX4_10 R  ?_
    refine c_szN C dX4_nodeNumbered_9 sX4_44 R  (Nat.le_of_ble_eq_true rfl) ?_
    refine r_ic_lt C dX4_nodeNumbered_12 (t := 25) (by decide) (by first | assumption | exact R.rg _ _ | exact R.ru _ _ | (unfold inR; omega)) (by first | assumption | exact R.rg _ _ | exact R.ru _ _ | (unfold inR; omega)) (fun c12 => ?_) (fun c12 => ?_)
    · skip
      refine r_aload_n C dX4_nodeNumbered_25 (i := 0) rfl rfl ?_
      refine c_5_0 C dX4_nodeNumbered_26 fX4_10 R  ?_
      refine r_iload_n C dX4_nodeNumbered_29 (i := 1) rfl rfl ?_
      refine c_gtN C dX4_nodeNumbered_30 sX4_127 R  (by omega) (by omega) (Nat.le_of_ble_eq_true rfl) ?_
      refine c_castN C dX4_nodeNumbered_33 kX4_53 R (by omega) (by omega) ?_
      refine r_aret C dX4_nodeNumbered_36 rfl rfl ?_
      exact K (by omega)
    · skip
      refine r_thr C tX4_nodeNumbered_15 rfl (by omega) (Nat.le_of_ble_eq_true rfl) (by omega) (by omega) ?_
      exact kx (by omega)

set_option maxRecDepth 100000 in
set_option maxHeartbeats 4000000 in
theorem C_X4_pieceNumbered {gx : GX} {d : Nat} {Qr : Option AV → Hp → Prop} {Qx : String → Hp → Prop} {x : Nat} {A : Nat → Int → Nat} {u : GT} {m : Int} {g : GT} {h : Hp} {i : Int} (R : Rp gx x A u m g h) (B : BD g) (hm : m = g 11 0) (hi : inR i) (K : 0 ≤ i ∧ i < g 11 0 → Qr (some (vr (A 4 i))) h) (kx : ¬ (0 ≤ i ∧ i < g 11 0) → Qx "java/lang/IndexOutOfBoundsException" h) : aM gx (d + 6) mX4_pieceNumbered [vr x, vi i] h 1 6 Qr Qx := by
  intro J C
  show J 0 [some (vr x), some (vi i)] [] h 1 6
  have b1 := B.nn; have b2 := B.np; have b3 := B.nf
  refine r_iload_n C dX4_pieceNumbered_0 (i := 1) rfl rfl ?_
  refine r_if_lt C dX4_pieceNumbered_1 (t := 15) (by decide) (by first | assumption | exact R.rg _ _ | exact R.ru _ _ | (unfold inR; omega)) (fun c1 => ?_) (fun c1 => ?_)
  · skip
    refine r_thr C tX4_pieceNumbered_15 rfl (by omega) (Nat.le_of_ble_eq_true rfl) (by omega) (by omega) ?_
    exact kx (by omega)
  · skip
    refine r_iload_n C dX4_pieceNumbered_4 (i := 1) rfl rfl ?_
    refine r_aload_n C dX4_pieceNumbered_5 (i := 0) rfl rfl ?_
    refine c_5_1 C dX4_pieceNumbered_6 fX4_16 R  ?_
    refine c_szA C dX4_pieceNumbered_9 sX4_44 R  (Nat.le_of_ble_eq_true rfl) ?_
    refine r_ic_lt C dX4_pieceNumbered_12 (t := 25) (by decide) (by first | assumption | exact R.rg _ _ | exact R.ru _ _ | (unfold inR; omega)) (by first | assumption | exact R.rg _ _ | exact R.ru _ _ | (unfold inR; omega)) (fun c12 => ?_) (fun c12 => ?_)
    · skip
      refine r_aload_n C dX4_pieceNumbered_25 (i := 0) rfl rfl ?_
      refine c_5_1 C dX4_pieceNumbered_26 fX4_16 R  ?_
      refine r_iload_n C dX4_pieceNumbered_29 (i := 1) rfl rfl ?_
      refine c_gtA C dX4_pieceNumbered_30 sX4_127 R  (by omega) (by omega) (Nat.le_of_ble_eq_true rfl) ?_
      refine c_castQ C dX4_pieceNumbered_33 kX4_131 R (by omega) (by omega) ?_
      refine r_aret C dX4_pieceNumbered_36 rfl rfl ?_
      exact K (by omega)
    · skip
      refine r_thr C tX4_pieceNumbered_15 rfl (by omega) (Nat.le_of_ble_eq_true rfl) (by omega) (by omega) ?_
      exact kx (by omega)

set_option maxRecDepth 100000 in
set_option maxHeartbeats 4000000 in
theorem C_X4_fileNumbered {gx : GX} {d : Nat} {Qr : Option AV → Hp → Prop} {Qx : String → Hp → Prop} {x : Nat} {A : Nat → Int → Nat} {u : GT} {m : Int} {g : GT} {h : Hp} {i : Int} (R : Rp gx x A u m g h) (B : BD g) (hi : inR i) (K : 0 ≤ i ∧ i < g 22 0 → Qr (some (vr (A 6 i))) h) (kx : ¬ (0 ≤ i ∧ i < g 22 0) → Qx "java/lang/IndexOutOfBoundsException" h) : aM gx (d + 6) mX4_fileNumbered [vr x, vi i] h 1 6 Qr Qx := by
  intro J C
  show J 0 [some (vr x), some (vi i)] [] h 1 6
  have b1 := B.nn; have b2 := B.np; have b3 := B.nf
  refine r_iload_n C dX4_fileNumbered_0 (i := 1) rfl rfl ?_
  refine r_if_lt C dX4_fileNumbered_1 (t := 15) (by decide) (by first | assumption | exact R.rg _ _ | exact R.ru _ _ | (unfold inR; omega)) (fun c1 => ?_) (fun c1 => ?_)
  · skip
    refine r_thr C tX4_fileNumbered_15 rfl (by omega) (Nat.le_of_ble_eq_true rfl) (by omega) (by omega) ?_
    exact kx (by omega)
  · skip
    refine r_iload_n C dX4_fileNumbered_4 (i := 1) rfl rfl ?_
    refine r_aload_n C dX4_fileNumbered_5 (i := 0) rfl rfl ?_
    refine c_5_2 C dX4_fileNumbered_6 fX4_19 R  ?_
    refine c_szF C dX4_fileNumbered_9 sX4_44 R  (Nat.le_of_ble_eq_true rfl) ?_
    refine r_ic_lt C dX4_fileNumbered_12 (t := 25) (by decide) (by first | assumption | exact R.rg _ _ | exact R.ru _ _ | (unfold inR; omega)) (by first | assumption | exact R.rg _ _ | exact R.ru _ _ | (unfold inR; omega)) (fun c12 => ?_) (fun c12 => ?_)
    · skip
      refine r_aload_n C dX4_fileNumbered_25 (i := 0) rfl rfl ?_
      refine c_5_2 C dX4_fileNumbered_26 fX4_19 R  ?_
      refine r_iload_n C dX4_fileNumbered_29 (i := 1) rfl rfl ?_
      refine c_gtF C dX4_fileNumbered_30 sX4_127 R  (by omega) (by omega) (Nat.le_of_ble_eq_true rfl) ?_
      refine c_castF C dX4_fileNumbered_33 kX4_114 R (by omega) (by omega) ?_
      refine r_aret C dX4_fileNumbered_36 rfl rfl ?_
      exact K (by omega)
    · skip
      refine r_thr C tX4_fileNumbered_15 rfl (by omega) (Nat.le_of_ble_eq_true rfl) (by omega) (by omega) ?_
      exact kx (by omega)

set_option maxRecDepth 100000 in
set_option maxHeartbeats 4000000 in
theorem C_X4_pieceInFile {gx : GX} {d : Nat} {Qr : Option AV → Hp → Prop} {Qx : String → Hp → Prop} {x : Nat} {A : Nat → Int → Nat} {u : GT} {m : Int} {g : GT} {h : Hp} {f w : Int} (R : Rp gx x A u m g h) (f0 : 0 ≤ f) (f1 : f < g 22 0) (hw : inR w) (h5 : u 5 f ≤ 6) (hre : ∀ k, 0 ≤ k → k < u 5 f → 0 ≤ g 26 (6 * f + k) ∧ g 26 (6 * f + k) < g 11 0) (K : 0 ≤ w ∧ w < u 5 f → Qr (some (vr (A 4 (g 26 (6 * f + w))))) h) (kx : ¬ (0 ≤ w ∧ w < u 5 f) → Qx "java/lang/IndexOutOfBoundsException" h) : aM gx (d + 6) mX4_pieceInFile [vr (A 6 f), vi w] h 1 6 Qr Qx := by
  intro J C
  show J 0 [some (vr (A 6 f)), some (vi w)] [] h 1 6
  refine r_iload_n C dX4_pieceInFile_0 (i := 1) rfl rfl ?_
  refine r_if_lt C dX4_pieceInFile_1 (t := 15) (by decide) (by first | assumption | exact R.rg _ _ | exact R.ru _ _ | (unfold inR; omega)) (fun c1 => ?_) (fun c1 => ?_)
  · skip
    refine r_thr C tX4_pieceInFile_15 rfl (by omega) (Nat.le_of_ble_eq_true rfl) (by omega) (by omega) ?_
    exact kx (by omega)
  · skip
    refine r_iload_n C dX4_pieceInFile_4 (i := 1) rfl rfl ?_
    refine r_aload_n C dX4_pieceInFile_5 (i := 0) rfl rfl ?_
    refine c_2_3 C dX4_pieceInFile_6 fX4_124 R (by omega) (by omega) ?_
    refine c_szR C dX4_pieceInFile_9 sX4_44 R (by omega) (by omega) (Nat.le_of_ble_eq_true rfl) ?_
    refine r_ic_lt C dX4_pieceInFile_12 (t := 25) (by decide) (by first | assumption | exact R.rg _ _ | exact R.ru _ _ | (unfold inR; omega)) (by first | assumption | exact R.rg _ _ | exact R.ru _ _ | (unfold inR; omega)) (fun c12 => ?_) (fun c12 => ?_)
    · skip
      refine r_aload_n C dX4_pieceInFile_25 (i := 0) rfl rfl ?_
      refine c_2_3 C dX4_pieceInFile_26 fX4_124 R (by omega) (by omega) ?_
      refine r_iload_n C dX4_pieceInFile_29 (i := 1) rfl rfl ?_
      refine c_gtR C dX4_pieceInFile_30 sX4_127 R (by omega) (by omega) (by omega) (by omega) (Nat.le_of_ble_eq_true rfl) ?_
      have hr := hre w (by omega) (by omega)
      refine c_castQ C dX4_pieceInFile_33 kX4_131 R (by omega) (by omega) ?_
      refine r_aret C dX4_pieceInFile_36 rfl rfl ?_
      exact K (by omega)
    · skip
      refine r_thr C tX4_pieceInFile_15 rfl (by omega) (Nat.le_of_ble_eq_true rfl) (by omega) (by omega) ?_
      exact kx (by omega)

set_option maxRecDepth 100000 in
set_option maxHeartbeats 4000000 in
theorem C_X4_up {gx : GX} {d : Nat} {Qr : Option AV → Hp → Prop} {Qx : String → Hp → Prop} {x : Nat} {A : Nat → Int → Nat} {u g : GT} {h : Hp} {n b : Int} (Z : Rs gx x A u g h) (hn : inR n) (hb : b = 0 ∨ b = 1) (K : ndP g n → ∀ h1, Rs gx x A u (upG g n b) h1 → Qr (some (vi (g 7 n))) h1) (kx : ¬ ndP g n → Qx "java/lang/IndexOutOfBoundsException" h) : aM gx (d + 7) mX4_up [vr x, vi n, vi b] h 1 6 Qr Qx := by
  intro J C
  show J 0 [some (vr x), some (vi n), some (vi b), none, none] [] h 1 6
  have R := Z.1.1; have W := Z.1.2.1; have Ci := Z.1.2.2; have F := Z.2.1; have I := W.i; have B := W.b; have b1 := B.nn; have b2 := B.np; have b3 := B.nf; have Zd := Z.1.z
  have hbr : inR b := by rcases hb with z | z <;> rw [z] <;> exact ⟨by decide, by decide⟩
  refine r_aload_n C dX4_up_0 (i := 0) rfl rfl ?_
  refine r_iload_n C dX4_up_1 (i := 1) rfl rfl ?_
  refine c_VX1 C dX4_up_2 sX4_65 rfl R  rfl (Nat.le_of_ble_eq_true rfl) 1 6 (by omega) (by omega) (C_X4_nodeNumbered R B hn (fun hd => ?_) (fun hd => ?_))
  · skip
    refine r_astore_n C dX4_up_5 (i := 3) rfl (Nat.le_of_ble_eq_true rfl) ?_
    dsimp only [List.set]
    refine r_aload_n C dX4_up_6 (i := 3) rfl rfl ?_
    refine c_3_4 C dX4_up_7 fX4_69 R (by omega) (by omega) ?_
    have b7 := B.isup n
    have IWu : ∀ y, IW (up (up g 8 n y) 7 n b) := fun y => iw_iv W (iv1_bool (iv1_up0 I (by decide)) (by decide) hb) (fun k hk j => by rw [up_ne (by omega), up_ne (by omega)])
    refine r_istore C dX4_up_10 (Nat.le_of_ble_eq_true rfl) ?_
    dsimp only [List.set]
    refine r_iload C dX4_up_12 rfl ?_
    refine r_if_eq C dX4_up_14 (t := 29) (by decide) (by first | assumption | exact R.rg _ _ | exact R.ru _ _ | (unfold inR; omega)) (fun c14 => ?_) (fun c14 => ?_)
    · skip
      refine r_aload_n C dX4_up_29 (i := 3) rfl rfl ?_
      refine r_iload_n C dX4_up_30 (i := 2) rfl rfl ?_
      first
        | refine r_putI C dX4_up_31 fX4_69 (Or.inl rfl) (Or.inr ⟨rfl, hb⟩) (R2.n hd.1 (show n < up (up g 8 n (g 1 0)) 7 n b 4 0 by rw [up_ne (by decide), up_ne (by decide)]; exact hd.2)).1.1 (R2.n hd.1 (show n < up (up g 8 n (g 1 0)) 7 n b 4 0 by rw [up_ne (by decide), up_ne (by decide)]; exact hd.2)).1.2 ?_
        | (refine r_putI C dX4_up_31 fX4_69 (Or.inl rfl) (Or.inr ⟨rfl, hb⟩) (R.n hd.1 hd.2).1.1 (R.n hd.1 hd.2).1.2 ?_
           have R2 := R.node_up (n := n) (v := b) hd.1 hd.2 hbr (fun z => (R.n hd.1 hd.2).2.2.2.2.2.2.2.1 (by omega))
           have e8 : upG g n b = up g 7 n b := by unfold upG; rw [if_neg (by omega), up_sm]
           rw [← up_sm g 8 n] at R2
           have e8 : upG g n b = up (up g 8 n (g 8 n)) 7 n b := by unfold upG; rw [if_neg (by omega)]
           revert R2 e8)
      try intro R2 e8
      refine r_iload C dX4_up_34 rfl ?_
      refine r_iret C dX4_up_36 (Or.inr ⟨rfl, (by first | assumption | omega | decide)⟩) ?_
      have Z2 := Z.op R2 (IWu _) (Ci.same (fun _ => rfl) (fun _ => rfl) (fun n p _ _ => by rw [up_ne (by decide), up_ne (by decide)]) ((up_ne (by decide)).trans (up_ne (by decide))) (fun _ => (up_ne (by decide)).trans (up_ne (by decide))) ((up_ne (by decide)).trans (up_ne (by decide))) (R.rvl b2.1)) (F.c (fun _ => rfl) (fun _ => rfl) (fun _ => rfl) (fun k hk j => (up_ne (by omega)).trans (up_ne (by omega)))) ((up_ne (by decide)).trans (up_ne (by decide))) ((up_ne (by decide)).trans (up_ne (by decide))) (fun _ => rfl) (fun _ => rfl)
      rw [← e8] at Z2
      exact K hd _ Z2
    · skip
      refine r_iload_n C dX4_up_17 (i := 2) rfl rfl ?_
      refine r_if_ne C dX4_up_18 (t := 29) (by decide) (by first | assumption | exact R.rg _ _ | exact R.ru _ _ | (unfold inR; omega)) (fun c18 => ?_) (fun c18 => ?_)
      · skip
        refine r_aload_n C dX4_up_29 (i := 3) rfl rfl ?_
        refine r_iload_n C dX4_up_30 (i := 2) rfl rfl ?_
        first
          | refine r_putI C dX4_up_31 fX4_69 (Or.inl rfl) (Or.inr ⟨rfl, hb⟩) (R2.n hd.1 (show n < up (up g 8 n (g 1 0)) 7 n b 4 0 by rw [up_ne (by decide), up_ne (by decide)]; exact hd.2)).1.1 (R2.n hd.1 (show n < up (up g 8 n (g 1 0)) 7 n b 4 0 by rw [up_ne (by decide), up_ne (by decide)]; exact hd.2)).1.2 ?_
          | (refine r_putI C dX4_up_31 fX4_69 (Or.inl rfl) (Or.inr ⟨rfl, hb⟩) (R.n hd.1 hd.2).1.1 (R.n hd.1 hd.2).1.2 ?_
             have R2 := R.node_up (n := n) (v := b) hd.1 hd.2 hbr (fun z => (R.n hd.1 hd.2).2.2.2.2.2.2.2.1 (by omega))
             have e8 : upG g n b = up g 7 n b := by unfold upG; rw [if_neg (by omega), up_sm]
             rw [← up_sm g 8 n] at R2
             have e8 : upG g n b = up (up g 8 n (g 8 n)) 7 n b := by unfold upG; rw [if_neg (by omega)]
             revert R2 e8)
        try intro R2 e8
        refine r_iload C dX4_up_34 rfl ?_
        refine r_iret C dX4_up_36 (Or.inr ⟨rfl, (by first | assumption | omega | decide)⟩) ?_
        have Z2 := Z.op R2 (IWu _) (Ci.same (fun _ => rfl) (fun _ => rfl) (fun n p _ _ => by rw [up_ne (by decide), up_ne (by decide)]) ((up_ne (by decide)).trans (up_ne (by decide))) (fun _ => (up_ne (by decide)).trans (up_ne (by decide))) ((up_ne (by decide)).trans (up_ne (by decide))) (R.rvl b2.1)) (F.c (fun _ => rfl) (fun _ => rfl) (fun _ => rfl) (fun k hk j => (up_ne (by omega)).trans (up_ne (by omega)))) ((up_ne (by decide)).trans (up_ne (by decide))) ((up_ne (by decide)).trans (up_ne (by decide))) (fun _ => rfl) (fun _ => rfl)
        rw [← e8] at Z2
        exact K hd _ Z2
      · skip
        refine r_aload_n C dX4_up_21 (i := 3) rfl rfl ?_
        refine r_aload_n C dX4_up_22 (i := 0) rfl rfl ?_
        refine c_5_3 C dX4_up_23 fX4_22 R  ?_
        refine r_putI C dX4_up_26 fX4_72 (Or.inl rfl) (Or.inl rfl) (R.n hd.1 hd.2).1.1 (R.n hd.1 hd.2).1.2 ?_
        have R2 := (R.node_ds (v := g 1 0) hd.1 hd.2 (R.rg _ _)).node_up (n := n) (v := b) hd.1 (by rw [up_ne (by decide)]; exact hd.2) hbr (fun _ => (if_pos ⟨rfl, rfl⟩).trans up_self.symm)
        have e8 : upG g n b = up (up g 8 n (g 1 0)) 7 n b := by unfold upG; rw [if_pos ⟨by omega, by omega⟩]
        refine r_aload_n C dX4_up_29 (i := 3) rfl rfl ?_
        refine r_iload_n C dX4_up_30 (i := 2) rfl rfl ?_
        first
          | refine r_putI C dX4_up_31 fX4_69 (Or.inl rfl) (Or.inr ⟨rfl, hb⟩) (R2.n hd.1 (show n < up (up g 8 n (g 1 0)) 7 n b 4 0 by rw [up_ne (by decide), up_ne (by decide)]; exact hd.2)).1.1 (R2.n hd.1 (show n < up (up g 8 n (g 1 0)) 7 n b 4 0 by rw [up_ne (by decide), up_ne (by decide)]; exact hd.2)).1.2 ?_
          | (refine r_putI C dX4_up_31 fX4_69 (Or.inl rfl) (Or.inr ⟨rfl, hb⟩) (R.n hd.1 hd.2).1.1 (R.n hd.1 hd.2).1.2 ?_
             have R2 := R.node_up (n := n) (v := b) hd.1 hd.2 hbr (fun z => (R.n hd.1 hd.2).2.2.2.2.2.2.2.1 (by omega))
             have e8 : upG g n b = up g 7 n b := by unfold upG; rw [if_neg (by omega), up_sm]
             rw [← up_sm g 8 n] at R2
             have e8 : upG g n b = up (up g 8 n (g 8 n)) 7 n b := by unfold upG; rw [if_neg (by omega)]
             revert R2 e8)
        try intro R2 e8
        refine r_iload C dX4_up_34 rfl ?_
        refine r_iret C dX4_up_36 (Or.inr ⟨rfl, (by first | assumption | omega | decide)⟩) ?_
        have Z2 := Z.op R2 (IWu _) (Ci.same (fun _ => rfl) (fun _ => rfl) (fun n p _ _ => by rw [up_ne (by decide), up_ne (by decide)]) ((up_ne (by decide)).trans (up_ne (by decide))) (fun _ => (up_ne (by decide)).trans (up_ne (by decide))) ((up_ne (by decide)).trans (up_ne (by decide))) (R.rvl b2.1)) (F.c (fun _ => rfl) (fun _ => rfl) (fun _ => rfl) (fun k hk j => (up_ne (by omega)).trans (up_ne (by omega)))) ((up_ne (by decide)).trans (up_ne (by decide))) ((up_ne (by decide)).trans (up_ne (by decide))) (fun _ => rfl) (fun _ => rfl)
        rw [← e8] at Z2
        exact K hd _ Z2
  · skip
    exact kx hd

set_option maxRecDepth 100000 in
set_option maxHeartbeats 4000000 in
theorem C_X4_spoil {gx : GX} {d : Nat} {Qr : Option AV → Hp → Prop} {Qx : String → Hp → Prop} {x : Nat} {A : Nat → Int → Nat} {u g : GT} {h : Hp} {n p c : Int} (Z : Rs gx x A u g h) (hn : inR n) (hp : inR p) (hc : inR c) (K : ndP g n ∧ pcP g p ∧ inP c 0 3 → g 18 (60 * n + p) ≠ 0 ∧ c < g 19 (60 * n + p) → ∀ z h1, inR z → BV z (shB (g 21 (60 * n + p)) c = 1) → Rs gx x A u (spG g n p c) h1 → Qr (some (vi z)) h1) (kx1 : ¬ (ndP g n ∧ pcP g p ∧ inP c 0 3) → Qx "java/lang/IndexOutOfBoundsException" h) (kx2 : ndP g n ∧ pcP g p ∧ inP c 0 3 → ¬ (g 18 (60 * n + p) ≠ 0 ∧ c < g 19 (60 * n + p)) → Qx "java/lang/IllegalStateException" h) : aM gx (d + 7) mX4_spoil [vr x, vi n, vi p, vi c] h 4 24 Qr Qx := by
  intro J C
  show J 0 [some (vr x), some (vi n), some (vi p), some (vi c), none, none, none, none] [] h 4 24
  have R := Z.1.1; have W := Z.1.2.1; have Ci := Z.1.2.2; have F := Z.2.1; have I := W.i; have B := W.b; have b1 := B.nn; have b2 := B.np; have b3 := B.nf; have Zd := Z.1.z
  refine r_aload_n C dX4_spoil_0 (i := 0) rfl rfl ?_
  refine r_iload_n C dX4_spoil_1 (i := 1) rfl rfl ?_
  refine c_VX1 C dX4_spoil_2 sX4_65 rfl R  rfl (Nat.le_of_ble_eq_true rfl) 1 6 (by omega) (by omega) (C_X4_nodeNumbered R B hn (fun hd => ?_) (fun hd => ?_))
  · skip
    refine r_astore C dX4_spoil_5 (Nat.le_of_ble_eq_true rfl) ?_
    dsimp only [List.set]
    refine r_aload_n C dX4_spoil_7 (i := 0) rfl rfl ?_
    refine r_iload_n C dX4_spoil_8 (i := 2) rfl rfl ?_
    refine c_VX1 C dX4_spoil_9 sX4_75 rfl R  rfl (Nat.le_of_ble_eq_true rfl) 1 6 (by omega) (by omega) (C_X4_pieceNumbered R B rfl hp (fun hd2 => ?_) (fun hd2 => ?_))
    · skip
      refine r_astore C dX4_spoil_12 (Nat.le_of_ble_eq_true rfl) ?_
      dsimp only [List.set]
      refine r_iload_n C dX4_spoil_14 (i := 3) rfl rfl ?_
      refine c_S1 C dX4_spoil_15 sX4_79 rfl (Nat.le_of_ble_eq_true rfl) 1 6 (by omega) (by omega) (C_X4_requireCell hc (fun hd3 => ?_) (fun hd3 => ?_))
      · skip
        have hall : ndP g n ∧ pcP g p ∧ inP c 0 3 := ⟨hd, hd2, by omega⟩
        refine r_aload C dX4_spoil_18 rfl ?_
        refine r_aload C dX4_spoil_20 rfl ?_
        refine c_VN1 C dX4_spoil_22 sX4_82 rfl R (by omega) (by omega) rfl (Nat.le_of_ble_eq_true rfl) 0 0 (Nat.zero_le _) (Nat.zero_le _) (C_X2_copyOfP R hd.1 hd.2 hd2.1 hd2.2 (fun i i0 i1 hu => ?_) (fun no => ?_))
        · skip
          have hoc := Ci.occ hd.1 hd.2 i0 i1 hu hd2.1
          refine r_astore C dX4_spoil_25 (Nat.le_of_ble_eq_true rfl) ?_
          dsimp only [List.set]
          refine r_aload C dX4_spoil_27 rfl ?_
          refine r_ifnull C dX4_spoil_29 (t := 41) (by decide) (fun c29 => ?_) (fun a29 c29 => ?_)
          · skip
            cases c29
          · skip
            refine r_aload C dX4_spoil_32 rfl ?_
            refine r_iload_n C dX4_spoil_34 (i := 3) rfl rfl ?_
            refine c_VS1 C dX4_spoil_35 sX4_86 rfl R (by omega) (by omega) (by omega) (by omega) rfl (Nat.le_of_ble_eq_true rfl) 0 0 (Nat.zero_le _) (Nat.zero_le _) (C_X0_hasCell R hd.1 hd.2 i0 i1 hu hd2.1 hc (fun z hz hb => ?_))
            have hb01 := hb.b
            refine r_if_ne C dX4_spoil_38 (t := 51) (by decide) (by first | assumption | exact R.rg _ _ | exact R.ru _ _ | (unfold inR; omega)) (fun c38 => ?_) (fun c38 => ?_)
            · skip
              have hh := hb.t c38
              refine r_aload C dX4_spoil_51 rfl ?_
              refine r_iload_n C dX4_spoil_53 (i := 3) rfl rfl ?_
              refine c_VS1 C dX4_spoil_54 sX4_94 rfl R (by omega) (by omega) (by omega) (by omega) rfl (Nat.le_of_ble_eq_true rfl) 0 0 (Nat.zero_le _) (Nat.zero_le _) (C_X0_isWrong R hd.1 hd.2 i0 i1 hu hd2.1 hc (fun z2 hz2 hb2 => ?_))
              have hb201 := hb2.b
              refine r_istore C dX4_spoil_57 (Nat.le_of_ble_eq_true rfl) ?_
              dsimp only [List.set]
              refine r_aload C dX4_spoil_59 rfl ?_
              refine r_iload_n C dX4_spoil_61 (i := 3) rfl rfl ?_
              refine c_VS1 C dX4_spoil_62 sX4_97 rfl R (by omega) (by omega) (by omega) (by omega) rfl (Nat.le_of_ble_eq_true rfl) 0 0 (Nat.zero_le _) (Nat.zero_le _) (C_X0_makeWrong R hd.1 hd.2 i0 i1 hu hd2.1 (Ci.inj hd.1 hd.2 i0 i1 hu hd2.1) I.2.2.1 b2.2 hc hh (fun h3 R3 => ?_))
              refine r_iload C dX4_spoil_65 rfl ?_
              refine r_iret C dX4_spoil_67 (Or.inr ⟨rfl, (by first | assumption | omega | decide)⟩) ?_
              exact K hall ⟨by omega, hh.2.2⟩ z2 _ hz2 (hb2.iff ⟨fun q => q.2, fun q => ⟨hh, q⟩⟩) (Z.u1 R3 (iw_sp W hh.1 hh.2.2) (by decide))
            · skip
              have hh := hb.f c38
              refine r_thr C tX4_spoil_41 rfl (by omega) (Nat.le_of_ble_eq_true rfl) (by omega) (by omega) ?_
              first | exact kx2 hall (fun z => z.1 hz0) | exact kx2 hall (fun z => hh ⟨by omega, by omega, z.2⟩)
        · skip
          have hz0 := Ci.no W.n hd.1 hd.2 hd2.1 hd2.2 no
          refine r_astore C dX4_spoil_25 (Nat.le_of_ble_eq_true rfl) ?_
          dsimp only [List.set]
          refine r_aload C dX4_spoil_27 rfl ?_
          refine r_ifnull C dX4_spoil_29 (t := 41) (by decide) (fun c29 => ?_) (fun a29 c29 => ?_)
          · skip
            refine r_thr C tX4_spoil_41 rfl (by omega) (Nat.le_of_ble_eq_true rfl) (by omega) (by omega) ?_
            first | exact kx2 hall (fun z => z.1 hz0) | exact kx2 hall (fun z => hh ⟨by omega, by omega, z.2⟩)
          · skip
            cases c29
      · skip
        exact kx1 (fun z => hd3 (by have := z.2.2; omega))
    · skip
      exact kx1 (fun z => hd2 z.2.1)
  · skip
    exact kx1 (fun z => hd z.1)

set_option maxRecDepth 100000 in
set_option maxHeartbeats 4000000 in
theorem C_X4_limit {gx : GX} {d : Nat} {Qr : Option AV → Hp → Prop} {Qx : String → Hp → Prop} {x : Nat} {A : Nat → Int → Nat} {u g : GT} {h : Hp} {a : Int} (Z : Rs gx x A u g h) (ha : inR a) (K : inP a 0 3 → ∀ h1, Rs gx x A u (up g 2 0 a) h1 → Qr (some (vi (g 2 0))) h1) (kx : ¬ inP a 0 3 → Qx "java/lang/IllegalArgumentException" h) : aM gx (d + 6) mX4_limit [vr x, vi a] h 1 6 Qr Qx := by
  intro J C
  show J 0 [some (vr x), some (vi a), none] [] h 1 6
  have R := Z.1.1; have W := Z.1.2.1; have Ci := Z.1.2.2; have F := Z.2.1; have I := W.i; have B := W.b; have b1 := B.nn; have b2 := B.np; have b3 := B.nf; have Zd := Z.1.z
  refine r_iload_n C dX4_limit_0 (i := 1) rfl rfl ?_
  refine r_if_lt C dX4_limit_1 (t := 9) (by decide) (by first | assumption | exact R.rg _ _ | exact R.ru _ _ | (unfold inR; omega)) (fun c1 => ?_) (fun c1 => ?_)
  · skip
    refine r_thr C tX4_limit_9 rfl (by omega) (Nat.le_of_ble_eq_true rfl) (by omega) (by omega) ?_
    exact kx (by omega)
  · skip
    refine r_iload_n C dX4_limit_4 (i := 1) rfl rfl ?_
    refine r_iconst C dX4_limit_5 ?_
    refine r_ic_le C dX4_limit_6 (t := 19) (by decide) (by first | assumption | exact R.rg _ _ | exact R.ru _ _ | (unfold inR; omega)) (by first | assumption | exact R.rg _ _ | exact R.ru _ _ | (unfold inR; omega)) (fun c6 => ?_) (fun c6 => ?_)
    · skip
      refine r_aload_n C dX4_limit_19 (i := 0) rfl rfl ?_
      refine c_5_4 C dX4_limit_20 fX4_26 R  ?_
      refine r_istore_n C dX4_limit_23 (i := 2) rfl (Nat.le_of_ble_eq_true rfl) ?_
      dsimp only [List.set]
      refine r_aload_n C dX4_limit_24 (i := 0) rfl rfl ?_
      refine r_iload_n C dX4_limit_25 (i := 1) rfl rfl ?_
      refine r_putI C dX4_limit_26 fX4_26 (Or.inl rfl) (Or.inl rfl) R.xx.1.1 R.xx.1.2 ?_
      refine r_iload_n C dX4_limit_29 (i := 2) rfl rfl ?_
      refine r_iret C dX4_limit_30 (Or.inl rfl) ?_
      exact K (by omega) _ (Z.u1 (R.fl_lim ha) (iw_same W (fun k hk j => up_ne (by omega))) (by decide))
    · skip
      refine r_thr C tX4_limit_9 rfl (by omega) (Nat.le_of_ble_eq_true rfl) (by omega) (by omega) ?_
      exact kx (by omega)

set_option maxRecDepth 100000 in
set_option maxHeartbeats 4000000 in
theorem C_X4_balance {gx : GX} {d : Nat} {Qr : Option AV → Hp → Prop} {Qx : String → Hp → Prop} {x : Nat} {A : Nat → Int → Nat} {u g : GT} {h : Hp} {a : Int} (Z : Rs gx x A u g h) (ha : a = 0 ∨ a = 1) (hbb : g 3 0 = 0 ∨ g 3 0 = 1) (K : ∀ h1, Rs gx x A u (up g 3 0 a) h1 → Qr (some (vi (g 3 0))) h1) : aM gx (d + 1) mX4_balance [vr x, vi a] h 0 0 Qr Qx := by
  intro J C
  show J 0 [some (vr x), some (vi a), none] [] h 0 0
  have R := Z.1.1; have W := Z.1.2.1; have Ci := Z.1.2.2; have F := Z.2.1; have I := W.i; have B := W.b; have b1 := B.nn; have b2 := B.np; have b3 := B.nf; have Zd := Z.1.z
  have har : inR a := by rcases ha with z | z <;> rw [z] <;> exact ⟨by decide, by decide⟩
  refine r_aload_n C dX4_balance_0 (i := 0) rfl rfl ?_
  refine c_5_5 C dX4_balance_1 fX4_29 R  ?_
  refine r_istore_n C dX4_balance_4 (i := 2) rfl (Nat.le_of_ble_eq_true rfl) ?_
  dsimp only [List.set]
  refine r_aload_n C dX4_balance_5 (i := 0) rfl rfl ?_
  refine r_iload_n C dX4_balance_6 (i := 1) rfl rfl ?_
  refine r_putI C dX4_balance_7 fX4_29 (Or.inl rfl) (Or.inr ⟨rfl, ha⟩) R.xx.1.1 R.xx.1.2 ?_
  refine r_iload_n C dX4_balance_10 (i := 2) rfl rfl ?_
  refine r_iret C dX4_balance_11 (Or.inr ⟨rfl, (by first | assumption | omega | decide)⟩) ?_
  exact K _ (Z.u1 (R.fl_bal har) (iw_same W (fun k hk j => up_ne (by omega))) (by decide))

set_option maxRecDepth 100000 in
set_option maxHeartbeats 4000000 in
theorem C_X4_remove {gx : GX} {d : Nat} {Qr : Option AV → Hp → Prop} {Qx : String → Hp → Prop} {x : Nat} {A : Nat → Int → Nat} {u g : GT} {h : Hp} {f : Int} (Z : Rs gx x A u g h) (hf : inR f) (K : flP g f → g 23 f = 0 → ∀ u' h1, Rs gx x A u' (rmG g f) h1 → Qr none h1) (kx1 : ¬ flP g f → Qx "java/lang/IndexOutOfBoundsException" h) (kx2 : flP g f → ¬ g 23 f = 0 → Qx "java/lang/IllegalStateException" h) : aM gx (d + 7) mX4_remove [vr x, vi f] h 2 12 Qr Qx := by
  intro J C
  show J 0 [some (vr x), some (vi f), none] [] h 2 12
  have R := Z.1.1; have W := Z.1.2.1; have Ci := Z.1.2.2; have F := Z.2.1; have I := W.i; have B := W.b; have b1 := B.nn; have b2 := B.np; have b3 := B.nf; have Zd := Z.1.z
  refine r_aload_n C dX4_remove_0 (i := 0) rfl rfl ?_
  refine r_iload_n C dX4_remove_1 (i := 1) rfl rfl ?_
  refine c_VX1 C dX4_remove_2 sX4_116 rfl R  rfl (Nat.le_of_ble_eq_true rfl) 1 6 (by omega) (by omega) (C_X4_fileNumbered R B hf (fun hd => ?_) (fun hd => ?_))
  · skip
    refine r_astore_n C dX4_remove_5 (i := 2) rfl (Nat.le_of_ble_eq_true rfl) ?_
    dsimp only [List.set]
    refine r_aload_n C dX4_remove_6 (i := 2) rfl rfl ?_
    refine c_S1 C dX4_remove_7 sX4_120 rfl (Nat.le_of_ble_eq_true rfl) 1 6 (by omega) (by omega) (C_X4_requireThere R hd.1 hd.2 (fun h4 => ?_) (fun h4 => ?_))
    · skip
      have f4 := (F.2 f hd.1 hd.2).1
      have h23 : g 23 f = 0 := by omega
      refine r_aload_n C dX4_remove_10 (i := 2) rfl rfl ?_
      refine r_iconst C dX4_remove_11 ?_
      refine r_putI C dX4_remove_12 fX4_136 (Or.inl rfl) (Or.inl rfl) (R.f hd.1 hd.2).1.1 (R.f hd.1 hd.2).1.2 ?_
      refine r_aload_n C dX4_remove_15 (i := 2) rfl rfl ?_
      refine r_aload_n C dX4_remove_16 (i := 0) rfl rfl ?_
      refine r_getI C dX4_remove_17 fX4_22 rfl R.xx.1.1 R.xx.1.2 ?_
      rw [show hI (wI h (A 6 f) (1 : Nat) 1) x (3 : Nat) = g 1 0 from (if_neg (fun z => absurd z.2 (by decide))).trans R.xx.2.2.1.1]
      refine r_putI C dX4_remove_20 fX4_139 (Or.inl rfl) (Or.inl rfl) (R.f hd.1 hd.2).1.1 (R.f hd.1 hd.2).1.2 ?_
      refine r_ret C dX4_remove_23 rfl ?_
      have e : ∀ k, k ≠ 23 ∧ k ≠ 24 → ∀ j, rmG g f k j = g k j := fun k hk j => by unfold rmG; rw [up_ne hk.2, up_ne hk.1]
      have e23 : ∀ j, rmG g f 23 j = if j = f then 1 else g 23 j := fun j => by unfold rmG; rw [up_ne (by decide), up_at]
      have frw : ∀ q, rwG (rmG g f) q = rwG g q := fun q => by
        unfold rwG
        rw [e23, e 25 (by decide)]
        by_cases c : q = f
        · rw [if_pos c, if_neg (by decide), c, if_neg (by omega)]
        · rw [if_neg c]
      have ffw : ∀ p, fwG (rmG g f) p (-1) = fwG g p (-1) := fun p => by
        unfold fwG fcG
        rw [e 22 (by decide)]
        simp only [e 25 (by decide), e 26 (by decide)]
        refine sumI_cg (fun q q0 q1 => ?_)
        rw [e23]
        by_cases c : q = f
        · rw [if_pos c, c, if_pos ⟨by decide, by omega⟩, if_pos ⟨by omega, by omega⟩]
        · rw [if_neg c]
      refine K hd h23 _ _ (Z.op (R.fi_dl hd.1 hd.2 (R.rg _ _)) (iw_same W (fun k hk j => e k (by omega) j)) (Ci.same (fun j => up_ne (by decide)) (fun j => up_ne (by decide)) (fun n p _ _ => by rw [e 18 (by decide)]) (e 4 (by decide) 0) (e 6 (by decide)) (e 11 (by decide) 0) (R.rvl b2.1)) ⟨fun p a b => ?_, fun q a b => ?_⟩ (e 11 (by decide) 0) (e 1 (by decide) 0) (fun p => up_ne (by decide)) (fun p => up_ne (by decide)))
      · rw [e 11 (by decide)] at b
        rw [up_ne (by decide), ffw]
        exact F.1 p a b
      · rw [e 22 (by decide)] at b
        rw [e23, frw, up_at, up_ne (by decide)]
        have := F.2 q a b
        by_cases c : q = f
        · rw [if_pos c, if_pos c]; exact ⟨rfl, this.2⟩
        · rw [if_neg c, if_neg c]; exact this
    · skip
      have f4 := (F.2 f hd.1 hd.2).1
      exact kx2 hd (by omega)
  · skip
    exact kx1 hd

set_option maxRecDepth 100000 in
set_option maxHeartbeats 4000000 in
theorem C_X4_restore {gx : GX} {d : Nat} {Qr : Option AV → Hp → Prop} {Qx : String → Hp → Prop} {x : Nat} {A : Nat → Int → Nat} {u g : GT} {h : Hp} {f : Int} (Z : Rs gx x A u g h) (hf : inR f) (K : flP g f → g 23 f = 1 → ∀ u' h1, Rs gx x A u' (rsG g f) h1 → Qr none h1) (kx1 : ¬ flP g f → Qx "java/lang/IndexOutOfBoundsException" h) (kx2 : flP g f → ¬ g 23 f = 1 → Qx "java/lang/IllegalStateException" h) : aM gx (d + 7) mX4_restore [vr x, vi f] h 2 12 Qr Qx := by
  intro J C
  show J 0 [some (vr x), some (vi f), none] [] h 2 12
  have R := Z.1.1; have W := Z.1.2.1; have Ci := Z.1.2.2; have F := Z.2.1; have I := W.i; have B := W.b; have b1 := B.nn; have b2 := B.np; have b3 := B.nf; have Zd := Z.1.z
  refine r_aload_n C dX4_restore_0 (i := 0) rfl rfl ?_
  refine r_iload_n C dX4_restore_1 (i := 1) rfl rfl ?_
  refine c_VX1 C dX4_restore_2 sX4_116 rfl R  rfl (Nat.le_of_ble_eq_true rfl) 1 6 (by omega) (by omega) (C_X4_fileNumbered R B hf (fun hd => ?_) (fun hd => ?_))
  · skip
    refine r_astore_n C dX4_restore_5 (i := 2) rfl (Nat.le_of_ble_eq_true rfl) ?_
    dsimp only [List.set]
    refine r_aload_n C dX4_restore_6 (i := 2) rfl rfl ?_
    refine c_2_1 C dX4_restore_7 fX4_136 R (by omega) (by omega) ?_
    have f4 := (F.2 f hd.1 hd.2).1
    refine r_iconst C dX4_restore_10 ?_
    refine r_ic_eq C dX4_restore_11 (t := 24) (by decide) (by first | assumption | exact R.rg _ _ | exact R.ru _ _ | (unfold inR; omega)) (by first | assumption | exact R.rg _ _ | exact R.ru _ _ | (unfold inR; omega)) (fun c11 => ?_) (fun c11 => ?_)
    · skip
      refine r_aload_n C dX4_restore_24 (i := 2) rfl rfl ?_
      refine r_iconst C dX4_restore_25 ?_
      refine r_putI C dX4_restore_26 fX4_136 (Or.inl rfl) (Or.inl rfl) (R.f hd.1 hd.2).1.1 (R.f hd.1 hd.2).1.2 ?_
      refine r_ret C dX4_restore_29 rfl ?_
      have h23 : g 23 f = 1 := by omega
      have e : ∀ k, k ≠ 23 → ∀ j, rsG g f k j = g k j := fun k hk j => by unfold rsG; rw [up_ne hk]
      have e23 : ∀ j, rsG g f 23 j = if j = f then 0 else g 23 j := fun j => by unfold rsG; rw [up_at]
      have frw : ∀ q, rwG (rsG g f) q = rwG g q := fun q => by
        unfold rwG
        rw [e23, e 25 (by decide)]
        by_cases c : q = f
        · rw [if_pos c, if_neg (by decide), c, if_neg (by omega)]
        · rw [if_neg c]
      have ffw : ∀ p, fwG (rsG g f) p (-1) = fwG g p (-1) := fun p => by
        unfold fwG fcG
        rw [e 22 (by decide)]
        simp only [e 25 (by decide), e 26 (by decide)]
        refine sumI_cg (fun q q0 q1 => ?_)
        rw [e23]
        by_cases c : q = f
        · rw [if_pos c, c, if_pos ⟨by decide, by omega⟩, if_pos ⟨by omega, by omega⟩]
        · rw [if_neg c]
      refine K hd h23 _ _ (Z.op (R.fi_st (v := 0) hd.1 hd.2 inR0 (fun z => absurd z (by decide))) (iw_same W (fun k hk j => e k (by omega) j)) (Ci.same (fun j => up_ne (by decide)) (fun j => up_ne (by decide)) (fun n p _ _ => by rw [e 18 (by decide)]) (e 4 (by decide) 0) (e 6 (by decide)) (e 11 (by decide) 0) (R.rvl b2.1)) ⟨fun p a b => ?_, fun q a b => ?_⟩ (e 11 (by decide) 0) (e 1 (by decide) 0) (fun p => up_ne (by decide)) (fun p => up_ne (by decide)))
      · rw [e 11 (by decide)] at b
        rw [up_ne (by decide), ffw]
        exact F.1 p a b
      · rw [e 22 (by decide)] at b
        rw [e23, frw, up_at, up_ne (by decide)]
        have := F.2 q a b
        by_cases c : q = f
        · rw [if_pos c, if_pos c]; exact ⟨rfl, this.2⟩
        · rw [if_neg c, if_neg c]; exact this
    · skip
      refine r_thr C tX4_restore_14 rfl (by omega) (Nat.le_of_ble_eq_true rfl) (by omega) (by omega) ?_
      exact kx2 hd (by omega)
  · skip
    exact kx1 hd

set_option maxRecDepth 100000 in
set_option maxHeartbeats 4000000 in
theorem C_X4_state {gx : GX} {d : Nat} {Qr : Option AV → Hp → Prop} {Qx : String → Hp → Prop} {x : Nat} {A : Nat → Int → Nat} {u g : GT} {h : Hp} {f : Int} (Z : Rs gx x A u g h) (hf : inR f) (K : flP g f → Qr (some (vi (g 23 f))) h) (kx : ¬ flP g f → Qx "java/lang/IndexOutOfBoundsException" h) : aM gx (d + 7) mX4_state [vr x, vi f] h 1 6 Qr Qx := by
  intro J C
  show J 0 [some (vr x), some (vi f)] [] h 1 6
  have R := Z.1.1; have W := Z.1.2.1; have Ci := Z.1.2.2; have F := Z.2.1; have I := W.i; have B := W.b; have b1 := B.nn; have b2 := B.np; have b3 := B.nf; have Zd := Z.1.z
  refine r_aload_n C dX4_state_0 (i := 0) rfl rfl ?_
  refine r_iload_n C dX4_state_1 (i := 1) rfl rfl ?_
  refine c_VX1 C dX4_state_2 sX4_116 rfl R  rfl (Nat.le_of_ble_eq_true rfl) 1 6 (by omega) (by omega) (C_X4_fileNumbered R B hf (fun hd => ?_) (fun hd => ?_))
  · skip
    refine c_2_1 C dX4_state_5 fX4_136 R (by omega) (by omega) ?_
    refine r_iret C dX4_state_8 (Or.inl rfl) ?_
    have f4 := (F.2 f hd.1 hd.2).1
    rw [f4]
    exact K hd
  · skip
    exact kx hd

set_option maxRecDepth 100000 in
set_option maxHeartbeats 4000000 in
theorem C_X4_pieces {gx : GX} {d : Nat} {Qr : Option AV → Hp → Prop} {Qx : String → Hp → Prop} {x : Nat} {A : Nat → Int → Nat} {u g : GT} {h : Hp} {f : Int} (Z : Rs gx x A u g h) (hf : inR f) (K : flP g f → Qr (some (vi (rwG g f))) h) (kx : ¬ flP g f → Qx "java/lang/IndexOutOfBoundsException" h) : aM gx (d + 7) mX4_pieces [vr x, vi f] h 1 6 Qr Qx := by
  intro J C
  show J 0 [some (vr x), some (vi f)] [] h 1 6
  have R := Z.1.1; have W := Z.1.2.1; have Ci := Z.1.2.2; have F := Z.2.1; have I := W.i; have B := W.b; have b1 := B.nn; have b2 := B.np; have b3 := B.nf; have Zd := Z.1.z
  refine r_aload_n C dX4_pieces_0 (i := 0) rfl rfl ?_
  refine r_iload_n C dX4_pieces_1 (i := 1) rfl rfl ?_
  refine c_VX1 C dX4_pieces_2 sX4_116 rfl R  rfl (Nat.le_of_ble_eq_true rfl) 1 6 (by omega) (by omega) (C_X4_fileNumbered R B hf (fun hd => ?_) (fun hd => ?_))
  · skip
    refine c_2_3 C dX4_pieces_5 fX4_124 R (by omega) (by omega) ?_
    refine c_szR C dX4_pieces_8 sX4_44 R (by omega) (by omega) (Nat.le_of_ble_eq_true rfl) ?_
    refine r_iret C dX4_pieces_11 (Or.inl rfl) ?_
    rw [(F.2 f hd.1 hd.2).2]
    exact K hd
  · skip
    exact kx hd

set_option maxRecDepth 100000 in
set_option maxHeartbeats 4000000 in
theorem C_X4_pieceAt {gx : GX} {d : Nat} {Qr : Option AV → Hp → Prop} {Qx : String → Hp → Prop} {x : Nat} {A : Nat → Int → Nat} {u g : GT} {h : Hp} {f w : Int} (Z : Rs gx x A u g h) (hf : inR f) (hw : inR w) (K : flP g f ∧ inP w 0 (rwG g f - 1) → Qr (some (vi (g 26 (6 * f + w)))) h) (kx : ¬ (flP g f ∧ inP w 0 (rwG g f - 1)) → Qx "java/lang/IndexOutOfBoundsException" h) : aM gx (d + 7) mX4_pieceAt [vr x, vi f, vi w] h 2 12 Qr Qx := by
  intro J C
  show J 0 [some (vr x), some (vi f), some (vi w)] [] h 2 12
  have R := Z.1.1; have W := Z.1.2.1; have Ci := Z.1.2.2; have F := Z.2.1; have I := W.i; have B := W.b; have b1 := B.nn; have b2 := B.np; have b3 := B.nf; have Zd := Z.1.z
  refine r_aload_n C dX4_pieceAt_0 (i := 0) rfl rfl ?_
  refine r_iload_n C dX4_pieceAt_1 (i := 1) rfl rfl ?_
  refine c_VX1 C dX4_pieceAt_2 sX4_116 rfl R  rfl (Nat.le_of_ble_eq_true rfl) 1 6 (by omega) (by omega) (C_X4_fileNumbered R B hf (fun hd => ?_) (fun hd => ?_))
  · skip
    have f5 := (F.2 f hd.1 hd.2).2
    have rwb : rwG g f ≤ g 25 f ∧ g 25 f ≤ 6 := by
      have := B.rw f hd.1 hd.2
      unfold rwG
      split <;> omega
    refine r_iload_n C dX4_pieceAt_5 (i := 2) rfl rfl ?_
    refine c_S2 C dX4_pieceAt_6 sX4_158 rfl rfl (Nat.le_of_ble_eq_true rfl) 1 6 (by omega) (by omega) (C_X4_pieceInFile R hd.1 hd.2 hw (by omega) (fun k k0 k1 => B.re f k hd.1 hd.2 k0 (by omega)) (fun hd2 => ?_) (fun hd2 => ?_))
    · skip
      have hre := B.re f w hd.1 hd.2 hd2.1 (by omega)
      refine c_4_0 C dX4_pieceAt_9 fX4_180 R (by omega) (by omega) ?_
      refine r_iret C dX4_pieceAt_12 (Or.inl rfl) ?_
      exact K ⟨hd, by omega⟩
    · skip
      exact kx (fun z => hd2 (by have := z.2; omega))
  · skip
    exact kx (fun z => hd z.1)

set_option maxRecDepth 100000 in
set_option maxHeartbeats 4000000 in
theorem C_X4_load {gx : GX} {d : Nat} {Qr : Option AV → Hp → Prop} {Qx : String → Hp → Prop} {x : Nat} {A : Nat → Int → Nat} {u g : GT} {h : Hp} {n : Int} (Z : Rs gx x A u g h) (hn : inR n) (K : ndP g n → Qr (some (vi (loadG g n))) h) (kx : ¬ ndP g n → Qx "java/lang/IndexOutOfBoundsException" h) : aM gx (d + 7) mX4_load [vr x, vi n] h 1 6 Qr Qx := by
  intro J C
  show J 0 [some (vr x), some (vi n)] [] h 1 6
  have R := Z.1.1; have W := Z.1.2.1; have Ci := Z.1.2.2; have F := Z.2.1; have I := W.i; have B := W.b; have b1 := B.nn; have b2 := B.np; have b3 := B.nf; have Zd := Z.1.z
  refine r_aload_n C dX4_load_0 (i := 0) rfl rfl ?_
  refine r_iload_n C dX4_load_1 (i := 1) rfl rfl ?_
  refine c_VX1 C dX4_load_2 sX4_65 rfl R  rfl (Nat.le_of_ble_eq_true rfl) 1 6 (by omega) (by omega) (C_X4_nodeNumbered R B hn (fun hd => ?_) (fun hd => ?_))
  · skip
    refine c_3_3 C dX4_load_5 fX4_217 R (by omega) (by omega) ?_
    refine r_iret C dX4_load_8 (Or.inl rfl) ?_
    rw [Ci.tk hd.1 hd.2]
    exact K hd
  · skip
    exact kx hd

set_option maxRecDepth 100000 in
set_option maxHeartbeats 4000000 in
theorem C_X4_isCounted {gx : GX} {d : Nat} {Qr : Option AV → Hp → Prop} {Qx : String → Hp → Prop} {x : Nat} {A : Nat → Int → Nat} {u g : GT} {h : Hp} {n : Int} (Z : Rs gx x A u g h) (hn : inR n) (K : ndP g n → Qr (some (vi (g 9 n))) h) (kx : ¬ ndP g n → Qx "java/lang/IndexOutOfBoundsException" h) : aM gx (d + 7) mX4_isCounted [vr x, vi n] h 1 6 Qr Qx := by
  intro J C
  show J 0 [some (vr x), some (vi n)] [] h 1 6
  have R := Z.1.1; have W := Z.1.2.1; have Ci := Z.1.2.2; have F := Z.2.1; have I := W.i; have B := W.b; have b1 := B.nn; have b2 := B.np; have b3 := B.nf; have Zd := Z.1.z
  refine r_aload_n C dX4_isCounted_0 (i := 0) rfl rfl ?_
  refine r_iload_n C dX4_isCounted_1 (i := 1) rfl rfl ?_
  refine c_VX1 C dX4_isCounted_2 sX4_65 rfl R  rfl (Nat.le_of_ble_eq_true rfl) 1 6 (by omega) (by omega) (C_X4_nodeNumbered R B hn (fun hd => ?_) (fun hd => ?_))
  · skip
    refine c_3_5 C dX4_isCounted_5 fX4_220 R (by omega) (by omega) ?_
    have b9 := B.ct n
    refine r_iret C dX4_isCounted_8 (Or.inr ⟨rfl, (by first | assumption | omega | decide)⟩) ?_
    exact K hd
  · skip
    exact kx hd

set_option maxRecDepth 100000 in
set_option maxHeartbeats 4000000 in
theorem C_X4_on {gx : GX} {d : Nat} {Qr : Option AV → Hp → Prop} {Qx : String → Hp → Prop} {x : Nat} {A : Nat → Int → Nat} {u g : GT} {h : Hp} {n p w : Int} (Z : Rs gx x A u g h) (hn : inR n) (hp : inR p) (hw : inR w) (K : ndP g n ∧ pcP g p → inP w 0 2 → Qr (some (vi (if g 18 (60 * n + p) = 0 then -1 else if w = 0 then g 18 (60 * n + p) else if w = 1 then g 19 (60 * n + p) else g 21 (60 * n + p)))) h) (kx1 : ¬ (ndP g n ∧ pcP g p) → Qx "java/lang/IndexOutOfBoundsException" h) (kx2 : ndP g n ∧ pcP g p → ¬ inP w 0 2 → Qx "java/lang/IllegalArgumentException" h) : aM gx (d + 7) mX4_on [vr x, vi n, vi p, vi w] h 3 18 Qr Qx := by
  intro J C
  show J 0 [some (vr x), some (vi n), some (vi p), some (vi w), none, none, none] [] h 3 18
  have R := Z.1.1; have W := Z.1.2.1; have Ci := Z.1.2.2; have F := Z.2.1; have I := W.i; have B := W.b; have b1 := B.nn; have b2 := B.np; have b3 := B.nf; have Zd := Z.1.z
  refine r_aload_n C dX4_on_0 (i := 0) rfl rfl ?_
  refine r_iload_n C dX4_on_1 (i := 1) rfl rfl ?_
  refine c_VX1 C dX4_on_2 sX4_65 rfl R  rfl (Nat.le_of_ble_eq_true rfl) 1 6 (by omega) (by omega) (C_X4_nodeNumbered R B hn (fun hd => ?_) (fun hd => ?_))
  · skip
    refine r_astore C dX4_on_5 (Nat.le_of_ble_eq_true rfl) ?_
    dsimp only [List.set]
    refine r_aload_n C dX4_on_7 (i := 0) rfl rfl ?_
    refine r_iload_n C dX4_on_8 (i := 2) rfl rfl ?_
    refine c_VX1 C dX4_on_9 sX4_75 rfl R  rfl (Nat.le_of_ble_eq_true rfl) 1 6 (by omega) (by omega) (C_X4_pieceNumbered R B rfl hp (fun hd2 => ?_) (fun hd2 => ?_))
    · skip
      refine r_astore C dX4_on_12 (Nat.le_of_ble_eq_true rfl) ?_
      dsimp only [List.set]
      refine r_iload_n C dX4_on_14 (i := 3) rfl rfl ?_
      refine r_if_lt C dX4_on_15 (t := 23) (by decide) (by first | assumption | exact R.rg _ _ | exact R.ru _ _ | (unfold inR; omega)) (fun c15 => ?_) (fun c15 => ?_)
      · skip
        refine r_thr C tX4_on_23 rfl (by omega) (Nat.le_of_ble_eq_true rfl) (by omega) (by omega) ?_
        exact kx2 ⟨hd, hd2⟩ (by omega)
      · skip
        refine r_iload_n C dX4_on_18 (i := 3) rfl rfl ?_
        refine r_iconst C dX4_on_19 ?_
        refine r_ic_le C dX4_on_20 (t := 33) (by decide) (by first | assumption | exact R.rg _ _ | exact R.ru _ _ | (unfold inR; omega)) (by first | assumption | exact R.rg _ _ | exact R.ru _ _ | (unfold inR; omega)) (fun c20 => ?_) (fun c20 => ?_)
        · skip
          refine r_aload C dX4_on_33 rfl ?_
          refine r_aload C dX4_on_35 rfl ?_
          refine c_VN1 C dX4_on_37 sX4_82 rfl R (by omega) (by omega) rfl (Nat.le_of_ble_eq_true rfl) 0 0 (Nat.zero_le _) (Nat.zero_le _) (C_X2_copyOfP R hd.1 hd.2 hd2.1 hd2.2 (fun i i0 i1 hu => ?_) (fun no => ?_))
          · skip
            have hoc := Ci.occ hd.1 hd.2 i0 i1 hu hd2.1
            have k := K ⟨hd, hd2⟩ (by omega)
            rw [if_neg (by omega)] at k
            refine r_astore C dX4_on_40 (Nat.le_of_ble_eq_true rfl) ?_
            dsimp only [List.set]
            refine r_aload C dX4_on_42 rfl ?_
            refine r_ifnonnull C dX4_on_44 (t := 49) (by decide) (fun a44 c44 => ?_) (fun c44 => ?_)
            · skip
              refine r_iload_n C dX4_on_49 (i := 3) rfl rfl ?_
              refine r_if_ne C dX4_on_50 (t := 59) (by decide) (by first | assumption | exact R.rg _ _ | exact R.ru _ _ | (unfold inR; omega)) (fun c50 => ?_) (fun c50 => ?_)
              · skip
                rw [if_neg c50] at k
                refine r_iload_n C dX4_on_59 (i := 3) rfl rfl ?_
                refine r_iconst C dX4_on_60 ?_
                refine r_ic_ne C dX4_on_61 (t := 72) (by decide) (by first | assumption | exact R.rg _ _ | exact R.ru _ _ | (unfold inR; omega)) (by first | assumption | exact R.rg _ _ | exact R.ru _ _ | (unfold inR; omega)) (fun c61 => ?_) (fun c61 => ?_)
                · skip
                  rw [if_neg c61] at k
                  refine r_aload C dX4_on_72 rfl ?_
                  refine c_1_3 C dX4_on_74 fX4_214 R (by omega) (by omega) (by omega) (by omega) hu (by omega) ?_
                  refine r_iret C dX4_on_77 (Or.inl rfl) ?_
                  exact k
                · skip
                  rw [if_pos c61] at k
                  refine r_aload C dX4_on_64 rfl ?_
                  refine c_1_2 C dX4_on_66 fX4_211 R (by omega) (by omega) (by omega) (by omega) hu (by omega) ?_
                  refine r_goto C dX4_on_69 (t := 77) (by decide) ?_
                  refine r_iret C dX4_on_77 (Or.inl rfl) ?_
                  exact k
              · skip
                rw [if_pos c50] at k
                refine r_aload C dX4_on_53 rfl ?_
                refine c_1_1 C dX4_on_55 fX4_210 R (by omega) (by omega) (by omega) (by omega) hu (by omega) ?_
                refine r_iret C dX4_on_58 (Or.inl rfl) ?_
                exact k
            · skip
              cases c44
          · skip
            have hz0 := Ci.no W.n hd.1 hd.2 hd2.1 hd2.2 no
            have k := K ⟨hd, hd2⟩ (by omega)
            rw [if_pos hz0] at k
            refine r_astore C dX4_on_40 (Nat.le_of_ble_eq_true rfl) ?_
            dsimp only [List.set]
            refine r_aload C dX4_on_42 rfl ?_
            refine r_ifnonnull C dX4_on_44 (t := 49) (by decide) (fun a44 c44 => ?_) (fun c44 => ?_)
            · skip
              cases c44
            · skip
              refine r_iconst C dX4_on_47 ?_
              refine r_iret C dX4_on_48 (Or.inl rfl) ?_
              exact k
        · skip
          refine r_thr C tX4_on_23 rfl (by omega) (Nat.le_of_ble_eq_true rfl) (by omega) (by omega) ?_
          exact kx2 ⟨hd, hd2⟩ (by omega)
    · skip
      exact kx1 (fun z => hd2 z.2)
  · skip
    exact kx1 (fun z => hd z.1)

set_option maxRecDepth 100000 in
set_option maxHeartbeats 4000000 in
theorem C_X4_cellOn {gx : GX} {d : Nat} {Qr : Option AV → Hp → Prop} {Qx : String → Hp → Prop} {x : Nat} {A : Nat → Int → Nat} {u g : GT} {h : Hp} {n p c : Int} (Z : Rs gx x A u g h) (hn : inR n) (hp : inR p) (hc : inR c) (K : ndP g n ∧ pcP g p ∧ inP c 0 3 → Qr (some (vi (if g 18 (60 * n + p) = 0 ∨ g 19 (60 * n + p) ≤ c then -1 else g 20 (4 * (60 * n + p) + c)))) h) (kx : ¬ (ndP g n ∧ pcP g p ∧ inP c 0 3) → Qx "java/lang/IndexOutOfBoundsException" h) : aM gx (d + 7) mX4_cellOn [vr x, vi n, vi p, vi c] h 3 18 Qr Qx := by
  intro J C
  show J 0 [some (vr x), some (vi n), some (vi p), some (vi c), none, none, none] [] h 3 18
  have R := Z.1.1; have W := Z.1.2.1; have Ci := Z.1.2.2; have F := Z.2.1; have I := W.i; have B := W.b; have b1 := B.nn; have b2 := B.np; have b3 := B.nf; have Zd := Z.1.z
  refine r_aload_n C dX4_cellOn_0 (i := 0) rfl rfl ?_
  refine r_iload_n C dX4_cellOn_1 (i := 1) rfl rfl ?_
  refine c_VX1 C dX4_cellOn_2 sX4_65 rfl R  rfl (Nat.le_of_ble_eq_true rfl) 1 6 (by omega) (by omega) (C_X4_nodeNumbered R B hn (fun hd => ?_) (fun hd => ?_))
  · skip
    refine r_astore C dX4_cellOn_5 (Nat.le_of_ble_eq_true rfl) ?_
    dsimp only [List.set]
    refine r_aload_n C dX4_cellOn_7 (i := 0) rfl rfl ?_
    refine r_iload_n C dX4_cellOn_8 (i := 2) rfl rfl ?_
    refine c_VX1 C dX4_cellOn_9 sX4_75 rfl R  rfl (Nat.le_of_ble_eq_true rfl) 1 6 (by omega) (by omega) (C_X4_pieceNumbered R B rfl hp (fun hd2 => ?_) (fun hd2 => ?_))
    · skip
      refine r_astore C dX4_cellOn_12 (Nat.le_of_ble_eq_true rfl) ?_
      dsimp only [List.set]
      refine r_iload_n C dX4_cellOn_14 (i := 3) rfl rfl ?_
      refine c_S1 C dX4_cellOn_15 sX4_79 rfl (Nat.le_of_ble_eq_true rfl) 1 6 (by omega) (by omega) (C_X4_requireCell hc (fun hd3 => ?_) (fun hd3 => ?_))
      · skip
        have k := K ⟨hd, hd2, by omega⟩
        refine r_aload C dX4_cellOn_18 rfl ?_
        refine r_aload C dX4_cellOn_20 rfl ?_
        refine c_VN1 C dX4_cellOn_22 sX4_82 rfl R (by omega) (by omega) rfl (Nat.le_of_ble_eq_true rfl) 0 0 (Nat.zero_le _) (Nat.zero_le _) (C_X2_copyOfP R hd.1 hd.2 hd2.1 hd2.2 (fun i i0 i1 hu => ?_) (fun no => ?_))
        · skip
          have hoc := Ci.occ hd.1 hd.2 i0 i1 hu hd2.1
          refine r_astore C dX4_cellOn_25 (Nat.le_of_ble_eq_true rfl) ?_
          dsimp only [List.set]
          refine r_aload C dX4_cellOn_27 rfl ?_
          refine r_ifnonnull C dX4_cellOn_29 (t := 36) (by decide) (fun a29 c29 => ?_) (fun c29 => ?_)
          · skip
            refine r_aload C dX4_cellOn_36 rfl ?_
            refine r_iload_n C dX4_cellOn_38 (i := 3) rfl rfl ?_
            refine c_VS1 C dX4_cellOn_39 sX4_172 rfl R (by omega) (by omega) (by omega) (by omega) rfl (Nat.le_of_ble_eq_true rfl) 0 0 (Nat.zero_le _) (Nat.zero_le _) (C_X0_numberIn R hd.1 hd.2 i0 i1 hu hd2.1 hc ?_)
            refine r_iret C dX4_cellOn_42 (Or.inl rfl) ?_
            first
              | exact k
              | (by_cases q : c < g 19 (60 * n + p)
                 · rw [if_neg (by omega)] at k
                   rw [if_pos ⟨hd3.1, hd3.2, q⟩]
                   exact k
                 · rw [if_pos (Or.inr (by omega))] at k
                   rw [if_neg (fun z => q z.2.2)]
                   exact k)
          · skip
            cases c29
        · skip
          have hz0 := Ci.no W.n hd.1 hd.2 hd2.1 hd2.2 no
          rw [if_pos (Or.inl hz0)] at k
          refine r_astore C dX4_cellOn_25 (Nat.le_of_ble_eq_true rfl) ?_
          dsimp only [List.set]
          refine r_aload C dX4_cellOn_27 rfl ?_
          refine r_ifnonnull C dX4_cellOn_29 (t := 36) (by decide) (fun a29 c29 => ?_) (fun c29 => ?_)
          · skip
            cases c29
          · skip
            refine r_iconst C dX4_cellOn_32 ?_
            refine r_goto C dX4_cellOn_33 (t := 42) (by decide) ?_
            refine r_iret C dX4_cellOn_42 (Or.inl rfl) ?_
            first
              | exact k
              | (by_cases q : c < g 19 (60 * n + p)
                 · rw [if_neg (by omega)] at k
                   rw [if_pos ⟨hd3.1, hd3.2, q⟩]
                   exact k
                 · rw [if_pos (Or.inr (by omega))] at k
                   rw [if_neg (fun z => q z.2.2)]
                   exact k)
      · skip
        exact kx (fun z => hd3 (by have := z.2.2; omega))
    · skip
      exact kx (fun z => hd2 z.2.1)
  · skip
    exact kx (fun z => hd z.1)

set_option maxRecDepth 100000 in
set_option maxHeartbeats 4000000 in
theorem C_X4_copyAt {gx : GX} {d : Nat} {Qr : Option AV → Hp → Prop} {Qx : String → Hp → Prop} {x : Nat} {A : Nat → Int → Nat} {u g : GT} {h : Hp} {p w : Int} (Z : Rs gx x A u g h) (hp : inR p) (hw : inR w) (K : pcP g p ∧ inP w 0 (g 16 p - 1) → Qr (some (vi (g 17 (8 * p + w)))) h) (kx : ¬ (pcP g p ∧ inP w 0 (g 16 p - 1)) → Qx "java/lang/IndexOutOfBoundsException" h) : aM gx (d + 7) mX4_copyAt [vr x, vi p, vi w] h 2 12 Qr Qx := by
  intro J C
  show J 0 [some (vr x), some (vi p), some (vi w), none] [] h 2 12
  have R := Z.1.1; have W := Z.1.2.1; have Ci := Z.1.2.2; have F := Z.2.1; have I := W.i; have B := W.b; have b1 := B.nn; have b2 := B.np; have b3 := B.nf; have Zd := Z.1.z
  refine r_aload_n C dX4_copyAt_0 (i := 0) rfl rfl ?_
  refine r_iload_n C dX4_copyAt_1 (i := 1) rfl rfl ?_
  refine c_VX1 C dX4_copyAt_2 sX4_75 rfl R  rfl (Nat.le_of_ble_eq_true rfl) 1 6 (by omega) (by omega) (C_X4_pieceNumbered R B rfl hp (fun hd => ?_) (fun hd => ?_))
  · skip
    have bcp := B.cp p hd.1 hd.2
    refine r_astore_n C dX4_copyAt_5 (i := 3) rfl (Nat.le_of_ble_eq_true rfl) ?_
    dsimp only [List.set]
    refine r_iload_n C dX4_copyAt_6 (i := 2) rfl rfl ?_
    refine r_if_lt C dX4_copyAt_7 (t := 21) (by decide) (by first | assumption | exact R.rg _ _ | exact R.ru _ _ | (unfold inR; omega)) (fun c7 => ?_) (fun c7 => ?_)
    · skip
      refine r_thr C tX4_copyAt_21 rfl (by omega) (Nat.le_of_ble_eq_true rfl) (by omega) (by omega) ?_
      exact kx (fun z => by have := z.2; omega)
    · skip
      refine r_iload_n C dX4_copyAt_10 (i := 2) rfl rfl ?_
      refine r_aload_n C dX4_copyAt_11 (i := 3) rfl rfl ?_
      refine c_4_6 C dX4_copyAt_12 fX4_184 R (by omega) (by omega) ?_
      refine c_szH C dX4_copyAt_15 sX4_44 R (by omega) (by omega) (Nat.le_of_ble_eq_true rfl) ?_
      refine r_ic_lt C dX4_copyAt_18 (t := 31) (by decide) (by first | assumption | exact R.rg _ _ | exact R.ru _ _ | (unfold inR; omega)) (by first | assumption | exact R.rg _ _ | exact R.ru _ _ | (unfold inR; omega)) (fun c18 => ?_) (fun c18 => ?_)
      · skip
        refine r_aload_n C dX4_copyAt_31 (i := 3) rfl rfl ?_
        refine c_4_6 C dX4_copyAt_32 fX4_184 R (by omega) (by omega) ?_
        refine r_iload_n C dX4_copyAt_35 (i := 2) rfl rfl ?_
        refine c_gtH C dX4_copyAt_36 sX4_127 R (by omega) (by omega) (by omega) (by omega) (Nat.le_of_ble_eq_true rfl) ?_
        have bcy := B.cy p w hd.1 hd.2 (by omega) (by omega)
        refine c_castN C dX4_copyAt_39 kX4_53 R (by omega) (by omega) ?_
        refine c_3_0 C dX4_copyAt_42 fX4_62 R (by omega) (by omega) ?_
        refine r_iret C dX4_copyAt_45 (Or.inl rfl) ?_
        exact K ⟨hd, by omega⟩
      · skip
        refine r_thr C tX4_copyAt_21 rfl (by omega) (Nat.le_of_ble_eq_true rfl) (by omega) (by omega) ?_
        exact kx (fun z => by have := z.2; omega)
  · skip
    exact kx (fun z => hd z.1)

