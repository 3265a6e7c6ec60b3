/-! ===== the class: pieces told, the walk, reading ===== -/
theorem pv_3 (g : GT) (p : Int) : pvG g p 3 = if leaseP g p then g 13 p else -1 := by
  unfold pvG
  rw [if_neg (by decide), if_neg (by decide), if_neg (by decide), if_pos rfl]
theorem pv_4 (g : GT) (p : Int) : pvG g p 4 = if leaseP g p then g 14 p else -1 := by
  unfold pvG
  rw [if_neg (by decide), if_neg (by decide), if_neg (by decide), if_neg (by decide), if_pos rfl]

set_option maxRecDepth 100000 in
set_option maxHeartbeats 4000000 in
theorem C_X4_piece {gx : GX} {d : Nat} {Qr : Option AV → Hp → Prop} {Qx : String → Hp → Prop} {x : Nat} {A : Nat → Int → Nat} {u g : GT} {h : Hp} {p w : Int} (Z : Rs gx x A u g h) (hp : inR p) (hw : inR w) (K : pcP g p → inP w 0 5 → Qr (some (vi (pvG g p w))) h) (kx1 : ¬ pcP g p → Qx "java/lang/IndexOutOfBoundsException" h) (kx2 : pcP g p → ¬ inP w 0 5 → Qx "java/lang/IllegalArgumentException" h) : aM gx (d + 7) mX4_piece [vr x, vi p, vi w] h 2 12 Qr Qx := by
  intro J C
  show J 0 [some (vr x), some (vi p), some (vi w), none] [] h 2 12
  have R := Z.1.1; have W := Z.1.2.1; have Ci := Z.1.2.2; have F := Z.2.1; have I := W.i; have B := W.b; have b1 := B.nn; have b2 := B.np; have b3 := B.nf; have Zd := Z.1.z
  refine r_aload_n C dX4_piece_0 (i := 0) rfl rfl ?_
  refine r_iload_n C dX4_piece_1 (i := 1) rfl rfl ?_
  refine c_VX1 C dX4_piece_2 sX4_75 rfl R  rfl (Nat.le_of_ble_eq_true rfl) 1 6 (by omega) (by omega) (C_X4_pieceNumbered R B rfl hp (fun hd => ?_) (fun hd => ?_))
  · skip
    refine r_astore_n C dX4_piece_5 (i := 3) rfl (Nat.le_of_ble_eq_true rfl) ?_
    dsimp only [List.set]
    refine r_iload_n C dX4_piece_6 (i := 2) rfl rfl ?_
    rcases (show w = 0 ∨ w = 1 ∨ w = 2 ∨ w = 3 ∨ w = 4 ∨ w = 5 ∨ (w < 0 ∨ 5 < w) by omega) with e9 | e9 | e9 | e9 | e9 | e9 | e9
    · subst e9
      have k := K hd (by omega)
      refine r_tsw C dX4_piece_7 (off := 37) (t := 44) hw (by decide) (by decide) rfl (by decide) ?_
      refine r_aload_n C dX4_piece_44 (i := 3) rfl rfl ?_
      refine c_4_1 C dX4_piece_45 fX4_181 R (by omega) (by omega) ?_
      refine r_iret C dX4_piece_48 (Or.inl rfl) ?_
      exact k
    · subst e9
      have k := K hd (by omega)
      refine r_tsw C dX4_piece_7 (off := 42) (t := 49) hw (by decide) (by decide) rfl (by decide) ?_
      refine r_aload_n C dX4_piece_49 (i := 3) rfl rfl ?_
      refine c_4_6 C dX4_piece_50 fX4_184 R (by omega) (by omega) ?_
      refine c_szH C dX4_piece_53 sX4_44 R (by omega) (by omega) (Nat.le_of_ble_eq_true rfl) ?_
      refine r_iret C dX4_piece_56 (Or.inl rfl) ?_
      exact k
    · subst e9
      have k := K hd (by omega)
      refine r_tsw C dX4_piece_7 (off := 50) (t := 57) hw (by decide) (by decide) rfl (by decide) ?_
      refine r_aload_n C dX4_piece_57 (i := 3) rfl rfl ?_
      refine c_S1 C dX4_piece_58 sX4_187 rfl (Nat.le_of_ble_eq_true rfl) 0 0 (Nat.zero_le _) (Nat.zero_le _) (C_X4_countGood Zd hd.1 hd.2 ?_)
      refine r_iret C dX4_piece_61 (Or.inl rfl) ?_
      exact k
    · subst e9
      have k := K hd (by omega)
      refine r_tsw C dX4_piece_7 (off := 55) (t := 62) hw (by decide) (by decide) rfl (by decide) ?_
      refine r_aload_n C dX4_piece_62 (i := 3) rfl rfl ?_
      refine c_4_3 C dX4_piece_63 fX4_190 R (by omega) (by omega) ?_
      refine r_ifnull C dX4_piece_66 (t := 87) (by decide) (fun c66 => ?_) (fun a66 c66 => ?_)
      · skip
        have hl : g 13 p = -1 := by
          by_cases e : g 13 p = -1
          · exact e
          · rw [if_neg e] at c66; cases c66
        refine r_iconst C dX4_piece_87 ?_
        refine r_iret C dX4_piece_88 (Or.inl rfl) ?_
        rw [pv_3] at k
        first
          | (rw [if_pos (by assumption)] at k; exact k)
          | (rw [if_neg (by assumption)] at k; exact k)
          | (rw [if_neg (fun z => z.1 (by assumption))] at k; exact k)
      · skip
        have hl : g 13 p ≠ -1 := fun e => by rw [if_pos e] at c66; cases c66
        have php := W.p.b B hd.1 hd.2 hl
        refine r_aload_n C dX4_piece_69 (i := 0) rfl rfl ?_
        refine r_aload_n C dX4_piece_70 (i := 3) rfl rfl ?_
        refine c_VX1 C dX4_piece_71 sX4_194 rfl R  rfl (Nat.le_of_ble_eq_true rfl) 0 0 (Nat.zero_le _) (Nat.zero_le _) (C_X4_isLeased Zd hd.1 hd.2 (fun z hz hb => ?_))
        have hb01 := hb.b
        refine r_if_eq C dX4_piece_74 (t := 87) (by decide) (by first | assumption | exact R.rg _ _ | exact R.ru _ _ | (unfold inR; omega)) (fun c74 => ?_) (fun c74 => ?_)
        · skip
          have hle := hb.f c74
          refine r_iconst C dX4_piece_87 ?_
          refine r_iret C dX4_piece_88 (Or.inl rfl) ?_
          rw [pv_3] at k
          first
            | (rw [if_pos (by assumption)] at k; exact k)
            | (rw [if_neg (by assumption)] at k; exact k)
            | (rw [if_neg (fun z => z.1 (by assumption))] at k; exact k)
        · skip
          have hle := hb.t c74
          refine r_aload_n C dX4_piece_77 (i := 3) rfl rfl ?_
          refine c_4_3 C dX4_piece_78 fX4_190 R (by omega) (by omega) ?_
          rw [if_neg hl]
          refine c_3_0 C dX4_piece_81 fX4_62 R (by omega) (by omega) ?_
          refine r_goto C dX4_piece_84 (t := 88) (by decide) ?_
          refine r_iret C dX4_piece_88 (Or.inl rfl) ?_
          rw [pv_3] at k
          first
            | (rw [if_pos (by assumption)] at k; exact k)
            | (rw [if_neg (by assumption)] at k; exact k)
            | (rw [if_neg (fun z => z.1 (by assumption))] at k; exact k)
    · subst e9
      have k := K hd (by omega)
      refine r_tsw C dX4_piece_7 (off := 82) (t := 89) hw (by decide) (by decide) rfl (by decide) ?_
      refine r_aload_n C dX4_piece_89 (i := 0) rfl rfl ?_
      refine r_aload_n C dX4_piece_90 (i := 3) rfl rfl ?_
      refine c_VX1 C dX4_piece_91 sX4_194 rfl R  rfl (Nat.le_of_ble_eq_true rfl) 0 0 (Nat.zero_le _) (Nat.zero_le _) (C_X4_isLeased Zd hd.1 hd.2 (fun z hz hb => ?_))
      have hb01 := hb.b
      refine r_if_eq C dX4_piece_94 (t := 104) (by decide) (by first | assumption | exact R.rg _ _ | exact R.ru _ _ | (unfold inR; omega)) (fun c94 => ?_) (fun c94 => ?_)
      · skip
        have hle := hb.f c94
        refine r_iconst C dX4_piece_104 ?_
        refine r_iret C dX4_piece_105 (Or.inl rfl) ?_
        rw [pv_4] at k
        first
          | (rw [if_pos (by assumption)] at k; exact k)
          | (rw [if_neg (by assumption)] at k; exact k)
      · skip
        have hle := hb.t c94
        refine r_aload_n C dX4_piece_97 (i := 3) rfl rfl ?_
        refine c_4_4 C dX4_piece_98 fX4_198 R (by omega) (by omega) ?_
        refine r_goto C dX4_piece_101 (t := 105) (by decide) ?_
        refine r_iret C dX4_piece_105 (Or.inl rfl) ?_
        rw [pv_4] at k
        first
          | (rw [if_pos (by assumption)] at k; exact k)
          | (rw [if_neg (by assumption)] at k; exact k)
    · subst e9
      have k := K hd (by omega)
      refine r_tsw C dX4_piece_7 (off := 99) (t := 106) hw (by decide) (by decide) rfl (by decide) ?_
      refine r_aload_n C dX4_piece_106 (i := 3) rfl rfl ?_
      refine c_4_2 C dX4_piece_107 fX4_133 R (by omega) (by omega) ?_
      refine r_iret C dX4_piece_110 (Or.inl rfl) ?_
      rw [F.1 p hd.1 hd.2]
      exact k
    · skip
      refine r_tswD C dX4_piece_7 (t := 111) hw e9 (by decide) ?_
      refine r_thr C tX4_piece_111 rfl (by omega) (Nat.le_of_ble_eq_true rfl) (by omega) (by omega) ?_
      exact kx2 hd (by omega)
  · skip
    exact kx1 hd

set_option maxRecDepth 100000 in
set_option maxHeartbeats 4000000 in
theorem C_X4_isFoundByWalk {gx : GX} {d : Nat} {Qr : Option AV → Hp → Prop} {Qx : String → Hp → Prop} {x : Nat} {A : Nat → Int → Nat} {u : GT} {m : Int} {g : GT} {h : Hp} {p w : Int} (Z : Rd gx x A u m g h) (p0 : 0 ≤ p) (p1 : p < g 11 0) (hw : 0 ≤ w ∧ w ≤ 3) (K : ∀ z, inR z → BV z ((w = 0 ∧ gmG g p = 0) ∨ (w = 1 ∧ g 16 p < 3) ∨ (w = 2 ∧ 3 < g 16 p) ∨ (w = 3 ∧ 1 < g 16 p ∧ irG g p (g 5 (g 17 (8 * p))) = g 16 p)) → Qr (some (vi z)) h) : aM gx (d + 5) mX4_isFoundByWalk [vr (A 4 p), vi w] h 0 0 Qr Qx := by
  intro J C
  show J 0 [some (vr (A 4 p)), some (vi w), none] [] h 0 0
  have R := Z.1; have I := Z.2.1; have B := I.1; have b1 := B.nn; have b2 := B.np; have bcp := B.cp p p0 p1
  have hwr : inR w := ⟨by omega, by omega⟩
  have gmb := cnt_in (fun k => decide (goodP g p (g 17 (8 * p + k)))) bcp.1
  have gme : gmG g p = cnt (fun k => decide (goodP g p (g 17 (8 * p + k)))) (g 16 p) := rfl
  refine r_aload_n C dX4_isFoundByWalk_0 (i := 0) rfl rfl ?_
  refine c_4_6 C dX4_isFoundByWalk_1 fX4_184 R (by omega) (by omega) ?_
  refine c_szH C dX4_isFoundByWalk_4 sX4_44 R (by omega) (by omega) (Nat.le_of_ble_eq_true rfl) ?_
  refine r_istore_n C dX4_isFoundByWalk_7 (i := 2) rfl (Nat.le_of_ble_eq_true rfl) ?_
  dsimp only [List.set]
  refine r_iload_n C dX4_isFoundByWalk_8 (i := 1) rfl rfl ?_
  rcases (show w = 0 ∨ w = 1 ∨ w = 2 ∨ (w < 0 ∨ 2 < w) by omega) with e9 | e9 | e9 | e9
  · subst e9
    refine r_tsw C dX4_isFoundByWalk_9 (off := 27) (t := 36) hwr (by decide) (by decide) rfl (by decide) ?_
    refine r_aload_n C dX4_isFoundByWalk_36 (i := 0) rfl rfl ?_
    refine c_S1 C dX4_isFoundByWalk_37 sX4_187 rfl (Nat.le_of_ble_eq_true rfl) 0 0 (Nat.zero_le _) (Nat.zero_le _) (C_X4_countGood Z p0 p1 ?_)
    refine r_if_ne C dX4_isFoundByWalk_40 (t := 47) (by decide) (by first | assumption | exact R.rg _ _ | exact R.ru _ _ | (unfold inR; omega)) (fun c40 => ?_) (fun c40 => ?_)
    · skip
      refine r_iconst C dX4_isFoundByWalk_47 ?_
      refine r_iret C dX4_isFoundByWalk_48 (Or.inr ⟨rfl, (by first | assumption | omega | decide)⟩) ?_
      first | exact K _ inR1 (.y (by omega)) | exact K _ inR0 (.n (by omega))
    · skip
      refine r_iconst C dX4_isFoundByWalk_43 ?_
      refine r_goto C dX4_isFoundByWalk_44 (t := 48) (by decide) ?_
      refine r_iret C dX4_isFoundByWalk_48 (Or.inr ⟨rfl, (by first | assumption | omega | decide)⟩) ?_
      first | exact K _ inR1 (.y (by omega)) | exact K _ inR0 (.n (by omega))
  · subst e9
    refine r_tsw C dX4_isFoundByWalk_9 (off := 40) (t := 49) hwr (by decide) (by decide) rfl (by decide) ?_
    refine r_iload_n C dX4_isFoundByWalk_49 (i := 2) rfl rfl ?_
    refine r_iconst C dX4_isFoundByWalk_50 ?_
    refine r_ic_ge C dX4_isFoundByWalk_51 (t := 58) (by decide) (by first | assumption | exact R.rg _ _ | exact R.ru _ _ | (unfold inR; omega)) (by first | assumption | exact R.rg _ _ | exact R.ru _ _ | (unfold inR; omega)) (fun c51 => ?_) (fun c51 => ?_)
    · skip
      refine r_iconst C dX4_isFoundByWalk_58 ?_
      refine r_iret C dX4_isFoundByWalk_59 (Or.inr ⟨rfl, (by first | assumption | omega | decide)⟩) ?_
      first | exact K _ inR1 (.y (by omega)) | exact K _ inR0 (.n (by omega))
    · skip
      refine r_iconst C dX4_isFoundByWalk_54 ?_
      refine r_goto C dX4_isFoundByWalk_55 (t := 59) (by decide) ?_
      refine r_iret C dX4_isFoundByWalk_59 (Or.inr ⟨rfl, (by first | assumption | omega | decide)⟩) ?_
      first | exact K _ inR1 (.y (by omega)) | exact K _ inR0 (.n (by omega))
  · subst e9
    refine r_tsw C dX4_isFoundByWalk_9 (off := 51) (t := 60) hwr (by decide) (by decide) rfl (by decide) ?_
    refine r_iload_n C dX4_isFoundByWalk_60 (i := 2) rfl rfl ?_
    refine r_iconst C dX4_isFoundByWalk_61 ?_
    refine r_ic_le C dX4_isFoundByWalk_62 (t := 69) (by decide) (by first | assumption | exact R.rg _ _ | exact R.ru _ _ | (unfold inR; omega)) (by first | assumption | exact R.rg _ _ | exact R.ru _ _ | (unfold inR; omega)) (fun c62 => ?_) (fun c62 => ?_)
    · skip
      refine r_iconst C dX4_isFoundByWalk_69 ?_
      refine r_iret C dX4_isFoundByWalk_70 (Or.inr ⟨rfl, (by first | assumption | omega | decide)⟩) ?_
      first | exact K _ inR1 (.y (by omega)) | exact K _ inR0 (.n (by omega))
    · skip
      refine r_iconst C dX4_isFoundByWalk_65 ?_
      refine r_goto C dX4_isFoundByWalk_66 (t := 70) (by decide) ?_
      refine r_iret C dX4_isFoundByWalk_70 (Or.inr ⟨rfl, (by first | assumption | omega | decide)⟩) ?_
      first | exact K _ inR1 (.y (by omega)) | exact K _ inR0 (.n (by omega))
  · skip
    have e3 : w = 3 := by omega
    subst e3
    refine r_tswD C dX4_isFoundByWalk_9 (t := 71) hwr e9 (by decide) ?_
    refine r_iload_n C dX4_isFoundByWalk_71 (i := 2) rfl rfl ?_
    refine r_iconst C dX4_isFoundByWalk_72 ?_
    refine r_ic_lt C dX4_isFoundByWalk_73 (t := 102) (by decide) (by first | assumption | exact R.rg _ _ | exact R.ru _ _ | (unfold inR; omega)) (by first | assumption | exact R.rg _ _ | exact R.ru _ _ | (unfold inR; omega)) (fun c73 => ?_) (fun c73 => ?_)
    · skip
      refine r_iconst C dX4_isFoundByWalk_102 ?_
      refine r_iret C dX4_isFoundByWalk_103 (Or.inr ⟨rfl, (by first | assumption | omega | decide)⟩) ?_
      first | exact K _ inR1 (.y (by omega)) | exact K _ inR0 (.n (by omega))
    · skip
      refine r_aload_n C dX4_isFoundByWalk_76 (i := 0) rfl rfl ?_
      refine r_aload_n C dX4_isFoundByWalk_77 (i := 0) rfl rfl ?_
      refine c_4_6 C dX4_isFoundByWalk_78 fX4_184 R (by omega) (by omega) ?_
      refine r_iconst C dX4_isFoundByWalk_81 ?_
      refine c_gtH C dX4_isFoundByWalk_82 sX4_127 R (by omega) (by omega) (by omega) (by omega) (Nat.le_of_ble_eq_true rfl) ?_
      have bcy := B.cy p 0 p0 p1 (by omega) (by omega)
      rw [show 8 * p + 0 = 8 * p by omega] at bcy ⊢
      have irb := ir_b B p0 p1 (g 5 (g 17 (8 * p)))
      refine c_castN C dX4_isFoundByWalk_85 kX4_53 R (by omega) (by omega) ?_
      refine c_3_1 C dX4_isFoundByWalk_88 fX4_233 R (by omega) (by omega) ?_
      refine c_VQ1 C dX4_isFoundByWalk_91 sX4_236 rfl R (by omega) (by omega) rfl (Nat.le_of_ble_eq_true rfl) 0 0 (Nat.zero_le _) (Nat.zero_le _) (C_X3_copiesInRack Z p0 p1 (R.rg _ _) ?_)
      refine r_iload_n C dX4_isFoundByWalk_94 (i := 2) rfl rfl ?_
      refine r_ic_ne C dX4_isFoundByWalk_95 (t := 102) (by decide) (by first | assumption | exact R.rg _ _ | exact R.ru _ _ | (unfold inR; omega)) (by first | assumption | exact R.rg _ _ | exact R.ru _ _ | (unfold inR; omega)) (fun c95 => ?_) (fun c95 => ?_)
      · skip
        refine r_iconst C dX4_isFoundByWalk_102 ?_
        refine r_iret C dX4_isFoundByWalk_103 (Or.inr ⟨rfl, (by first | assumption | omega | decide)⟩) ?_
        first | exact K _ inR1 (.y (by omega)) | exact K _ inR0 (.n (by omega))
      · skip
        refine r_iconst C dX4_isFoundByWalk_98 ?_
        refine r_goto C dX4_isFoundByWalk_99 (t := 103) (by decide) ?_
        refine r_iret C dX4_isFoundByWalk_103 (Or.inr ⟨rfl, (by first | assumption | omega | decide)⟩) ?_
        first | exact K _ inR1 (.y (by omega)) | exact K _ inR0 (.n (by omega))

set_option maxRecDepth 100000 in
set_option maxHeartbeats 4000000 in
theorem C_X4_walk {gx : GX} {d : Nat} {Qr : Option AV → Hp → Prop} {Qx : String → Hp → Prop} {x : Nat} {A : Nat → Int → Nat} {u g : GT} {h : Hp} {w : Int} (Z : Rs gx x A u g h) (hw : inR w) (K : inP w 0 3 → Qr (some (vi (wkG g w))) h) (kx : ¬ inP w 0 3 → Qx "java/lang/IllegalArgumentException" h) : aM gx (d + 6) mX4_walk [vr x, vi w] h 1 6 Qr Qx := by
  intro J C
  show J 0 [some (vr x), some (vi w), none, none, none] [] h 1 6
  have R := Z.1.1; have W := Z.1.2.1; have Ci := Z.1.2.2; have F := Z.2.1; have I := W.i; have B := W.b; have b1 := B.nn; have b2 := B.np; have b3 := B.nf; have Zd := Z.1.z
  refine r_iload_n C dX4_walk_0 (i := 1) rfl rfl ?_
  refine r_if_lt C dX4_walk_1 (t := 9) (by decide) (by first | assumption | exact R.rg _ _ | exact R.ru _ _ | (unfold inR; omega)) (fun c1 => ?_) (fun c1 => ?_)
  · skip
    refine r_thr C tX4_walk_9 rfl (by omega) (Nat.le_of_ble_eq_true rfl) (by omega) (by omega) ?_
    exact kx (by omega)
  · skip
    refine r_iload_n C dX4_walk_4 (i := 1) rfl rfl ?_
    refine r_iconst C dX4_walk_5 ?_
    refine r_ic_le C dX4_walk_6 (t := 19) (by decide) (by first | assumption | exact R.rg _ _ | exact R.ru _ _ | (unfold inR; omega)) (by first | assumption | exact R.rg _ _ | exact R.ru _ _ | (unfold inR; omega)) (fun c6 => ?_) (fun c6 => ?_)
    · skip
      refine r_iconst C dX4_walk_19 ?_
      refine r_istore_n C dX4_walk_20 (i := 2) rfl (Nat.le_of_ble_eq_true rfl) ?_
      dsimp only [List.set]
      refine r_iconst C dX4_walk_21 ?_
      refine r_istore_n C dX4_walk_22 (i := 3) rfl (Nat.le_of_ble_eq_true rfl) ?_
      dsimp only [List.set]
      suffices LOOP : ∀ (m9 : Nat) (y i : Int) (q : Option AV), g 11 0 - i < (m9 : Int) → 0 ≤ i → i ≤ g 11 0 → 0 ≤ y → y ≤ i → y = cnt (wkC g w) i → J 23 [some (vr x), some (vi w), some (vi y), some (vi i), q] [] h 1 6 by
        exact LOOP ((g 11 0).toNat + 1) 0 0 _ (by omega) (by omega) (by omega) (by omega) (by omega) rfl
      intro m9
      induction m9 with
      | zero => intro y i q hm9 i0 i1 y0 y1 hy; exact absurd hm9 (by omega)
      | succ m9 ih9 =>
        intro y i q hm9 i0 i1 y0 y1 hy
        refine r_iload_n C dX4_walk_23 (i := 3) rfl rfl ?_
        refine r_aload_n C dX4_walk_24 (i := 0) rfl rfl ?_
        refine c_5_1 C dX4_walk_25 fX4_16 R  ?_
        refine c_szA C dX4_walk_28 sX4_44 R  (Nat.le_of_ble_eq_true rfl) ?_
        refine r_ic_ge C dX4_walk_31 (t := 73) (by decide) (by first | assumption | exact R.rg _ _ | exact R.ru _ _ | (unfold inR; omega)) (by first | assumption | exact R.rg _ _ | exact R.ru _ _ | (unfold inR; omega)) (fun c31 => ?_) (fun c31 => ?_)
        · skip
          refine r_iload_n C dX4_walk_73 (i := 2) rfl rfl ?_
          refine r_iret C dX4_walk_74 (Or.inl rfl) ?_
          have k := K (by omega)
          rw [show wkG g w = y by rw [hy, show i = g 11 0 by omega]; rfl] at k
          exact k
        · skip
          refine r_aload_n C dX4_walk_34 (i := 0) rfl rfl ?_
          refine c_5_1 C dX4_walk_35 fX4_16 R  ?_
          refine r_iload_n C dX4_walk_38 (i := 3) rfl rfl ?_
          refine c_gtA C dX4_walk_39 sX4_127 R  (by omega) (by omega) (Nat.le_of_ble_eq_true rfl) ?_
          refine c_castQ C dX4_walk_42 kX4_131 R (by omega) (by omega) ?_
          refine r_astore C dX4_walk_45 (Nat.le_of_ble_eq_true rfl) ?_
          dsimp only [List.set]
          refine r_aload C dX4_walk_47 rfl ?_
          refine c_VQ0 C dX4_walk_49 sX4_225 rfl R (by omega) (by omega)  (Nat.le_of_ble_eq_true rfl) 0 0 (Nat.zero_le _) (Nat.zero_le _) (C_X3_isGone R i0 (by omega) (fun z hz hb => ?_))
          have hb01 := hb.b
          have fi := F.1 i i0 (by omega)
          refine r_if_ne C dX4_walk_52 (t := 67) (by decide) (by first | assumption | exact R.rg _ _ | exact R.ru _ _ | (unfold inR; omega)) (fun c52 => ?_) (fun c52 => ?_)
          · skip
            have hg := hb.t c52
            have hwc : (if wkC g w i = true then (1 : Int) else 0) = 0 := if_neg (fun z => (of_decide_eq_true z : wkA g w i).2 (by omega))
            refine r_iinc C dX4_walk_67 rfl ?_
            dsimp only [List.set]
            refine r_goto C dX4_walk_70 (t := 23) (by decide) ?_
            exact ih9 _ _ _ (by omega) (by omega) (by omega) (by omega) (by omega) (by rw [cnt_s _ i0, hwc]; omega)
          · skip
            have hg := hb.f c52
            refine r_aload C dX4_walk_55 rfl ?_
            refine r_iload_n C dX4_walk_57 (i := 1) rfl rfl ?_
            refine c_S2 C dX4_walk_58 sX4_229 rfl rfl (Nat.le_of_ble_eq_true rfl) 0 0 (Nat.zero_le _) (Nat.zero_le _) (C_X4_isFoundByWalk Zd i0 (by omega) (by omega) (fun z2 hz2 hb2 => ?_))
            have hb201 := hb2.b
            refine r_if_eq C dX4_walk_61 (t := 67) (by decide) (by first | assumption | exact R.rg _ _ | exact R.ru _ _ | (unfold inR; omega)) (fun c61 => ?_) (fun c61 => ?_)
            · skip
              have hwk := hb2.f c61
              have hwc : (if wkC g w i = true then (1 : Int) else 0) = 0 := if_neg (fun z => hwk (of_decide_eq_true z : wkA g w i).1)
              refine r_iinc C dX4_walk_67 rfl ?_
              dsimp only [List.set]
              refine r_goto C dX4_walk_70 (t := 23) (by decide) ?_
              exact ih9 _ _ _ (by omega) (by omega) (by omega) (by omega) (by omega) (by rw [cnt_s _ i0, hwc]; omega)
            · skip
              have hwk := hb2.t c61
              have hwc : (if wkC g w i = true then (1 : Int) else 0) = 1 := if_pos (decide_eq_true (show wkA g w i from ⟨hwk, by omega⟩))
              refine r_iinc C dX4_walk_64 rfl ?_
              dsimp only [List.set]
              refine r_iinc C dX4_walk_67 rfl ?_
              dsimp only [List.set]
              refine r_goto C dX4_walk_70 (t := 23) (by decide) ?_
              exact ih9 _ _ _ (by omega) (by omega) (by omega) (by omega) (by omega) (by rw [cnt_s _ i0, hwc]; omega)
    · skip
      refine r_thr C tX4_walk_9 rfl (by omega) (Nat.le_of_ble_eq_true rfl) (by omega) (by omega) ?_
      exact kx (by omega)

set_option maxRecDepth 100000 in
set_option maxHeartbeats 4000000 in
theorem C_X4_read {gx : GX} {d : Nat} {Qr : Option AV → Hp → Prop} {Qx : String → Hp → Prop} {x : Nat} {A : Nat → Int → Nat} {u g : GT} {h : Hp} {f w c r : Int} (Z : Rs gx x A u g h) (hf : inR f) (hw : inR w) (hc : inR c) (hr : inR r) (K : flP g f ∧ inP w 0 (rwG g f - 1) ∧ inP c 0 3 ∧ inP r 0 3 → g 23 f = 0 → ∀ u' h1, Rs gx x A u' (rfG g (g 26 (6 * f + w)) c r) h1 → Qr (some (vi (rvG (rfG g (g 26 (6 * f + w)) c r) (g 26 (6 * f + w)) c r))) h1) (kx1 : ¬ (flP g f ∧ inP w 0 (rwG g f - 1) ∧ inP c 0 3 ∧ inP r 0 3) → Qx "java/lang/IndexOutOfBoundsException" h) (kx2 : flP g f ∧ inP w 0 (rwG g f - 1) ∧ inP c 0 3 ∧ inP r 0 3 → ¬ g 23 f = 0 → Qx "java/lang/IllegalStateException" h) : aM gx (d + 7) mX4_read [vr x, vi f, vi w, vi c, vi r] h 5 30 Qr Qx := by
  intro J C
  show J 0 [some (vr x), some (vi f), some (vi w), some (vi c), some (vi r), none, none, none, none, none] [] h 5 30
  have R := Z.1.1; have W := Z.1.2.1; have Ci := Z.1.2.2; have F := Z.2.1; have I := W.i; have B := W.b; have b1 := B.nn; have b2 := B.np; have b3 := B.nf; have Zd := Z.1.z
  refine r_aload_n C dX4_read_0 (i := 0) rfl rfl ?_
  refine r_iload_n C dX4_read_1 (i := 1) rfl rfl ?_
  refine c_VX1 C dX4_read_2 sX4_116 rfl R  rfl (Nat.le_of_ble_eq_true rfl) 1 6 (by omega) (by omega) (C_X4_fileNumbered R B hf (fun hd => ?_) (fun hd => ?_))
  · skip
    have f5 := (F.2 f hd.1 hd.2).2
    have rwb : rwG g f ≤ g 25 f ∧ g 25 f ≤ 6 := by
      have := B.rw f hd.1 hd.2
      unfold rwG
      split <;> omega
    refine r_astore C dX4_read_5 (Nat.le_of_ble_eq_true rfl) ?_
    dsimp only [List.set]
    refine r_aload C dX4_read_7 rfl ?_
    refine r_iload_n C dX4_read_9 (i := 2) rfl rfl ?_
    refine c_S2 C dX4_read_10 sX4_158 rfl rfl (Nat.le_of_ble_eq_true rfl) 1 6 (by omega) (by omega) (C_X4_pieceInFile R hd.1 hd.2 hw (by omega) (fun k k0 k1 => B.re f k hd.1 hd.2 k0 (by omega)) (fun hd2 => ?_) (fun hd2 => ?_))
    · skip
      have hre := B.re f w hd.1 hd.2 hd2.1 (by omega)
      obtain ⟨p, ep⟩ : ∃ p, p = g 26 (6 * f + w) := ⟨_, rfl⟩
      rw [← ep] at hre K ⊢
      refine r_astore C dX4_read_13 (Nat.le_of_ble_eq_true rfl) ?_
      dsimp only [List.set]
      refine r_iload_n C dX4_read_15 (i := 3) rfl rfl ?_
      refine c_S1 C dX4_read_16 sX4_79 rfl (Nat.le_of_ble_eq_true rfl) 1 6 (by omega) (by omega) (C_X4_requireCell hc (fun hd3 => ?_) (fun hd3 => ?_))
      · skip
        refine r_iload C dX4_read_19 rfl ?_
        refine c_S1 C dX4_read_21 sX4_33 rfl (Nat.le_of_ble_eq_true rfl) 1 6 (by omega) (by omega) (C_X4_requireRack hr (fun hd4 => ?_) (fun hd4 => ?_))
        · skip
          have hall : flP g f ∧ inP w 0 (rwG g f - 1) ∧ inP c 0 3 ∧ inP r 0 3 := ⟨hd, by omega, by omega, by omega⟩
          refine r_aload C dX4_read_24 rfl ?_
          refine c_S1 C dX4_read_26 sX4_120 rfl (Nat.le_of_ble_eq_true rfl) 1 6 (by omega) (by omega) (C_X4_requireThere R hd.1 hd.2 (fun h4 => ?_) (fun h4 => ?_))
          · skip
            have f4 := (F.2 f hd.1 hd.2).1
            have h23 : g 23 f = 0 := by omega
            refine r_iconst C dX4_read_29 ?_
            refine r_istore C dX4_read_30 (Nat.le_of_ble_eq_true rfl) ?_
            dsimp only [List.set]
            suffices LOOP : ∀ (m9 : Nat) (i : Int) (u2 : GT) (h2 : Hp) (y z : Option AV), 9 - i < (m9 : Int) → 0 ≤ i → i ≤ 9 → Rs gx x A u2 (itrI (reF p c r) i g) h2 → itrI (reF p c r) i g 16 p ≤ 8 - i → (∀ k, k ≠ 13 ∧ k ≠ 14 ∧ k ≠ 16 ∧ k ≠ 17 ∧ k ≠ 18 ∧ k ≠ 19 ∧ k ≠ 21 → ∀ j, itrI (reF p c r) i g k j = g k j) → J 32 [some (vr x), some (vi f), some (vi w), some (vi c), some (vi r), some (vr (A 6 f)), some (vr (A 4 p)), some (vi i), y, z] [] h2 (5 - 1 - 1 - 1 - 1 - 1) (30 - 6 - 6 - 6 - 6 - 6) by
              exact LOOP 10 0 _ _ _ _ (by omega) (by omega) (by omega) Z (by have := B.cp p hre.1 hre.2; rw [itrI_0]; omega) (fun _ _ _ => rfl)
            intro m9
            induction m9 with
            | zero => intro i u2 h2 y z hm9 i0 i1 Z2 C2 T; exact absurd hm9 (by omega)
            | succ m9 ih9 =>
              intro i u2 h2 y z hm9 i0 i1 Z2 C2 T
              obtain ⟨s, hs⟩ : ∃ s, s = itrI (reF p c r) i g := ⟨_, rfl⟩
              rw [← hs] at T Z2 C2
              have R := Z2.1.1
              have W := Z2.1.2.1
              have Ci := Z2.1.2.2
              have B2 := W.b
              have s4 := T 4 (by decide) 0
              have s11 := T 11 (by decide) 0
              have s1 := T 1 (by decide) 0
              have bcp := B2.cp p hre.1 (by omega)
              refine r_iload C dX4_read_32 rfl ?_
              refine r_bipush C dX4_read_34 (by decide) ?_
              refine r_ic_gt C dX4_read_36 (t := 103) (by decide) (by first | assumption | exact R.rg _ _ | exact R.ru _ _ | (unfold inR; omega)) (by first | assumption | exact R.rg _ _ | exact R.ru _ _ | (unfold inR; omega)) (fun c36 => ?_) (fun c36 => ?_)
              · skip
                exfalso; omega
              · skip
                refine r_aload C dX4_read_39 rfl ?_
                refine r_iload C dX4_read_41 rfl ?_
                refine c_S2 C dX4_read_43 sX4_168 rfl rfl (Nat.le_of_ble_eq_true rfl) 0 0 (Nat.zero_le _) (Nat.zero_le _) (C_X4_nearestGoodHolder Z2.1.z hre.1 (by omega) hr ?_)
                obtain ⟨n, en⟩ : ∃ n, n = nrG s p r := ⟨_, rfl⟩
                rw [← en]
                refine r_astore C dX4_read_46 (Nat.le_of_ble_eq_true rfl) ?_
                dsimp only [List.set]
                refine r_aload C dX4_read_48 rfl ?_
                refine r_ifnonnull C dX4_read_50 (t := 57) (by decide) (fun a50 c50 => ?_) (fun c50 => ?_)
                · skip
                  obtain ⟨hn, ha⟩ := nq_s c50
                  rw [nq_1 hn]
                  have NRd : KN s p n ∧ goodP s p n := by
                    have q := (nr_kn s p r).resolve_left (fun z => hn (en.trans z))
                    rw [← en] at q
                    exact q
                  have nb := KN.r B2 hre.1 (show p < s 11 0 by omega) NRd.1
                  have nb2 : n < s 4 0 := nb.2
                  refine r_aload C dX4_read_57 rfl ?_
                  refine r_aload C dX4_read_59 rfl ?_
                  refine c_VN1 C dX4_read_61 sX4_82 rfl R (by omega) (by omega) rfl (Nat.le_of_ble_eq_true rfl) 0 0 (Nat.zero_le _) (Nat.zero_le _) (C_X2_copyOfP R nb.1 nb2 hre.1 (by omega) (fun j j0 j1 hu => ?_) (fun no => ?_))
                  · skip
                    refine r_astore C dX4_read_64 (Nat.le_of_ble_eq_true rfl) ?_
                    dsimp only [List.set]
                    refine r_aload C dX4_read_66 rfl ?_
                    refine r_ifnonnull C dX4_read_68 (t := 74) (by decide) (fun a68 c68 => ?_) (fun c68 => ?_)
                    · skip
                      refine r_aload C dX4_read_74 rfl ?_
                      refine r_iload_n C dX4_read_76 (i := 3) rfl rfl ?_
                      refine c_VS1 C dX4_read_77 sX4_94 rfl R (by omega) (by omega) (by omega) (by omega) rfl (Nat.le_of_ble_eq_true rfl) 0 0 (Nat.zero_le _) (Nat.zero_le _) (C_X0_isWrong R nb.1 nb2 j0 j1 hu hre.1 hc (fun z hz hb => ?_))
                      have hb01 := hb.b
                      have wr := W.w (60 * n + p)
                      have cl := W.i.2.2.1 (60 * n + p)
                      refine r_if_ne C dX4_read_80 (t := 90) (by decide) (by first | assumption | exact R.rg _ _ | exact R.ru _ _ | (unfold inR; omega)) (fun c80 => ?_) (fun c80 => ?_)
                      · skip
                        have hwr := hb.t c80
                        have hkn := NRd.1
                        have eF : reF p c r i s = drG s n p := by
                          unfold reF
                          rw [← en, if_pos ⟨hn, hwr.2⟩]
                        refine r_aload C dX4_read_90 rfl ?_
                        refine r_aload C dX4_read_92 rfl ?_
                        refine c_S2 C dX4_read_94 sX4_176 rfl rfl (Nat.le_of_ble_eq_true rfl) 0 0 (Nat.zero_le _) (Nat.zero_le _) (C_X4_drop Z2.1 nb.1 nb2 j0 j1 hu hre.1 (fun h3 R3 C3 => ?_))
                        have Z3 : Rs gx x A (dpU u2 n j) (drG s n p) h3 := by
                          have e1 := dr_ne s n p (k := 1) (by decide) 0
                          have e11 := dr_ne s n p (k := 11) (by decide) 0
                          show Rt gx x A (drG s n p 11 0) (drG s n p 1 0) _ _ _
                          rw [e1, e11]
                          exact Z2.su ⟨R3, iw_dr W hre.1 (by omega) n, C3⟩ (su_dp _ _ _) (fun k hk j => dr_ne _ _ _ (by omega) _)
                        refine r_iinc C dX4_read_97 rfl ?_
                        dsimp only [List.set]
                        refine r_goto C dX4_read_100 (t := 32) (by decide) ?_
                        refine ih9 _ _ _ _ _ (by omega) (by omega) (by omega) (by rw [itrI_s _ _ i0, ← hs, eF]; exact Z3) ?_ ?_
                        · rw [itrI_s _ _ i0, ← hs, eF, dr_16 hkn]; omega
                        · intro k hk j
                          rw [itrI_s _ _ i0, ← hs, eF, dr_ne _ _ _ hk]
                          exact T k hk j
                      · skip
                        have hwr := hb.f c80
                        have hns : ¬ shB (s 21 (60 * n + p)) c = 1 := fun e => hwr ⟨⟨hd3.1, hd3.2, wr_sh cl.1 cl.2 wr.1 wr.2 hd3.1 hd3.2 e⟩, e⟩
                        have e9 : rfG g p c r = s := itr_st (fun _ => by unfold reF; rw [← en, if_neg (fun z => hns z.2)]) i0 i1 hs.symm
                        rw [e9] at K
                        have k := K hall h23 _ _ Z2
                        rw [show rvG s p c r = if c < s 19 (60 * n + p) then s 20 (4 * (60 * n + p) + c) else -1 from (if_neg (by rw [← en]; exact hn)).trans (by rw [← en])] at k
                        refine r_aload C dX4_read_83 rfl ?_
                        refine r_iload_n C dX4_read_85 (i := 3) rfl rfl ?_
                        refine c_VS1 C dX4_read_86 sX4_172 rfl R (by omega) (by omega) (by omega) (by omega) rfl (Nat.le_of_ble_eq_true rfl) 0 0 (Nat.zero_le _) (Nat.zero_le _) (C_X0_numberIn R nb.1 nb2 j0 j1 hu hre.1 hc ?_)
                        refine r_iret C dX4_read_89 (Or.inl rfl) ?_
                        first
                          | (by_cases q : c < s 19 (60 * n + p)
                             · rw [if_pos q] at k
                               rw [if_pos ⟨hd3.1, hd3.2, q⟩]
                               exact k
                             · rw [if_neg q] at k
                               rw [if_neg (fun z => q z.2.2)]
                               exact k)
                    · skip
                      cases c68
                  · skip
                    have z0 := Ci.no W.n nb.1 nb2 hre.1 (show p < s 11 0 by omega) no
                    have z1 := NRd.2.2
                    have z2 := W.i.2.2.2.2 p hre.1 (show p < s 11 0 by omega)
                    omega
                · skip
                  have hn := nq_n c50
                  have e9 : rfG g p c r = s := itr_st (fun _ => by unfold reF; rw [if_neg (fun z => z.1 (by omega))]) i0 i1 hs.symm
                  rw [e9] at K
                  have k := K hall h23 _ _ Z2
                  rw [show rvG s p c r = -2 from if_pos (by rw [← en]; exact hn)] at k
                  refine r_anull C dX4_read_53 ?_
                  refine r_goto C dX4_read_54 (t := 64) (by decide) ?_
                  refine r_astore C dX4_read_64 (Nat.le_of_ble_eq_true rfl) ?_
                  dsimp only [List.set]
                  refine r_aload C dX4_read_66 rfl ?_
                  refine r_ifnonnull C dX4_read_68 (t := 74) (by decide) (fun a68 c68 => ?_) (fun c68 => ?_)
                  · skip
                    cases c68
                  · skip
                    refine r_bipush C dX4_read_71 (by decide) ?_
                    refine r_iret C dX4_read_73 (Or.inl rfl) ?_
                    exact k
          · skip
            have f4 := (F.2 f hd.1 hd.2).1
            exact kx2 hall (by omega)
        · skip
          exact kx1 (fun z => hd4 (by have := z.2.2.2; omega))
      · skip
        exact kx1 (fun z => hd3 (by have := z.2.2.1; omega))
    · skip
      exact kx1 (fun z => hd2 (by have := z.2.1; omega))
  · skip
    exact kx1 (fun z => hd z.1)

