/-! ===== the reference: looking ===== -/
set_option maxRecDepth 100000 in
set_option maxHeartbeats 4000000 in
theorem C_X5_placeOf {gx : GX} {d : Nat} {Qr : Option AV → Hp → Prop} {Qx : String → Hp → Prop} {q : Nat} {ar : Nat → Nat} {g : GT} {h : Hp} {p n : Int} (R : RM q ar g h) (B : BD g) (hp0 : 0 ≤ p) (hp1 : p < g 11 0) (hn : inR n) (k : Qr (some (vi (plG g p n))) h) : aM gx (d + 1) mX5_placeOf [vr q, vi p, vi n] h 0 0 Qr Qx := by
  intro J C
  show J 0 [some (vr q), some (vi p), some (vi n), none] [] h 0 0
  have b2 := B.np; have b1 := B.nn; have bcp := B.cp p hp0 hp1
  refine r_iconst C dX5_placeOf_0 ?_
  refine r_istore_n C dX5_placeOf_1 (i := 3) rfl (Nat.le_of_ble_eq_true rfl) ?_
  dsimp only [List.set]
  suffices LOOP : ∀ (m : Nat) (i : Int), g 16 p - i < (m : Int) → 0 ≤ i → i ≤ g 16 p → (∀ j, 0 ≤ j → j < i → decide (g 17 (8 * p + j) = n) = false) → J 2 [some (vr q), some (vi p), some (vi n), some (vi i)] [] h 0 0 by
    exact LOOP ((g 16 p).toNat + 1) 0 (by omega) (by omega) (by omega) all_0
  intro m
  induction m with
  | zero => intro i hm hi0 hi1 hb; exact absurd hm (by omega)
  | succ m ih =>
    intro i hm hi0 hi1 hb
    refine r_iload_n C dX5_placeOf_2 (i := 3) rfl rfl ?_
    refine r_aload_n C dX5_placeOf_3 (i := 0) rfl rfl ?_
    refine m_getA C dX5_placeOf_4 fX5_45 R (by decide) rfl ?_
    refine r_iload_n C dX5_placeOf_7 (i := 1) rfl rfl ?_
    refine m_iald C dX5_placeOf_8 R (N := 60) rfl (by decide) rfl (by omega) (by omega) (by omega) ?_
    refine r_ic_ge C dX5_placeOf_9 (t := 35) (by decide) (by first | assumption | exact R.rg _ _ | exact rg _ _ | (unfold inR; omega)) (by first | assumption | exact R.rg _ _ | exact rg _ _ | (unfold inR; omega)) (fun c9 => ?_) (fun c9 => ?_)
    · skip
      refine r_iconst C dX5_placeOf_35 ?_
      refine r_iret C dX5_placeOf_36 (Or.inl rfl) ?_
      rw [show plG g p n = -1 from findI_none (fun j a b => hb j a (by omega))] at k; exact k
    · skip
      refine r_aload_n C dX5_placeOf_12 (i := 0) rfl rfl ?_
      refine m_getA C dX5_placeOf_13 fX5_48 R (by decide) rfl ?_
      refine r_bipush C dX5_placeOf_16 (by decide) ?_
      refine r_iload_n C dX5_placeOf_18 (i := 1) rfl rfl ?_
      refine r_imul C dX5_placeOf_19 ?_
      refine r_iload_n C dX5_placeOf_20 (i := 3) rfl rfl ?_
      refine r_iadd C dX5_placeOf_21 ?_
      refine m_iald C dX5_placeOf_22 R (N := 480) rfl (by decide) rfl (by omega) (by omega) (by omega) ?_
      refine r_iload_n C dX5_placeOf_23 (i := 2) rfl rfl ?_
      refine r_ic_ne C dX5_placeOf_24 (t := 29) (by decide) (by first | assumption | exact R.rg _ _ | exact rg _ _ | (unfold inR; omega)) (by first | assumption | exact R.rg _ _ | exact rg _ _ | (unfold inR; omega)) (fun c24 => ?_) (fun c24 => ?_)
      · skip
        refine r_iinc C dX5_placeOf_29 rfl ?_
        dsimp only [List.set]
        refine r_goto C dX5_placeOf_32 (t := 2) (by decide) ?_
        exact ih _ (by omega) (by omega) (by omega) (all_s hb (by simp; omega))
      · skip
        refine r_iload_n C dX5_placeOf_27 (i := 3) rfl rfl ?_
        refine r_iret C dX5_placeOf_28 (Or.inl rfl) ?_
        rw [show plG g p n = i from findI_hit hi0 c9 (by simp; omega) hb] at k; exact k

set_option maxRecDepth 100000 in
set_option maxHeartbeats 4000000 in
theorem C_X5_isGood {gx : GX} {d : Nat} {Qr : Option AV → Hp → Prop} {Qx : String → Hp → Prop} {q : Nat} {ar : Nat → Nat} {g : GT} {h : Hp} {p n : Int} (R : RM q ar g h) (B : BD g) (hp0 : 0 ≤ p) (hp1 : p < g 11 0) (hn0 : 0 ≤ n) (hn1 : n < 8) (k : ∀ z, inR z → BV z (goodP g p n) → Qr (some (vi z)) h) : aM gx (d + 2) mX5_isGood [vr q, vi p, vi n] h 0 0 Qr Qx := by
  intro J C
  show J 0 [some (vr q), some (vi p), some (vi n)] [] h 0 0
  have b2 := B.np
  refine r_aload_n C dX5_isGood_0 (i := 0) rfl rfl ?_
  refine m_getA C dX5_isGood_1 fX5_20 R (by decide) rfl ?_
  refine r_iload_n C dX5_isGood_4 (i := 2) rfl rfl ?_
  refine m_zald C dX5_isGood_5 R (N := 8) rfl (by decide) rfl (by omega) (by omega) (by omega) ?_
  refine r_if_eq C dX5_isGood_6 (t := 32) (by decide) (by first | assumption | exact R.rg _ _ | exact rg _ _ | (unfold inR; omega)) (fun c6 => ?_) (fun c6 => ?_)
  · skip
    refine r_iconst C dX5_isGood_32 ?_
    refine r_iret C dX5_isGood_33 (Or.inr ⟨rfl, (by first | assumption | omega | decide)⟩) ?_
    first | exact k _ inR1 (.y ⟨by omega, by omega⟩) | exact k _ inR0 (.n (fun z => by have z1 := z.1; have z2 := z.2; omega))
  · skip
    refine r_aload_n C dX5_isGood_9 (i := 0) rfl rfl ?_
    refine m_getA C dX5_isGood_10 fX5_51 R (by decide) rfl ?_
    refine r_iload_n C dX5_isGood_13 (i := 2) rfl rfl ?_
    refine r_iload_n C dX5_isGood_14 (i := 1) rfl rfl ?_
    refine r_S2 C dX5_isGood_15 sX5_104 (Nat.le_of_ble_eq_true rfl) (C_X5_at ?_)
    refine m_iald C dX5_isGood_18 R (N := 480) rfl (by decide) rfl (by omega) (by omega) (by omega) ?_
    refine r_aload_n C dX5_isGood_19 (i := 0) rfl rfl ?_
    refine m_getA C dX5_isGood_20 fX5_33 R (by decide) rfl ?_
    refine r_iload_n C dX5_isGood_23 (i := 1) rfl rfl ?_
    refine m_iald C dX5_isGood_24 R (N := 60) rfl (by decide) rfl (by omega) (by omega) (by omega) ?_
    refine r_ic_ne C dX5_isGood_25 (t := 32) (by decide) (by first | assumption | exact R.rg _ _ | exact rg _ _ | (unfold inR; omega)) (by first | assumption | exact R.rg _ _ | exact rg _ _ | (unfold inR; omega)) (fun c25 => ?_) (fun c25 => ?_)
    · skip
      refine r_iconst C dX5_isGood_32 ?_
      refine r_iret C dX5_isGood_33 (Or.inr ⟨rfl, (by first | assumption | omega | decide)⟩) ?_
      first | exact k _ inR1 (.y ⟨by omega, by omega⟩) | exact k _ inR0 (.n (fun z => by have z1 := z.1; have z2 := z.2; omega))
    · skip
      refine r_iconst C dX5_isGood_28 ?_
      refine r_goto C dX5_isGood_29 (t := 33) (by decide) ?_
      refine r_iret C dX5_isGood_33 (Or.inr ⟨rfl, (by first | assumption | omega | decide)⟩) ?_
      first | exact k _ inR1 (.y ⟨by omega, by omega⟩) | exact k _ inR0 (.n (fun z => by have z1 := z.1; have z2 := z.2; omega))

set_option maxRecDepth 100000 in
set_option maxHeartbeats 4000000 in
theorem C_X5_goodMany {gx : GX} {d : Nat} {Qr : Option AV → Hp → Prop} {Qx : String → Hp → Prop} {q : Nat} {ar : Nat → Nat} {g : GT} {h : Hp} {p : Int} (R : RM q ar g h) (B : BD g) (hp0 : 0 ≤ p) (hp1 : p < g 11 0) (k : Qr (some (vi (gmG g p))) h) : aM gx (d + 3) mX5_goodMany [vr q, vi p] h 0 0 Qr Qx := by
  intro J C
  show J 0 [some (vr q), some (vi p), none, none] [] h 0 0
  have b2 := B.np; have b1 := B.nn; have bcp := B.cp p hp0 hp1
  refine r_iconst C dX5_goodMany_0 ?_
  refine r_istore_n C dX5_goodMany_1 (i := 2) rfl (Nat.le_of_ble_eq_true rfl) ?_
  dsimp only [List.set]
  refine r_iconst C dX5_goodMany_2 ?_
  refine r_istore_n C dX5_goodMany_3 (i := 3) rfl (Nat.le_of_ble_eq_true rfl) ?_
  dsimp only [List.set]
  suffices LOOP : ∀ (m : Nat) (x i : Int), g 16 p - i < (m : Int) → 0 ≤ i → i ≤ g 16 p → 0 ≤ x → x ≤ i → x = cnt (fun k => decide (goodP g p (g 17 (8 * p + k)))) i → J 4 [some (vr q), some (vi p), some (vi x), some (vi i)] [] h 0 0 by
    exact LOOP ((g 16 p).toNat + 1) 0 0 (by omega) (by omega) (by omega) (by omega) (by omega) rfl
  intro m
  induction m with
  | zero => intro x i hm hi0 hi1 hx0 hx1 hx; exact absurd hm (by omega)
  | succ m ih =>
    intro x i hm hi0 hi1 hx0 hx1 hx
    refine r_iload_n C dX5_goodMany_4 (i := 3) rfl rfl ?_
    refine r_aload_n C dX5_goodMany_5 (i := 0) rfl rfl ?_
    refine m_getA C dX5_goodMany_6 fX5_45 R (by decide) rfl ?_
    refine r_iload_n C dX5_goodMany_9 (i := 1) rfl rfl ?_
    refine m_iald C dX5_goodMany_10 R (N := 60) rfl (by decide) rfl (by omega) (by omega) (by omega) ?_
    refine r_ic_ge C dX5_goodMany_11 (t := 47) (by decide) (by first | assumption | exact R.rg _ _ | exact rg _ _ | (unfold inR; omega)) (by first | assumption | exact R.rg _ _ | exact rg _ _ | (unfold inR; omega)) (fun c11 => ?_) (fun c11 => ?_)
    · skip
      refine r_iload_n C dX5_goodMany_47 (i := 2) rfl rfl ?_
      refine r_iret C dX5_goodMany_48 (Or.inl rfl) ?_
      rw [show gmG g p = x by rw [hx, show i = g 16 p by omega]; rfl] at k; exact k
    · skip
      have bcy := B.cy p i hp0 hp1 hi0 c11
      refine r_iload_n C dX5_goodMany_14 (i := 2) rfl rfl ?_
      refine r_aload_n C dX5_goodMany_15 (i := 0) rfl rfl ?_
      refine r_iload_n C dX5_goodMany_16 (i := 1) rfl rfl ?_
      refine r_aload_n C dX5_goodMany_17 (i := 0) rfl rfl ?_
      refine m_getA C dX5_goodMany_18 fX5_48 R (by decide) rfl ?_
      refine r_bipush C dX5_goodMany_21 (by decide) ?_
      refine r_iload_n C dX5_goodMany_23 (i := 1) rfl rfl ?_
      refine r_imul C dX5_goodMany_24 ?_
      refine r_iload_n C dX5_goodMany_25 (i := 3) rfl rfl ?_
      refine r_iadd C dX5_goodMany_26 ?_
      refine m_iald C dX5_goodMany_27 R (N := 480) rfl (by decide) rfl (by omega) (by omega) (by omega) ?_
      refine m_V2 C dX5_goodMany_28 sX5_123 rfl R (Nat.le_of_ble_eq_true rfl) (C_X5_isGood R B hp0 hp1 (by omega) (by omega) (fun z hz hb => ?_))
      refine r_if_eq C dX5_goodMany_31 (t := 38) (by decide) (by first | assumption | exact R.rg _ _ | exact rg _ _ | (unfold inR; omega)) (fun c31 => ?_) (fun c31 => ?_)
      · skip
        have hgd := hb.f c31
        refine r_iconst C dX5_goodMany_38 ?_
        refine r_iadd C dX5_goodMany_39 ?_
        refine r_istore_n C dX5_goodMany_40 (i := 2) rfl (Nat.le_of_ble_eq_true rfl) ?_
        dsimp only [List.set]
        refine r_iinc C dX5_goodMany_41 rfl ?_
        dsimp only [List.set]
        refine r_goto C dX5_goodMany_44 (t := 4) (by decide) ?_
        exact ih _ _ (by omega) (by omega) (by omega) (by omega) (by omega) (by rw [cnt_s _ hi0, hx]; simp [hgd])
      · skip
        have hgd := hb.t c31
        refine r_iconst C dX5_goodMany_34 ?_
        refine r_goto C dX5_goodMany_35 (t := 39) (by decide) ?_
        refine r_iadd C dX5_goodMany_39 ?_
        refine r_istore_n C dX5_goodMany_40 (i := 2) rfl (Nat.le_of_ble_eq_true rfl) ?_
        dsimp only [List.set]
        refine r_iinc C dX5_goodMany_41 rfl ?_
        dsimp only [List.set]
        refine r_goto C dX5_goodMany_44 (t := 4) (by decide) ?_
        exact ih _ _ (by omega) (by omega) (by omega) (by omega) (by omega) (by rw [cnt_s _ hi0, hx]; simp [hgd])

set_option maxRecDepth 100000 in
set_option maxHeartbeats 4000000 in
theorem C_X5_firstGood {gx : GX} {d : Nat} {Qr : Option AV → Hp → Prop} {Qx : String → Hp → Prop} {q : Nat} {ar : Nat → Nat} {g : GT} {h : Hp} {p r : Int} (R : RM q ar g h) (B : BD g) (hp0 : 0 ≤ p) (hp1 : p < g 11 0) (hr : inR r) (k : Qr (some (vi (fgG g p r))) h) : aM gx (d + 3) mX5_firstGood [vr q, vi p, vi r] h 0 0 Qr Qx := by
  intro J C
  show J 0 [some (vr q), some (vi p), some (vi r), none, none] [] h 0 0
  have b2 := B.np; have b1 := B.nn; have bcp := B.cp p hp0 hp1
  refine r_iconst C dX5_firstGood_0 ?_
  refine r_istore_n C dX5_firstGood_1 (i := 3) rfl (Nat.le_of_ble_eq_true rfl) ?_
  dsimp only [List.set]
  suffices LOOP : ∀ (m : Nat) (i : Int) (o4 : Option AV), g 16 p - i < (m : Int) → 0 ≤ i → i ≤ g 16 p → (∀ j, 0 ≤ j → j < i → decide (goodP g p (g 17 (8 * p + j)) ∧ (r = 0 ∨ g 21 (60 * (g 17 (8 * p + j)) + p) = 0)) = false) → J 2 [some (vr q), some (vi p), some (vi r), some (vi i), o4] [] h 0 0 by
    exact LOOP ((g 16 p).toNat + 1) 0 _ (by omega) (by omega) (by omega) all_0
  intro m
  induction m with
  | zero => intro i o4 hm hi0 hi1 hb; exact absurd hm (by omega)
  | succ m ih =>
    intro i o4 hm hi0 hi1 hb
    refine r_iload_n C dX5_firstGood_2 (i := 3) rfl rfl ?_
    refine r_aload_n C dX5_firstGood_3 (i := 0) rfl rfl ?_
    refine m_getA C dX5_firstGood_4 fX5_45 R (by decide) rfl ?_
    refine r_iload_n C dX5_firstGood_7 (i := 1) rfl rfl ?_
    refine m_iald C dX5_firstGood_8 R (N := 60) rfl (by decide) rfl (by omega) (by omega) (by omega) ?_
    refine r_ic_ge C dX5_firstGood_9 (t := 62) (by decide) (by first | assumption | exact R.rg _ _ | exact rg _ _ | (unfold inR; omega)) (by first | assumption | exact R.rg _ _ | exact rg _ _ | (unfold inR; omega)) (fun c9 => ?_) (fun c9 => ?_)
    · skip
      refine r_iconst C dX5_firstGood_62 ?_
      refine r_iret C dX5_firstGood_63 (Or.inl rfl) ?_
      rw [show fgG g p r = -1 from pick_none (fun j a b => hb j a (by omega))] at k; exact k
    · skip
      have bcy := B.cy p i hp0 hp1 hi0 c9
      refine r_aload_n C dX5_firstGood_12 (i := 0) rfl rfl ?_
      refine m_getA C dX5_firstGood_13 fX5_48 R (by decide) rfl ?_
      refine r_bipush C dX5_firstGood_16 (by decide) ?_
      refine r_iload_n C dX5_firstGood_18 (i := 1) rfl rfl ?_
      refine r_imul C dX5_firstGood_19 ?_
      refine r_iload_n C dX5_firstGood_20 (i := 3) rfl rfl ?_
      refine r_iadd C dX5_firstGood_21 ?_
      refine m_iald C dX5_firstGood_22 R (N := 480) rfl (by decide) rfl (by omega) (by omega) (by omega) ?_
      refine r_istore C dX5_firstGood_23 (Nat.le_of_ble_eq_true rfl) ?_
      dsimp only [List.set]
      refine r_aload_n C dX5_firstGood_25 (i := 0) rfl rfl ?_
      refine r_iload_n C dX5_firstGood_26 (i := 1) rfl rfl ?_
      refine r_iload C dX5_firstGood_27 rfl ?_
      refine m_V2 C dX5_firstGood_29 sX5_123 rfl R (Nat.le_of_ble_eq_true rfl) (C_X5_isGood R B hp0 hp1 (by omega) (by omega) (fun z hz hbz => ?_))
      refine r_if_eq C dX5_firstGood_32 (t := 56) (by decide) (by first | assumption | exact R.rg _ _ | exact rg _ _ | (unfold inR; omega)) (fun c32 => ?_) (fun c32 => ?_)
      · skip
        have hgd := hbz.f c32
        refine r_iinc C dX5_firstGood_56 rfl ?_
        dsimp only [List.set]
        refine r_goto C dX5_firstGood_59 (t := 2) (by decide) ?_
        exact ih _ _ (by omega) (by omega) (by omega) (all_s hb (decide_eq_false (fun z => by first | exact hgd z.1 | (rcases z.2 with z | z <;> omega))))
      · skip
        have hgd := hbz.t c32
        refine r_iload_n C dX5_firstGood_35 (i := 2) rfl rfl ?_
        refine r_if_eq C dX5_firstGood_36 (t := 53) (by decide) (by first | assumption | exact R.rg _ _ | exact rg _ _ | (unfold inR; omega)) (fun c36 => ?_) (fun c36 => ?_)
        · skip
          refine r_iload C dX5_firstGood_53 rfl ?_
          refine r_iret C dX5_firstGood_55 (Or.inl rfl) ?_
          rw [show fgG g p r = _ from pick_hit hi0 c9 (decide_eq_true ⟨hgd, by omega⟩) hb] at k; exact k
        · skip
          refine r_aload_n C dX5_firstGood_39 (i := 0) rfl rfl ?_
          refine m_getA C dX5_firstGood_40 fX5_60 R (by decide) rfl ?_
          refine r_iload C dX5_firstGood_43 rfl ?_
          refine r_iload_n C dX5_firstGood_45 (i := 1) rfl rfl ?_
          refine r_S2 C dX5_firstGood_46 sX5_104 (Nat.le_of_ble_eq_true rfl) (C_X5_at ?_)
          refine m_iald C dX5_firstGood_49 R (N := 480) rfl (by decide) rfl (by omega) (by omega) (by omega) ?_
          refine r_if_ne C dX5_firstGood_50 (t := 56) (by decide) (by first | assumption | exact R.rg _ _ | exact rg _ _ | (unfold inR; omega)) (fun c50 => ?_) (fun c50 => ?_)
          · skip
            refine r_iinc C dX5_firstGood_56 rfl ?_
            dsimp only [List.set]
            refine r_goto C dX5_firstGood_59 (t := 2) (by decide) ?_
            exact ih _ _ (by omega) (by omega) (by omega) (all_s hb (decide_eq_false (fun z => by first | exact hgd z.1 | (rcases z.2 with z | z <;> omega))))
          · skip
            refine r_iload C dX5_firstGood_53 rfl ?_
            refine r_iret C dX5_firstGood_55 (Or.inl rfl) ?_
            rw [show fgG g p r = _ from pick_hit hi0 c9 (decide_eq_true ⟨hgd, by omega⟩) hb] at k; exact k

set_option maxRecDepth 100000 in
set_option maxHeartbeats 4000000 in
theorem C_X5_inRack {gx : GX} {d : Nat} {Qr : Option AV → Hp → Prop} {Qx : String → Hp → Prop} {q : Nat} {ar : Nat → Nat} {g : GT} {h : Hp} {p r : Int} (R : RM q ar g h) (B : BD g) (hp0 : 0 ≤ p) (hp1 : p < g 11 0) (hr : inR r) (k : Qr (some (vi (irG g p r))) h) : aM gx (d + 1) mX5_inRack [vr q, vi p, vi r] h 0 0 Qr Qx := by
  intro J C
  show J 0 [some (vr q), some (vi p), some (vi r), none, none] [] h 0 0
  have b2 := B.np; have b1 := B.nn; have bcp := B.cp p hp0 hp1
  refine r_iconst C dX5_inRack_0 ?_
  refine r_istore_n C dX5_inRack_1 (i := 3) rfl (Nat.le_of_ble_eq_true rfl) ?_
  dsimp only [List.set]
  refine r_iconst C dX5_inRack_2 ?_
  refine r_istore C dX5_inRack_3 (Nat.le_of_ble_eq_true rfl) ?_
  dsimp only [List.set]
  suffices LOOP : ∀ (m : Nat) (x i : Int), g 16 p - i < (m : Int) → 0 ≤ i → i ≤ g 16 p → 0 ≤ x → x ≤ i → x = cnt (fun k => decide (g 5 (g 17 (8 * p + k)) = r)) i → J 5 [some (vr q), some (vi p), some (vi r), some (vi x), some (vi i)] [] h 0 0 by
    exact LOOP ((g 16 p).toNat + 1) 0 0 (by omega) (by omega) (by omega) (by omega) (by omega) rfl
  intro m
  induction m with
  | zero => intro x i hm hi0 hi1 hx0 hx1 hx; exact absurd hm (by omega)
  | succ m ih =>
    intro x i hm hi0 hi1 hx0 hx1 hx
    refine r_iload C dX5_inRack_5 rfl ?_
    refine r_aload_n C dX5_inRack_7 (i := 0) rfl rfl ?_
    refine m_getA C dX5_inRack_8 fX5_45 R (by decide) rfl ?_
    refine r_iload_n C dX5_inRack_11 (i := 1) rfl rfl ?_
    refine m_iald C dX5_inRack_12 R (N := 60) rfl (by decide) rfl (by omega) (by omega) (by omega) ?_
    refine r_ic_ge C dX5_inRack_13 (t := 51) (by decide) (by first | assumption | exact R.rg _ _ | exact rg _ _ | (unfold inR; omega)) (by first | assumption | exact R.rg _ _ | exact rg _ _ | (unfold inR; omega)) (fun c13 => ?_) (fun c13 => ?_)
    · skip
      refine r_iload_n C dX5_inRack_51 (i := 3) rfl rfl ?_
      refine r_iret C dX5_inRack_52 (Or.inl rfl) ?_
      rw [show irG g p r = x by rw [hx, show i = g 16 p by omega]; rfl] at k; exact k
    · skip
      have bcy := B.cy p i hp0 hp1 hi0 c13
      refine r_iload_n C dX5_inRack_16 (i := 3) rfl rfl ?_
      refine r_aload_n C dX5_inRack_17 (i := 0) rfl rfl ?_
      refine m_getA C dX5_inRack_18 fX5_13 R (by decide) rfl ?_
      refine r_aload_n C dX5_inRack_21 (i := 0) rfl rfl ?_
      refine m_getA C dX5_inRack_22 fX5_48 R (by decide) rfl ?_
      refine r_bipush C dX5_inRack_25 (by decide) ?_
      refine r_iload_n C dX5_inRack_27 (i := 1) rfl rfl ?_
      refine r_imul C dX5_inRack_28 ?_
      refine r_iload C dX5_inRack_29 rfl ?_
      refine r_iadd C dX5_inRack_31 ?_
      refine m_iald C dX5_inRack_32 R (N := 480) rfl (by decide) rfl (by omega) (by omega) (by omega) ?_
      refine m_iald C dX5_inRack_33 R (N := 8) rfl (by decide) rfl (by omega) (by omega) (by omega) ?_
      refine r_iload_n C dX5_inRack_34 (i := 2) rfl rfl ?_
      refine r_ic_ne C dX5_inRack_35 (t := 42) (by decide) (by first | assumption | exact R.rg _ _ | exact rg _ _ | (unfold inR; omega)) (by first | assumption | exact R.rg _ _ | exact rg _ _ | (unfold inR; omega)) (fun c35 => ?_) (fun c35 => ?_)
      · skip
        refine r_iconst C dX5_inRack_42 ?_
        refine r_iadd C dX5_inRack_43 ?_
        refine r_istore_n C dX5_inRack_44 (i := 3) rfl (Nat.le_of_ble_eq_true rfl) ?_
        dsimp only [List.set]
        refine r_iinc C dX5_inRack_45 rfl ?_
        dsimp only [List.set]
        refine r_goto C dX5_inRack_48 (t := 5) (by decide) ?_
        exact ih _ _ (by omega) (by omega) (by omega) (by omega) (by omega) (by rw [cnt_s _ hi0, hx]; simp [c35])
      · skip
        refine r_iconst C dX5_inRack_38 ?_
        refine r_goto C dX5_inRack_39 (t := 43) (by decide) ?_
        refine r_iadd C dX5_inRack_43 ?_
        refine r_istore_n C dX5_inRack_44 (i := 3) rfl (Nat.le_of_ble_eq_true rfl) ?_
        dsimp only [List.set]
        refine r_iinc C dX5_inRack_45 rfl ?_
        dsimp only [List.set]
        refine r_goto C dX5_inRack_48 (t := 5) (by decide) ?_
        exact ih _ _ (by omega) (by omega) (by omega) (by omega) (by omega) (by rw [cnt_s _ hi0, hx]; simp [c35])

set_option maxRecDepth 100000 in
set_option maxHeartbeats 4000000 in
theorem C_X5_isOpen {gx : GX} {d : Nat} {Qr : Option AV → Hp → Prop} {Qx : String → Hp → Prop} {q : Nat} {ar : Nat → Nat} {g : GT} {h : Hp} {n : Int} (R : RM q ar g h) (B : BD g) (hn0 : 0 ≤ n) (hn1 : n < 8) (k : ∀ z, inR z → BV z (openP g n) → Qr (some (vi z)) h) : aM gx (d + 3) mX5_isOpen [vr q, vi n] h 0 0 Qr Qx := by
  intro J C
  show J 0 [some (vr q), some (vi n)] [] h 0 0
  have bl := load_b B n
  refine r_aload_n C dX5_isOpen_0 (i := 0) rfl rfl ?_
  refine m_getA C dX5_isOpen_1 fX5_27 R (by decide) rfl ?_
  refine r_iload_n C dX5_isOpen_4 (i := 1) rfl rfl ?_
  refine m_zald C dX5_isOpen_5 R (N := 8) rfl (by decide) rfl (by omega) (by omega) (by omega) ?_
  refine r_if_eq C dX5_isOpen_6 (t := 36) (by decide) (by first | assumption | exact R.rg _ _ | exact rg _ _ | (unfold inR; omega)) (fun c6 => ?_) (fun c6 => ?_)
  · skip
    refine r_iconst C dX5_isOpen_36 ?_
    refine r_iret C dX5_isOpen_37 (Or.inr ⟨rfl, (by first | assumption | omega | decide)⟩) ?_
    first | exact k _ inR1 (.y ⟨by omega, by omega, by omega⟩) | exact k _ inR0 (.n (fun z => by have z1 := z.1; have z2 := z.2.1; have z3 := z.2.2; omega))
  · skip
    refine r_aload_n C dX5_isOpen_9 (i := 0) rfl rfl ?_
    refine m_getA C dX5_isOpen_10 fX5_20 R (by decide) rfl ?_
    refine r_iload_n C dX5_isOpen_13 (i := 1) rfl rfl ?_
    refine m_zald C dX5_isOpen_14 R (N := 8) rfl (by decide) rfl (by omega) (by omega) (by omega) ?_
    refine r_if_eq C dX5_isOpen_15 (t := 36) (by decide) (by first | assumption | exact R.rg _ _ | exact rg _ _ | (unfold inR; omega)) (fun c15 => ?_) (fun c15 => ?_)
    · skip
      refine r_iconst C dX5_isOpen_36 ?_
      refine r_iret C dX5_isOpen_37 (Or.inr ⟨rfl, (by first | assumption | omega | decide)⟩) ?_
      first | exact k _ inR1 (.y ⟨by omega, by omega, by omega⟩) | exact k _ inR0 (.n (fun z => by have z1 := z.1; have z2 := z.2.1; have z3 := z.2.2; omega))
    · skip
      refine r_aload_n C dX5_isOpen_18 (i := 0) rfl rfl ?_
      refine r_iload_n C dX5_isOpen_19 (i := 1) rfl rfl ?_
      refine m_V1 C dX5_isOpen_20 sX5_127 rfl R (Nat.le_of_ble_eq_true rfl) (C_X5_loadOf R B hn0 hn1 ?_)
      refine r_aload_n C dX5_isOpen_23 (i := 0) rfl rfl ?_
      refine m_getA C dX5_isOpen_24 fX5_17 R (by decide) rfl ?_
      refine r_iload_n C dX5_isOpen_27 (i := 1) rfl rfl ?_
      refine m_iald C dX5_isOpen_28 R (N := 8) rfl (by decide) rfl (by omega) (by omega) (by omega) ?_
      refine r_ic_ge C dX5_isOpen_29 (t := 36) (by decide) (by first | assumption | exact R.rg _ _ | exact rg _ _ | (unfold inR; omega)) (by first | assumption | exact R.rg _ _ | exact rg _ _ | (unfold inR; omega)) (fun c29 => ?_) (fun c29 => ?_)
      · skip
        refine r_iconst C dX5_isOpen_36 ?_
        refine r_iret C dX5_isOpen_37 (Or.inr ⟨rfl, (by first | assumption | omega | decide)⟩) ?_
        first | exact k _ inR1 (.y ⟨by omega, by omega, by omega⟩) | exact k _ inR0 (.n (fun z => by have z1 := z.1; have z2 := z.2.1; have z3 := z.2.2; omega))
      · skip
        refine r_iconst C dX5_isOpen_32 ?_
        refine r_goto C dX5_isOpen_33 (t := 37) (by decide) ?_
        refine r_iret C dX5_isOpen_37 (Or.inr ⟨rfl, (by first | assumption | omega | decide)⟩) ?_
        first | exact k _ inR1 (.y ⟨by omega, by omega, by omega⟩) | exact k _ inR0 (.n (fun z => by have z1 := z.1; have z2 := z.2.1; have z3 := z.2.2; omega))

set_option maxRecDepth 100000 in
set_option maxHeartbeats 4000000 in
theorem C_X5_best {gx : GX} {d : Nat} {Qr : Option AV → Hp → Prop} {Qx : String → Hp → Prop} {q : Nat} {ar : Nat → Nat} {g : GT} {h : Hp} {p : Int} (R : RM q ar g h) (B : BD g) (hp0 : 0 ≤ p) (hp1 : p < g 11 0) (k : Qr (some (vi (bestG g p))) h) : aM gx (d + 4) mX5_best [vr q, vi p] h 0 0 Qr Qx := by
  intro J C
  show J 0 [some (vr q), some (vi p), none, none, none, none, none, none] [] h 0 0
  have b2 := B.np; have b1 := B.nn; have bcp := B.cp p hp0 hp1
  refine r_iconst C dX5_best_0 ?_
  refine r_istore_n C dX5_best_1 (i := 2) rfl (Nat.le_of_ble_eq_true rfl) ?_
  dsimp only [List.set]
  refine r_iconst C dX5_best_2 ?_
  refine r_istore_n C dX5_best_3 (i := 3) rfl (Nat.le_of_ble_eq_true rfl) ?_
  dsimp only [List.set]
  refine r_iconst C dX5_best_4 ?_
  refine r_istore C dX5_best_5 (Nat.le_of_ble_eq_true rfl) ?_
  dsimp only [List.set]
  refine r_iconst C dX5_best_7 ?_
  refine r_istore C dX5_best_8 (Nat.le_of_ble_eq_true rfl) ?_
  dsimp only [List.set]
  suffices LOOP : ∀ (m : Nat) (f fw ls i : Int) (o6 o7 : Option AV), g 4 0 - i < (m : Int) → 0 ≤ i → i ≤ g 4 0 → 0 ≤ fw → fw ≤ 8 → 0 ≤ ls → ls ≤ 60 → f = bestI g p i → (f = -1 ∨ (fw = irG g p (g 5 f) ∧ ls = loadG g f)) → J 10 [some (vr q), some (vi p), some (vi f), some (vi fw), some (vi ls), some (vi i), o6, o7] [] h 0 0 by
    exact LOOP ((g 4 0).toNat + 1) (-1) 0 0 0 _ _ (by omega) (by omega) (by omega) (by omega) (by omega) (by omega) (by omega) rfl (Or.inl rfl)
  intro m
  induction m with
  | zero => intro f fw ls i o6 o7 hm hi0 hi1 hw0 hw1 hl0 hl1 hf hfl; exact absurd hm (by omega)
  | succ m ih =>
    intro f fw ls i o6 o7 hm hi0 hi1 hw0 hw1 hl0 hl1 hf hfl
    refine r_iload C dX5_best_10 rfl ?_
    refine r_aload_n C dX5_best_12 (i := 0) rfl rfl ?_
    refine m_get0 C dX5_best_13 fX5_78 R rfl rfl ?_
    refine r_ic_ge C dX5_best_16 (t := 104) (by decide) (by first | assumption | exact R.rg _ _ | exact rg _ _ | (unfold inR; omega)) (by first | assumption | exact R.rg _ _ | exact rg _ _ | (unfold inR; omega)) (fun c16 => ?_) (fun c16 => ?_)
    · skip
      refine r_iload_n C dX5_best_104 (i := 2) rfl rfl ?_
      refine r_iret C dX5_best_105 (Or.inl rfl) ?_
      rw [show bestG g p = f by rw [hf, show i = g 4 0 by omega]; rfl] at k; exact k
    · skip
      have bir := ir_b B hp0 hp1 (g 5 i); have blo := load_b B i; have bfi := bestI_b g p hi0
      refine r_aload_n C dX5_best_19 (i := 0) rfl rfl ?_
      refine r_iload C dX5_best_20 rfl ?_
      refine m_V1 C dX5_best_22 sX5_131 rfl R (Nat.le_of_ble_eq_true rfl) (C_X5_isOpen R B hi0 (by omega) (fun z hz hbz => ?_))
      refine r_if_eq C dX5_best_25 (t := 98) (by decide) (by first | assumption | exact R.rg _ _ | exact rg _ _ | (unfold inR; omega)) (fun c25 => ?_) (fun c25 => ?_)
      · skip
        have hop := hbz.f c25
        refine r_iinc C dX5_best_98 rfl ?_
        dsimp only [List.set]
        refine r_goto C dX5_best_101 (t := 10) (by decide) ?_
        first
          | exact ih _ _ _ _ _ _ (by omega) (by omega) (by omega) hw0 hw1 hl0 hl1 (by rw [bestI_s _ _ hi0, if_neg (fun z => hop z.1)]; exact hf) hfl
          | exact ih _ _ _ _ _ _ (by omega) (by omega) (by omega) hw0 hw1 hl0 hl1 (by rw [bestI_s _ _ hi0, if_neg (fun z => c39 z.2.1)]; exact hf) hfl
          | exact ih _ _ _ _ _ _ (by omega) (by omega) (by omega) (by omega) (by omega) (by omega) (by omega) (by rw [bestI_s _ _ hi0, if_pos ⟨hop, c39, Or.inl (by omega)⟩]) (Or.inr ⟨rfl, rfl⟩)
          | exact ih _ _ _ _ _ _ (by omega) (by omega) (by omega) (by omega) (by omega) (by omega) (by omega) (by rw [bestI_s _ _ hi0, if_pos ⟨hop, c39, Or.inr (by have hz := hfl.resolve_left c66; rw [← hf]; show _ < _ ∨ (_ = _ ∧ _ < _); rw [← hz.1, ← hz.2]; omega)⟩]) (Or.inr ⟨rfl, rfl⟩)
          | exact ih _ _ _ _ _ _ (by omega) (by omega) (by omega) hw0 hw1 hl0 hl1 (by rw [bestI_s _ _ hi0, if_neg (fun z => by have hz := hfl.resolve_left c66; have y := z.2.2; rw [← hf] at y; have y3 : irG g p (g 5 i) < irG g p (g 5 f) ∨ (irG g p (g 5 i) = irG g p (g 5 f) ∧ loadG g i < loadG g f) := y.resolve_left c66; rw [← hz.1, ← hz.2] at y3; omega)]; exact hf) hfl
      · skip
        have hop := hbz.t c25
        refine r_aload_n C dX5_best_28 (i := 0) rfl rfl ?_
        refine m_getA C dX5_best_29 fX5_51 R (by decide) rfl ?_
        refine r_iload C dX5_best_32 rfl ?_
        refine r_iload_n C dX5_best_34 (i := 1) rfl rfl ?_
        refine r_S2 C dX5_best_35 sX5_104 (Nat.le_of_ble_eq_true rfl) (C_X5_at ?_)
        refine m_iald C dX5_best_38 R (N := 480) rfl (by decide) rfl (by omega) (by omega) (by omega) ?_
        refine r_if_ne C dX5_best_39 (t := 98) (by decide) (by first | assumption | exact R.rg _ _ | exact rg _ _ | (unfold inR; omega)) (fun c39 => ?_) (fun c39 => ?_)
        · skip
          refine r_iinc C dX5_best_98 rfl ?_
          dsimp only [List.set]
          refine r_goto C dX5_best_101 (t := 10) (by decide) ?_
          first
            | exact ih _ _ _ _ _ _ (by omega) (by omega) (by omega) hw0 hw1 hl0 hl1 (by rw [bestI_s _ _ hi0, if_neg (fun z => hop z.1)]; exact hf) hfl
            | exact ih _ _ _ _ _ _ (by omega) (by omega) (by omega) hw0 hw1 hl0 hl1 (by rw [bestI_s _ _ hi0, if_neg (fun z => c39 z.2.1)]; exact hf) hfl
            | exact ih _ _ _ _ _ _ (by omega) (by omega) (by omega) (by omega) (by omega) (by omega) (by omega) (by rw [bestI_s _ _ hi0, if_pos ⟨hop, c39, Or.inl (by omega)⟩]) (Or.inr ⟨rfl, rfl⟩)
            | exact ih _ _ _ _ _ _ (by omega) (by omega) (by omega) (by omega) (by omega) (by omega) (by omega) (by rw [bestI_s _ _ hi0, if_pos ⟨hop, c39, Or.inr (by have hz := hfl.resolve_left c66; rw [← hf]; show _ < _ ∨ (_ = _ ∧ _ < _); rw [← hz.1, ← hz.2]; omega)⟩]) (Or.inr ⟨rfl, rfl⟩)
            | exact ih _ _ _ _ _ _ (by omega) (by omega) (by omega) hw0 hw1 hl0 hl1 (by rw [bestI_s _ _ hi0, if_neg (fun z => by have hz := hfl.resolve_left c66; have y := z.2.2; rw [← hf] at y; have y3 : irG g p (g 5 i) < irG g p (g 5 f) ∨ (irG g p (g 5 i) = irG g p (g 5 f) ∧ loadG g i < loadG g f) := y.resolve_left c66; rw [← hz.1, ← hz.2] at y3; omega)]; exact hf) hfl
        · skip
          refine r_aload_n C dX5_best_42 (i := 0) rfl rfl ?_
          refine r_iload_n C dX5_best_43 (i := 1) rfl rfl ?_
          refine r_aload_n C dX5_best_44 (i := 0) rfl rfl ?_
          refine m_getA C dX5_best_45 fX5_13 R (by decide) rfl ?_
          refine r_iload C dX5_best_48 rfl ?_
          refine m_iald C dX5_best_50 R (N := 8) rfl (by decide) rfl (by omega) (by omega) (by omega) ?_
          refine m_V2 C dX5_best_51 sX5_134 rfl R (Nat.le_of_ble_eq_true rfl) (C_X5_inRack R B hp0 hp1 (R.rg _ _) ?_)
          refine r_istore C dX5_best_54 (Nat.le_of_ble_eq_true rfl) ?_
          dsimp only [List.set]
          refine r_aload_n C dX5_best_56 (i := 0) rfl rfl ?_
          refine r_iload C dX5_best_57 rfl ?_
          refine m_V1 C dX5_best_59 sX5_127 rfl R (Nat.le_of_ble_eq_true rfl) (C_X5_loadOf R B hi0 (by omega) ?_)
          refine r_istore C dX5_best_62 (Nat.le_of_ble_eq_true rfl) ?_
          dsimp only [List.set]
          refine r_iload_n C dX5_best_64 (i := 2) rfl rfl ?_
          refine r_iconst C dX5_best_65 ?_
          refine r_ic_eq C dX5_best_66 (t := 88) (by decide) (by first | assumption | exact R.rg _ _ | exact rg _ _ | (unfold inR; omega)) (by first | assumption | exact R.rg _ _ | exact rg _ _ | (unfold inR; omega)) (fun c66 => ?_) (fun c66 => ?_)
          · skip
            refine r_iload C dX5_best_88 rfl ?_
            refine r_istore_n C dX5_best_90 (i := 2) rfl (Nat.le_of_ble_eq_true rfl) ?_
            dsimp only [List.set]
            refine r_iload C dX5_best_91 rfl ?_
            refine r_istore_n C dX5_best_93 (i := 3) rfl (Nat.le_of_ble_eq_true rfl) ?_
            dsimp only [List.set]
            refine r_iload C dX5_best_94 rfl ?_
            refine r_istore C dX5_best_96 (Nat.le_of_ble_eq_true rfl) ?_
            dsimp only [List.set]
            refine r_iinc C dX5_best_98 rfl ?_
            dsimp only [List.set]
            refine r_goto C dX5_best_101 (t := 10) (by decide) ?_
            first
              | exact ih _ _ _ _ _ _ (by omega) (by omega) (by omega) hw0 hw1 hl0 hl1 (by rw [bestI_s _ _ hi0, if_neg (fun z => hop z.1)]; exact hf) hfl
              | exact ih _ _ _ _ _ _ (by omega) (by omega) (by omega) hw0 hw1 hl0 hl1 (by rw [bestI_s _ _ hi0, if_neg (fun z => c39 z.2.1)]; exact hf) hfl
              | exact ih _ _ _ _ _ _ (by omega) (by omega) (by omega) (by omega) (by omega) (by omega) (by omega) (by rw [bestI_s _ _ hi0, if_pos ⟨hop, c39, Or.inl (by omega)⟩]) (Or.inr ⟨rfl, rfl⟩)
              | exact ih _ _ _ _ _ _ (by omega) (by omega) (by omega) (by omega) (by omega) (by omega) (by omega) (by rw [bestI_s _ _ hi0, if_pos ⟨hop, c39, Or.inr (by have hz := hfl.resolve_left c66; rw [← hf]; show _ < _ ∨ (_ = _ ∧ _ < _); rw [← hz.1, ← hz.2]; omega)⟩]) (Or.inr ⟨rfl, rfl⟩)
              | exact ih _ _ _ _ _ _ (by omega) (by omega) (by omega) hw0 hw1 hl0 hl1 (by rw [bestI_s _ _ hi0, if_neg (fun z => by have hz := hfl.resolve_left c66; have y := z.2.2; rw [← hf] at y; have y3 : irG g p (g 5 i) < irG g p (g 5 f) ∨ (irG g p (g 5 i) = irG g p (g 5 f) ∧ loadG g i < loadG g f) := y.resolve_left c66; rw [← hz.1, ← hz.2] at y3; omega)]; exact hf) hfl
          · skip
            refine r_iload C dX5_best_69 rfl ?_
            refine r_iload_n C dX5_best_71 (i := 3) rfl rfl ?_
            refine r_ic_lt C dX5_best_72 (t := 88) (by decide) (by first | assumption | exact R.rg _ _ | exact rg _ _ | (unfold inR; omega)) (by first | assumption | exact R.rg _ _ | exact rg _ _ | (unfold inR; omega)) (fun c72 => ?_) (fun c72 => ?_)
            · skip
              refine r_iload C dX5_best_88 rfl ?_
              refine r_istore_n C dX5_best_90 (i := 2) rfl (Nat.le_of_ble_eq_true rfl) ?_
              dsimp only [List.set]
              refine r_iload C dX5_best_91 rfl ?_
              refine r_istore_n C dX5_best_93 (i := 3) rfl (Nat.le_of_ble_eq_true rfl) ?_
              dsimp only [List.set]
              refine r_iload C dX5_best_94 rfl ?_
              refine r_istore C dX5_best_96 (Nat.le_of_ble_eq_true rfl) ?_
              dsimp only [List.set]
              refine r_iinc C dX5_best_98 rfl ?_
              dsimp only [List.set]
              refine r_goto C dX5_best_101 (t := 10) (by decide) ?_
              first
                | exact ih _ _ _ _ _ _ (by omega) (by omega) (by omega) hw0 hw1 hl0 hl1 (by rw [bestI_s _ _ hi0, if_neg (fun z => hop z.1)]; exact hf) hfl
                | exact ih _ _ _ _ _ _ (by omega) (by omega) (by omega) hw0 hw1 hl0 hl1 (by rw [bestI_s _ _ hi0, if_neg (fun z => c39 z.2.1)]; exact hf) hfl
                | exact ih _ _ _ _ _ _ (by omega) (by omega) (by omega) (by omega) (by omega) (by omega) (by omega) (by rw [bestI_s _ _ hi0, if_pos ⟨hop, c39, Or.inl (by omega)⟩]) (Or.inr ⟨rfl, rfl⟩)
                | exact ih _ _ _ _ _ _ (by omega) (by omega) (by omega) (by omega) (by omega) (by omega) (by omega) (by rw [bestI_s _ _ hi0, if_pos ⟨hop, c39, Or.inr (by have hz := hfl.resolve_left c66; rw [← hf]; show _ < _ ∨ (_ = _ ∧ _ < _); rw [← hz.1, ← hz.2]; omega)⟩]) (Or.inr ⟨rfl, rfl⟩)
                | exact ih _ _ _ _ _ _ (by omega) (by omega) (by omega) hw0 hw1 hl0 hl1 (by rw [bestI_s _ _ hi0, if_neg (fun z => by have hz := hfl.resolve_left c66; have y := z.2.2; rw [← hf] at y; have y3 : irG g p (g 5 i) < irG g p (g 5 f) ∨ (irG g p (g 5 i) = irG g p (g 5 f) ∧ loadG g i < loadG g f) := y.resolve_left c66; rw [← hz.1, ← hz.2] at y3; omega)]; exact hf) hfl
            · skip
              refine r_iload C dX5_best_75 rfl ?_
              refine r_iload_n C dX5_best_77 (i := 3) rfl rfl ?_
              refine r_ic_ne C dX5_best_78 (t := 98) (by decide) (by first | assumption | exact R.rg _ _ | exact rg _ _ | (unfold inR; omega)) (by first | assumption | exact R.rg _ _ | exact rg _ _ | (unfold inR; omega)) (fun c78 => ?_) (fun c78 => ?_)
              · skip
                refine r_iinc C dX5_best_98 rfl ?_
                dsimp only [List.set]
                refine r_goto C dX5_best_101 (t := 10) (by decide) ?_
                first
                  | exact ih _ _ _ _ _ _ (by omega) (by omega) (by omega) hw0 hw1 hl0 hl1 (by rw [bestI_s _ _ hi0, if_neg (fun z => hop z.1)]; exact hf) hfl
                  | exact ih _ _ _ _ _ _ (by omega) (by omega) (by omega) hw0 hw1 hl0 hl1 (by rw [bestI_s _ _ hi0, if_neg (fun z => c39 z.2.1)]; exact hf) hfl
                  | exact ih _ _ _ _ _ _ (by omega) (by omega) (by omega) (by omega) (by omega) (by omega) (by omega) (by rw [bestI_s _ _ hi0, if_pos ⟨hop, c39, Or.inl (by omega)⟩]) (Or.inr ⟨rfl, rfl⟩)
                  | exact ih _ _ _ _ _ _ (by omega) (by omega) (by omega) (by omega) (by omega) (by omega) (by omega) (by rw [bestI_s _ _ hi0, if_pos ⟨hop, c39, Or.inr (by have hz := hfl.resolve_left c66; rw [← hf]; show _ < _ ∨ (_ = _ ∧ _ < _); rw [← hz.1, ← hz.2]; omega)⟩]) (Or.inr ⟨rfl, rfl⟩)
                  | exact ih _ _ _ _ _ _ (by omega) (by omega) (by omega) hw0 hw1 hl0 hl1 (by rw [bestI_s _ _ hi0, if_neg (fun z => by have hz := hfl.resolve_left c66; have y := z.2.2; rw [← hf] at y; have y3 : irG g p (g 5 i) < irG g p (g 5 f) ∨ (irG g p (g 5 i) = irG g p (g 5 f) ∧ loadG g i < loadG g f) := y.resolve_left c66; rw [← hz.1, ← hz.2] at y3; omega)]; exact hf) hfl
              · skip
                refine r_iload C dX5_best_81 rfl ?_
                refine r_iload C dX5_best_83 rfl ?_
                refine r_ic_ge C dX5_best_85 (t := 98) (by decide) (by first | assumption | exact R.rg _ _ | exact rg _ _ | (unfold inR; omega)) (by first | assumption | exact R.rg _ _ | exact rg _ _ | (unfold inR; omega)) (fun c85 => ?_) (fun c85 => ?_)
                · skip
                  refine r_iinc C dX5_best_98 rfl ?_
                  dsimp only [List.set]
                  refine r_goto C dX5_best_101 (t := 10) (by decide) ?_
                  first
                    | exact ih _ _ _ _ _ _ (by omega) (by omega) (by omega) hw0 hw1 hl0 hl1 (by rw [bestI_s _ _ hi0, if_neg (fun z => hop z.1)]; exact hf) hfl
                    | exact ih _ _ _ _ _ _ (by omega) (by omega) (by omega) hw0 hw1 hl0 hl1 (by rw [bestI_s _ _ hi0, if_neg (fun z => c39 z.2.1)]; exact hf) hfl
                    | exact ih _ _ _ _ _ _ (by omega) (by omega) (by omega) (by omega) (by omega) (by omega) (by omega) (by rw [bestI_s _ _ hi0, if_pos ⟨hop, c39, Or.inl (by omega)⟩]) (Or.inr ⟨rfl, rfl⟩)
                    | exact ih _ _ _ _ _ _ (by omega) (by omega) (by omega) (by omega) (by omega) (by omega) (by omega) (by rw [bestI_s _ _ hi0, if_pos ⟨hop, c39, Or.inr (by have hz := hfl.resolve_left c66; rw [← hf]; show _ < _ ∨ (_ = _ ∧ _ < _); rw [← hz.1, ← hz.2]; omega)⟩]) (Or.inr ⟨rfl, rfl⟩)
                    | exact ih _ _ _ _ _ _ (by omega) (by omega) (by omega) hw0 hw1 hl0 hl1 (by rw [bestI_s _ _ hi0, if_neg (fun z => by have hz := hfl.resolve_left c66; have y := z.2.2; rw [← hf] at y; have y3 : irG g p (g 5 i) < irG g p (g 5 f) ∨ (irG g p (g 5 i) = irG g p (g 5 f) ∧ loadG g i < loadG g f) := y.resolve_left c66; rw [← hz.1, ← hz.2] at y3; omega)]; exact hf) hfl
                · skip
                  refine r_iload C dX5_best_88 rfl ?_
                  refine r_istore_n C dX5_best_90 (i := 2) rfl (Nat.le_of_ble_eq_true rfl) ?_
                  dsimp only [List.set]
                  refine r_iload C dX5_best_91 rfl ?_
                  refine r_istore_n C dX5_best_93 (i := 3) rfl (Nat.le_of_ble_eq_true rfl) ?_
                  dsimp only [List.set]
                  refine r_iload C dX5_best_94 rfl ?_
                  refine r_istore C dX5_best_96 (Nat.le_of_ble_eq_true rfl) ?_
                  dsimp only [List.set]
                  refine r_iinc C dX5_best_98 rfl ?_
                  dsimp only [List.set]
                  refine r_goto C dX5_best_101 (t := 10) (by decide) ?_
                  first
                    | exact ih _ _ _ _ _ _ (by omega) (by omega) (by omega) hw0 hw1 hl0 hl1 (by rw [bestI_s _ _ hi0, if_neg (fun z => hop z.1)]; exact hf) hfl
                    | exact ih _ _ _ _ _ _ (by omega) (by omega) (by omega) hw0 hw1 hl0 hl1 (by rw [bestI_s _ _ hi0, if_neg (fun z => c39 z.2.1)]; exact hf) hfl
                    | exact ih _ _ _ _ _ _ (by omega) (by omega) (by omega) (by omega) (by omega) (by omega) (by omega) (by rw [bestI_s _ _ hi0, if_pos ⟨hop, c39, Or.inl (by omega)⟩]) (Or.inr ⟨rfl, rfl⟩)
                    | exact ih _ _ _ _ _ _ (by omega) (by omega) (by omega) (by omega) (by omega) (by omega) (by omega) (by rw [bestI_s _ _ hi0, if_pos ⟨hop, c39, Or.inr (by have hz := hfl.resolve_left c66; rw [← hf]; show _ < _ ∨ (_ = _ ∧ _ < _); rw [← hz.1, ← hz.2]; omega)⟩]) (Or.inr ⟨rfl, rfl⟩)
                    | exact ih _ _ _ _ _ _ (by omega) (by omega) (by omega) hw0 hw1 hl0 hl1 (by rw [bestI_s _ _ hi0, if_neg (fun z => by have hz := hfl.resolve_left c66; have y := z.2.2; rw [← hf] at y; have y3 : irG g p (g 5 i) < irG g p (g 5 f) ∨ (irG g p (g 5 i) = irG g p (g 5 f) ∧ loadG g i < loadG g f) := y.resolve_left c66; rw [← hz.1, ← hz.2] at y3; omega)]; exact hf) hfl

