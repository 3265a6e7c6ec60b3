/-! ===== the class: choosing ===== -/
set_option maxRecDepth 100000 in
set_option maxHeartbeats 4000000 in
theorem C_X4_firstSoundCopy {gx : GX} {d : Nat} {Qr : Option AV → Hp → Prop} {Qx : String → Hp → Prop} {x : Nat} {A : Nat → Int → Nat} {u : GT} {m : Int} {g : GT} {h : Hp} {p : Int} (Z : Rd gx x A u m g h) (p0 : 0 ≤ p) (p1 : p < g 11 0) (KS : ∀ n i, n = fgG g p 1 → 0 ≤ n → n < g 4 0 → 0 ≤ i → i < g 6 n → u 0 (12 * n + i) = p → Qr (some (vr (A 2 (12 * n + i)))) h) (KN : fgG g p 1 = -1 → Qr (some vn) h) : aM gx (d + 4) mX4_firstSoundCopy [vr (A 4 p)] h 0 0 Qr Qx := by
  intro J C
  show J 0 [some (vr (A 4 p)), none, none, none] [] h 0 0
  have R := Z.1; have I := Z.2.1; have Ci := Z.2.2.1; have Nn := Z.2.2.2; have B := I.1; have b1 := B.nn; have b2 := B.np; have bcp := B.cp p p0 p1; have vp := I.2.2.2.2 p p0 p1
  refine r_iconst C dX4_firstSoundCopy_0 ?_
  refine r_istore_n C dX4_firstSoundCopy_1 (i := 1) rfl (Nat.le_of_ble_eq_true rfl) ?_
  dsimp only [List.set]
  suffices LOOP : ∀ (m9 : Nat) (i : Int) (y z : Option AV), g 16 p - i < (m9 : Int) → 0 ≤ i → i ≤ g 16 p → (∀ j, 0 ≤ j → j < i → decide (goodP g p (g 17 (8 * p + j)) ∧ ((1 : Int) = 0 ∨ g 21 (60 * g 17 (8 * p + j) + p) = 0)) = false) → J 2 [some (vr (A 4 p)), some (vi i), y, z] [] h 0 0 by
    exact LOOP ((g 16 p).toNat + 1) 0 _ _ (by omega) (by omega) (by omega) all_0
  intro m9
  induction m9 with
  | zero => intro i y z hm9 i0 i1 al; exact absurd hm9 (by omega)
  | succ m9 ih9 =>
    intro i y z hm9 i0 i1 al
    refine r_iload_n C dX4_firstSoundCopy_2 (i := 1) rfl rfl ?_
    refine r_aload_n C dX4_firstSoundCopy_3 (i := 0) rfl rfl ?_
    refine c_4_6 C dX4_firstSoundCopy_4 fX4_184 R (by omega) (by omega) ?_
    refine c_szH C dX4_firstSoundCopy_7 sX4_44 R (by omega) (by omega) (Nat.le_of_ble_eq_true rfl) ?_
    refine r_ic_ge C dX4_firstSoundCopy_10 (t := 58) (by decide) (by first | assumption | exact R.rg _ _ | exact R.ru _ _ | (unfold inR; omega)) (by first | assumption | exact R.rg _ _ | exact R.ru _ _ | (unfold inR; omega)) (fun c10 => ?_) (fun c10 => ?_)
    · skip
      refine r_anull C dX4_firstSoundCopy_58 ?_
      refine r_aret C dX4_firstSoundCopy_59 rfl rfl ?_
      exact KN (pick_none (fun j a b => al j a (by omega)))
    · skip
      have bcy := B.cy p i p0 p1 i0 c10
      refine r_aload_n C dX4_firstSoundCopy_13 (i := 0) rfl rfl ?_
      refine c_4_6 C dX4_firstSoundCopy_14 fX4_184 R (by omega) (by omega) ?_
      refine r_iload_n C dX4_firstSoundCopy_17 (i := 1) rfl rfl ?_
      refine c_gtH C dX4_firstSoundCopy_18 sX4_127 R (by omega) (by omega) (by omega) (by omega) (Nat.le_of_ble_eq_true rfl) ?_
      obtain ⟨n, en⟩ : ∃ n, n = g 17 (8 * p + i) := ⟨_, rfl⟩
      rw [← en] at bcy ⊢
      refine c_castN C dX4_firstSoundCopy_21 kX4_53 R (by omega) (by omega) ?_
      refine r_astore_n C dX4_firstSoundCopy_24 (i := 2) rfl (Nat.le_of_ble_eq_true rfl) ?_
      dsimp only [List.set]
      refine r_aload_n C dX4_firstSoundCopy_25 (i := 2) rfl rfl ?_
      refine r_aload_n C dX4_firstSoundCopy_26 (i := 0) rfl rfl ?_
      refine c_VN1 C dX4_firstSoundCopy_27 sX4_82 rfl R (by omega) (by omega) rfl (Nat.le_of_ble_eq_true rfl) 0 0 (Nat.zero_le _) (Nat.zero_le _) (C_X2_copyOfP R bcy.1 bcy.2 p0 p1 (fun j j0 j1 hu => ?_) (fun no => ?_))
      · skip
        refine r_astore_n C dX4_firstSoundCopy_30 (i := 3) rfl (Nat.le_of_ble_eq_true rfl) ?_
        dsimp only [List.set]
        refine r_aload_n C dX4_firstSoundCopy_31 (i := 3) rfl rfl ?_
        refine r_ifnull C dX4_firstSoundCopy_32 (t := 52) (by decide) (fun c32 => ?_) (fun a32 c32 => ?_)
        · skip
          cases c32
        · skip
          refine r_aload_n C dX4_firstSoundCopy_35 (i := 3) rfl rfl ?_
          refine c_1_3 C dX4_firstSoundCopy_36 fX4_214 R (by omega) (by omega) (by omega) (by omega) hu (by omega) ?_
          refine r_if_ne C dX4_firstSoundCopy_39 (t := 52) (by decide) (by first | assumption | exact R.rg _ _ | exact R.ru _ _ | (unfold inR; omega)) (fun c39 => ?_) (fun c39 => ?_)
          · skip
            refine r_iinc C dX4_firstSoundCopy_52 rfl ?_
            dsimp only [List.set]
            refine r_goto C dX4_firstSoundCopy_55 (t := 2) (by decide) ?_
            exact ih9 _ _ _ (by omega) (by omega) (by omega) (all_s al (decide_eq_false (fun z => by
              rw [← en] at z
              first
                | exact hgd z.1
                | (have z1 := z.1.2; omega)
                | (rcases z.2 with z2 | z2 <;> omega))))
          · skip
            refine r_aload_n C dX4_firstSoundCopy_42 (i := 2) rfl rfl ?_
            refine r_aload_n C dX4_firstSoundCopy_43 (i := 0) rfl rfl ?_
            refine c_S2 C dX4_firstSoundCopy_44 sX4_257 rfl rfl (Nat.le_of_ble_eq_true rfl) 0 0 (Nat.zero_le _) (Nat.zero_le _) (C_X4_isGood Z bcy.1 bcy.2 p0 p1 (fun z hz hb => ?_))
            refine r_if_eq C dX4_firstSoundCopy_47 (t := 52) (by decide) (by first | assumption | exact R.rg _ _ | exact R.ru _ _ | (unfold inR; omega)) (fun c47 => ?_) (fun c47 => ?_)
            · skip
              have hgd := hb.f c47
              refine r_iinc C dX4_firstSoundCopy_52 rfl ?_
              dsimp only [List.set]
              refine r_goto C dX4_firstSoundCopy_55 (t := 2) (by decide) ?_
              exact ih9 _ _ _ (by omega) (by omega) (by omega) (all_s al (decide_eq_false (fun z => by
                rw [← en] at z
                first
                  | exact hgd z.1
                  | (have z1 := z.1.2; omega)
                  | (rcases z.2 with z2 | z2 <;> omega))))
            · skip
              have hgd := hb.t c47
              refine r_aload_n C dX4_firstSoundCopy_50 (i := 3) rfl rfl ?_
              refine r_aret C dX4_firstSoundCopy_51 rfl rfl ?_
              exact KS n j (by rw [show fgG g p 1 = _ from pick_hit i0 c10 (decide_eq_true (by rw [← en]; exact ⟨hgd, Or.inr (by omega)⟩)) al, en]) bcy.1 bcy.2 j0 j1 hu
      · skip
        have hz0 := Ci.no Nn bcy.1 bcy.2 p0 p1 no
        refine r_astore_n C dX4_firstSoundCopy_30 (i := 3) rfl (Nat.le_of_ble_eq_true rfl) ?_
        dsimp only [List.set]
        refine r_aload_n C dX4_firstSoundCopy_31 (i := 3) rfl rfl ?_
        refine r_ifnull C dX4_firstSoundCopy_32 (t := 52) (by decide) (fun c32 => ?_) (fun a32 c32 => ?_)
        · skip
          refine r_iinc C dX4_firstSoundCopy_52 rfl ?_
          dsimp only [List.set]
          refine r_goto C dX4_firstSoundCopy_55 (t := 2) (by decide) ?_
          exact ih9 _ _ _ (by omega) (by omega) (by omega) (all_s al (decide_eq_false (fun z => by
            rw [← en] at z
            first
              | exact hgd z.1
              | (have z1 := z.1.2; omega)
              | (rcases z.2 with z2 | z2 <;> omega))))
        · skip
          cases c32

set_option maxRecDepth 100000 in
set_option maxHeartbeats 4000000 in
theorem C_X4_isBetterPlace {gx : GX} {d : Nat} {Qr : Option AV → Hp → Prop} {Qx : String → Hp → Prop} {x : Nat} {A : Nat → Int → Nat} {u : GT} {m : Int} {g : GT} {h : Hp} {p n f : Int} (Z : Rd gx x A u m g h) (p0 : 0 ≤ p) (p1 : p < g 11 0) (n0 : 0 ≤ n) (n1 : n < g 4 0) (m0 : 0 ≤ f) (m1 : f < g 4 0) (K : ∀ z, inR z → BV z (betterP g p n f) → Qr (some (vi z)) h) : aM gx (d + 5) mX4_isBetterPlace [vr (A 4 p), vr (A 0 n), vr (A 0 f)] h 0 0 Qr Qx := by
  intro J C
  show J 0 [some (vr (A 4 p)), some (vr (A 0 n)), some (vr (A 0 f)), none, none] [] h 0 0
  have R := Z.1; have I := Z.2.1; have Ci := Z.2.2.1; have Nn := Z.2.2.2; have B := I.1; have b1 := B.nn; have b2 := B.np; have ir1 := ir_b B p0 p1 (g 5 n); have ir2 := ir_b B p0 p1 (g 5 f); have tk1 := Ci.tk n0 n1; have tk2 := Ci.tk m0 m1; have lo1 := load_b B n; have lo2 := load_b B f
  refine r_aload_n C dX4_isBetterPlace_0 (i := 0) rfl rfl ?_
  refine r_aload_n C dX4_isBetterPlace_1 (i := 1) rfl rfl ?_
  refine c_3_1 C dX4_isBetterPlace_2 fX4_233 R (by omega) (by omega) ?_
  refine c_VQ1 C dX4_isBetterPlace_5 sX4_236 rfl R (by omega) (by omega) rfl (Nat.le_of_ble_eq_true rfl) 0 0 (Nat.zero_le _) (Nat.zero_le _) (C_X3_copiesInRack Z p0 p1 (R.rg _ _) ?_)
  refine r_istore_n C dX4_isBetterPlace_8 (i := 3) rfl (Nat.le_of_ble_eq_true rfl) ?_
  dsimp only [List.set]
  refine r_aload_n C dX4_isBetterPlace_9 (i := 0) rfl rfl ?_
  refine r_aload_n C dX4_isBetterPlace_10 (i := 2) rfl rfl ?_
  refine c_3_1 C dX4_isBetterPlace_11 fX4_233 R (by omega) (by omega) ?_
  refine c_VQ1 C dX4_isBetterPlace_14 sX4_236 rfl R (by omega) (by omega) rfl (Nat.le_of_ble_eq_true rfl) 0 0 (Nat.zero_le _) (Nat.zero_le _) (C_X3_copiesInRack Z p0 p1 (R.rg _ _) ?_)
  refine r_istore C dX4_isBetterPlace_17 (Nat.le_of_ble_eq_true rfl) ?_
  dsimp only [List.set]
  refine r_iload_n C dX4_isBetterPlace_19 (i := 3) rfl rfl ?_
  refine r_iload C dX4_isBetterPlace_20 rfl ?_
  refine r_ic_eq C dX4_isBetterPlace_22 (t := 39) (by decide) (by first | assumption | exact R.rg _ _ | exact R.ru _ _ | (unfold inR; omega)) (by first | assumption | exact R.rg _ _ | exact R.ru _ _ | (unfold inR; omega)) (fun c22 => ?_) (fun c22 => ?_)
  · skip
    refine r_aload_n C dX4_isBetterPlace_39 (i := 1) rfl rfl ?_
    refine c_3_3 C dX4_isBetterPlace_40 fX4_217 R (by omega) (by omega) ?_
    refine r_aload_n C dX4_isBetterPlace_43 (i := 2) rfl rfl ?_
    refine c_3_3 C dX4_isBetterPlace_44 fX4_217 R (by omega) (by omega) ?_
    refine r_ic_ge C dX4_isBetterPlace_47 (t := 54) (by decide) (by first | assumption | exact R.rg _ _ | exact R.ru _ _ | (unfold inR; omega)) (by first | assumption | exact R.rg _ _ | exact R.ru _ _ | (unfold inR; omega)) (fun c47 => ?_) (fun c47 => ?_)
    · skip
      refine r_iconst C dX4_isBetterPlace_54 ?_
      refine r_iret C dX4_isBetterPlace_55 (Or.inr ⟨rfl, (by first | assumption | omega | decide)⟩) ?_
      first
        | exact K _ inR1 (.y (by first | exact Or.inl (by omega) | exact Or.inr ⟨by omega, by omega⟩ | omega))
        | exact K _ inR0 (.n (fun z => by
            rcases z with z | ⟨z1, z2⟩ <;> omega))
    · skip
      refine r_iconst C dX4_isBetterPlace_50 ?_
      refine r_goto C dX4_isBetterPlace_51 (t := 55) (by decide) ?_
      refine r_iret C dX4_isBetterPlace_55 (Or.inr ⟨rfl, (by first | assumption | omega | decide)⟩) ?_
      first
        | exact K _ inR1 (.y (by first | exact Or.inl (by omega) | exact Or.inr ⟨by omega, by omega⟩ | omega))
        | exact K _ inR0 (.n (fun z => by
            rcases z with z | ⟨z1, z2⟩ <;> omega))
  · skip
    refine r_iload_n C dX4_isBetterPlace_25 (i := 3) rfl rfl ?_
    refine r_iload C dX4_isBetterPlace_26 rfl ?_
    refine r_ic_ge C dX4_isBetterPlace_28 (t := 35) (by decide) (by first | assumption | exact R.rg _ _ | exact R.ru _ _ | (unfold inR; omega)) (by first | assumption | exact R.rg _ _ | exact R.ru _ _ | (unfold inR; omega)) (fun c28 => ?_) (fun c28 => ?_)
    · skip
      refine r_iconst C dX4_isBetterPlace_35 ?_
      refine r_goto C dX4_isBetterPlace_36 (t := 55) (by decide) ?_
      refine r_iret C dX4_isBetterPlace_55 (Or.inr ⟨rfl, (by first | assumption | omega | decide)⟩) ?_
      first
        | exact K _ inR1 (.y (by first | exact Or.inl (by omega) | exact Or.inr ⟨by omega, by omega⟩ | omega))
        | exact K _ inR0 (.n (fun z => by
            rcases z with z | ⟨z1, z2⟩ <;> omega))
    · skip
      refine r_iconst C dX4_isBetterPlace_31 ?_
      refine r_goto C dX4_isBetterPlace_32 (t := 55) (by decide) ?_
      refine r_iret C dX4_isBetterPlace_55 (Or.inr ⟨rfl, (by first | assumption | omega | decide)⟩) ?_
      first
        | exact K _ inR1 (.y (by first | exact Or.inl (by omega) | exact Or.inr ⟨by omega, by omega⟩ | omega))
        | exact K _ inR0 (.n (fun z => by
            rcases z with z | ⟨z1, z2⟩ <;> omega))

set_option maxRecDepth 100000 in
set_option maxHeartbeats 4000000 in
theorem C_X4_isWorsePlace {gx : GX} {d : Nat} {Qr : Option AV → Hp → Prop} {Qx : String → Hp → Prop} {x : Nat} {A : Nat → Int → Nat} {u : GT} {m : Int} {g : GT} {h : Hp} {p n f : Int} (Z : Rd gx x A u m g h) (p0 : 0 ≤ p) (p1 : p < g 11 0) (n0 : 0 ≤ n) (n1 : n < g 4 0) (m0 : 0 ≤ f) (m1 : f < g 4 0) (K : ∀ z, inR z → BV z (worseP g p n f) → Qr (some (vi z)) h) : aM gx (d + 5) mX4_isWorsePlace [vr (A 4 p), vr (A 0 n), vr (A 0 f)] h 0 0 Qr Qx := by
  intro J C
  show J 0 [some (vr (A 4 p)), some (vr (A 0 n)), some (vr (A 0 f)), none, none] [] h 0 0
  have R := Z.1; have I := Z.2.1; have Ci := Z.2.2.1; have Nn := Z.2.2.2; have B := I.1; have b1 := B.nn; have b2 := B.np; have ir1 := ir_b B p0 p1 (g 5 n); have ir2 := ir_b B p0 p1 (g 5 f); have tk1 := Ci.tk n0 n1; have tk2 := Ci.tk m0 m1; have lo1 := load_b B n; have lo2 := load_b B f
  refine r_aload_n C dX4_isWorsePlace_0 (i := 0) rfl rfl ?_
  refine r_aload_n C dX4_isWorsePlace_1 (i := 1) rfl rfl ?_
  refine c_3_1 C dX4_isWorsePlace_2 fX4_233 R (by omega) (by omega) ?_
  refine c_VQ1 C dX4_isWorsePlace_5 sX4_236 rfl R (by omega) (by omega) rfl (Nat.le_of_ble_eq_true rfl) 0 0 (Nat.zero_le _) (Nat.zero_le _) (C_X3_copiesInRack Z p0 p1 (R.rg _ _) ?_)
  refine r_istore_n C dX4_isWorsePlace_8 (i := 3) rfl (Nat.le_of_ble_eq_true rfl) ?_
  dsimp only [List.set]
  refine r_aload_n C dX4_isWorsePlace_9 (i := 0) rfl rfl ?_
  refine r_aload_n C dX4_isWorsePlace_10 (i := 2) rfl rfl ?_
  refine c_3_1 C dX4_isWorsePlace_11 fX4_233 R (by omega) (by omega) ?_
  refine c_VQ1 C dX4_isWorsePlace_14 sX4_236 rfl R (by omega) (by omega) rfl (Nat.le_of_ble_eq_true rfl) 0 0 (Nat.zero_le _) (Nat.zero_le _) (C_X3_copiesInRack Z p0 p1 (R.rg _ _) ?_)
  refine r_istore C dX4_isWorsePlace_17 (Nat.le_of_ble_eq_true rfl) ?_
  dsimp only [List.set]
  refine r_iload_n C dX4_isWorsePlace_19 (i := 3) rfl rfl ?_
  refine r_iload C dX4_isWorsePlace_20 rfl ?_
  refine r_ic_eq C dX4_isWorsePlace_22 (t := 37) (by decide) (by first | assumption | exact R.rg _ _ | exact R.ru _ _ | (unfold inR; omega)) (by first | assumption | exact R.rg _ _ | exact R.ru _ _ | (unfold inR; omega)) (fun c22 => ?_) (fun c22 => ?_)
  · skip
    refine r_aload_n C dX4_isWorsePlace_37 (i := 1) rfl rfl ?_
    refine c_3_3 C dX4_isWorsePlace_38 fX4_217 R (by omega) (by omega) ?_
    refine r_aload_n C dX4_isWorsePlace_41 (i := 2) rfl rfl ?_
    refine c_3_3 C dX4_isWorsePlace_42 fX4_217 R (by omega) (by omega) ?_
    refine r_ic_eq C dX4_isWorsePlace_45 (t := 67) (by decide) (by first | assumption | exact R.rg _ _ | exact R.ru _ _ | (unfold inR; omega)) (by first | assumption | exact R.rg _ _ | exact R.ru _ _ | (unfold inR; omega)) (fun c45 => ?_) (fun c45 => ?_)
    · skip
      refine r_aload_n C dX4_isWorsePlace_67 (i := 1) rfl rfl ?_
      refine c_3_0 C dX4_isWorsePlace_68 fX4_62 R (by omega) (by omega) ?_
      refine r_aload_n C dX4_isWorsePlace_71 (i := 2) rfl rfl ?_
      refine c_3_0 C dX4_isWorsePlace_72 fX4_62 R (by omega) (by omega) ?_
      refine r_ic_le C dX4_isWorsePlace_75 (t := 82) (by decide) (by first | assumption | exact R.rg _ _ | exact R.ru _ _ | (unfold inR; omega)) (by first | assumption | exact R.rg _ _ | exact R.ru _ _ | (unfold inR; omega)) (fun c75 => ?_) (fun c75 => ?_)
      · skip
        refine r_iconst C dX4_isWorsePlace_82 ?_
        refine r_iret C dX4_isWorsePlace_83 (Or.inr ⟨rfl, (by first | assumption | omega | decide)⟩) ?_
        first
          | exact K _ inR1 (.y (by first | exact Or.inl (by omega) | exact Or.inr ⟨by omega, Or.inl (by omega)⟩ | exact Or.inr ⟨by omega, Or.inr ⟨by omega, by omega⟩⟩))
          | exact K _ inR0 (.n (fun z => by
              rcases z with z | ⟨z1, z2 | ⟨z3, z4⟩⟩ <;> omega))
      · skip
        refine r_iconst C dX4_isWorsePlace_78 ?_
        refine r_goto C dX4_isWorsePlace_79 (t := 83) (by decide) ?_
        refine r_iret C dX4_isWorsePlace_83 (Or.inr ⟨rfl, (by first | assumption | omega | decide)⟩) ?_
        first
          | exact K _ inR1 (.y (by first | exact Or.inl (by omega) | exact Or.inr ⟨by omega, Or.inl (by omega)⟩ | exact Or.inr ⟨by omega, Or.inr ⟨by omega, by omega⟩⟩))
          | exact K _ inR0 (.n (fun z => by
              rcases z with z | ⟨z1, z2 | ⟨z3, z4⟩⟩ <;> omega))
    · skip
      refine r_aload_n C dX4_isWorsePlace_48 (i := 1) rfl rfl ?_
      refine c_3_3 C dX4_isWorsePlace_49 fX4_217 R (by omega) (by omega) ?_
      refine r_aload_n C dX4_isWorsePlace_52 (i := 2) rfl rfl ?_
      refine c_3_3 C dX4_isWorsePlace_53 fX4_217 R (by omega) (by omega) ?_
      refine r_ic_le C dX4_isWorsePlace_56 (t := 63) (by decide) (by first | assumption | exact R.rg _ _ | exact R.ru _ _ | (unfold inR; omega)) (by first | assumption | exact R.rg _ _ | exact R.ru _ _ | (unfold inR; omega)) (fun c56 => ?_) (fun c56 => ?_)
      · skip
        refine r_iconst C dX4_isWorsePlace_63 ?_
        refine r_goto C dX4_isWorsePlace_64 (t := 83) (by decide) ?_
        refine r_iret C dX4_isWorsePlace_83 (Or.inr ⟨rfl, (by first | assumption | omega | decide)⟩) ?_
        first
          | exact K _ inR1 (.y (by first | exact Or.inl (by omega) | exact Or.inr ⟨by omega, Or.inl (by omega)⟩ | exact Or.inr ⟨by omega, Or.inr ⟨by omega, by omega⟩⟩))
          | exact K _ inR0 (.n (fun z => by
              rcases z with z | ⟨z1, z2 | ⟨z3, z4⟩⟩ <;> omega))
      · skip
        refine r_iconst C dX4_isWorsePlace_59 ?_
        refine r_goto C dX4_isWorsePlace_60 (t := 83) (by decide) ?_
        refine r_iret C dX4_isWorsePlace_83 (Or.inr ⟨rfl, (by first | assumption | omega | decide)⟩) ?_
        first
          | exact K _ inR1 (.y (by first | exact Or.inl (by omega) | exact Or.inr ⟨by omega, Or.inl (by omega)⟩ | exact Or.inr ⟨by omega, Or.inr ⟨by omega, by omega⟩⟩))
          | exact K _ inR0 (.n (fun z => by
              rcases z with z | ⟨z1, z2 | ⟨z3, z4⟩⟩ <;> omega))
  · skip
    refine r_iload_n C dX4_isWorsePlace_25 (i := 3) rfl rfl ?_
    refine r_iload C dX4_isWorsePlace_26 rfl ?_
    refine r_ic_le C dX4_isWorsePlace_28 (t := 35) (by decide) (by first | assumption | exact R.rg _ _ | exact R.ru _ _ | (unfold inR; omega)) (by first | assumption | exact R.rg _ _ | exact R.ru _ _ | (unfold inR; omega)) (fun c28 => ?_) (fun c28 => ?_)
    · skip
      refine r_iconst C dX4_isWorsePlace_35 ?_
      refine r_iret C dX4_isWorsePlace_36 (Or.inr ⟨rfl, (by first | assumption | omega | decide)⟩) ?_
      first
        | exact K _ inR1 (.y (by first | exact Or.inl (by omega) | exact Or.inr ⟨by omega, Or.inl (by omega)⟩ | exact Or.inr ⟨by omega, Or.inr ⟨by omega, by omega⟩⟩))
        | exact K _ inR0 (.n (fun z => by
            rcases z with z | ⟨z1, z2 | ⟨z3, z4⟩⟩ <;> omega))
    · skip
      refine r_iconst C dX4_isWorsePlace_31 ?_
      refine r_goto C dX4_isWorsePlace_32 (t := 36) (by decide) ?_
      refine r_iret C dX4_isWorsePlace_36 (Or.inr ⟨rfl, (by first | assumption | omega | decide)⟩) ?_
      first
        | exact K _ inR1 (.y (by first | exact Or.inl (by omega) | exact Or.inr ⟨by omega, Or.inl (by omega)⟩ | exact Or.inr ⟨by omega, Or.inr ⟨by omega, by omega⟩⟩))
        | exact K _ inR0 (.n (fun z => by
            rcases z with z | ⟨z1, z2 | ⟨z3, z4⟩⟩ <;> omega))

set_option maxRecDepth 100000 in
set_option maxHeartbeats 4000000 in
theorem C_X4_bestPlace {gx : GX} {d : Nat} {Qr : Option AV → Hp → Prop} {Qx : String → Hp → Prop} {x : Nat} {A : Nat → Int → Nat} {u : GT} {m : Int} {g : GT} {h : Hp} {p : Int} (Z : Rd gx x A u m g h) (p0 : 0 ≤ p) (p1 : p < g 11 0) (K : Qr (some (vq (nq A (bestG g p)))) h) : aM gx (d + 6) mX4_bestPlace [vr x, vr (A 4 p)] h 0 0 Qr Qx := by
  intro J C
  show J 0 [some (vr x), some (vr (A 4 p)), none, none, none, none] [] h 0 0
  have R := Z.1; have I := Z.2.1; have Ci := Z.2.2.1; have Nn := Z.2.2.2; have B := I.1; have b1 := B.nn; have b2 := B.np; have bcp := B.cp p p0 p1
  refine r_anull C dX4_bestPlace_0 ?_
  refine r_astore_n C dX4_bestPlace_1 (i := 2) rfl (Nat.le_of_ble_eq_true rfl) ?_
  dsimp only [List.set]
  refine r_iconst C dX4_bestPlace_2 ?_
  refine r_istore_n C dX4_bestPlace_3 (i := 3) rfl (Nat.le_of_ble_eq_true rfl) ?_
  dsimp only [List.set]
  suffices LOOP : ∀ (m9 : Nat) (f i : Int) (rr : Option Nat) (y z : Option AV), g 4 0 - i < (m9 : Int) → 0 ≤ i → i ≤ g 4 0 → rr = nq A f → f = bestI g p i → J 4 [some (vr x), some (vr (A 4 p)), some (vq rr), some (vi i), y, z] [] h 0 0 by
    exact LOOP ((g 4 0).toNat + 1) (-1) 0 _ _ _ (by omega) (by omega) (by omega) nq_0.symm rfl
  intro m9
  induction m9 with
  | zero => intro f i rr y z hm9 i0 i1 hr9 hf; exact absurd hm9 (by omega)
  | succ m9 ih9 =>
    intro f i rr y z hm9 i0 i1 hr9 hf
    refine r_iload_n C dX4_bestPlace_4 (i := 3) rfl rfl ?_
    refine r_aload_n C dX4_bestPlace_5 (i := 0) rfl rfl ?_
    refine c_5_0 C dX4_bestPlace_6 fX4_10 R  ?_
    refine c_szN C dX4_bestPlace_9 sX4_44 R  (Nat.le_of_ble_eq_true rfl) ?_
    refine r_ic_ge C dX4_bestPlace_12 (t := 96) (by decide) (by first | assumption | exact R.rg _ _ | exact R.ru _ _ | (unfold inR; omega)) (by first | assumption | exact R.rg _ _ | exact R.ru _ _ | (unfold inR; omega)) (fun c12 => ?_) (fun c12 => ?_)
    · skip
      refine r_aload_n C dX4_bestPlace_96 (i := 2) rfl rfl ?_
      refine r_aret C dX4_bestPlace_97 rfl rfl ?_
      rw [show bestG g p = f by rw [hf, show i = g 4 0 by omega]; rfl, ← hr9] at K; exact K
    · skip
      have tk := Ci.tk i0 c12; have bfi := bestI_b g p i0; have lo := load_b B i
      refine r_aload_n C dX4_bestPlace_15 (i := 0) rfl rfl ?_
      refine c_5_0 C dX4_bestPlace_16 fX4_10 R  ?_
      refine r_iload_n C dX4_bestPlace_19 (i := 3) rfl rfl ?_
      refine c_gtN C dX4_bestPlace_20 sX4_127 R  (by omega) (by omega) (Nat.le_of_ble_eq_true rfl) ?_
      refine c_castN C dX4_bestPlace_23 kX4_53 R (by omega) (by omega) ?_
      refine r_astore C dX4_bestPlace_26 (Nat.le_of_ble_eq_true rfl) ?_
      dsimp only [List.set]
      refine r_aload C dX4_bestPlace_28 rfl ?_
      refine c_3_5 C dX4_bestPlace_30 fX4_220 R (by omega) (by omega) ?_
      refine r_if_eq C dX4_bestPlace_33 (t := 65) (by decide) (by first | assumption | exact R.rg _ _ | exact R.ru _ _ | (unfold inR; omega)) (fun c33 => ?_) (fun c33 => ?_)
      · skip
        refine r_iconst C dX4_bestPlace_65 ?_
        refine r_istore C dX4_bestPlace_66 (Nat.le_of_ble_eq_true rfl) ?_
        dsimp only [List.set]
        refine r_iload C dX4_bestPlace_68 rfl ?_
        refine r_if_eq C dX4_bestPlace_70 (t := 90) (by decide) (by first | assumption | exact R.rg _ _ | exact R.ru _ _ | (unfold inR; omega)) (fun c70 => ?_) (fun c70 => ?_)
        · skip
          refine r_iinc C dX4_bestPlace_90 rfl ?_
          dsimp only [List.set]
          refine r_goto C dX4_bestPlace_93 (t := 4) (by decide) ?_
          first
            | exact ih9 f _ _ _ _ (by omega) (by omega) (by omega) hr9 (by rw [bestI_s _ _ i0, if_neg (fun z => by have z1 := z.1.1; have z2 := z.1.2.1; have z3 := z.1.2.2; have z4 := z.2.1; omega)]; exact hf)
            | exact ih9 i _ _ _ _ (by omega) (by omega) (by omega) (nq_1 (by omega)).symm (by rw [bestI_s _ _ i0, if_pos ⟨⟨by omega, by omega, by omega⟩, by omega, Or.inl (by omega)⟩])
            | exact ih9 i _ _ _ _ (by omega) (by omega) (by omega) (nq_1 (by omega)).symm (by rw [bestI_s _ _ i0, if_pos ⟨⟨by omega, by omega, by omega⟩, by omega, Or.inr (by rw [← hf]; assumption)⟩])
            | exact ih9 f _ _ _ _ (by omega) (by omega) (by omega) (nq_1 (by omega)).symm (by rw [bestI_s _ _ i0, if_neg (fun z => by have y := z.2.2; rw [← hf] at y; rcases y with y | y <;> first | omega | contradiction)]; exact hf)
        · skip
          exact absurd c70 (by decide)
      · skip
        refine r_aload C dX4_bestPlace_36 rfl ?_
        refine c_3_4 C dX4_bestPlace_38 fX4_69 R (by omega) (by omega) ?_
        refine r_if_eq C dX4_bestPlace_41 (t := 65) (by decide) (by first | assumption | exact R.rg _ _ | exact R.ru _ _ | (unfold inR; omega)) (fun c41 => ?_) (fun c41 => ?_)
        · skip
          refine r_iconst C dX4_bestPlace_65 ?_
          refine r_istore C dX4_bestPlace_66 (Nat.le_of_ble_eq_true rfl) ?_
          dsimp only [List.set]
          refine r_iload C dX4_bestPlace_68 rfl ?_
          refine r_if_eq C dX4_bestPlace_70 (t := 90) (by decide) (by first | assumption | exact R.rg _ _ | exact R.ru _ _ | (unfold inR; omega)) (fun c70 => ?_) (fun c70 => ?_)
          · skip
            refine r_iinc C dX4_bestPlace_90 rfl ?_
            dsimp only [List.set]
            refine r_goto C dX4_bestPlace_93 (t := 4) (by decide) ?_
            first
              | exact ih9 f _ _ _ _ (by omega) (by omega) (by omega) hr9 (by rw [bestI_s _ _ i0, if_neg (fun z => by have z1 := z.1.1; have z2 := z.1.2.1; have z3 := z.1.2.2; have z4 := z.2.1; omega)]; exact hf)
              | exact ih9 i _ _ _ _ (by omega) (by omega) (by omega) (nq_1 (by omega)).symm (by rw [bestI_s _ _ i0, if_pos ⟨⟨by omega, by omega, by omega⟩, by omega, Or.inl (by omega)⟩])
              | exact ih9 i _ _ _ _ (by omega) (by omega) (by omega) (nq_1 (by omega)).symm (by rw [bestI_s _ _ i0, if_pos ⟨⟨by omega, by omega, by omega⟩, by omega, Or.inr (by rw [← hf]; assumption)⟩])
              | exact ih9 f _ _ _ _ (by omega) (by omega) (by omega) (nq_1 (by omega)).symm (by rw [bestI_s _ _ i0, if_neg (fun z => by have y := z.2.2; rw [← hf] at y; rcases y with y | y <;> first | omega | contradiction)]; exact hf)
          · skip
            exact absurd c70 (by decide)
        · skip
          refine r_aload C dX4_bestPlace_44 rfl ?_
          refine c_VN0 C dX4_bestPlace_46 sX4_261 rfl R (by omega) (by omega)  (Nat.le_of_ble_eq_true rfl) 0 0 (Nat.zero_le _) (Nat.zero_le _) (C_X2_hasRoom R i0 c12 (fun z hz hb => ?_))
          have hb01 := hb.b
          refine r_if_eq C dX4_bestPlace_49 (t := 65) (by decide) (by first | assumption | exact R.rg _ _ | exact R.ru _ _ | (unfold inR; omega)) (fun c49 => ?_) (fun c49 => ?_)
          · skip
            have hrm := hb.f c49
            refine r_iconst C dX4_bestPlace_65 ?_
            refine r_istore C dX4_bestPlace_66 (Nat.le_of_ble_eq_true rfl) ?_
            dsimp only [List.set]
            refine r_iload C dX4_bestPlace_68 rfl ?_
            refine r_if_eq C dX4_bestPlace_70 (t := 90) (by decide) (by first | assumption | exact R.rg _ _ | exact R.ru _ _ | (unfold inR; omega)) (fun c70 => ?_) (fun c70 => ?_)
            · skip
              refine r_iinc C dX4_bestPlace_90 rfl ?_
              dsimp only [List.set]
              refine r_goto C dX4_bestPlace_93 (t := 4) (by decide) ?_
              first
                | exact ih9 f _ _ _ _ (by omega) (by omega) (by omega) hr9 (by rw [bestI_s _ _ i0, if_neg (fun z => by have z1 := z.1.1; have z2 := z.1.2.1; have z3 := z.1.2.2; have z4 := z.2.1; omega)]; exact hf)
                | exact ih9 i _ _ _ _ (by omega) (by omega) (by omega) (nq_1 (by omega)).symm (by rw [bestI_s _ _ i0, if_pos ⟨⟨by omega, by omega, by omega⟩, by omega, Or.inl (by omega)⟩])
                | exact ih9 i _ _ _ _ (by omega) (by omega) (by omega) (nq_1 (by omega)).symm (by rw [bestI_s _ _ i0, if_pos ⟨⟨by omega, by omega, by omega⟩, by omega, Or.inr (by rw [← hf]; assumption)⟩])
                | exact ih9 f _ _ _ _ (by omega) (by omega) (by omega) (nq_1 (by omega)).symm (by rw [bestI_s _ _ i0, if_neg (fun z => by have y := z.2.2; rw [← hf] at y; rcases y with y | y <;> first | omega | contradiction)]; exact hf)
            · skip
              exact absurd c70 (by decide)
          · skip
            have hrm := hb.t c49
            refine r_aload C dX4_bestPlace_52 rfl ?_
            refine r_aload_n C dX4_bestPlace_54 (i := 1) rfl rfl ?_
            refine c_VN1 C dX4_bestPlace_55 sX4_264 rfl R (by omega) (by omega) rfl (Nat.le_of_ble_eq_true rfl) 0 0 (Nat.zero_le _) (Nat.zero_le _) (C_X2_has R i0 c12 p0 p1 (fun z2 hz2 hb2 => ?_))
            have hb201 := hb2.b
            refine r_if_ne C dX4_bestPlace_58 (t := 65) (by decide) (by first | assumption | exact R.rg _ _ | exact R.ru _ _ | (unfold inR; omega)) (fun c58 => ?_) (fun c58 => ?_)
            · skip
              have hhas : ¬ g 18 (60 * i + p) = 0 := fun e => by
                obtain ⟨j, j0, j1, hu⟩ := hb2.t c58
                have := Ci.occ i0 c12 j0 j1 hu p0
                omega
              refine r_iconst C dX4_bestPlace_65 ?_
              refine r_istore C dX4_bestPlace_66 (Nat.le_of_ble_eq_true rfl) ?_
              dsimp only [List.set]
              refine r_iload C dX4_bestPlace_68 rfl ?_
              refine r_if_eq C dX4_bestPlace_70 (t := 90) (by decide) (by first | assumption | exact R.rg _ _ | exact R.ru _ _ | (unfold inR; omega)) (fun c70 => ?_) (fun c70 => ?_)
              · skip
                refine r_iinc C dX4_bestPlace_90 rfl ?_
                dsimp only [List.set]
                refine r_goto C dX4_bestPlace_93 (t := 4) (by decide) ?_
                first
                  | exact ih9 f _ _ _ _ (by omega) (by omega) (by omega) hr9 (by rw [bestI_s _ _ i0, if_neg (fun z => by have z1 := z.1.1; have z2 := z.1.2.1; have z3 := z.1.2.2; have z4 := z.2.1; omega)]; exact hf)
                  | exact ih9 i _ _ _ _ (by omega) (by omega) (by omega) (nq_1 (by omega)).symm (by rw [bestI_s _ _ i0, if_pos ⟨⟨by omega, by omega, by omega⟩, by omega, Or.inl (by omega)⟩])
                  | exact ih9 i _ _ _ _ (by omega) (by omega) (by omega) (nq_1 (by omega)).symm (by rw [bestI_s _ _ i0, if_pos ⟨⟨by omega, by omega, by omega⟩, by omega, Or.inr (by rw [← hf]; assumption)⟩])
                  | exact ih9 f _ _ _ _ (by omega) (by omega) (by omega) (nq_1 (by omega)).symm (by rw [bestI_s _ _ i0, if_neg (fun z => by have y := z.2.2; rw [← hf] at y; rcases y with y | y <;> first | omega | contradiction)]; exact hf)
              · skip
                exact absurd c70 (by decide)
            · skip
              have hhas : g 18 (60 * i + p) = 0 := Ci.no Nn i0 c12 p0 p1 (fun j j0 j1 hu => hb2.f c58 ⟨j, j0, j1, hu⟩)
              refine r_iconst C dX4_bestPlace_61 ?_
              refine r_goto C dX4_bestPlace_62 (t := 66) (by decide) ?_
              refine r_istore C dX4_bestPlace_66 (Nat.le_of_ble_eq_true rfl) ?_
              dsimp only [List.set]
              refine r_iload C dX4_bestPlace_68 rfl ?_
              refine r_if_eq C dX4_bestPlace_70 (t := 90) (by decide) (by first | assumption | exact R.rg _ _ | exact R.ru _ _ | (unfold inR; omega)) (fun c70 => ?_) (fun c70 => ?_)
              · skip
                exact absurd c70 (by decide)
              · skip
                refine r_aload_n C dX4_bestPlace_73 (i := 2) rfl rfl ?_
                refine r_ifnull C dX4_bestPlace_74 (t := 87) (by decide) (fun c74 => ?_) (fun a74 c74 => ?_)
                · skip
                  have hfn : f = -1 := nq_n (hr9.symm.trans c74)
                  refine r_aload C dX4_bestPlace_87 rfl ?_
                  refine r_astore_n C dX4_bestPlace_89 (i := 2) rfl (Nat.le_of_ble_eq_true rfl) ?_
                  dsimp only [List.set]
                  refine r_iinc C dX4_bestPlace_90 rfl ?_
                  dsimp only [List.set]
                  refine r_goto C dX4_bestPlace_93 (t := 4) (by decide) ?_
                  first
                    | exact ih9 f _ _ _ _ (by omega) (by omega) (by omega) hr9 (by rw [bestI_s _ _ i0, if_neg (fun z => by have z1 := z.1.1; have z2 := z.1.2.1; have z3 := z.1.2.2; have z4 := z.2.1; omega)]; exact hf)
                    | exact ih9 i _ _ _ _ (by omega) (by omega) (by omega) (nq_1 (by omega)).symm (by rw [bestI_s _ _ i0, if_pos ⟨⟨by omega, by omega, by omega⟩, by omega, Or.inl (by omega)⟩])
                    | exact ih9 i _ _ _ _ (by omega) (by omega) (by omega) (nq_1 (by omega)).symm (by rw [bestI_s _ _ i0, if_pos ⟨⟨by omega, by omega, by omega⟩, by omega, Or.inr (by rw [← hf]; assumption)⟩])
                    | exact ih9 f _ _ _ _ (by omega) (by omega) (by omega) (nq_1 (by omega)).symm (by rw [bestI_s _ _ i0, if_neg (fun z => by have y := z.2.2; rw [← hf] at y; rcases y with y | y <;> first | omega | contradiction)]; exact hf)
                · skip
                  obtain ⟨hfn, ha⟩ := nq_s (hr9.symm.trans c74)
                  rw [ha] at c74
                  subst c74
                  refine r_aload_n C dX4_bestPlace_77 (i := 1) rfl rfl ?_
                  refine r_aload C dX4_bestPlace_78 rfl ?_
                  refine r_aload_n C dX4_bestPlace_80 (i := 2) rfl rfl ?_
                  refine c_S3 C dX4_bestPlace_81 sX4_267 rfl rfl rfl (Nat.le_of_ble_eq_true rfl) 0 0 (Nat.zero_le _) (Nat.zero_le _) (C_X4_isBetterPlace Z p0 p1 i0 c12 (by omega) (by omega) (fun z3 hz3 hb3 => ?_))
                  have hb301 := hb3.b
                  refine r_if_eq C dX4_bestPlace_84 (t := 90) (by decide) (by first | assumption | exact R.rg _ _ | exact R.ru _ _ | (unfold inR; omega)) (fun c84 => ?_) (fun c84 => ?_)
                  · skip
                    have hbt := hb3.f c84
                    refine r_iinc C dX4_bestPlace_90 rfl ?_
                    dsimp only [List.set]
                    refine r_goto C dX4_bestPlace_93 (t := 4) (by decide) ?_
                    first
                      | exact ih9 f _ _ _ _ (by omega) (by omega) (by omega) hr9 (by rw [bestI_s _ _ i0, if_neg (fun z => by have z1 := z.1.1; have z2 := z.1.2.1; have z3 := z.1.2.2; have z4 := z.2.1; omega)]; exact hf)
                      | exact ih9 i _ _ _ _ (by omega) (by omega) (by omega) (nq_1 (by omega)).symm (by rw [bestI_s _ _ i0, if_pos ⟨⟨by omega, by omega, by omega⟩, by omega, Or.inl (by omega)⟩])
                      | exact ih9 i _ _ _ _ (by omega) (by omega) (by omega) (nq_1 (by omega)).symm (by rw [bestI_s _ _ i0, if_pos ⟨⟨by omega, by omega, by omega⟩, by omega, Or.inr (by rw [← hf]; assumption)⟩])
                      | exact ih9 f _ _ _ _ (by omega) (by omega) (by omega) (nq_1 (by omega)).symm (by rw [bestI_s _ _ i0, if_neg (fun z => by have y := z.2.2; rw [← hf] at y; rcases y with y | y <;> first | omega | contradiction)]; exact hf)
                  · skip
                    have hbt := hb3.t c84
                    refine r_aload C dX4_bestPlace_87 rfl ?_
                    refine r_astore_n C dX4_bestPlace_89 (i := 2) rfl (Nat.le_of_ble_eq_true rfl) ?_
                    dsimp only [List.set]
                    refine r_iinc C dX4_bestPlace_90 rfl ?_
                    dsimp only [List.set]
                    refine r_goto C dX4_bestPlace_93 (t := 4) (by decide) ?_
                    first
                      | exact ih9 f _ _ _ _ (by omega) (by omega) (by omega) hr9 (by rw [bestI_s _ _ i0, if_neg (fun z => by have z1 := z.1.1; have z2 := z.1.2.1; have z3 := z.1.2.2; have z4 := z.2.1; omega)]; exact hf)
                      | exact ih9 i _ _ _ _ (by omega) (by omega) (by omega) (nq_1 (by omega)).symm (by rw [bestI_s _ _ i0, if_pos ⟨⟨by omega, by omega, by omega⟩, by omega, Or.inl (by omega)⟩])
                      | exact ih9 i _ _ _ _ (by omega) (by omega) (by omega) (nq_1 (by omega)).symm (by rw [bestI_s _ _ i0, if_pos ⟨⟨by omega, by omega, by omega⟩, by omega, Or.inr (by rw [← hf]; assumption)⟩])
                      | exact ih9 f _ _ _ _ (by omega) (by omega) (by omega) (nq_1 (by omega)).symm (by rw [bestI_s _ _ i0, if_neg (fun z => by have y := z.2.2; rw [← hf] at y; rcases y with y | y <;> first | omega | contradiction)]; exact hf)

set_option maxRecDepth 100000 in
set_option maxHeartbeats 4000000 in
theorem C_X4_hasGoodHolderWithRoom {gx : GX} {d : Nat} {Qr : Option AV → Hp → Prop} {Qx : String → Hp → Prop} {x : Nat} {A : Nat → Int → Nat} {u : GT} {m : Int} {g : GT} {h : Hp} {p : Int} (Z : Rd gx x A u m g h) (p0 : 0 ≤ p) (p1 : p < g 11 0) (K : ∀ z, inR z → BV z (∃ k, 0 ≤ k ∧ k < g 16 p ∧ roomP g p (g 17 (8 * p + k))) → Qr (some (vi z)) h) : aM gx (d + 4) mX4_hasGoodHolderWithRoom [vr (A 4 p)] h 0 0 Qr Qx := by
  intro J C
  show J 0 [some (vr (A 4 p)), none, none] [] h 0 0
  have R := Z.1; have I := Z.2.1; have Ci := Z.2.2.1; have Nn := Z.2.2.2; have B := I.1; have b1 := B.nn; have b2 := B.np; have bcp := B.cp p p0 p1
  refine r_iconst C dX4_hasGoodHolderWithRoom_0 ?_
  refine r_istore_n C dX4_hasGoodHolderWithRoom_1 (i := 1) rfl (Nat.le_of_ble_eq_true rfl) ?_
  dsimp only [List.set]
  suffices LOOP : ∀ (m9 : Nat) (i : Int) (y : Option AV), g 16 p - i < (m9 : Int) → 0 ≤ i → i ≤ g 16 p → (∀ j, 0 ≤ j → j < i → ¬ roomP g p (g 17 (8 * p + j))) → J 2 [some (vr (A 4 p)), some (vi i), y] [] h 0 0 by
    exact LOOP ((g 16 p).toNat + 1) 0 _ (by omega) (by omega) (by omega) all_0
  intro m9
  induction m9 with
  | zero => intro i y hm9 i0 i1 al; exact absurd hm9 (by omega)
  | succ m9 ih9 =>
    intro i y hm9 i0 i1 al
    refine r_iload_n C dX4_hasGoodHolderWithRoom_2 (i := 1) rfl rfl ?_
    refine r_aload_n C dX4_hasGoodHolderWithRoom_3 (i := 0) rfl rfl ?_
    refine c_4_6 C dX4_hasGoodHolderWithRoom_4 fX4_184 R (by omega) (by omega) ?_
    refine c_szH C dX4_hasGoodHolderWithRoom_7 sX4_44 R (by omega) (by omega) (Nat.le_of_ble_eq_true rfl) ?_
    refine r_ic_ge C dX4_hasGoodHolderWithRoom_10 (t := 48) (by decide) (by first | assumption | exact R.rg _ _ | exact R.ru _ _ | (unfold inR; omega)) (by first | assumption | exact R.rg _ _ | exact R.ru _ _ | (unfold inR; omega)) (fun c10 => ?_) (fun c10 => ?_)
    · skip
      refine r_iconst C dX4_hasGoodHolderWithRoom_48 ?_
      refine r_iret C dX4_hasGoodHolderWithRoom_49 (Or.inr ⟨rfl, (by first | assumption | omega | decide)⟩) ?_
      exact K _ inR0 (.n (fun ⟨k, k0, k1, q⟩ => al k k0 (by omega) q))
    · skip
      have bcy := B.cy p i p0 p1 i0 c10; have tk := Ci.tk bcy.1 bcy.2
      refine r_aload_n C dX4_hasGoodHolderWithRoom_13 (i := 0) rfl rfl ?_
      refine c_4_6 C dX4_hasGoodHolderWithRoom_14 fX4_184 R (by omega) (by omega) ?_
      refine r_iload_n C dX4_hasGoodHolderWithRoom_17 (i := 1) rfl rfl ?_
      refine c_gtH C dX4_hasGoodHolderWithRoom_18 sX4_127 R (by omega) (by omega) (by omega) (by omega) (Nat.le_of_ble_eq_true rfl) ?_
      refine c_castN C dX4_hasGoodHolderWithRoom_21 kX4_53 R (by omega) (by omega) ?_
      refine r_astore_n C dX4_hasGoodHolderWithRoom_24 (i := 2) rfl (Nat.le_of_ble_eq_true rfl) ?_
      dsimp only [List.set]
      refine r_aload_n C dX4_hasGoodHolderWithRoom_25 (i := 2) rfl rfl ?_
      refine r_aload_n C dX4_hasGoodHolderWithRoom_26 (i := 0) rfl rfl ?_
      refine c_S2 C dX4_hasGoodHolderWithRoom_27 sX4_257 rfl rfl (Nat.le_of_ble_eq_true rfl) 0 0 (Nat.zero_le _) (Nat.zero_le _) (C_X4_isGood Z (by omega) (by omega) p0 p1 (fun z hz hb => ?_))
      refine r_if_eq C dX4_hasGoodHolderWithRoom_30 (t := 42) (by decide) (by first | assumption | exact R.rg _ _ | exact R.ru _ _ | (unfold inR; omega)) (fun c30 => ?_) (fun c30 => ?_)
      · skip
        have hgd := hb.f c30
        refine r_iinc C dX4_hasGoodHolderWithRoom_42 rfl ?_
        dsimp only [List.set]
        refine r_goto C dX4_hasGoodHolderWithRoom_45 (t := 2) (by decide) ?_
        first
          | exact ih9 _ _ (by omega) (by omega) (by omega) (all_s al (fun z => hgd z.1))
          | exact ih9 _ _ (by omega) (by omega) (by omega) (all_s al (fun z => hrm (by have := z.2; omega)))
      · skip
        have hgd := hb.t c30
        refine r_aload_n C dX4_hasGoodHolderWithRoom_33 (i := 2) rfl rfl ?_
        refine c_VN0 C dX4_hasGoodHolderWithRoom_34 sX4_261 rfl R (by omega) (by omega)  (Nat.le_of_ble_eq_true rfl) 0 0 (Nat.zero_le _) (Nat.zero_le _) (C_X2_hasRoom R bcy.1 bcy.2 (fun z2 hz2 hb2 => ?_))
        refine r_if_eq C dX4_hasGoodHolderWithRoom_37 (t := 42) (by decide) (by first | assumption | exact R.rg _ _ | exact R.ru _ _ | (unfold inR; omega)) (fun c37 => ?_) (fun c37 => ?_)
        · skip
          have hrm := hb2.f c37
          refine r_iinc C dX4_hasGoodHolderWithRoom_42 rfl ?_
          dsimp only [List.set]
          refine r_goto C dX4_hasGoodHolderWithRoom_45 (t := 2) (by decide) ?_
          first
            | exact ih9 _ _ (by omega) (by omega) (by omega) (all_s al (fun z => hgd z.1))
            | exact ih9 _ _ (by omega) (by omega) (by omega) (all_s al (fun z => hrm (by have := z.2; omega)))
        · skip
          have hrm := hb2.t c37
          refine r_iconst C dX4_hasGoodHolderWithRoom_40 ?_
          refine r_iret C dX4_hasGoodHolderWithRoom_41 (Or.inr ⟨rfl, (by first | assumption | omega | decide)⟩) ?_
          exact K _ inR1 (.y ⟨i, i0, c10, hgd, by omega⟩)

set_option maxRecDepth 100000 in
set_option maxHeartbeats 4000000 in
theorem C_X4_isLeased {gx : GX} {d : Nat} {Qr : Option AV → Hp → Prop} {Qx : String → Hp → Prop} {x : Nat} {A : Nat → Int → Nat} {u : GT} {m : Int} {g : GT} {h : Hp} {p : Int} (Z : Rd gx x A u m g h) (p0 : 0 ≤ p) (p1 : p < g 11 0) (K : ∀ z, inR z → BV z (leaseP g p) → Qr (some (vi z)) h) : aM gx (d + 1) mX4_isLeased [vr x, vr (A 4 p)] h 0 0 Qr Qx := by
  intro J C
  show J 0 [some (vr x), some (vr (A 4 p))] [] h 0 0
  have R := Z.1; have I := Z.2.1; have Ci := Z.2.2.1; have Nn := Z.2.2.2; have B := I.1; have b1 := B.nn; have b2 := B.np
  refine r_aload_n C dX4_isLeased_0 (i := 1) rfl rfl ?_
  refine c_4_3 C dX4_isLeased_1 fX4_190 R (by omega) (by omega) ?_
  refine r_ifnull C dX4_isLeased_4 (t := 22) (by decide) (fun c4 => ?_) (fun a4 c4 => ?_)
  · skip
    have hl : g 13 p = -1 := by
      by_cases e : g 13 p = -1
      · exact e
      · rw [if_neg e] at c4; cases c4
    refine r_iconst C dX4_isLeased_22 ?_
    refine r_iret C dX4_isLeased_23 (Or.inr ⟨rfl, (by first | assumption | omega | decide)⟩) ?_
    first | exact K _ inR1 (.y ⟨hl, by omega⟩) | exact K _ inR0 (.n (fun z => by have z1 := z.1; have z2 := z.2; omega))
  · skip
    have hl : g 13 p ≠ -1 := fun e => by rw [if_pos e] at c4; cases c4
    refine r_aload_n C dX4_isLeased_7 (i := 0) rfl rfl ?_
    refine c_5_3 C dX4_isLeased_8 fX4_22 R  ?_
    refine r_aload_n C dX4_isLeased_11 (i := 1) rfl rfl ?_
    refine c_4_4 C dX4_isLeased_12 fX4_198 R (by omega) (by omega) ?_
    refine r_ic_ge C dX4_isLeased_15 (t := 22) (by decide) (by first | assumption | exact R.rg _ _ | exact R.ru _ _ | (unfold inR; omega)) (by first | assumption | exact R.rg _ _ | exact R.ru _ _ | (unfold inR; omega)) (fun c15 => ?_) (fun c15 => ?_)
    · skip
      refine r_iconst C dX4_isLeased_22 ?_
      refine r_iret C dX4_isLeased_23 (Or.inr ⟨rfl, (by first | assumption | omega | decide)⟩) ?_
      first | exact K _ inR1 (.y ⟨hl, by omega⟩) | exact K _ inR0 (.n (fun z => by have z1 := z.1; have z2 := z.2; omega))
    · skip
      refine r_iconst C dX4_isLeased_18 ?_
      refine r_goto C dX4_isLeased_19 (t := 23) (by decide) ?_
      refine r_iret C dX4_isLeased_23 (Or.inr ⟨rfl, (by first | assumption | omega | decide)⟩) ?_
      first | exact K _ inR1 (.y ⟨hl, by omega⟩) | exact K _ inR0 (.n (fun z => by have z1 := z.1; have z2 := z.2; omega))

set_option maxRecDepth 100000 in
set_option maxHeartbeats 4000000 in
theorem C_X4_isPrimaryUp {gx : GX} {d : Nat} {Qr : Option AV → Hp → Prop} {Qx : String → Hp → Prop} {x : Nat} {A : Nat → Int → Nat} {u : GT} {m : Int} {g : GT} {h : Hp} {p : Int} (Z : Rd gx x A u m g h) (p0 : 0 ≤ p) (p1 : p < g 11 0) (ph : g 13 p ≠ -1 → 0 ≤ g 13 p ∧ g 13 p < g 4 0) (K : ∀ z, inR z → BV z (leaseP g p ∧ g 7 (g 13 p) ≠ 0) → Qr (some (vi z)) h) : aM gx (d + 2) mX4_isPrimaryUp [vr x, vr (A 4 p)] h 0 0 Qr Qx := by
  intro J C
  show J 0 [some (vr x), some (vr (A 4 p))] [] h 0 0
  have R := Z.1; have I := Z.2.1; have Ci := Z.2.2.1; have Nn := Z.2.2.2; have B := I.1; have b1 := B.nn; have b2 := B.np
  refine r_aload_n C dX4_isPrimaryUp_0 (i := 1) rfl rfl ?_
  refine c_4_3 C dX4_isPrimaryUp_1 fX4_190 R (by omega) (by omega) ?_
  refine r_ifnull C dX4_isPrimaryUp_4 (t := 29) (by decide) (fun c4 => ?_) (fun a4 c4 => ?_)
  · skip
    have hl : g 13 p = -1 := by
      by_cases e : g 13 p = -1
      · exact e
      · rw [if_neg e] at c4; cases c4
    refine r_iconst C dX4_isPrimaryUp_29 ?_
    refine r_iret C dX4_isPrimaryUp_30 (Or.inr ⟨rfl, (by first | assumption | omega | decide)⟩) ?_
    first | exact K _ inR1 (.y ⟨hle, by omega⟩) | exact K _ inR0 (.n (fun z => hle z.1)) | exact K _ inR0 (.n (fun z => by have z1 := z.1.1; have z2 := z.2; omega))
  · skip
    have hl : g 13 p ≠ -1 := fun e => by rw [if_pos e] at c4; cases c4
    have php := ph hl
    refine r_aload_n C dX4_isPrimaryUp_7 (i := 0) rfl rfl ?_
    refine r_aload_n C dX4_isPrimaryUp_8 (i := 1) rfl rfl ?_
    refine c_VX1 C dX4_isPrimaryUp_9 sX4_194 rfl R  rfl (Nat.le_of_ble_eq_true rfl) 0 0 (Nat.zero_le _) (Nat.zero_le _) (C_X4_isLeased Z p0 p1 (fun z hz hb => ?_))
    have hb01 := hb.b
    refine r_if_eq C dX4_isPrimaryUp_12 (t := 29) (by decide) (by first | assumption | exact R.rg _ _ | exact R.ru _ _ | (unfold inR; omega)) (fun c12 => ?_) (fun c12 => ?_)
    · skip
      have hle := hb.f c12
      refine r_iconst C dX4_isPrimaryUp_29 ?_
      refine r_iret C dX4_isPrimaryUp_30 (Or.inr ⟨rfl, (by first | assumption | omega | decide)⟩) ?_
      first | exact K _ inR1 (.y ⟨hle, by omega⟩) | exact K _ inR0 (.n (fun z => hle z.1)) | exact K _ inR0 (.n (fun z => by have z1 := z.1.1; have z2 := z.2; omega))
    · skip
      have hle := hb.t c12
      refine r_aload_n C dX4_isPrimaryUp_15 (i := 1) rfl rfl ?_
      refine c_4_3 C dX4_isPrimaryUp_16 fX4_190 R (by omega) (by omega) ?_
      rw [if_neg hl]
      refine c_3_4 C dX4_isPrimaryUp_19 fX4_69 R (by omega) (by omega) ?_
      refine r_if_eq C dX4_isPrimaryUp_22 (t := 29) (by decide) (by first | assumption | exact R.rg _ _ | exact R.ru _ _ | (unfold inR; omega)) (fun c22 => ?_) (fun c22 => ?_)
      · skip
        refine r_iconst C dX4_isPrimaryUp_29 ?_
        refine r_iret C dX4_isPrimaryUp_30 (Or.inr ⟨rfl, (by first | assumption | omega | decide)⟩) ?_
        first | exact K _ inR1 (.y ⟨hle, by omega⟩) | exact K _ inR0 (.n (fun z => hle z.1)) | exact K _ inR0 (.n (fun z => by have z1 := z.1.1; have z2 := z.2; omega))
      · skip
        refine r_iconst C dX4_isPrimaryUp_25 ?_
        refine r_goto C dX4_isPrimaryUp_26 (t := 30) (by decide) ?_
        refine r_iret C dX4_isPrimaryUp_30 (Or.inr ⟨rfl, (by first | assumption | omega | decide)⟩) ?_
        first | exact K _ inR1 (.y ⟨hle, by omega⟩) | exact K _ inR0 (.n (fun z => hle z.1)) | exact K _ inR0 (.n (fun z => by have z1 := z.1.1; have z2 := z.2; omega))

set_option maxRecDepth 100000 in
set_option maxHeartbeats 4000000 in
theorem C_X4_primaryLength {gx : GX} {d : Nat} {Qr : Option AV → Hp → Prop} {Qx : String → Hp → Prop} {x : Nat} {A : Nat → Int → Nat} {u : GT} {m : Int} {g : GT} {h : Hp} {p : Int} (Z : Rd gx x A u m g h) (p0 : 0 ≤ p) (p1 : p < g 11 0) (ph : g 13 p ≠ -1 → 0 ≤ g 13 p ∧ g 13 p < g 4 0) (K : ∀ n, n = (if leaseP g p ∧ g 7 (g 13 p) ≠ 0 then g 13 p else fuG g p) → n ≠ -1 → 0 < g 18 (60 * n + p) → Qr (some (vi (g 19 (60 * n + p)))) h) (kx : ((if leaseP g p ∧ g 7 (g 13 p) ≠ 0 then g 13 p else fuG g p) = -1 ∨ ∃ n, n = (if leaseP g p ∧ g 7 (g 13 p) ≠ 0 then g 13 p else fuG g p) ∧ 0 ≤ n ∧ n < g 4 0 ∧ g 18 (60 * n + p) = 0) → Qx "java/lang/IllegalStateException" h) : aM gx (d + 6) mX4_primaryLength [vr x, vr (A 4 p)] h 1 6 Qr Qx := by
  intro J C
  show J 0 [some (vr x), some (vr (A 4 p)), none, none] [] h 1 6
  have R := Z.1; have I := Z.2.1; have Ci := Z.2.2.1; have Nn := Z.2.2.2; have B := I.1; have b1 := B.nn; have b2 := B.np; have fb := fu_kn g p
  have fbr : fuG g p = -1 ∨ (0 ≤ fuG g p ∧ fuG g p < g 4 0) := fb.imp id (fun q => KN.r B p0 p1 q.1)
  refine r_aload_n C dX4_primaryLength_0 (i := 0) rfl rfl ?_
  refine r_aload_n C dX4_primaryLength_1 (i := 1) rfl rfl ?_
  refine c_VX1 C dX4_primaryLength_2 sX4_293 rfl R  rfl (Nat.le_of_ble_eq_true rfl) 0 0 (Nat.zero_le _) (Nat.zero_le _) (C_X4_isPrimaryUp Z p0 p1 ph (fun z hz hb => ?_))
  refine r_if_eq C dX4_primaryLength_5 (t := 15) (by decide) (by first | assumption | exact R.rg _ _ | exact R.ru _ _ | (unfold inR; omega)) (fun c5 => ?_) (fun c5 => ?_)
  · skip
    have hle := hb.f c5
    rw [if_neg hle] at K kx
    obtain ⟨n, en⟩ : ∃ n, n = fuG g p := ⟨_, rfl⟩
    rw [← en] at kx fbr
    refine r_aload_n C dX4_primaryLength_15 (i := 1) rfl rfl ?_
    refine c_S1 C dX4_primaryLength_16 sX4_296 rfl (Nat.le_of_ble_eq_true rfl) 0 0 (Nat.zero_le _) (Nat.zero_le _) (C_X4_firstUpHolder Z p0 p1 ?_)
    rw [← en]
    refine r_astore_n C dX4_primaryLength_19 (i := 2) rfl (Nat.le_of_ble_eq_true rfl) ?_
    dsimp only [List.set]
    refine r_aload_n C dX4_primaryLength_20 (i := 2) rfl rfl ?_
    refine r_ifnonnull C dX4_primaryLength_21 (t := 28) (by decide) (fun a21 c21 => ?_) (fun c21 => ?_)
    · skip
      obtain ⟨hn, ha⟩ := nq_s c21
      have nb := fbr.resolve_left hn
      rw [nq_1 hn]
      refine r_aload_n C dX4_primaryLength_28 (i := 2) rfl rfl ?_
      refine r_aload_n C dX4_primaryLength_29 (i := 1) rfl rfl ?_
      refine c_VN1 C dX4_primaryLength_30 sX4_82 rfl R (by omega) (by omega) rfl (Nat.le_of_ble_eq_true rfl) 0 0 (Nat.zero_le _) (Nat.zero_le _) (C_X2_copyOfP R nb.1 nb.2 p0 p1 (fun i i0 i1 hu => ?_) (fun no => ?_))
      · skip
        have hoc := Ci.occ nb.1 nb.2 i0 i1 hu p0
        refine r_astore_n C dX4_primaryLength_33 (i := 3) rfl (Nat.le_of_ble_eq_true rfl) ?_
        dsimp only [List.set]
        refine r_aload_n C dX4_primaryLength_34 (i := 3) rfl rfl ?_
        refine r_ifnonnull C dX4_primaryLength_35 (t := 49) (by decide) (fun a35 c35 => ?_) (fun c35 => ?_)
        · skip
          refine r_aload_n C dX4_primaryLength_49 (i := 3) rfl rfl ?_
          refine c_1_2 C dX4_primaryLength_50 fX4_211 R (by omega) (by omega) (by omega) (by omega) hu (by omega) ?_
          refine r_iret C dX4_primaryLength_53 (Or.inl rfl) ?_
          exact K n en hn hoc
        · skip
          cases c35
      · skip
        have hz0 := Ci.no Nn nb.1 nb.2 p0 p1 no
        refine r_astore_n C dX4_primaryLength_33 (i := 3) rfl (Nat.le_of_ble_eq_true rfl) ?_
        dsimp only [List.set]
        refine r_aload_n C dX4_primaryLength_34 (i := 3) rfl rfl ?_
        refine r_ifnonnull C dX4_primaryLength_35 (t := 49) (by decide) (fun a35 c35 => ?_) (fun c35 => ?_)
        · skip
          cases c35
        · skip
          refine r_thr C tX4_primaryLength_38 rfl (by omega) (Nat.le_of_ble_eq_true rfl) (by omega) (by omega) ?_
          first | exact kx (Or.inl rfl) | exact kx (Or.inr ⟨n, rfl, nb.1, nb.2, hz0⟩)
    · skip
      have hn := nq_n c21
      subst hn
      refine r_anull C dX4_primaryLength_24 ?_
      refine r_goto C dX4_primaryLength_25 (t := 33) (by decide) ?_
      refine r_astore_n C dX4_primaryLength_33 (i := 3) rfl (Nat.le_of_ble_eq_true rfl) ?_
      dsimp only [List.set]
      refine r_aload_n C dX4_primaryLength_34 (i := 3) rfl rfl ?_
      refine r_ifnonnull C dX4_primaryLength_35 (t := 49) (by decide) (fun a35 c35 => ?_) (fun c35 => ?_)
      · skip
        cases c35
      · skip
        refine r_thr C tX4_primaryLength_38 rfl (by omega) (Nat.le_of_ble_eq_true rfl) (by omega) (by omega) ?_
        first | exact kx (Or.inl rfl) | exact kx (Or.inr ⟨n, rfl, nb.1, nb.2, hz0⟩)
  · skip
    have hle := hb.t c5
    rw [if_pos hle] at K kx
    have hl := hle.1.1
    have php := ph hl
    refine r_aload_n C dX4_primaryLength_8 (i := 1) rfl rfl ?_
    refine c_4_3 C dX4_primaryLength_9 fX4_190 R (by omega) (by omega) ?_
    rw [if_neg hl]
    obtain ⟨n, en⟩ : ∃ n, n = g 13 p := ⟨_, rfl⟩
    rw [← en] at kx php ⊢
    have fbr : n = -1 ∨ (0 ≤ n ∧ n < g 4 0) := Or.inr php
    rw [← nq_1 (A := A) (show n ≠ -1 by omega)]
    refine r_goto C dX4_primaryLength_12 (t := 19) (by decide) ?_
    refine r_astore_n C dX4_primaryLength_19 (i := 2) rfl (Nat.le_of_ble_eq_true rfl) ?_
    dsimp only [List.set]
    refine r_aload_n C dX4_primaryLength_20 (i := 2) rfl rfl ?_
    refine r_ifnonnull C dX4_primaryLength_21 (t := 28) (by decide) (fun a21 c21 => ?_) (fun c21 => ?_)
    · skip
      obtain ⟨hn, ha⟩ := nq_s c21
      have nb := fbr.resolve_left hn
      rw [nq_1 hn]
      refine r_aload_n C dX4_primaryLength_28 (i := 2) rfl rfl ?_
      refine r_aload_n C dX4_primaryLength_29 (i := 1) rfl rfl ?_
      refine c_VN1 C dX4_primaryLength_30 sX4_82 rfl R (by omega) (by omega) rfl (Nat.le_of_ble_eq_true rfl) 0 0 (Nat.zero_le _) (Nat.zero_le _) (C_X2_copyOfP R nb.1 nb.2 p0 p1 (fun i i0 i1 hu => ?_) (fun no => ?_))
      · skip
        have hoc := Ci.occ nb.1 nb.2 i0 i1 hu p0
        refine r_astore_n C dX4_primaryLength_33 (i := 3) rfl (Nat.le_of_ble_eq_true rfl) ?_
        dsimp only [List.set]
        refine r_aload_n C dX4_primaryLength_34 (i := 3) rfl rfl ?_
        refine r_ifnonnull C dX4_primaryLength_35 (t := 49) (by decide) (fun a35 c35 => ?_) (fun c35 => ?_)
        · skip
          refine r_aload_n C dX4_primaryLength_49 (i := 3) rfl rfl ?_
          refine c_1_2 C dX4_primaryLength_50 fX4_211 R (by omega) (by omega) (by omega) (by omega) hu (by omega) ?_
          refine r_iret C dX4_primaryLength_53 (Or.inl rfl) ?_
          exact K n en hn hoc
        · skip
          cases c35
      · skip
        have hz0 := Ci.no Nn nb.1 nb.2 p0 p1 no
        refine r_astore_n C dX4_primaryLength_33 (i := 3) rfl (Nat.le_of_ble_eq_true rfl) ?_
        dsimp only [List.set]
        refine r_aload_n C dX4_primaryLength_34 (i := 3) rfl rfl ?_
        refine r_ifnonnull C dX4_primaryLength_35 (t := 49) (by decide) (fun a35 c35 => ?_) (fun c35 => ?_)
        · skip
          cases c35
        · skip
          refine r_thr C tX4_primaryLength_38 rfl (by omega) (Nat.le_of_ble_eq_true rfl) (by omega) (by omega) ?_
          first | exact kx (Or.inl rfl) | exact kx (Or.inr ⟨n, rfl, nb.1, nb.2, hz0⟩)
    · skip
      have hn := nq_n c21
      subst hn
      refine r_anull C dX4_primaryLength_24 ?_
      refine r_goto C dX4_primaryLength_25 (t := 33) (by decide) ?_
      refine r_astore_n C dX4_primaryLength_33 (i := 3) rfl (Nat.le_of_ble_eq_true rfl) ?_
      dsimp only [List.set]
      refine r_aload_n C dX4_primaryLength_34 (i := 3) rfl rfl ?_
      refine r_ifnonnull C dX4_primaryLength_35 (t := 49) (by decide) (fun a35 c35 => ?_) (fun c35 => ?_)
      · skip
        cases c35
      · skip
        refine r_thr C tX4_primaryLength_38 rfl (by omega) (Nat.le_of_ble_eq_true rfl) (by omega) (by omega) ?_
        first | exact kx (Or.inl rfl) | exact kx (Or.inr ⟨n, rfl, nb.1, nb.2, hz0⟩)

