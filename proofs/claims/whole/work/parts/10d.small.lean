/-! ===== copies and nodes ===== -/
set_option maxRecDepth 100000 in
set_option maxHeartbeats 4000000 in
theorem C_X0_hasCell {gx : GX} {d : Nat} {Qr : Option AV → Hp → Prop} {Qx : String → Hp → Prop} {x : Nat} {A : Nat → Int → Nat} {u : GT} {m : Int} {g : GT} {h : Hp} {n i p k : Int} (R : Rp gx x A u m g h) (n0 : 0 ≤ n) (n1 : n < g 4 0) (i0 : 0 ≤ i) (i1 : i < g 6 n) (hu : u 0 (12 * n + i) = p) (hp : 0 ≤ p) (hk : inR k) (K : ∀ z, inR z → BV z (0 ≤ k ∧ k < 4 ∧ k < g 19 (60 * n + p)) → Qr (some (vi z)) h) : aM gx (d + 1) mX0_hasCell [vr (A 2 (12 * n + i)), vi k] h 0 0 Qr Qx := by
  intro J C
  show J 0 [some (vr (A 2 (12 * n + i))), some (vi k)] [] h 0 0
  refine r_iload_n C dX0_hasCell_0 (i := 1) rfl rfl ?_
  refine r_if_lt C dX0_hasCell_1 (t := 21) (by decide) (by first | assumption | exact R.rg _ _ | exact R.ru _ _ | (unfold inR; omega)) (fun c1 => ?_) (fun c1 => ?_)
  · skip
    refine r_iconst C dX0_hasCell_21 ?_
    refine r_iret C dX0_hasCell_22 (Or.inr ⟨rfl, (by first | assumption | omega | decide)⟩) ?_
    first | exact K _ inR1 (.y (by omega)) | exact K _ inR0 (.n (by omega))
  · skip
    refine r_iload_n C dX0_hasCell_4 (i := 1) rfl rfl ?_
    refine r_iconst C dX0_hasCell_5 ?_
    refine r_ic_ge C dX0_hasCell_6 (t := 21) (by decide) (by first | assumption | exact R.rg _ _ | exact R.ru _ _ | (unfold inR; omega)) (by first | assumption | exact R.rg _ _ | exact R.ru _ _ | (unfold inR; omega)) (fun c6 => ?_) (fun c6 => ?_)
    · skip
      refine r_iconst C dX0_hasCell_21 ?_
      refine r_iret C dX0_hasCell_22 (Or.inr ⟨rfl, (by first | assumption | omega | decide)⟩) ?_
      first | exact K _ inR1 (.y (by omega)) | exact K _ inR0 (.n (by omega))
    · skip
      refine r_iload_n C dX0_hasCell_9 (i := 1) rfl rfl ?_
      refine r_aload_n C dX0_hasCell_10 (i := 0) rfl rfl ?_
      refine c_1_2 C dX0_hasCell_11 fX0_19 R (by omega) (by omega) (by omega) (by omega) hu (by omega) ?_
      refine r_ic_ge C dX0_hasCell_14 (t := 21) (by decide) (by first | assumption | exact R.rg _ _ | exact R.ru _ _ | (unfold inR; omega)) (by first | assumption | exact R.rg _ _ | exact R.ru _ _ | (unfold inR; omega)) (fun c14 => ?_) (fun c14 => ?_)
      · skip
        refine r_iconst C dX0_hasCell_21 ?_
        refine r_iret C dX0_hasCell_22 (Or.inr ⟨rfl, (by first | assumption | omega | decide)⟩) ?_
        first | exact K _ inR1 (.y (by omega)) | exact K _ inR0 (.n (by omega))
      · skip
        refine r_iconst C dX0_hasCell_17 ?_
        refine r_goto C dX0_hasCell_18 (t := 22) (by decide) ?_
        refine r_iret C dX0_hasCell_22 (Or.inr ⟨rfl, (by first | assumption | omega | decide)⟩) ?_
        first | exact K _ inR1 (.y (by omega)) | exact K _ inR0 (.n (by omega))

set_option maxRecDepth 100000 in
set_option maxHeartbeats 4000000 in
theorem C_X0_isWrong {gx : GX} {d : Nat} {Qr : Option AV → Hp → Prop} {Qx : String → Hp → Prop} {x : Nat} {A : Nat → Int → Nat} {u : GT} {m : Int} {g : GT} {h : Hp} {n i p k : Int} (R : Rp gx x A u m g h) (n0 : 0 ≤ n) (n1 : n < g 4 0) (i0 : 0 ≤ i) (i1 : i < g 6 n) (hu : u 0 (12 * n + i) = p) (hp : 0 ≤ p) (hk : inR k) (K : ∀ z, inR z → BV z ((0 ≤ k ∧ k < 4 ∧ k < g 19 (60 * n + p)) ∧ shB (g 21 (60 * n + p)) k = 1) → Qr (some (vi z)) h) : aM gx (d + 2) mX0_isWrong [vr (A 2 (12 * n + i)), vi k] h 0 0 Qr Qx := by
  intro J C
  show J 0 [some (vr (A 2 (12 * n + i))), some (vi k)] [] h 0 0
  refine r_aload_n C dX0_isWrong_0 (i := 0) rfl rfl ?_
  refine r_iload_n C dX0_isWrong_1 (i := 1) rfl rfl ?_
  refine c_VS1 C dX0_isWrong_2 sX0_32 rfl R (by omega) (by omega) (by omega) (by omega) rfl (Nat.le_of_ble_eq_true rfl) 0 0 (Nat.zero_le _) (Nat.zero_le _) (C_X0_hasCell R n0 n1 i0 i1 hu hp hk (fun z hz hb => ?_))
  have hz01 := hb.b
  refine r_if_eq C dX0_isWrong_5 (t := 24) (by decide) (by first | assumption | exact R.rg _ _ | exact R.ru _ _ | (unfold inR; omega)) (fun c5 => ?_) (fun c5 => ?_)
  · skip
    refine r_iconst C dX0_isWrong_24 ?_
    refine r_iret C dX0_isWrong_25 (Or.inr ⟨rfl, (by first | assumption | omega | decide)⟩) ?_
    first | exact K _ inR1 (.y ⟨hb.t (by omega), by omega⟩) | exact K _ inR0 (.n (fun q => by have := q.2; omega)) | exact K _ inR0 (.n (fun q => hb.f (by omega) q.1))
  · skip
    refine r_aload_n C dX0_isWrong_8 (i := 0) rfl rfl ?_
    refine c_1_3 C dX0_isWrong_9 fX0_22 R (by omega) (by omega) (by omega) (by omega) hu (by omega) ?_
    refine r_iload_n C dX0_isWrong_12 (i := 1) rfl rfl ?_
    refine r_ishr C dX0_isWrong_13 ?_
    refine r_iconst C dX0_isWrong_14 ?_
    refine r_iand C dX0_isWrong_15 ?_
    show J _ _ (vi (shB (g 21 (60 * n + p)) k) :: _) _ _ _
    have hw := inR_toInt (zI (zI (g 21 (60 * n + p)) >>> (zI k &&& 31)).toInt &&& zI 1)
    change inR (shB (g 21 (60 * n + p)) k) at hw
    refine r_iconst C dX0_isWrong_16 ?_
    refine r_ic_ne C dX0_isWrong_17 (t := 24) (by decide) (by first | assumption | exact R.rg _ _ | exact R.ru _ _ | (unfold inR; omega)) (by first | assumption | exact R.rg _ _ | exact R.ru _ _ | (unfold inR; omega)) (fun c17 => ?_) (fun c17 => ?_)
    · skip
      refine r_iconst C dX0_isWrong_24 ?_
      refine r_iret C dX0_isWrong_25 (Or.inr ⟨rfl, (by first | assumption | omega | decide)⟩) ?_
      first | exact K _ inR1 (.y ⟨hb.t (by omega), by omega⟩) | exact K _ inR0 (.n (fun q => by have := q.2; omega)) | exact K _ inR0 (.n (fun q => hb.f (by omega) q.1))
    · skip
      refine r_iconst C dX0_isWrong_20 ?_
      refine r_goto C dX0_isWrong_21 (t := 25) (by decide) ?_
      refine r_iret C dX0_isWrong_25 (Or.inr ⟨rfl, (by first | assumption | omega | decide)⟩) ?_
      first | exact K _ inR1 (.y ⟨hb.t (by omega), by omega⟩) | exact K _ inR0 (.n (fun q => by have := q.2; omega)) | exact K _ inR0 (.n (fun q => hb.f (by omega) q.1))

set_option maxRecDepth 100000 in
set_option maxHeartbeats 4000000 in
theorem C_X0_numberIn {gx : GX} {d : Nat} {Qr : Option AV → Hp → Prop} {Qx : String → Hp → Prop} {x : Nat} {A : Nat → Int → Nat} {u : GT} {m : Int} {g : GT} {h : Hp} {n i p k : Int} (R : Rp gx x A u m g h) (n0 : 0 ≤ n) (n1 : n < g 4 0) (i0 : 0 ≤ i) (i1 : i < g 6 n) (hu : u 0 (12 * n + i) = p) (hp : 0 ≤ p) (hk : inR k) (K : Qr (some (vi (if 0 ≤ k ∧ k < 4 ∧ k < g 19 (60 * n + p) then g 20 (4 * (60 * n + p) + k) else -1))) h) : aM gx (d + 2) mX0_numberIn [vr (A 2 (12 * n + i)), vi k] h 0 0 Qr Qx := by
  intro J C
  show J 0 [some (vr (A 2 (12 * n + i))), some (vi k)] [] h 0 0
  refine r_aload_n C dX0_numberIn_0 (i := 0) rfl rfl ?_
  refine r_iload_n C dX0_numberIn_1 (i := 1) rfl rfl ?_
  refine c_VS1 C dX0_numberIn_2 sX0_32 rfl R (by omega) (by omega) (by omega) (by omega) rfl (Nat.le_of_ble_eq_true rfl) 0 0 (Nat.zero_le _) (Nat.zero_le _) (C_X0_hasCell R n0 n1 i0 i1 hu hp hk (fun z hz hb => ?_))
  have hz01 := hb.b
  refine r_if_eq C dX0_numberIn_5 (t := 17) (by decide) (by first | assumption | exact R.rg _ _ | exact R.ru _ _ | (unfold inR; omega)) (fun c5 => ?_) (fun c5 => ?_)
  · skip
    have hn := hb.f c5
    rw [if_neg hn] at K
    refine r_iconst C dX0_numberIn_17 ?_
    refine r_iret C dX0_numberIn_18 (Or.inl rfl) ?_
    exact K
  · skip
    have hy := hb.t c5
    rw [if_pos hy] at K
    refine r_aload_n C dX0_numberIn_8 (i := 0) rfl rfl ?_
    refine c_1_4 C dX0_numberIn_9 fX0_25 R (by omega) (by omega) (by omega) (by omega) ?_
    refine r_iload_n C dX0_numberIn_12 (i := 1) rfl rfl ?_
    refine c_nu C dX0_numberIn_13 R (by omega) (by omega) (by omega) (by omega) hu hp hy.1 hy.2.1 hy.2.2 ?_
    refine r_goto C dX0_numberIn_14 (t := 18) (by decide) ?_
    refine r_iret C dX0_numberIn_18 (Or.inl rfl) ?_
    exact K

set_option maxRecDepth 100000 in
set_option maxHeartbeats 4000000 in
theorem C_X0_makeWrong {gx : GX} {d : Nat} {Qr : Option AV → Hp → Prop} {Qx : String → Hp → Prop} {x : Nat} {A : Nat → Int → Nat} {u : GT} {m : Int} {g : GT} {h : Hp} {n i p k : Int} (R : Rp gx x A u m g h) (n0 : 0 ≤ n) (n1 : n < g 4 0) (i0 : 0 ≤ i) (i1 : i < g 6 n) (hu : u 0 (12 * n + i) = p) (hp : 0 ≤ p) (inj : ∀ j, 0 ≤ j → j < g 6 n → u 0 (12 * n + j) = p → j = i) (cl : ∀ j, 0 ≤ g 19 j ∧ g 19 j ≤ 4) (np : g 11 0 ≤ 60) (hk : inR k) (hy : 0 ≤ k ∧ k < 4 ∧ k < g 19 (60 * n + p)) (K : ∀ h1, Rp gx x A u m (up g 21 (60 * n + p) (seB (g 21 (60 * n + p)) k)) h1 → Qr none h1) : aM gx (d + 2) mX0_makeWrong [vr (A 2 (12 * n + i)), vi k] h 0 0 Qr Qx := by
  intro J C
  show J 0 [some (vr (A 2 (12 * n + i))), some (vi k)] [] h 0 0
  refine r_aload_n C dX0_makeWrong_0 (i := 0) rfl rfl ?_
  refine r_iload_n C dX0_makeWrong_1 (i := 1) rfl rfl ?_
  refine c_VS1 C dX0_makeWrong_2 sX0_32 rfl R (by omega) (by omega) (by omega) (by omega) rfl (Nat.le_of_ble_eq_true rfl) 0 0 (Nat.zero_le _) (Nat.zero_le _) (C_X0_hasCell R n0 n1 i0 i1 hu hp hk (fun z hz hb => ?_))
  have hz01 := hb.b
  refine r_if_eq C dX0_makeWrong_5 (t := 20) (by decide) (by first | assumption | exact R.rg _ _ | exact R.ru _ _ | (unfold inR; omega)) (fun c5 => ?_) (fun c5 => ?_)
  · skip
    exact absurd hy (hb.f c5)
  · skip
    refine r_aload_n C dX0_makeWrong_8 (i := 0) rfl rfl ?_
    refine r_dup C dX0_makeWrong_9 rfl ?_
    refine c_1_3 C dX0_makeWrong_10 fX0_22 R (by omega) (by omega) (by omega) (by omega) hu (by omega) ?_
    refine r_iconst C dX0_makeWrong_13 ?_
    refine r_iload_n C dX0_makeWrong_14 (i := 1) rfl rfl ?_
    refine r_ishl C dX0_makeWrong_15 ?_
    refine r_ior C dX0_makeWrong_16 ?_
    have s := R.s n0 n1 i0 i1
    have oc := R.oc n0 n1 i0 i1 hu hp
    refine r_putI C dX0_makeWrong_17 fX0_22 (Or.inl rfl) (Or.inl rfl) s.2.1.1 s.2.1.2 ?_
    show J _ _ _ (wI h (A 2 (12 * n + i)) (3 : Nat) (seB (g 21 (60 * n + p)) k)) _ _
    have R1 : Rp gx x A u m (up g 21 (60 * n + p) (seB (g 21 (60 * n + p)) k)) (wI h (A 2 (12 * n + i)) (3 : Nat) (seB (g 21 (60 * n + p)) k)) := by
      have k10 := s.2.2.1.2.2.1
      have k2 := s.2.1.2
      have ne : A 3 (12 * n + i) ≠ A 2 (12 * n + i) := fun z => by rw [z] at k10; omega
      refine R.slotI n0 n1 i0 i1 hu hp np inj (fun j => (cl j).2) (OT.wi h (Or.inl rfl) _ _) rfl (fun _ _ => rfl) ⟨?_, ?_, ?_, fun c c0 c1 => ?_⟩ (fun k j a b => ?_) (rgu R.rg (inR_toInt _))
      · rw [i_wi, if_neg (by omega), up_ne (by decide)]; exact oc.2.2.1
      · rw [i_wi, if_neg (by omega), up_ne (by decide)]; exact oc.2.2.2.1
      · rw [i_wi, if_pos ⟨rfl, rfl⟩, up_self]
      · rw [up_ne (by decide)] at c1
        rw [i_wi, if_neg (fun z => ne z.1), up_ne (by decide)]; exact oc.2.2.2.2.2 c c0 c1
      · unfold up; rw [if_neg (by omega)]
    refine r_ret C dX0_makeWrong_20 rfl ?_
    first | exact K _ R1 | exact absurd hy (hb.f (by assumption))

set_option maxRecDepth 100000 in
set_option maxHeartbeats 4000000 in
theorem C_X2_hasRoom {gx : GX} {d : Nat} {Qr : Option AV → Hp → Prop} {Qx : String → Hp → Prop} {x : Nat} {A : Nat → Int → Nat} {u : GT} {m : Int} {g : GT} {h : Hp} {n : Int} (R : Rp gx x A u m g h) (n0 : 0 ≤ n) (n1 : n < g 4 0) (K : ∀ z, inR z → BV z (u 3 n < g 6 n) → Qr (some (vi z)) h) : aM gx (d + 1) mX2_hasRoom [vr (A 0 n)] h 0 0 Qr Qx := by
  intro J C
  show J 0 [some (vr (A 0 n))] [] h 0 0
  refine r_aload_n C dX2_hasRoom_0 (i := 0) rfl rfl ?_
  refine c_3_3 C dX2_hasRoom_1 fX2_9 R (by omega) (by omega) ?_
  refine r_aload_n C dX2_hasRoom_4 (i := 0) rfl rfl ?_
  refine c_3_2 C dX2_hasRoom_5 fX2_42 R (by omega) (by omega) ?_
  refine c_len C dX2_hasRoom_8 R (by omega) (by omega) ?_
  refine r_ic_ge C dX2_hasRoom_9 (t := 16) (by decide) (by first | assumption | exact R.rg _ _ | exact R.ru _ _ | (unfold inR; omega)) (by first | assumption | exact R.rg _ _ | exact R.ru _ _ | (unfold inR; omega)) (fun c9 => ?_) (fun c9 => ?_)
  · skip
    refine r_iconst C dX2_hasRoom_16 ?_
    refine r_iret C dX2_hasRoom_17 (Or.inr ⟨rfl, (by first | assumption | omega | decide)⟩) ?_
    first | exact K _ inR1 (.y (by omega)) | exact K _ inR0 (.n (by omega))
  · skip
    refine r_iconst C dX2_hasRoom_12 ?_
    refine r_goto C dX2_hasRoom_13 (t := 17) (by decide) ?_
    refine r_iret C dX2_hasRoom_17 (Or.inr ⟨rfl, (by first | assumption | omega | decide)⟩) ?_
    first | exact K _ inR1 (.y (by omega)) | exact K _ inR0 (.n (by omega))

set_option maxRecDepth 100000 in
set_option maxHeartbeats 4000000 in
theorem C_X2_copyOf {gx : GX} {d : Nat} {Qr : Option AV → Hp → Prop} {Qx : String → Hp → Prop} {x : Nat} {A : Nat → Int → Nat} {u : GT} {m : Int} {g : GT} {h : Hp} {n p : Int} (R : Rp gx x A u m g h) (n0 : 0 ≤ n) (n1 : n < g 4 0) (p0 : -1 ≤ p) (p1 : p < g 11 0) (KS : ∀ i, 0 ≤ i → i < g 6 n → u 0 (12 * n + i) = p → (∀ j, 0 ≤ j → j < i → u 0 (12 * n + j) ≠ p) → Qr (some (vr (A 2 (12 * n + i)))) h) (KN : (∀ i, 0 ≤ i → i < g 6 n → u 0 (12 * n + i) ≠ p) → Qr (some vn) h) : aM gx (d + 1) mX2_copyOf [vr (A 0 n), vq (if p = -1 then none else some (A 4 p))] h 0 0 Qr Qx := by
  intro J C
  show J 0 [some (vr (A 0 n)), some (vq (if p = -1 then none else some (A 4 p))), none, none, none, none] [] h 0 0
  have rm := R.room n0 n1
  refine r_aload_n C dX2_copyOf_0 (i := 0) rfl rfl ?_
  refine c_3_2 C dX2_copyOf_1 fX2_42 R (by omega) (by omega) ?_
  refine r_astore_n C dX2_copyOf_4 (i := 2) rfl (Nat.le_of_ble_eq_true rfl) ?_
  dsimp only [List.set]
  refine r_aload_n C dX2_copyOf_5 (i := 2) rfl rfl ?_
  refine c_len C dX2_copyOf_6 R (by omega) (by omega) ?_
  refine r_istore_n C dX2_copyOf_7 (i := 3) rfl (Nat.le_of_ble_eq_true rfl) ?_
  dsimp only [List.set]
  refine r_iconst C dX2_copyOf_8 ?_
  refine r_istore C dX2_copyOf_9 (Nat.le_of_ble_eq_true rfl) ?_
  dsimp only [List.set]
  suffices LOOP : ∀ (m9 : Nat) (i : Int) (y : Option AV), g 6 n - i < (m9 : Int) → 0 ≤ i → i ≤ g 6 n → (∀ j, 0 ≤ j → j < i → u 0 (12 * n + j) ≠ p) → J 11 [some (vr (A 0 n)), some (vq (if p = -1 then none else some (A 4 p))), some (vr (A 1 n)), some (vi (g 6 n)), some (vi i), y] [] h 0 0 by
    exact LOOP ((g 6 n).toNat + 1) 0 _ (by omega) (by omega) (by omega) all_0
  intro m9
  induction m9 with
  | zero => intro i y hm9 i0 i1 al; exact absurd hm9 (by omega)
  | succ m9 ih9 =>
    intro i y hm9 i0 i1 al
    refine r_iload C dX2_copyOf_11 rfl ?_
    refine r_iload_n C dX2_copyOf_13 (i := 3) rfl rfl ?_
    refine r_ic_ge C dX2_copyOf_14 (t := 41) (by decide) (by first | assumption | exact R.rg _ _ | exact R.ru _ _ | (unfold inR; omega)) (by first | assumption | exact R.rg _ _ | exact R.ru _ _ | (unfold inR; omega)) (fun c14 => ?_) (fun c14 => ?_)
    · skip
      refine r_anull C dX2_copyOf_41 ?_
      refine r_aret C dX2_copyOf_42 rfl rfl ?_
      exact KN (fun j j0 j1 => al j j0 (by omega))
    · skip
      refine r_aload_n C dX2_copyOf_17 (i := 2) rfl rfl ?_
      refine r_iload C dX2_copyOf_18 rfl ?_
      refine c_pl C dX2_copyOf_20 R (by omega) (by omega) (by omega) (by omega) ?_
      refine r_astore C dX2_copyOf_21 (Nat.le_of_ble_eq_true rfl) ?_
      dsimp only [List.set]
      refine r_aload C dX2_copyOf_23 rfl ?_
      refine c_1_q C dX2_copyOf_25 fX2_47 R (by omega) (by omega) (by omega) (by omega) ?_
      refine r_aload_n C dX2_copyOf_28 (i := 1) rfl rfl ?_
      refine r_ac_ne C dX2_copyOf_29 (t := 35) (by decide) (fun c29 => ?_) (fun c29 => ?_)
      · skip
        have hne : u 0 (12 * n + i) ≠ p := by
          intro e
          rw [e] at c29
          exact c29 rfl
        refine r_iinc C dX2_copyOf_35 rfl ?_
        dsimp only [List.set]
        refine r_goto C dX2_copyOf_38 (t := 11) (by decide) ?_
        exact ih9 _ _ (by omega) (by omega) (by omega) (all_s al hne)
      · skip
        have hue : u 0 (12 * n + i) = p := by
          have s := R.s n0 n1 i0 (show i < g 6 n by omega)
          by_cases e1 : u 0 (12 * n + i) = -1
          · by_cases e2 : p = -1
            · omega
            · rw [if_pos e1, if_neg e2] at c29
              cases c29
          · by_cases e2 : p = -1
            · rw [if_neg e1, if_pos e2] at c29
              cases c29
            · rw [if_neg e1, if_neg e2] at c29
              have b := s.2.2.2.resolve_left (fun z => e1 z.1)
              exact (R.ap 4 _ 4 _ b.1 ⟨by omega, p1⟩ (Option.some.inj c29)).2
        refine r_aload C dX2_copyOf_32 rfl ?_
        refine r_aret C dX2_copyOf_34 rfl rfl ?_
        exact KS i i0 (by omega) hue al

theorem C_X2_copyOfP {gx : GX} {d : Nat} {Qr : Option AV → Hp → Prop} {Qx : String → Hp → Prop} {x : Nat} {A : Nat → Int → Nat} {u : GT} {m : Int} {g : GT} {h : Hp} {n p : Int} (R : Rp gx x A u m g h) (n0 : 0 ≤ n) (n1 : n < g 4 0) (p0 : 0 ≤ p) (p1 : p < g 11 0) (KS : ∀ i, 0 ≤ i → i < g 6 n → u 0 (12 * n + i) = p → Qr (some (vr (A 2 (12 * n + i)))) h) (KN : (∀ i, 0 ≤ i → i < g 6 n → u 0 (12 * n + i) ≠ p) → Qr (some vn) h) : aM gx (d + 1) mX2_copyOf [vr (A 0 n), vr (A 4 p)] h 0 0 Qr Qx := by
  have q := C_X2_copyOf (d := d) (Qr := Qr) (Qx := Qx) R n0 n1 (by omega) p1 (fun i a b c _ => KS i a b c) KN
  rw [if_neg (show ¬ p = -1 by omega)] at q
  exact q
theorem C_X2_copyOf0 {gx : GX} {d : Nat} {Qr : Option AV → Hp → Prop} {Qx : String → Hp → Prop} {x : Nat} {A : Nat → Int → Nat} {u : GT} {m : Int} {g : GT} {h : Hp} {n : Int} (R : Rp gx x A u m g h) (np : 0 ≤ g 11 0) (n0 : 0 ≤ n) (n1 : n < g 4 0) (KS : ∀ i, 0 ≤ i → i < g 6 n → u 0 (12 * n + i) = -1 → Qr (some (vr (A 2 (12 * n + i)))) h) (KN : (∀ i, 0 ≤ i → i < g 6 n → u 0 (12 * n + i) ≠ -1) → Qr (some vn) h) : aM gx (d + 1) mX2_copyOf [vr (A 0 n), vn] h 0 0 Qr Qx := by
  have q := C_X2_copyOf (d := d) (Qr := Qr) (Qx := Qx) R n0 n1 (Int.le_refl (-1)) (by omega) (fun i a b c _ => KS i a b c) KN
  rw [if_pos rfl] at q
  exact q

set_option maxRecDepth 100000 in
set_option maxHeartbeats 4000000 in
theorem C_X2_has {gx : GX} {d : Nat} {Qr : Option AV → Hp → Prop} {Qx : String → Hp → Prop} {x : Nat} {A : Nat → Int → Nat} {u : GT} {m : Int} {g : GT} {h : Hp} {n p : Int} (R : Rp gx x A u m g h) (n0 : 0 ≤ n) (n1 : n < g 4 0) (p0 : 0 ≤ p) (p1 : p < g 11 0) (K : ∀ z, inR z → BV z (∃ i, 0 ≤ i ∧ i < g 6 n ∧ u 0 (12 * n + i) = p) → Qr (some (vi z)) h) : aM gx (d + 2) mX2_has [vr (A 0 n), vr (A 4 p)] h 0 0 Qr Qx := by
  intro J C
  show J 0 [some (vr (A 0 n)), some (vr (A 4 p))] [] h 0 0
  refine r_aload_n C dX2_has_0 (i := 0) rfl rfl ?_
  refine r_aload_n C dX2_has_1 (i := 1) rfl rfl ?_
  refine c_VN1 C dX2_has_2 sX2_51 rfl R (by omega) (by omega) rfl (Nat.le_of_ble_eq_true rfl) 0 0 (Nat.zero_le _) (Nat.zero_le _) (C_X2_copyOfP R n0 n1 p0 p1 (fun i i0 i1 hu => ?_) (fun no => ?_))
  · skip
    refine r_ifnull C dX2_has_5 (t := 12) (by decide) (fun c5 => ?_) (fun a5 c5 => ?_)
    · skip
      cases c5
    · skip
      refine r_iconst C dX2_has_8 ?_
      refine r_goto C dX2_has_9 (t := 13) (by decide) ?_
      refine r_iret C dX2_has_13 (Or.inr ⟨rfl, (by first | assumption | omega | decide)⟩) ?_
      first | exact K _ inR1 (.y ⟨i, i0, i1, hu⟩) | exact K _ inR0 (.n (fun q => by obtain ⟨i, i0, i1, hu⟩ := q; exact no i i0 i1 hu))
  · skip
    refine r_ifnull C dX2_has_5 (t := 12) (by decide) (fun c5 => ?_) (fun a5 c5 => ?_)
    · skip
      refine r_iconst C dX2_has_12 ?_
      refine r_iret C dX2_has_13 (Or.inr ⟨rfl, (by first | assumption | omega | decide)⟩) ?_
      first | exact K _ inR1 (.y ⟨i, i0, i1, hu⟩) | exact K _ inR0 (.n (fun q => by obtain ⟨i, i0, i1, hu⟩ := q; exact no i i0 i1 hu))
    · skip
      cases c5

