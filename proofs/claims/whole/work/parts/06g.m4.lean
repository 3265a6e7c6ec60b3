/-! ===== the reference: leases and new pieces ===== -/
set_option maxRecDepth 100000 in
set_option maxHeartbeats 4000000 in
theorem C_X5_isGone {gx : GX} {d : Nat} {Qr : Option AV → Hp → Prop} {Qx : String → Hp → Prop} {q : Nat} {ar : Nat → Nat} {g : GT} {h : Hp} {p : Int} (R : RM q ar g h) (B : BD g) (hp : inR p) (k : ∀ z, inR z → BV z (fwG g p (-1) = 0) → Qr (some (vi z)) h) : aM gx (d + 2) mX5_isGone [vr q, vi p] h 0 0 Qr Qx := by
  intro J C
  show J 0 [some (vr q), some (vi p)] [] h 0 0
  refine r_aload_n C dX5_isGone_0 (i := 0) rfl rfl ?_
  refine r_iload_n C dX5_isGone_1 (i := 1) rfl rfl ?_
  refine r_iconst C dX5_isGone_2 ?_
  refine m_V2 C dX5_isGone_3 sX5_137 rfl R (Nat.le_of_ble_eq_true rfl) (C_X5_filesWith R B hp (by unfold inR; omega) (fun hfr => ?_))
  refine r_if_ne C dX5_isGone_6 (t := 13) (by decide) (by first | assumption | exact R.rg _ _ | exact rg _ _ | (unfold inR; omega)) (fun c6 => ?_) (fun c6 => ?_)
  · skip
    refine r_iconst C dX5_isGone_13 ?_
    refine r_iret C dX5_isGone_14 (Or.inr ⟨rfl, (by first | assumption | omega | decide)⟩) ?_
    first | exact k _ inR1 (.y (by omega)) | exact k _ inR0 (.n (by omega))
  · skip
    refine r_iconst C dX5_isGone_9 ?_
    refine r_goto C dX5_isGone_10 (t := 14) (by decide) ?_
    refine r_iret C dX5_isGone_14 (Or.inr ⟨rfl, (by first | assumption | omega | decide)⟩) ?_
    first | exact k _ inR1 (.y (by omega)) | exact k _ inR0 (.n (by omega))

set_option maxRecDepth 100000 in
set_option maxHeartbeats 4000000 in
theorem C_X5_isShared {gx : GX} {d : Nat} {Qr : Option AV → Hp → Prop} {Qx : String → Hp → Prop} {q : Nat} {ar : Nat → Nat} {g : GT} {h : Hp} {f p : Int} (R : RM q ar g h) (B : BD g) (hf : inR f) (hp : inR p) (k : ∀ z, inR z → BV z (0 < fwG g p f) → Qr (some (vi z)) h) : aM gx (d + 2) mX5_isShared [vr q, vi f, vi p] h 0 0 Qr Qx := by
  intro J C
  show J 0 [some (vr q), some (vi f), some (vi p)] [] h 0 0
  refine r_aload_n C dX5_isShared_0 (i := 0) rfl rfl ?_
  refine r_iload_n C dX5_isShared_1 (i := 2) rfl rfl ?_
  refine r_iload_n C dX5_isShared_2 (i := 1) rfl rfl ?_
  refine m_V2 C dX5_isShared_3 sX5_137 rfl R (Nat.le_of_ble_eq_true rfl) (C_X5_filesWith R B hp hf (fun hfr => ?_))
  refine r_if_le C dX5_isShared_6 (t := 13) (by decide) (by first | assumption | exact R.rg _ _ | exact rg _ _ | (unfold inR; omega)) (fun c6 => ?_) (fun c6 => ?_)
  · skip
    refine r_iconst C dX5_isShared_13 ?_
    refine r_iret C dX5_isShared_14 (Or.inr ⟨rfl, (by first | assumption | omega | decide)⟩) ?_
    first | exact k _ inR1 (.y (by omega)) | exact k _ inR0 (.n (by omega))
  · skip
    refine r_iconst C dX5_isShared_9 ?_
    refine r_goto C dX5_isShared_10 (t := 14) (by decide) ?_
    refine r_iret C dX5_isShared_14 (Or.inr ⟨rfl, (by first | assumption | omega | decide)⟩) ?_
    first | exact k _ inR1 (.y (by omega)) | exact k _ inR0 (.n (by omega))

set_option maxRecDepth 100000 in
set_option maxHeartbeats 4000000 in
theorem C_X5_hasLease {gx : GX} {d : Nat} {Qr : Option AV → Hp → Prop} {Qx : String → Hp → Prop} {q : Nat} {ar : Nat → Nat} {g : GT} {h : Hp} {p : Int} (R : RM q ar g h) (hp0 : 0 ≤ p) (hp1 : p < 60) (k : ∀ z, inR z → BV z (leaseP g p) → Qr (some (vi z)) h) : aM gx (d + 1) mX5_hasLease [vr q, vi p] h 0 0 Qr Qx := by
  intro J C
  show J 0 [some (vr q), some (vi p)] [] h 0 0
  refine r_aload_n C dX5_hasLease_0 (i := 0) rfl rfl ?_
  refine m_getA C dX5_hasLease_1 fX5_36 R (by decide) rfl ?_
  refine r_iload_n C dX5_hasLease_4 (i := 1) rfl rfl ?_
  refine m_iald C dX5_hasLease_5 R (N := 60) rfl (by decide) rfl (by omega) (by omega) (by omega) ?_
  refine r_iconst C dX5_hasLease_6 ?_
  refine r_ic_eq C dX5_hasLease_7 (t := 27) (by decide) (by first | assumption | exact R.rg _ _ | exact rg _ _ | (unfold inR; omega)) (by first | assumption | exact R.rg _ _ | exact rg _ _ | (unfold inR; omega)) (fun c7 => ?_) (fun c7 => ?_)
  · skip
    refine r_iconst C dX5_hasLease_27 ?_
    refine r_iret C dX5_hasLease_28 (Or.inr ⟨rfl, (by first | assumption | omega | decide)⟩) ?_
    first | exact k _ inR1 (.y ⟨by omega, by omega⟩) | exact k _ inR0 (.n (fun z => by have z1 := z.1; have z2 := z.2; omega))
  · skip
    refine r_aload_n C dX5_hasLease_10 (i := 0) rfl rfl ?_
    refine m_get0 C dX5_hasLease_11 fX5_98 R rfl rfl ?_
    refine r_aload_n C dX5_hasLease_14 (i := 0) rfl rfl ?_
    refine m_getA C dX5_hasLease_15 fX5_39 R (by decide) rfl ?_
    refine r_iload_n C dX5_hasLease_18 (i := 1) rfl rfl ?_
    refine m_iald C dX5_hasLease_19 R (N := 60) rfl (by decide) rfl (by omega) (by omega) (by omega) ?_
    refine r_ic_ge C dX5_hasLease_20 (t := 27) (by decide) (by first | assumption | exact R.rg _ _ | exact rg _ _ | (unfold inR; omega)) (by first | assumption | exact R.rg _ _ | exact rg _ _ | (unfold inR; omega)) (fun c20 => ?_) (fun c20 => ?_)
    · skip
      refine r_iconst C dX5_hasLease_27 ?_
      refine r_iret C dX5_hasLease_28 (Or.inr ⟨rfl, (by first | assumption | omega | decide)⟩) ?_
      first | exact k _ inR1 (.y ⟨by omega, by omega⟩) | exact k _ inR0 (.n (fun z => by have z1 := z.1; have z2 := z.2; omega))
    · skip
      refine r_iconst C dX5_hasLease_23 ?_
      refine r_goto C dX5_hasLease_24 (t := 28) (by decide) ?_
      refine r_iret C dX5_hasLease_28 (Or.inr ⟨rfl, (by first | assumption | omega | decide)⟩) ?_
      first | exact k _ inR1 (.y ⟨by omega, by omega⟩) | exact k _ inR0 (.n (fun z => by have z1 := z.1; have z2 := z.2; omega))

set_option maxRecDepth 100000 in
set_option maxHeartbeats 4000000 in
theorem C_X5_firstUp {gx : GX} {d : Nat} {Qr : Option AV → Hp → Prop} {Qx : String → Hp → Prop} {q : Nat} {ar : Nat → Nat} {g : GT} {h : Hp} {p : Int} (R : RM q ar g h) (B : BD g) (hp0 : 0 ≤ p) (hp1 : p < g 11 0) (k : Qr (some (vi (fuG g p))) h) : aM gx (d + 1) mX5_firstUp [vr q, vi p] h 0 0 Qr Qx := by
  intro J C
  show J 0 [some (vr q), some (vi p), none] [] h 0 0
  have b2 := B.np; have b1 := B.nn; have bcp := B.cp p hp0 hp1; have rg := R.rg
  refine r_iconst C dX5_firstUp_0 ?_
  refine r_istore_n C dX5_firstUp_1 (i := 2) rfl (Nat.le_of_ble_eq_true rfl) ?_
  dsimp only [List.set]
  suffices LOOP : ∀ (m : Nat) (i : Int), g 16 p - i < (m : Int) → 0 ≤ i → i ≤ g 16 p → (∀ j, 0 ≤ j → j < i → decide (g 7 (g 17 (8 * p + j)) ≠ 0) = false) → J 2 [some (vr q), some (vi p), some (vi i)] [] h 0 0 by
    exact LOOP ((g 16 p).toNat + 1) 0 (by omega) (by omega) (by omega) all_0
  intro m
  induction m with
  | zero => intro i hm hi0 hi1 hb; exact absurd hm (by omega)
  | succ m ih =>
    intro i hm hi0 hi1 hb
    refine r_iload_n C dX5_firstUp_2 (i := 2) rfl rfl ?_
    refine r_aload_n C dX5_firstUp_3 (i := 0) rfl rfl ?_
    refine m_getA C dX5_firstUp_4 fX5_45 R (by decide) rfl ?_
    refine r_iload_n C dX5_firstUp_7 (i := 1) rfl rfl ?_
    refine m_iald C dX5_firstUp_8 R (N := 60) rfl (by decide) rfl (by omega) (by omega) (by omega) ?_
    refine r_ic_ge C dX5_firstUp_9 (t := 49) (by decide) (by first | assumption | exact R.rg _ _ | exact rg _ _ | (unfold inR; omega)) (by first | assumption | exact R.rg _ _ | exact rg _ _ | (unfold inR; omega)) (fun c9 => ?_) (fun c9 => ?_)
    · skip
      refine r_iconst C dX5_firstUp_49 ?_
      refine r_iret C dX5_firstUp_50 (Or.inl rfl) ?_
      rw [show fuG g p = -1 from pick_none (fun j a b => hb j a (by omega))] at k; exact k
    · skip
      have bcy := B.cy p i hp0 hp1 hi0 c9
      refine r_aload_n C dX5_firstUp_12 (i := 0) rfl rfl ?_
      refine m_getA C dX5_firstUp_13 fX5_20 R (by decide) rfl ?_
      refine r_aload_n C dX5_firstUp_16 (i := 0) rfl rfl ?_
      refine m_getA C dX5_firstUp_17 fX5_48 R (by decide) rfl ?_
      refine r_bipush C dX5_firstUp_20 (by decide) ?_
      refine r_iload_n C dX5_firstUp_22 (i := 1) rfl rfl ?_
      refine r_imul C dX5_firstUp_23 ?_
      refine r_iload_n C dX5_firstUp_24 (i := 2) rfl rfl ?_
      refine r_iadd C dX5_firstUp_25 ?_
      refine m_iald C dX5_firstUp_26 R (N := 480) rfl (by decide) rfl (by omega) (by omega) (by omega) ?_
      refine m_zald C dX5_firstUp_27 R (N := 8) rfl (by decide) rfl (by omega) (by omega) (by omega) ?_
      refine r_if_eq C dX5_firstUp_28 (t := 43) (by decide) (by first | assumption | exact R.rg _ _ | exact rg _ _ | (unfold inR; omega)) (fun c28 => ?_) (fun c28 => ?_)
      · skip
        refine r_iinc C dX5_firstUp_43 rfl ?_
        dsimp only [List.set]
        refine r_goto C dX5_firstUp_46 (t := 2) (by decide) ?_
        exact ih _ (by omega) (by omega) (by omega) (all_s hb (decide_eq_false (fun z => z c28)))
      · skip
        refine r_aload_n C dX5_firstUp_31 (i := 0) rfl rfl ?_
        refine m_getA C dX5_firstUp_32 fX5_48 R (by decide) rfl ?_
        refine r_bipush C dX5_firstUp_35 (by decide) ?_
        refine r_iload_n C dX5_firstUp_37 (i := 1) rfl rfl ?_
        refine r_imul C dX5_firstUp_38 ?_
        refine r_iload_n C dX5_firstUp_39 (i := 2) rfl rfl ?_
        refine r_iadd C dX5_firstUp_40 ?_
        refine m_iald C dX5_firstUp_41 R (N := 480) rfl (by decide) rfl (by omega) (by omega) (by omega) ?_
        refine r_iret C dX5_firstUp_42 (Or.inl rfl) ?_
        rw [show fuG g p = _ from pick_hit hi0 c9 (decide_eq_true c28) hb] at k; exact k

theorem pick_b {g : GT} (p : Int) (f : Int → Bool) : pick g p f = -1 ∨ ∃ k, 0 ≤ k ∧ k < g 16 p ∧ pick g p f = g 17 (8 * p + k) ∧ f (g 17 (8 * p + k)) = true ∧ ∀ j, 0 ≤ j → j < k → f (g 17 (8 * p + j)) = false := by
  rcases findI_cases (fun k => f (g 17 (8 * p + k))) (g 16 p) with h | h
  · exact Or.inl (pick_none h.2)
  · exact Or.inr ⟨_, h.1, h.2.1, pick_hit h.1 h.2.1 h.2.2.1 h.2.2.2, h.2.2.1, h.2.2.2⟩
theorem pick_r {g : GT} (B : BD g) {p : Int} (hp0 : 0 ≤ p) (hp1 : p < g 11 0) (f : Int → Bool) : pick g p f = -1 ∨ (0 ≤ pick g p f ∧ pick g p f < g 4 0 ∧ f (pick g p f) = true) := by
  rcases pick_b (g := g) p f with h | ⟨k, h0, h1, h2, h3, -⟩
  · exact Or.inl h
  · have := B.cy p k hp0 hp1 h0 h1
    rw [h2]
    exact Or.inr ⟨this.1, this.2, h3⟩
theorem ff_b {g : GT} (B : BD g) (f : Int) {p : Int} (hp0 : 0 ≤ p) (hp1 : p < g 11 0) : ffG g f p = -1 ∨ (0 ≤ ffG g f p ∧ ffG g f p < 8) := by
  have h1 := pick_r B hp0 hp1 (fun n => decide (goodP g p n ∧ ((0 : Int) = 0 ∨ g 21 (60 * n + p) = 0)))
  have h2 := pick_r B hp0 hp1 (fun n => decide (g 7 n ≠ 0))
  have h3 := B.pr p hp0 hp1
  have h4 := B.nn
  unfold ffG fgG fuG
  split
  · rcases h1 with h1 | ⟨a, b, -⟩
    · exact Or.inl h1
    · exact Or.inr ⟨a, by omega⟩
  · split
    · exact h3
    · rcases h2 with h2 | ⟨a, b, -⟩
      · exact Or.inl h2
      · exact Or.inr ⟨a, by omega⟩

set_option maxRecDepth 100000 in
set_option maxHeartbeats 4000000 in
theorem C_X5_foundFor {gx : GX} {d : Nat} {Qr : Option AV → Hp → Prop} {Qx : String → Hp → Prop} {q : Nat} {ar : Nat → Nat} {g : GT} {h : Hp} {f p : Int} (R : RM q ar g h) (B : BD g) (hf : inR f) (hp0 : 0 ≤ p) (hp1 : p < g 11 0) (k : Qr (some (vi (ffG g f p))) h) : aM gx (d + 4) mX5_foundFor [vr q, vi f, vi p] h 0 0 Qr Qx := by
  intro J C
  show J 0 [some (vr q), some (vi f), some (vi p)] [] h 0 0
  have b2 := B.np; have b1 := B.nn; have bcp := B.cp p hp0 hp1; have rg := R.rg; have bpr := B.pr p hp0 hp1
  refine r_aload_n C dX5_foundFor_0 (i := 0) rfl rfl ?_
  refine r_iload_n C dX5_foundFor_1 (i := 1) rfl rfl ?_
  refine r_iload_n C dX5_foundFor_2 (i := 2) rfl rfl ?_
  refine m_V2 C dX5_foundFor_3 sX5_143 rfl R (Nat.le_of_ble_eq_true rfl) (C_X5_isShared R B hf (by unfold inR; omega) (fun z hz hb => ?_))
  refine r_if_eq C dX5_foundFor_6 (t := 18) (by decide) (by first | assumption | exact R.rg _ _ | exact rg _ _ | (unfold inR; omega)) (fun c6 => ?_) (fun c6 => ?_)
  · skip
    have hs := hb.f c6
    refine r_aload_n C dX5_foundFor_18 (i := 0) rfl rfl ?_
    refine r_iload_n C dX5_foundFor_19 (i := 2) rfl rfl ?_
    refine m_V1 C dX5_foundFor_20 sX5_150 rfl R (Nat.le_of_ble_eq_true rfl) (C_X5_hasLease R hp0 (by omega) (fun z2 hz2 hb2 => ?_))
    refine r_if_eq C dX5_foundFor_23 (t := 49) (by decide) (by first | assumption | exact R.rg _ _ | exact rg _ _ | (unfold inR; omega)) (fun c23 => ?_) (fun c23 => ?_)
    · skip
      have hl := hb2.f c23
      refine r_aload_n C dX5_foundFor_49 (i := 0) rfl rfl ?_
      refine r_iload_n C dX5_foundFor_50 (i := 2) rfl rfl ?_
      refine m_V1 C dX5_foundFor_51 sX5_153 rfl R (Nat.le_of_ble_eq_true rfl) (C_X5_firstUp R B hp0 hp1 ?_)
      refine r_iret C dX5_foundFor_54 (Or.inl rfl) ?_
      first
        | (rw [show ffG g f p = fgG g p 0 from if_pos hs] at k; exact k)
        | (rw [show ffG g f p = g 13 p by unfold ffG; rw [if_neg hs, if_pos ⟨hl, c37⟩]] at k; exact k)
        | (rw [show ffG g f p = fuG g p by unfold ffG; rw [if_neg hs, if_neg (fun z => hl z.1)]] at k; exact k)
        | (rw [show ffG g f p = fuG g p by unfold ffG; rw [if_neg hs, if_neg (fun z => z.2 c37)]] at k; exact k)
    · skip
      have hl := hb2.t c23; have hl1 := hl.1
      refine r_aload_n C dX5_foundFor_26 (i := 0) rfl rfl ?_
      refine m_getA C dX5_foundFor_27 fX5_20 R (by decide) rfl ?_
      refine r_aload_n C dX5_foundFor_30 (i := 0) rfl rfl ?_
      refine m_getA C dX5_foundFor_31 fX5_36 R (by decide) rfl ?_
      refine r_iload_n C dX5_foundFor_34 (i := 2) rfl rfl ?_
      refine m_iald C dX5_foundFor_35 R (N := 60) rfl (by decide) rfl (by omega) (by omega) (by omega) ?_
      refine m_zald C dX5_foundFor_36 R (N := 8) rfl (by decide) rfl (by omega) (by omega) (by omega) ?_
      refine r_if_eq C dX5_foundFor_37 (t := 49) (by decide) (by first | assumption | exact R.rg _ _ | exact rg _ _ | (unfold inR; omega)) (fun c37 => ?_) (fun c37 => ?_)
      · skip
        refine r_aload_n C dX5_foundFor_49 (i := 0) rfl rfl ?_
        refine r_iload_n C dX5_foundFor_50 (i := 2) rfl rfl ?_
        refine m_V1 C dX5_foundFor_51 sX5_153 rfl R (Nat.le_of_ble_eq_true rfl) (C_X5_firstUp R B hp0 hp1 ?_)
        refine r_iret C dX5_foundFor_54 (Or.inl rfl) ?_
        first
          | (rw [show ffG g f p = fgG g p 0 from if_pos hs] at k; exact k)
          | (rw [show ffG g f p = g 13 p by unfold ffG; rw [if_neg hs, if_pos ⟨hl, c37⟩]] at k; exact k)
          | (rw [show ffG g f p = fuG g p by unfold ffG; rw [if_neg hs, if_neg (fun z => hl z.1)]] at k; exact k)
          | (rw [show ffG g f p = fuG g p by unfold ffG; rw [if_neg hs, if_neg (fun z => z.2 c37)]] at k; exact k)
      · skip
        refine r_aload_n C dX5_foundFor_40 (i := 0) rfl rfl ?_
        refine m_getA C dX5_foundFor_41 fX5_36 R (by decide) rfl ?_
        refine r_iload_n C dX5_foundFor_44 (i := 2) rfl rfl ?_
        refine m_iald C dX5_foundFor_45 R (N := 60) rfl (by decide) rfl (by omega) (by omega) (by omega) ?_
        refine r_goto C dX5_foundFor_46 (t := 54) (by decide) ?_
        refine r_iret C dX5_foundFor_54 (Or.inl rfl) ?_
        first
          | (rw [show ffG g f p = fgG g p 0 from if_pos hs] at k; exact k)
          | (rw [show ffG g f p = g 13 p by unfold ffG; rw [if_neg hs, if_pos ⟨hl, c37⟩]] at k; exact k)
          | (rw [show ffG g f p = fuG g p by unfold ffG; rw [if_neg hs, if_neg (fun z => hl z.1)]] at k; exact k)
          | (rw [show ffG g f p = fuG g p by unfold ffG; rw [if_neg hs, if_neg (fun z => z.2 c37)]] at k; exact k)
  · skip
    have hs := hb.t c6
    refine r_aload_n C dX5_foundFor_9 (i := 0) rfl rfl ?_
    refine r_iload_n C dX5_foundFor_10 (i := 2) rfl rfl ?_
    refine r_iconst C dX5_foundFor_11 ?_
    refine m_V2 C dX5_foundFor_12 sX5_146 rfl R (Nat.le_of_ble_eq_true rfl) (C_X5_firstGood R B hp0 hp1 inR0 ?_)
    refine r_goto C dX5_foundFor_15 (t := 54) (by decide) ?_
    refine r_iret C dX5_foundFor_54 (Or.inl rfl) ?_
    first
      | (rw [show ffG g f p = fgG g p 0 from if_pos hs] at k; exact k)
      | (rw [show ffG g f p = g 13 p by unfold ffG; rw [if_neg hs, if_pos ⟨hl, c37⟩]] at k; exact k)
      | (rw [show ffG g f p = fuG g p by unfold ffG; rw [if_neg hs, if_neg (fun z => hl z.1)]] at k; exact k)
      | (rw [show ffG g f p = fuG g p by unfold ffG; rw [if_neg hs, if_neg (fun z => z.2 c37)]] at k; exact k)

set_option maxRecDepth 100000 in
set_option maxHeartbeats 4000000 in
theorem C_X5_canPart {gx : GX} {d : Nat} {Qr : Option AV → Hp → Prop} {Qx : String → Hp → Prop} {q : Nat} {ar : Nat → Nat} {g : GT} {h : Hp} {p : Int} (R : RM q ar g h) (B : BD g) (hp0 : 0 ≤ p) (hp1 : p < g 11 0) (k : ∀ z, inR z → BV z (cpP g p) → Qr (some (vi z)) h) : aM gx (d + 3) mX5_canPart [vr q, vi p] h 0 0 Qr Qx := by
  intro J C
  show J 0 [some (vr q), some (vi p), none, none, none] [] h 0 0
  have b2 := B.np; have b1 := B.nn; have bcp := B.cp p hp0 hp1; have rg := R.rg
  refine r_iconst C dX5_canPart_0 ?_
  refine r_istore_n C dX5_canPart_1 (i := 2) rfl (Nat.le_of_ble_eq_true rfl) ?_
  dsimp only [List.set]
  refine r_iconst C dX5_canPart_2 ?_
  refine r_istore_n C dX5_canPart_3 (i := 3) rfl (Nat.le_of_ble_eq_true rfl) ?_
  dsimp only [List.set]
  suffices LOOP : ∀ (m : Nat) (x i : Int) (o4 : Option AV), g 16 p - i < (m : Int) → 0 ≤ i → i ≤ g 16 p → inR x → BV x (∃ k, 0 ≤ k ∧ k < i ∧ roomP g p (g 17 (8 * p + k))) → J 4 [some (vr q), some (vi p), some (vi x), some (vi i), o4] [] h 0 0 by
    exact LOOP ((g 16 p).toNat + 1) 0 0 _ (by omega) (by omega) (by omega) inR0 (.n (fun ⟨k, a, b, _⟩ => by omega))
  intro m
  induction m with
  | zero => intro x i o4 hm hi0 hi1 hxr hx; exact absurd hm (by omega)
  | succ m ih =>
    intro x i o4 hm hi0 hi1 hxr hx
    refine r_iload_n C dX5_canPart_4 (i := 3) rfl rfl ?_
    refine r_aload_n C dX5_canPart_5 (i := 0) rfl rfl ?_
    refine m_getA C dX5_canPart_6 fX5_45 R (by decide) rfl ?_
    refine r_iload_n C dX5_canPart_9 (i := 1) rfl rfl ?_
    refine m_iald C dX5_canPart_10 R (N := 60) rfl (by decide) rfl (by omega) (by omega) (by omega) ?_
    refine r_ic_ge C dX5_canPart_11 (t := 69) (by decide) (by first | assumption | exact R.rg _ _ | exact rg _ _ | (unfold inR; omega)) (by first | assumption | exact R.rg _ _ | exact rg _ _ | (unfold inR; omega)) (fun c11 => ?_) (fun c11 => ?_)
    · skip
      refine r_iload_n C dX5_canPart_69 (i := 2) rfl rfl ?_
      refine r_if_eq C dX5_canPart_70 (t := 86) (by decide) (by first | assumption | exact R.rg _ _ | exact rg _ _ | (unfold inR; omega)) (fun c70 => ?_) (fun c70 => ?_)
      · skip
        refine r_iconst C dX5_canPart_86 ?_
        refine r_iret C dX5_canPart_87 (Or.inr ⟨rfl, (by first | assumption | omega | decide)⟩) ?_
        first
          | exact k _ inR1 (.y ⟨by obtain ⟨k, a, b, c⟩ := hx.t c70; exact ⟨k, a, by omega, c⟩, by omega⟩)
          | exact k _ inR0 (.n (fun z => by have z2 := z.2; omega))
          | exact k _ inR0 (.n (fun z => hx.f c70 (by obtain ⟨k, a, b, c⟩ := z.1; exact ⟨k, a, by omega, c⟩)))
      · skip
        refine r_aload_n C dX5_canPart_73 (i := 0) rfl rfl ?_
        refine m_get0 C dX5_canPart_74 fX5_85 R rfl rfl ?_
        refine r_bipush C dX5_canPart_77 (by decide) ?_
        refine r_ic_ge C dX5_canPart_79 (t := 86) (by decide) (by first | assumption | exact R.rg _ _ | exact rg _ _ | (unfold inR; omega)) (by first | assumption | exact R.rg _ _ | exact rg _ _ | (unfold inR; omega)) (fun c79 => ?_) (fun c79 => ?_)
        · skip
          refine r_iconst C dX5_canPart_86 ?_
          refine r_iret C dX5_canPart_87 (Or.inr ⟨rfl, (by first | assumption | omega | decide)⟩) ?_
          first
            | exact k _ inR1 (.y ⟨by obtain ⟨k, a, b, c⟩ := hx.t c70; exact ⟨k, a, by omega, c⟩, by omega⟩)
            | exact k _ inR0 (.n (fun z => by have z2 := z.2; omega))
            | exact k _ inR0 (.n (fun z => hx.f c70 (by obtain ⟨k, a, b, c⟩ := z.1; exact ⟨k, a, by omega, c⟩)))
        · skip
          refine r_iconst C dX5_canPart_82 ?_
          refine r_goto C dX5_canPart_83 (t := 87) (by decide) ?_
          refine r_iret C dX5_canPart_87 (Or.inr ⟨rfl, (by first | assumption | omega | decide)⟩) ?_
          first
            | exact k _ inR1 (.y ⟨by obtain ⟨k, a, b, c⟩ := hx.t c70; exact ⟨k, a, by omega, c⟩, by omega⟩)
            | exact k _ inR0 (.n (fun z => by have z2 := z.2; omega))
            | exact k _ inR0 (.n (fun z => hx.f c70 (by obtain ⟨k, a, b, c⟩ := z.1; exact ⟨k, a, by omega, c⟩)))
    · skip
      have bcy := B.cy p i hp0 hp1 hi0 c11
      refine r_aload_n C dX5_canPart_14 (i := 0) rfl rfl ?_
      refine m_getA C dX5_canPart_15 fX5_48 R (by decide) rfl ?_
      refine r_bipush C dX5_canPart_18 (by decide) ?_
      refine r_iload_n C dX5_canPart_20 (i := 1) rfl rfl ?_
      refine r_imul C dX5_canPart_21 ?_
      refine r_iload_n C dX5_canPart_22 (i := 3) rfl rfl ?_
      refine r_iadd C dX5_canPart_23 ?_
      refine m_iald C dX5_canPart_24 R (N := 480) rfl (by decide) rfl (by omega) (by omega) (by omega) ?_
      refine r_istore C dX5_canPart_25 (Nat.le_of_ble_eq_true rfl) ?_
      dsimp only [List.set]
      refine r_iload_n C dX5_canPart_27 (i := 2) rfl rfl ?_
      refine r_if_ne C dX5_canPart_28 (t := 57) (by decide) (by first | assumption | exact R.rg _ _ | exact rg _ _ | (unfold inR; omega)) (fun c28 => ?_) (fun c28 => ?_)
      · skip
        refine r_iconst C dX5_canPart_57 ?_
        refine r_goto C dX5_canPart_58 (t := 62) (by decide) ?_
        refine r_istore_n C dX5_canPart_62 (i := 2) rfl (Nat.le_of_ble_eq_true rfl) ?_
        dsimp only [List.set]
        refine r_iinc C dX5_canPart_63 rfl ?_
        dsimp only [List.set]
        refine r_goto C dX5_canPart_66 (t := 4) (by decide) ?_
        first
          | exact ih _ _ _ (by omega) (by omega) (by omega) inR1 (.y (by obtain ⟨k, a, b, c⟩ := hx.t c28; exact ⟨k, a, by omega, c⟩))
          | exact ih _ _ _ (by omega) (by omega) (by omega) inR1 (.y ⟨i, hi0, by omega, hgd, c54⟩)
          | exact ih _ _ _ (by omega) (by omega) (by omega) inR0 (.n (fun ⟨k, a, b, c⟩ => by
              by_cases e : k = i
              case pos => subst e; have e1 := c.1; have e2 := c.2; first | exact hgd e1 | omega
              case neg => exact hx.f c28 ⟨k, a, by omega, c⟩))
      · skip
        refine r_aload_n C dX5_canPart_31 (i := 0) rfl rfl ?_
        refine r_iload_n C dX5_canPart_32 (i := 1) rfl rfl ?_
        refine r_iload C dX5_canPart_33 rfl ?_
        refine m_V2 C dX5_canPart_35 sX5_123 rfl R (Nat.le_of_ble_eq_true rfl) (C_X5_isGood R B hp0 hp1 (by omega) (by omega) (fun z hz hbz => ?_))
        refine r_if_eq C dX5_canPart_38 (t := 61) (by decide) (by first | assumption | exact R.rg _ _ | exact rg _ _ | (unfold inR; omega)) (fun c38 => ?_) (fun c38 => ?_)
        · skip
          have hgd := hbz.f c38
          refine r_iconst C dX5_canPart_61 ?_
          refine r_istore_n C dX5_canPart_62 (i := 2) rfl (Nat.le_of_ble_eq_true rfl) ?_
          dsimp only [List.set]
          refine r_iinc C dX5_canPart_63 rfl ?_
          dsimp only [List.set]
          refine r_goto C dX5_canPart_66 (t := 4) (by decide) ?_
          first
            | exact ih _ _ _ (by omega) (by omega) (by omega) inR1 (.y (by obtain ⟨k, a, b, c⟩ := hx.t c28; exact ⟨k, a, by omega, c⟩))
            | exact ih _ _ _ (by omega) (by omega) (by omega) inR1 (.y ⟨i, hi0, by omega, hgd, c54⟩)
            | exact ih _ _ _ (by omega) (by omega) (by omega) inR0 (.n (fun ⟨k, a, b, c⟩ => by
                by_cases e : k = i
                case pos => subst e; have e1 := c.1; have e2 := c.2; first | exact hgd e1 | omega
                case neg => exact hx.f c28 ⟨k, a, by omega, c⟩))
        · skip
          have hgd := hbz.t c38
          refine r_aload_n C dX5_canPart_41 (i := 0) rfl rfl ?_
          refine r_iload C dX5_canPart_42 rfl ?_
          refine m_V1 C dX5_canPart_44 sX5_127 rfl R (Nat.le_of_ble_eq_true rfl) (C_X5_loadOf R B (by omega) (by omega) ?_)
          have blo := load_b B (g 17 (8 * p + i))
          refine r_aload_n C dX5_canPart_47 (i := 0) rfl rfl ?_
          refine m_getA C dX5_canPart_48 fX5_17 R (by decide) rfl ?_
          refine r_iload C dX5_canPart_51 rfl ?_
          refine m_iald C dX5_canPart_53 R (N := 8) rfl (by decide) rfl (by omega) (by omega) (by omega) ?_
          refine r_ic_ge C dX5_canPart_54 (t := 61) (by decide) (by first | assumption | exact R.rg _ _ | exact rg _ _ | (unfold inR; omega)) (by first | assumption | exact R.rg _ _ | exact rg _ _ | (unfold inR; omega)) (fun c54 => ?_) (fun c54 => ?_)
          · skip
            refine r_iconst C dX5_canPart_61 ?_
            refine r_istore_n C dX5_canPart_62 (i := 2) rfl (Nat.le_of_ble_eq_true rfl) ?_
            dsimp only [List.set]
            refine r_iinc C dX5_canPart_63 rfl ?_
            dsimp only [List.set]
            refine r_goto C dX5_canPart_66 (t := 4) (by decide) ?_
            first
              | exact ih _ _ _ (by omega) (by omega) (by omega) inR1 (.y (by obtain ⟨k, a, b, c⟩ := hx.t c28; exact ⟨k, a, by omega, c⟩))
              | exact ih _ _ _ (by omega) (by omega) (by omega) inR1 (.y ⟨i, hi0, by omega, hgd, c54⟩)
              | exact ih _ _ _ (by omega) (by omega) (by omega) inR0 (.n (fun ⟨k, a, b, c⟩ => by
                  by_cases e : k = i
                  case pos => subst e; have e1 := c.1; have e2 := c.2; first | exact hgd e1 | omega
                  case neg => exact hx.f c28 ⟨k, a, by omega, c⟩))
          · skip
            refine r_iconst C dX5_canPart_57 ?_
            refine r_goto C dX5_canPart_58 (t := 62) (by decide) ?_
            refine r_istore_n C dX5_canPart_62 (i := 2) rfl (Nat.le_of_ble_eq_true rfl) ?_
            dsimp only [List.set]
            refine r_iinc C dX5_canPart_63 rfl ?_
            dsimp only [List.set]
            refine r_goto C dX5_canPart_66 (t := 4) (by decide) ?_
            first
              | exact ih _ _ _ (by omega) (by omega) (by omega) inR1 (.y (by obtain ⟨k, a, b, c⟩ := hx.t c28; exact ⟨k, a, by omega, c⟩))
              | exact ih _ _ _ (by omega) (by omega) (by omega) inR1 (.y ⟨i, hi0, by omega, hgd, c54⟩)
              | exact ih _ _ _ (by omega) (by omega) (by omega) inR0 (.n (fun ⟨k, a, b, c⟩ => by
                  by_cases e : k = i
                  case pos => subst e; have e1 := c.1; have e2 := c.2; first | exact hgd e1 | omega
                  case neg => exact hx.f c28 ⟨k, a, by omega, c⟩))

set_option maxRecDepth 100000 in
set_option maxHeartbeats 4000000 in
theorem C_X5_canWrite {gx : GX} {d : Nat} {Qr : Option AV → Hp → Prop} {Qx : String → Hp → Prop} {q : Nat} {ar : Nat → Nat} {g : GT} {h : Hp} {f p : Int} (R : RM q ar g h) (B : BD g) (hf : inR f) (hp0 : 0 ≤ p) (hp1 : p < g 11 0) (k : ∀ z, inR z → BV z (cwP g f p) → Qr (some (vi z)) h) : aM gx (d + 5) mX5_canWrite [vr q, vi f, vi p] h 0 0 Qr Qx := by
  intro J C
  show J 0 [some (vr q), some (vi f), some (vi p)] [] h 0 0
  have b2 := B.np; have b1 := B.nn; have bcp := B.cp p hp0 hp1; have rg := R.rg; have bff := ff_b B f hp0 hp1
  refine r_aload_n C dX5_canWrite_0 (i := 0) rfl rfl ?_
  refine r_iload_n C dX5_canWrite_1 (i := 1) rfl rfl ?_
  refine r_iload_n C dX5_canWrite_2 (i := 2) rfl rfl ?_
  refine m_V2 C dX5_canWrite_3 sX5_156 rfl R (Nat.le_of_ble_eq_true rfl) (C_X5_foundFor R B hf hp0 hp1 ?_)
  refine r_iconst C dX5_canWrite_6 ?_
  refine r_ic_eq C dX5_canWrite_7 (t := 31) (by decide) (by first | assumption | exact R.rg _ _ | exact rg _ _ | (unfold inR; omega)) (by first | assumption | exact R.rg _ _ | exact rg _ _ | (unfold inR; omega)) (fun c7 => ?_) (fun c7 => ?_)
  · skip
    refine r_iconst C dX5_canWrite_31 ?_
    refine r_iret C dX5_canWrite_32 (Or.inr ⟨rfl, (by first | assumption | omega | decide)⟩) ?_
    first
      | exact k _ inR0 (.n (fun z => z.1 c7))
      | exact k _ inR1 (.y ⟨c7, Or.inl hs⟩)
      | exact k _ inR1 (.y ⟨c7, Or.inr hc⟩)
      | exact k _ inR0 (.n (fun z => by rcases z.2 with y | y; exact y hs; exact hc y))
  · skip
    refine r_aload_n C dX5_canWrite_10 (i := 0) rfl rfl ?_
    refine r_iload_n C dX5_canWrite_11 (i := 1) rfl rfl ?_
    refine r_iload_n C dX5_canWrite_12 (i := 2) rfl rfl ?_
    refine m_V2 C dX5_canWrite_13 sX5_143 rfl R (Nat.le_of_ble_eq_true rfl) (C_X5_isShared R B hf (by unfold inR; omega) (fun z hz hb => ?_))
    refine r_if_eq C dX5_canWrite_16 (t := 27) (by decide) (by first | assumption | exact R.rg _ _ | exact rg _ _ | (unfold inR; omega)) (fun c16 => ?_) (fun c16 => ?_)
    · skip
      have hs := hb.f c16
      refine r_iconst C dX5_canWrite_27 ?_
      refine r_goto C dX5_canWrite_28 (t := 32) (by decide) ?_
      refine r_iret C dX5_canWrite_32 (Or.inr ⟨rfl, (by first | assumption | omega | decide)⟩) ?_
      first
        | exact k _ inR0 (.n (fun z => z.1 c7))
        | exact k _ inR1 (.y ⟨c7, Or.inl hs⟩)
        | exact k _ inR1 (.y ⟨c7, Or.inr hc⟩)
        | exact k _ inR0 (.n (fun z => by rcases z.2 with y | y; exact y hs; exact hc y))
    · skip
      have hs := hb.t c16
      refine r_aload_n C dX5_canWrite_19 (i := 0) rfl rfl ?_
      refine r_iload_n C dX5_canWrite_20 (i := 2) rfl rfl ?_
      refine m_V1 C dX5_canWrite_21 sX5_159 rfl R (Nat.le_of_ble_eq_true rfl) (C_X5_canPart R B hp0 hp1 (fun z2 hz2 hb2 => ?_))
      refine r_if_eq C dX5_canWrite_24 (t := 31) (by decide) (by first | assumption | exact R.rg _ _ | exact rg _ _ | (unfold inR; omega)) (fun c24 => ?_) (fun c24 => ?_)
      · skip
        have hc := hb2.f c24
        refine r_iconst C dX5_canWrite_31 ?_
        refine r_iret C dX5_canWrite_32 (Or.inr ⟨rfl, (by first | assumption | omega | decide)⟩) ?_
        first
          | exact k _ inR0 (.n (fun z => z.1 c7))
          | exact k _ inR1 (.y ⟨c7, Or.inl hs⟩)
          | exact k _ inR1 (.y ⟨c7, Or.inr hc⟩)
          | exact k _ inR0 (.n (fun z => by rcases z.2 with y | y; exact y hs; exact hc y))
      · skip
        have hc := hb2.t c24
        refine r_iconst C dX5_canWrite_27 ?_
        refine r_goto C dX5_canWrite_28 (t := 32) (by decide) ?_
        refine r_iret C dX5_canWrite_32 (Or.inr ⟨rfl, (by first | assumption | omega | decide)⟩) ?_
        first
          | exact k _ inR0 (.n (fun z => z.1 c7))
          | exact k _ inR1 (.y ⟨c7, Or.inl hs⟩)
          | exact k _ inR1 (.y ⟨c7, Or.inr hc⟩)
          | exact k _ inR0 (.n (fun z => by rcases z.2 with y | y; exact y hs; exact hc y))

set_option maxRecDepth 100000 in
set_option maxHeartbeats 4000000 in
theorem C_X5_newPiece {gx : GX} {d : Nat} {Qr : Option AV → Hp → Prop} {Qx : String → Hp → Prop} {q : Nat} {ar : Nat → Nat} {g : GT} {h : Hp} (R : RM q ar g h) (h0 : 0 ≤ g 11 0) (h1 : g 11 0 < 60) (k : ∀ h1, RM q ar (npG g) h1 → Qr (some (vi (g 11 0))) h1) : aM gx (d + 2) mX5_newPiece [vr q] h 0 0 Qr Qx := by
  intro J C
  show J 0 [some (vr q), none] [] h 0 0
  refine r_aload_n C dX5_newPiece_0 (i := 0) rfl rfl ?_
  refine m_get0 C dX5_newPiece_1 fX5_85 R rfl rfl ?_
  refine r_istore_n C dX5_newPiece_4 (i := 1) rfl (Nat.le_of_ble_eq_true rfl) ?_
  dsimp only [List.set]
  refine r_aload_n C dX5_newPiece_5 (i := 0) rfl rfl ?_
  refine r_dup C dX5_newPiece_6 rfl ?_
  refine m_get0 C dX5_newPiece_7 fX5_85 R rfl rfl ?_
  refine r_iconst C dX5_newPiece_10 ?_
  refine r_iadd C dX5_newPiece_11 ?_
  refine m_put C dX5_newPiece_12 fX5_85 R rfl rfl (Or.inl rfl) (by first | assumption | exact R.rg _ _ | exact rg _ _ | (unfold inR; omega)) (fun h R => ?_)
  refine r_aload_n C dX5_newPiece_15 (i := 0) rfl rfl ?_
  refine m_getA C dX5_newPiece_16 fX5_33 R (by decide) rfl ?_
  refine r_iload_n C dX5_newPiece_19 (i := 1) rfl rfl ?_
  refine r_iconst C dX5_newPiece_20 ?_
  refine m_iast C dX5_newPiece_21 R (N := 60) rfl (by decide) rfl (by omega) (by omega) (by omega) (by first | assumption | exact R.rg _ _ | exact rg _ _ | (unfold inR; omega)) (fun h R => ?_)
  refine r_aload_n C dX5_newPiece_22 (i := 0) rfl rfl ?_
  refine r_iload_n C dX5_newPiece_23 (i := 1) rfl rfl ?_
  refine m_V1 C dX5_newPiece_24 sX5_119 rfl R (Nat.le_of_ble_eq_true rfl) (C_X5_endsLease R h0 h1 (fun h R => ?_))
  refine r_aload_n C dX5_newPiece_27 (i := 0) rfl rfl ?_
  refine m_getA C dX5_newPiece_28 fX5_45 R (by decide) rfl ?_
  refine r_iload_n C dX5_newPiece_31 (i := 1) rfl rfl ?_
  refine r_iconst C dX5_newPiece_32 ?_
  refine m_iast C dX5_newPiece_33 R (N := 60) rfl (by decide) rfl (by omega) (by omega) (by omega) (by first | assumption | exact R.rg _ _ | exact rg _ _ | (unfold inR; omega)) (fun h R => ?_)
  refine r_iload_n C dX5_newPiece_34 (i := 1) rfl rfl ?_
  refine r_iret C dX5_newPiece_35 (Or.inl rfl) ?_
  exact k _ R

theorem np_ne (g : GT) {k : Nat} (h : k ≠ 11 ∧ k ≠ 12 ∧ k ≠ 13 ∧ k ≠ 14 ∧ k ≠ 16) (j : Int) : npG g k j = g k j := by
  unfold npG elG
  rw [up_ne h.2.2.2.2, up_ne h.2.2.2.1, up_ne h.2.2.1, up_ne h.2.1, up_ne h.1]
theorem np_11 (g : GT) : npG g 11 0 = g 11 0 + 1 := by
  unfold npG elG
  rw [up_ne (by decide), up_ne (by decide), up_ne (by decide), up_ne (by decide), up_self]
theorem np_12 (g : GT) (j : Int) : npG g 12 j = if j = g 11 0 then 1 else g 12 j := by
  unfold npG elG
  rw [up_ne (by decide), up_ne (by decide), up_ne (by decide), up_at, up_ne (by decide)]
theorem np_13 (g : GT) (j : Int) : npG g 13 j = if j = g 11 0 then -1 else g 13 j := by
  unfold npG elG
  rw [up_ne (by decide), up_ne (by decide), up_at, up_ne (by decide), up_ne (by decide)]
theorem np_14 (g : GT) (j : Int) : npG g 14 j = if j = g 11 0 then -1 else g 14 j := by
  unfold npG elG
  rw [up_ne (by decide), up_at, up_ne (by decide), up_ne (by decide), up_ne (by decide)]
theorem np_16 (g : GT) (j : Int) : npG g 16 j = if j = g 11 0 then 0 else g 16 j := by
  unfold npG elG
  rw [up_at, up_ne (by decide), up_ne (by decide), up_ne (by decide), up_ne (by decide)]
theorem bd_np {g : GT} (B : BD g) (h : g 11 0 < 60) : BD (npG g) := by
  have b2 := B.np
  refine ⟨?_, ?_, ?_, ?_, ?_, ?_, fun p h0 h1 => ?_, fun p k h0 h1 h2 h3 => ?_, fun f h0 h1 => ?_, fun f k h0 h1 h2 h3 => ?_, fun p h0 h1 => ?_⟩
  · rw [np_ne g (by decide)]; exact B.nn
  · rw [np_11]; omega
  · rw [np_ne g (by decide)]; exact B.nf
  · intro n; rw [np_ne g (by decide)]; exact B.isup n
  · intro n; rw [np_ne g (by decide)]; exact B.ct n
  · intro n; rw [np_ne g (by decide)]; exact B.2.2.2.2.2.1 n
  · rw [np_11] at h1
    rw [np_16]
    split
    · omega
    · exact B.cp p h0 (by omega)
  · rw [np_11] at h1
    rw [np_16] at h3
    rw [np_ne g (by decide), np_ne g (by decide)]
    by_cases e : p = g 11 0
    · rw [if_pos e] at h3; omega
    · rw [if_neg e] at h3; exact B.cy p k h0 (by omega) h2 h3
  · rw [np_ne g (by decide)] at h1 ⊢; exact B.rw f h0 h1
  · rw [np_ne g (by decide)] at h1 h3
    rw [np_ne g (by decide), np_11]
    have := B.re f k h0 h1 h2 h3
    omega
  · rw [np_11] at h1
    rw [np_13]
    split
    · exact Or.inl rfl
    · exact B.pr p h0 (by omega)
theorem dc_np {g : GT} (D : DC g) : DC (npG g) := by
  intro p h0 h1 i j hi hij hj
  rw [np_11] at h1
  rw [np_16] at hj
  rw [np_ne g (by decide), np_ne g (by decide)]
  by_cases e : p = g 11 0
  · rw [if_pos e] at hj; omega
  · rw [if_neg e] at hj; exact D p h0 (by omega) i j hi hij hj
theorem gt_ne (g : GT) (n p n2 p2 : Int) {k : Nat} (h : k ≠ 18 ∧ k ≠ 19 ∧ k ≠ 20 ∧ k ≠ 21) (j : Int) : gtG g n p n2 p2 k j = g k j := by
  unfold gtG nuG
  rw [if_neg (by omega), up_ne h.2.2.2, up_ne h.2.1, up_ne h.1]
theorem bd_gt {g : GT} (B : BD g) (n p n2 p2 : Int) : BD (gtG g n p n2 p2) := bd_same B (fun k h j => gt_ne g n p n2 p2 (by omega) j)
theorem dc_gt {g : GT} (D : DC g) (n p n2 p2 : Int) : DC (gtG g n p n2 p2) := dc_same D (fun k h j => gt_ne g n p n2 p2 (by omega) j)
theorem plG_none {g : GT} {p n : Int} (h : ∀ k, 0 ≤ k → k < g 16 p → g 17 (8 * p + k) ≠ n) : plG g p n = -1 := findI_none (fun k a b => decide_eq_false (h k a b))
/-- a new piece that comes in place of o, when the first i copies of o have been looked at -/
def PTI (g : GT) (o i : Int) (s : GT) : Prop :=
  BD s ∧ DC s ∧ s 11 0 = g 11 0 + 1 ∧ (∀ k, k ≠ 11 ∧ k ≠ 12 ∧ k ≠ 13 ∧ k ≠ 14 ∧ k ≠ 16 ∧ k ≠ 17 ∧ k ≠ 18 ∧ k ≠ 19 ∧ k ≠ 20 ∧ k ≠ 21 → ∀ j, s k j = g k j) ∧
  (∀ j, s 12 j = npG g 12 j) ∧ (∀ j, s 13 j = npG g 13 j) ∧ (∀ j, s 14 j = npG g 14 j) ∧
  (∀ j, j ≠ g 11 0 → s 16 j = g 16 j) ∧ (∀ j, j < 8 * g 11 0 → s 17 j = g 17 j) ∧
  (0 ≤ s 16 (g 11 0) ∧ s 16 (g 11 0) ≤ i) ∧ (∀ j, 0 ≤ j → j < s 16 (g 11 0) → ∃ k, 0 ≤ k ∧ k < i ∧ s 17 (8 * g 11 0 + j) = g 17 (8 * o + k))
theorem pt_0 {g : GT} (B : BD g) (D : DC g) (h : g 11 0 < 60) (o : Int) : PTI g o 0 (npG g) := by
  refine ⟨bd_np B h, dc_np D, np_11 g, fun k hk j => np_ne g (by omega) j, fun _ => rfl, fun _ => rfl, fun _ => rfl, fun j hj => ?_, fun j hj => np_ne g (by decide) j, ?_, fun j h0 h1 => ?_⟩
  · rw [np_16, if_neg hj]
  · rw [np_16, if_pos rfl]; omega
  · rw [np_16, if_pos rfl] at h1; omega
theorem pt_s {g s : GT} {o i l : Int} (B : BD g) (D : DC g) (h : g 11 0 < 60) (ho0 : 0 ≤ o) (ho1 : o < g 11 0) (hi0 : 0 ≤ i) (hi1 : i < g 16 o) (S : PTI g o i s) : PTI g o (i + 1) (ptF o l (g 11 0) i s) := by
  have b2 := B.np
  have bco := B.cp o ho0 ho1
  have bcy := B.cy o i ho0 ho1 hi0 hi1
  obtain ⟨SB, SD, s11, sne, s12, s13, s14, s16, s17, sc, sy⟩ := S
  have e1 : s 17 (8 * o + i) = g 17 (8 * o + i) := s17 _ (by omega)
  have e4 : s 4 0 = g 4 0 := sne 4 (by decide) 0
  unfold ptF
  by_cases hr : roomP s o (s 17 (8 * o + i))
  · rw [if_pos hr]
    have t16 : ∀ j, gtG s (s 17 (8 * o + i)) (g 11 0) l o 16 j = s 16 j := fun j => gt_ne s _ _ _ _ (by decide) j
    have t17 : ∀ j, gtG s (s 17 (8 * o + i)) (g 11 0) l o 17 j = s 17 j := fun j => gt_ne s _ _ _ _ (by decide) j
    have t11 : gtG s (s 17 (8 * o + i)) (g 11 0) l o 11 0 = s 11 0 := gt_ne s _ _ _ _ (by decide) 0
    have t4 : gtG s (s 17 (8 * o + i)) (g 11 0) l o 4 0 = s 4 0 := gt_ne s _ _ _ _ (by decide) 0
    refine ⟨bd_kn (bd_gt SB _ _ _ _) b2.1 (by rw [t11]; omega) (by rw [t16]; omega) (by rw [e1]; omega) (by rw [t4, e4, e1]; omega),
      dc_kn (bd_gt SB _ _ _ _) (dc_gt SD _ _ _ _) b2.1 (by rw [t11]; omega) (by rw [t16]; omega) (plG_none (fun j a b => ?_)), ?_, fun k hk j => ?_, fun j => ?_, fun j => ?_, fun j => ?_, fun j hj => ?_, fun j hj => ?_, ?_, fun j h0 h1 => ?_⟩
    · rw [t16] at b
      rw [t17, e1]
      obtain ⟨k, k0, k1, k2⟩ := sy j a b
      rw [k2]
      exact D o ho0 ho1 k i k0 k1 hi1
    · rw [kn_ne _ _ _ (by decide) (by decide), t11, s11]
    · rw [kn_ne _ _ _ (by omega) (by omega), gt_ne _ _ _ _ _ (by omega)]
      exact sne k hk j
    · rw [kn_ne _ _ _ (by decide) (by decide), gt_ne _ _ _ _ _ (by decide), s12]
    · rw [kn_ne _ _ _ (by decide) (by decide), gt_ne _ _ _ _ _ (by decide), s13]
    · rw [kn_ne _ _ _ (by decide) (by decide), gt_ne _ _ _ _ _ (by decide), s14]
    · rw [kn_16n _ _ _ hj, t16]; exact s16 j hj
    · rw [kn_17, if_neg (by rw [t16]; omega), t17]; exact s17 j hj
    · rw [kn_16, t16]; omega
    · rw [kn_16, t16] at h1
      rw [kn_17, t16]
      by_cases e : j = s 16 (g 11 0)
      · rw [if_pos (by omega), e1]
        exact ⟨i, hi0, by omega, rfl⟩
      · rw [if_neg (by omega), t17]
        obtain ⟨k, k0, k1, k2⟩ := sy j h0 (by omega)
        exact ⟨k, k0, by omega, k2⟩
  · rw [if_neg hr]
    refine ⟨SB, SD, s11, sne, s12, s13, s14, s16, s17, by omega, fun j h0 h1 => ?_⟩
    obtain ⟨k, k0, k1, k2⟩ := sy j h0 h1
    exact ⟨k, k0, by omega, k2⟩
theorem pt_i {g : GT} {o l : Int} (B : BD g) (D : DC g) (h : g 11 0 < 60) (ho0 : 0 ≤ o) (ho1 : o < g 11 0) {i : Int} (hi0 : 0 ≤ i) (hi1 : i ≤ g 16 o) : PTI g o i (itrI (ptF o l (g 11 0)) i (npG g)) := by
  have key : ∀ m : Nat, (m : Int) ≤ g 16 o → PTI g o m (itrI (ptF o l (g 11 0)) m (npG g)) := by
    intro m
    induction m with
    | zero => intro _; exact pt_0 B D h o
    | succ m ih =>
      intro hm
      rw [show ((m + 1 : Nat) : Int) = (m : Int) + 1 by omega, itrI_s _ _ (by omega)]
      exact pt_s B D h ho0 ho1 (by omega) (by omega) (ih (by omega))
  have := key i.toNat (by omega)
  rwa [Int.toNat_of_nonneg hi0] at this

set_option maxRecDepth 100000 in
set_option maxHeartbeats 4000000 in
theorem C_X5_parts {gx : GX} {d : Nat} {Qr : Option AV → Hp → Prop} {Qx : String → Hp → Prop} {q : Nat} {ar : Nat → Nat} {g : GT} {h : Hp} {f z : Int} (R : RM q ar g h) (B : BD g) (D : DC g) (hf0 : 0 ≤ f) (hf1 : f < g 22 0) (hz0 : 0 ≤ z) (hz1 : z < g 25 f) (hn : g 11 0 < 60) (hl : fgG g (g 26 (6 * f + z)) 0 ≠ -1) (k : ∀ h1, RM q ar (ptG g f z) h1 → Qr (some (vi (g 11 0))) h1) : aM gx (d + 4) mX5_parts [vr q, vi f, vi z] h 0 0 Qr Qx := by
  intro J C
  show J 0 [some (vr q), some (vi f), some (vi z), none, none, none, none, none] [] h 0 0
  have b2 := B.np; have b1 := B.nn; have b3 := B.nf; have brw := B.rw f hf0 hf1; have rg := R.rg; have bre := B.re f z hf0 hf1 hz0 hz1; have rg := R.rg
  unfold ptG at k
  obtain ⟨o, ho⟩ : ∃ o, o = g 26 (6 * f + z) := ⟨_, rfl⟩
  rw [← ho] at hl k bre
  have bco := B.cp o bre.1 bre.2
  have bfg := (pick_r B bre.1 bre.2 (fun n => decide (goodP g o n ∧ ((0 : Int) = 0 ∨ g 21 (60 * n + o) = 0)))).resolve_left hl
  obtain ⟨l, hl9⟩ : ∃ l, l = fgG g o 0 := ⟨_, rfl⟩
  replace bfg : 0 ≤ l ∧ l < g 4 0 := by rw [hl9]; exact ⟨bfg.1, bfg.2.1⟩
  rw [← hl9] at k
  refine r_aload_n C dX5_parts_0 (i := 0) rfl rfl ?_
  refine m_getA C dX5_parts_1 fX5_72 R (by decide) rfl ?_
  refine r_bipush C dX5_parts_4 (by decide) ?_
  refine r_iload_n C dX5_parts_6 (i := 1) rfl rfl ?_
  refine r_imul C dX5_parts_7 ?_
  refine r_iload_n C dX5_parts_8 (i := 2) rfl rfl ?_
  refine r_iadd C dX5_parts_9 ?_
  refine m_iald C dX5_parts_10 R (N := 120) rfl (by decide) rfl (by omega) (by omega) (by omega) ?_
  rw [← ho]
  refine r_istore_n C dX5_parts_11 (i := 3) rfl (Nat.le_of_ble_eq_true rfl) ?_
  dsimp only [List.set]
  refine r_aload_n C dX5_parts_12 (i := 0) rfl rfl ?_
  refine r_iload_n C dX5_parts_13 (i := 3) rfl rfl ?_
  refine r_iconst C dX5_parts_14 ?_
  refine m_V2 C dX5_parts_15 sX5_146 rfl R (Nat.le_of_ble_eq_true rfl) (C_X5_firstGood R B bre.1 bre.2 inR0 ?_)
  rw [← hl9]
  refine r_istore C dX5_parts_18 (Nat.le_of_ble_eq_true rfl) ?_
  dsimp only [List.set]
  refine r_aload_n C dX5_parts_20 (i := 0) rfl rfl ?_
  refine m_V0 C dX5_parts_21 sX5_162 rfl R (Nat.le_of_ble_eq_true rfl) (C_X5_newPiece R b2.1 hn (fun h R => ?_))
  refine r_istore C dX5_parts_24 (Nat.le_of_ble_eq_true rfl) ?_
  dsimp only [List.set]
  refine r_iconst C dX5_parts_26 ?_
  refine r_istore C dX5_parts_27 (Nat.le_of_ble_eq_true rfl) ?_
  dsimp only [List.set]
  suffices LOOP : ∀ (m : Nat) (i : Int) (h : Hp) (o7 : Option AV), g 16 o - i < (m : Int) → 0 ≤ i → i ≤ g 16 o → RM q ar (itrI (ptF o l (g 11 0)) i (npG g)) h → J 29 [some (vr q), some (vi f), some (vi z), some (vi o), some (vi l), some (vi (g 11 0)), some (vi i), o7] [] h 0 0 by
    exact LOOP ((g 16 o).toNat + 1) 0 _ _ (by omega) (by omega) (by omega) R
  intro m
  induction m with
  | zero => intro i h o7 hm hi0 hi1 R; exact absurd hm (by omega)
  | succ m ih =>
    intro i h o7 hm hi0 hi1 R
    have S := pt_i (l := l) B D hn bre.1 bre.2 hi0 hi1
    obtain ⟨s, hs⟩ : ∃ s, s = itrI (ptF o l (g 11 0)) i (npG g) := ⟨_, rfl⟩
    rw [← hs] at R S
    have SB := S.1
    obtain ⟨-, -, s11, sne, s12, s13, s14, s16, s17, sc, sy⟩ := S
    have e16 := s16 o (by omega)
    have e4 := sne 4 (by decide) 0
    refine r_iload C dX5_parts_29 rfl ?_
    refine r_aload_n C dX5_parts_31 (i := 0) rfl rfl ?_
    refine m_getA C dX5_parts_32 fX5_45 R (by decide) rfl ?_
    refine r_iload_n C dX5_parts_35 (i := 3) rfl rfl ?_
    refine m_iald C dX5_parts_36 R (N := 60) rfl (by decide) rfl (by omega) (by omega) (by omega) ?_
    refine r_ic_ge C dX5_parts_37 (t := 105) (by decide) (by first | assumption | exact R.rg _ _ | exact rg _ _ | (unfold inR; omega)) (by first | assumption | exact R.rg _ _ | exact rg _ _ | (unfold inR; omega)) (fun c37 => ?_) (fun c37 => ?_)
    · skip
      refine r_aload_n C dX5_parts_105 (i := 0) rfl rfl ?_
      refine m_getA C dX5_parts_106 fX5_72 R (by decide) rfl ?_
      refine r_bipush C dX5_parts_109 (by decide) ?_
      refine r_iload_n C dX5_parts_111 (i := 1) rfl rfl ?_
      refine r_imul C dX5_parts_112 ?_
      refine r_iload_n C dX5_parts_113 (i := 2) rfl rfl ?_
      refine r_iadd C dX5_parts_114 ?_
      refine r_iload C dX5_parts_115 rfl ?_
      refine m_iast C dX5_parts_117 R (N := 120) rfl (by decide) rfl (by omega) (by omega) (by omega) (by first | assumption | exact R.rg _ _ | exact rg _ _ | (unfold inR; omega)) (fun h R => ?_)
      refine r_iload C dX5_parts_118 rfl ?_
      refine r_iret C dX5_parts_120 (Or.inl rfl) ?_
      exact k _ (by rw [show i = g 16 o by omega] at hs; rw [← hs]; exact R)
    · skip
      have bcy := SB.cy o i bre.1 (by omega) hi0 c37
      refine r_aload_n C dX5_parts_40 (i := 0) rfl rfl ?_
      refine m_getA C dX5_parts_41 fX5_48 R (by decide) rfl ?_
      refine r_bipush C dX5_parts_44 (by decide) ?_
      refine r_iload_n C dX5_parts_46 (i := 3) rfl rfl ?_
      refine r_imul C dX5_parts_47 ?_
      refine r_iload C dX5_parts_48 rfl ?_
      refine r_iadd C dX5_parts_50 ?_
      refine m_iald C dX5_parts_51 R (N := 480) rfl (by decide) rfl (by omega) (by omega) (by omega) ?_
      refine r_istore C dX5_parts_52 (Nat.le_of_ble_eq_true rfl) ?_
      dsimp only [List.set]
      refine r_aload_n C dX5_parts_54 (i := 0) rfl rfl ?_
      refine r_iload_n C dX5_parts_55 (i := 3) rfl rfl ?_
      refine r_iload C dX5_parts_56 rfl ?_
      refine m_V2 C dX5_parts_58 sX5_123 rfl R (Nat.le_of_ble_eq_true rfl) (C_X5_isGood R SB bre.1 (by omega) (by omega) (by omega) (fun z hz hbz => ?_))
      refine r_if_eq C dX5_parts_61 (t := 99) (by decide) (by first | assumption | exact R.rg _ _ | exact rg _ _ | (unfold inR; omega)) (fun c61 => ?_) (fun c61 => ?_)
      · skip
        have hgd := hbz.f c61
        refine r_iinc C dX5_parts_99 rfl ?_
        dsimp only [List.set]
        refine r_goto C dX5_parts_102 (t := 29) (by decide) ?_
        first
          | exact ih _ _ _ (by omega) (by omega) (by omega) (by rw [itrI_s _ _ hi0, ← hs]; unfold ptF; rw [if_pos ⟨hgd, c77⟩]; exact R)
          | exact ih _ _ _ (by omega) (by omega) (by omega) (by rw [itrI_s _ _ hi0, ← hs]; unfold ptF; rw [if_neg (fun z => hgd z.1)]; exact R)
          | exact ih _ _ _ (by omega) (by omega) (by omega) (by rw [itrI_s _ _ hi0, ← hs]; unfold ptF; rw [if_neg (fun z => by have z2 := z.2; omega)]; exact R)
      · skip
        have hgd := hbz.t c61
        refine r_aload_n C dX5_parts_64 (i := 0) rfl rfl ?_
        refine r_iload C dX5_parts_65 rfl ?_
        refine m_V1 C dX5_parts_67 sX5_127 rfl R (Nat.le_of_ble_eq_true rfl) (C_X5_loadOf R SB (by omega) (by omega) ?_)
        have blo := load_b SB (s 17 (8 * o + i))
        refine r_aload_n C dX5_parts_70 (i := 0) rfl rfl ?_
        refine m_getA C dX5_parts_71 fX5_17 R (by decide) rfl ?_
        refine r_iload C dX5_parts_74 rfl ?_
        refine m_iald C dX5_parts_76 R (N := 8) rfl (by decide) rfl (by omega) (by omega) (by omega) ?_
        refine r_ic_ge C dX5_parts_77 (t := 99) (by decide) (by first | assumption | exact R.rg _ _ | exact rg _ _ | (unfold inR; omega)) (by first | assumption | exact R.rg _ _ | exact rg _ _ | (unfold inR; omega)) (fun c77 => ?_) (fun c77 => ?_)
        · skip
          refine r_iinc C dX5_parts_99 rfl ?_
          dsimp only [List.set]
          refine r_goto C dX5_parts_102 (t := 29) (by decide) ?_
          first
            | exact ih _ _ _ (by omega) (by omega) (by omega) (by rw [itrI_s _ _ hi0, ← hs]; unfold ptF; rw [if_pos ⟨hgd, c77⟩]; exact R)
            | exact ih _ _ _ (by omega) (by omega) (by omega) (by rw [itrI_s _ _ hi0, ← hs]; unfold ptF; rw [if_neg (fun z => hgd z.1)]; exact R)
            | exact ih _ _ _ (by omega) (by omega) (by omega) (by rw [itrI_s _ _ hi0, ← hs]; unfold ptF; rw [if_neg (fun z => by have z2 := z.2; omega)]; exact R)
        · skip
          refine r_aload_n C dX5_parts_80 (i := 0) rfl rfl ?_
          refine r_iload C dX5_parts_81 rfl ?_
          refine r_iload C dX5_parts_83 rfl ?_
          refine r_iload C dX5_parts_85 rfl ?_
          refine r_iload_n C dX5_parts_87 (i := 3) rfl rfl ?_
          refine m_V4 C dX5_parts_88 sX5_166 rfl R (Nat.le_of_ble_eq_true rfl) (C_X5_gets R SB (by omega) (by omega) b2.1 (by omega) (by omega) (by omega) (by omega) (by omega) (fun h R => ?_))
          refine r_aload_n C dX5_parts_91 (i := 0) rfl rfl ?_
          refine r_iload C dX5_parts_92 rfl ?_
          refine r_iload C dX5_parts_94 rfl ?_
          refine m_V2 C dX5_parts_96 sX5_170 rfl R (Nat.le_of_ble_eq_true rfl) (C_X5_knows R b2.1 (by omega) (by unfold inR; omega) (by rw [gt_ne _ _ _ _ _ (by decide)]; omega) (by rw [gt_ne _ _ _ _ _ (by decide)]; omega) (fun h R => ?_))
          refine r_iinc C dX5_parts_99 rfl ?_
          dsimp only [List.set]
          refine r_goto C dX5_parts_102 (t := 29) (by decide) ?_
          first
            | exact ih _ _ _ (by omega) (by omega) (by omega) (by rw [itrI_s _ _ hi0, ← hs]; unfold ptF; rw [if_pos ⟨hgd, c77⟩]; exact R)
            | exact ih _ _ _ (by omega) (by omega) (by omega) (by rw [itrI_s _ _ hi0, ← hs]; unfold ptF; rw [if_neg (fun z => hgd z.1)]; exact R)
            | exact ih _ _ _ (by omega) (by omega) (by omega) (by rw [itrI_s _ _ hi0, ← hs]; unfold ptF; rw [if_neg (fun z => by have z2 := z.2; omega)]; exact R)

