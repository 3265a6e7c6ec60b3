/-! ===== the class: balancing ===== -/
theorem ba1_18 (g : GT) (mo le p j : Int) : ba1 g mo le p 18 j = if j = 60 * mo + p then 0 else gtG g le p mo p 18 j := by
  unfold ba1
  rw [up_ne (by decide), up_at, up_ne (by decide)]
theorem ba1_19 (g : GT) (mo le p j : Int) : ba1 g mo le p 19 j = if j = 60 * mo + p then 0 else gtG g le p mo p 19 j := by
  unfold ba1
  rw [up_at, up_ne (by decide), up_ne (by decide)]
theorem ba1_21 (g : GT) (mo le p j : Int) : ba1 g mo le p 21 j = gtG g le p mo p 21 j := by
  unfold ba1
  rw [up_ne (by decide), up_ne (by decide), up_ne (by decide)]
theorem baD_x (g : GT) (mo le p : Int) {k : Nat} (h : k ≠ 13 ∧ k ≠ 14) (j : Int) : baD g mo le p k j = ba1 g mo le p k j := by
  unfold baD
  split
  · exact el_ne _ _ h _
  · rfl
theorem iw_ba {g : GT} (W : IW g) {mo le p : Int} (p0 : 0 ≤ p) (p1 : p < g 11 0) (m0 : 0 ≤ mo) (m1 : mo < g 4 0) (l0 : 0 ≤ le) (l1 : le < g 4 0) (hb : baP g mo le p) : IW (baD g mo le p) := by
  have b1 := W.b.nn
  have b2 := W.b.np
  have I1 := iv1_ba1 W.i p0 p1 l0 l1 hb
  have hz := (plG_b (g := g) (p := p) (n := mo)).resolve_left hb.1
  have bc := W.b.cp p p0 p1
  have ID : IV1 (baD g mo le p) := by
    unfold baD
    split
    · exact iv1_el I1 p
    · exact I1
  refine ⟨ID, fun n q a b c d e => ?_, fun q q0 q1 hq => ?_, fun j => ?_, fun j => ?_⟩
  · rw [baD_x _ _ _ _ (by decide), baD_x _ _ _ _ (by decide), ba1_ne _ _ _ _ (by decide), ba1_ne _ _ _ _ (by decide)] at e
    rw [baD_x _ _ _ _ (by decide), ba1_18]
    split
    · rfl
    · rw [gt_18, if_neg (by omega)]
      exact W.z n q a b c d e
  · have e13 : baD g mo le p 13 q = if q = p ∧ g 13 p = mo then -1 else g 13 q := by
      unfold baD
      by_cases c : g 13 p = mo
      · rw [if_pos c]
        unfold elG
        rw [up_ne (by decide), up_at, ba1_ne _ _ _ _ (by decide)]
        by_cases c2 : q = p
        · rw [if_pos c2, if_pos ⟨c2, c⟩]
        · rw [if_neg c2, if_neg (fun z => c2 z.1)]
      · rw [if_neg c, ba1_ne _ _ _ _ (by decide), if_neg (fun z => c z.2)]
    rw [baD_x _ _ _ _ (by decide), ba1_ne _ _ _ _ (by decide)] at q1
    rw [e13] at hq ⊢
    by_cases c : q = p ∧ g 13 p = mo
    · rw [if_pos c] at hq; exact absurd rfl hq
    · rw [if_neg c] at hq ⊢
      have a := W.p q q0 q1 hq
      have bq := W.b.cp q q0 q1
      rw [baD_x _ _ _ _ (by decide), baD_x _ _ _ _ (by decide), ba1_ne _ _ _ _ (by decide)]
      unfold ba1
      rw [up_ne (by decide), up_ne (by decide), up_at, gt_ne _ _ _ _ _ (by decide)]
      refine ⟨a.1, ?_⟩
      rw [if_neg]
      · exact a.2
      · intro z
        have e1 : q = p := by omega
        have e2 : plG g p mo = 0 := by omega
        rw [e2, show 8 * p + 0 = 8 * p by omega] at hz
        rw [e1] at a
        exact c ⟨e1, a.2.symm.trans hz.2.2⟩
  · rw [baD_x _ _ _ _ (by decide), baD_x _ _ _ _ (by decide), ba1_19, ba1_21, gt_19, gt_21]
    have wm := W.w (60 * mo + p)
    by_cases c : j = 60 * mo + p
    · rw [if_pos c]
      have e : (if j = 60 * le + p then g 21 (60 * mo + p) else g 21 j) = 0 := by
        split
        · exact hb.2.2.2.1
        · rw [c]; exact hb.2.2.2.1
      rw [e]
      exact ⟨by decide, by decide⟩
    · rw [if_neg c]
      split
      · exact wm
      · exact W.w j
  · rw [baD_x _ _ _ _ (by decide), ba1_18]
    split
    · exact Int.le_refl 0
    · rw [gt_18]
      split
      · have := W.i.2.2.2.2 p p0 p1; omega
      · exact W.n j
/-- moving: in the class's order -/
theorem baD_T {g : GT} {mo le p : Int} (hz : plG g p mo ≠ -1) : baD g mo le p = up (up (if g 13 p = mo then elG (rpG (gtG g le p mo p) p mo le) p else rpG (gtG g le p mo p) p mo le) 18 (60 * mo + p) 0) 19 (60 * mo + p) 0 := by
  have e : plG (gtG g le p mo p) p mo = plG g p mo := plG_c (fun j => gt_ne _ _ _ _ _ (by decide) j) (fun j => gt_ne _ _ _ _ _ (by decide) j) p mo
  have e2 : rpG (gtG g le p mo p) p mo le = up (gtG g le p mo p) 17 (8 * p + plG g p mo) le := by
    unfold rpG
    rw [e, if_neg hz]
  rw [e2]
  unfold baD ba1
  split
  · unfold elG
    rw [up_cm (k1 := 19) (k2 := 13) (Or.inl (by decide)), up_cm (k1 := 18) (k2 := 13) (Or.inl (by decide)), up_cm (k1 := 19) (k2 := 14) (Or.inl (by decide)), up_cm (k1 := 18) (k2 := 14) (Or.inl (by decide))]
  · rfl

set_option maxRecDepth 100000 in
set_option maxHeartbeats 4000000 in
theorem C_X4_canMove {gx : GX} {d : Nat} {Qr : Option AV → Hp → Prop} {Qx : String → Hp → Prop} {x : Nat} {A : Nat → Int → Nat} {u : GT} {m : Int} {g : GT} {h : Hp} {p a b : Int} (Z : Rw gx x A u m g h) (p0 : 0 ≤ p) (p1 : p < g 11 0) (a0 : 0 ≤ a) (a1 : a < g 4 0) (l0 : 0 ≤ b) (l1 : b < g 4 0) (F : u 2 p = fwG g p (-1)) (K : ∀ z, inR z → BV z (baP g a b p) → Qr (some (vi z)) h) : aM gx (d + 6) mX4_canMove [vr (A 4 p), vr (A 0 a), vr (A 0 b)] h 0 0 Qr Qx := by
  intro J C
  show J 0 [some (vr (A 4 p)), some (vr (A 0 a)), some (vr (A 0 b)), none, none] [] h 0 0
  have R := Z.1; have W := Z.2.1; have Ci := Z.2.2; have B := W.b; have b1 := B.nn; have b2 := B.np; have b3 := B.nf; have Zd := Z.z; have vp := W.i.2.2.2.2 p p0 p1
  refine r_aload_n C dX4_canMove_0 (i := 1) rfl rfl ?_
  refine r_aload_n C dX4_canMove_1 (i := 0) rfl rfl ?_
  refine c_VN1 C dX4_canMove_2 sX4_82 rfl R (by omega) (by omega) rfl (Nat.le_of_ble_eq_true rfl) 0 0 (Nat.zero_le _) (Nat.zero_le _) (C_X2_copyOfP R a0 a1 p0 p1 (fun i i0 i1 hu => ?_) (fun no => ?_))
  · skip
    refine r_astore_n C dX4_canMove_5 (i := 3) rfl (Nat.le_of_ble_eq_true rfl) ?_
    dsimp only [List.set]
    refine r_aload_n C dX4_canMove_6 (i := 3) rfl rfl ?_
    refine r_ifnull C dX4_canMove_7 (t := 37) (by decide) (fun c7 => ?_) (fun a7 c7 => ?_)
    · skip
      cases c7
    · skip
      refine r_aload_n C dX4_canMove_10 (i := 3) rfl rfl ?_
      refine c_1_3 C dX4_canMove_11 fX4_214 R (by omega) (by omega) (by omega) (by omega) hu (by omega) ?_
      refine r_if_ne C dX4_canMove_14 (t := 37) (by decide) (by first | assumption | exact R.rg _ _ | exact R.ru _ _ | (unfold inR; omega)) (fun c14 => ?_) (fun c14 => ?_)
      · skip
        refine r_iconst C dX4_canMove_37 ?_
        refine r_istore C dX4_canMove_38 (Nat.le_of_ble_eq_true rfl) ?_
        dsimp only [List.set]
        refine r_iload C dX4_canMove_40 rfl ?_
        refine r_if_eq C dX4_canMove_42 (t := 64) (by decide) (by first | assumption | exact R.rg _ _ | exact R.ru _ _ | (unfold inR; omega)) (fun c42 => ?_) (fun c42 => ?_)
        · skip
          refine r_iconst C dX4_canMove_64 ?_
          refine r_iret C dX4_canMove_65 (Or.inr ⟨rfl, (by first | assumption | omega | decide)⟩) ?_
          first | exact K _ inR1 (.y ⟨hpl, by omega, hgd, by omega, hhas⟩) | exact K _ inR0 (.n (fun z => by have z1 := z.1; have z2 := z.2.1; have z3 := z.2.2.1.1; have z4 := z.2.2.1.2; have z5 := z.2.2.2.1; have z6 := z.2.2.2.2; first | omega | exact hpl z1 | exact hgd z.2.2.1))
        · skip
          exact absurd c42 (by decide)
      · skip
        refine r_aload_n C dX4_canMove_17 (i := 0) rfl rfl ?_
        refine r_aload_n C dX4_canMove_18 (i := 1) rfl rfl ?_
        refine c_VQ1 C dX4_canMove_19 sX4_363 rfl R (by omega) (by omega) rfl (Nat.le_of_ble_eq_true rfl) 0 0 (Nat.zero_le _) (Nat.zero_le _) (C_X3_isHeldBy R B p0 p1 a0 a1 (fun z hz hb => ?_))
        have hb01 := hb.b
        refine r_if_eq C dX4_canMove_22 (t := 37) (by decide) (by first | assumption | exact R.rg _ _ | exact R.ru _ _ | (unfold inR; omega)) (fun c22 => ?_) (fun c22 => ?_)
        · skip
          have hpl := hb.f c22
          refine r_iconst C dX4_canMove_37 ?_
          refine r_istore C dX4_canMove_38 (Nat.le_of_ble_eq_true rfl) ?_
          dsimp only [List.set]
          refine r_iload C dX4_canMove_40 rfl ?_
          refine r_if_eq C dX4_canMove_42 (t := 64) (by decide) (by first | assumption | exact R.rg _ _ | exact R.ru _ _ | (unfold inR; omega)) (fun c42 => ?_) (fun c42 => ?_)
          · skip
            refine r_iconst C dX4_canMove_64 ?_
            refine r_iret C dX4_canMove_65 (Or.inr ⟨rfl, (by first | assumption | omega | decide)⟩) ?_
            first | exact K _ inR1 (.y ⟨hpl, by omega, hgd, by omega, hhas⟩) | exact K _ inR0 (.n (fun z => by have z1 := z.1; have z2 := z.2.1; have z3 := z.2.2.1.1; have z4 := z.2.2.1.2; have z5 := z.2.2.2.1; have z6 := z.2.2.2.2; first | omega | exact hpl z1 | exact hgd z.2.2.1))
          · skip
            exact absurd c42 (by decide)
        · skip
          have hpl := hb.t c22
          refine r_aload_n C dX4_canMove_25 (i := 1) rfl rfl ?_
          refine r_aload_n C dX4_canMove_26 (i := 0) rfl rfl ?_
          refine c_S2 C dX4_canMove_27 sX4_257 rfl rfl (Nat.le_of_ble_eq_true rfl) 0 0 (Nat.zero_le _) (Nat.zero_le _) (C_X4_isGood Zd a0 a1 p0 p1 (fun z2 hz2 hb2 => ?_))
          have hb201 := hb2.b
          refine r_if_eq C dX4_canMove_30 (t := 37) (by decide) (by first | assumption | exact R.rg _ _ | exact R.ru _ _ | (unfold inR; omega)) (fun c30 => ?_) (fun c30 => ?_)
          · skip
            have hgd := hb2.f c30
            refine r_iconst C dX4_canMove_37 ?_
            refine r_istore C dX4_canMove_38 (Nat.le_of_ble_eq_true rfl) ?_
            dsimp only [List.set]
            refine r_iload C dX4_canMove_40 rfl ?_
            refine r_if_eq C dX4_canMove_42 (t := 64) (by decide) (by first | assumption | exact R.rg _ _ | exact R.ru _ _ | (unfold inR; omega)) (fun c42 => ?_) (fun c42 => ?_)
            · skip
              refine r_iconst C dX4_canMove_64 ?_
              refine r_iret C dX4_canMove_65 (Or.inr ⟨rfl, (by first | assumption | omega | decide)⟩) ?_
              first | exact K _ inR1 (.y ⟨hpl, by omega, hgd, by omega, hhas⟩) | exact K _ inR0 (.n (fun z => by have z1 := z.1; have z2 := z.2.1; have z3 := z.2.2.1.1; have z4 := z.2.2.1.2; have z5 := z.2.2.2.1; have z6 := z.2.2.2.2; first | omega | exact hpl z1 | exact hgd z.2.2.1))
            · skip
              exact absurd c42 (by decide)
          · skip
            have hgd := hb2.t c30
            refine r_iconst C dX4_canMove_33 ?_
            refine r_goto C dX4_canMove_34 (t := 38) (by decide) ?_
            refine r_istore C dX4_canMove_38 (Nat.le_of_ble_eq_true rfl) ?_
            dsimp only [List.set]
            refine r_iload C dX4_canMove_40 rfl ?_
            refine r_if_eq C dX4_canMove_42 (t := 64) (by decide) (by first | assumption | exact R.rg _ _ | exact R.ru _ _ | (unfold inR; omega)) (fun c42 => ?_) (fun c42 => ?_)
            · skip
              exact absurd c42 (by decide)
            · skip
              refine r_aload_n C dX4_canMove_45 (i := 0) rfl rfl ?_
              refine c_VQ0 C dX4_canMove_46 sX4_225 rfl R (by omega) (by omega)  (Nat.le_of_ble_eq_true rfl) 0 0 (Nat.zero_le _) (Nat.zero_le _) (C_X3_isGone R p0 p1 (fun z3 hz3 hb3 => ?_))
              have hb301 := hb3.b
              refine r_if_ne C dX4_canMove_49 (t := 64) (by decide) (by first | assumption | exact R.rg _ _ | exact R.ru _ _ | (unfold inR; omega)) (fun c49 => ?_) (fun c49 => ?_)
              · skip
                have hgo := hb3.t c49
                refine r_iconst C dX4_canMove_64 ?_
                refine r_iret C dX4_canMove_65 (Or.inr ⟨rfl, (by first | assumption | omega | decide)⟩) ?_
                first | exact K _ inR1 (.y ⟨hpl, by omega, hgd, by omega, hhas⟩) | exact K _ inR0 (.n (fun z => by have z1 := z.1; have z2 := z.2.1; have z3 := z.2.2.1.1; have z4 := z.2.2.1.2; have z5 := z.2.2.2.1; have z6 := z.2.2.2.2; first | omega | exact hpl z1 | exact hgd z.2.2.1))
              · skip
                have hgo := hb3.f c49
                refine r_aload_n C dX4_canMove_52 (i := 2) rfl rfl ?_
                refine r_aload_n C dX4_canMove_53 (i := 0) rfl rfl ?_
                refine c_VN1 C dX4_canMove_54 sX4_264 rfl R (by omega) (by omega) rfl (Nat.le_of_ble_eq_true rfl) 0 0 (Nat.zero_le _) (Nat.zero_le _) (C_X2_has R l0 l1 p0 p1 (fun z4 hz4 hb4 => ?_))
                have hb401 := hb4.b
                refine r_if_ne C dX4_canMove_57 (t := 64) (by decide) (by first | assumption | exact R.rg _ _ | exact R.ru _ _ | (unfold inR; omega)) (fun c57 => ?_) (fun c57 => ?_)
                · skip
                  have hhas : ¬ g 18 (60 * b + p) = 0 := fun e => by
                    obtain ⟨j, j0, j1, hu⟩ := hb4.t c57
                    have := Ci.occ l0 l1 j0 j1 hu p0
                    omega
                  refine r_iconst C dX4_canMove_64 ?_
                  refine r_iret C dX4_canMove_65 (Or.inr ⟨rfl, (by first | assumption | omega | decide)⟩) ?_
                  first | exact K _ inR1 (.y ⟨hpl, by omega, hgd, by omega, hhas⟩) | exact K _ inR0 (.n (fun z => by have z1 := z.1; have z2 := z.2.1; have z3 := z.2.2.1.1; have z4 := z.2.2.1.2; have z5 := z.2.2.2.1; have z6 := z.2.2.2.2; first | omega | exact hpl z1 | exact hgd z.2.2.1))
                · skip
                  have hhas : g 18 (60 * b + p) = 0 := Ci.no W.n l0 l1 p0 p1 (fun j j0 j1 hu => hb4.f c57 ⟨j, j0, j1, hu⟩)
                  refine r_iconst C dX4_canMove_60 ?_
                  refine r_goto C dX4_canMove_61 (t := 65) (by decide) ?_
                  refine r_iret C dX4_canMove_65 (Or.inr ⟨rfl, (by first | assumption | omega | decide)⟩) ?_
                  first | exact K _ inR1 (.y ⟨hpl, by omega, hgd, by omega, hhas⟩) | exact K _ inR0 (.n (fun z => by have z1 := z.1; have z2 := z.2.1; have z3 := z.2.2.1.1; have z4 := z.2.2.1.2; have z5 := z.2.2.2.1; have z6 := z.2.2.2.2; first | omega | exact hpl z1 | exact hgd z.2.2.1))
  · skip
    have hz0 := Ci.no W.n a0 a1 p0 p1 no
    refine r_astore_n C dX4_canMove_5 (i := 3) rfl (Nat.le_of_ble_eq_true rfl) ?_
    dsimp only [List.set]
    refine r_aload_n C dX4_canMove_6 (i := 3) rfl rfl ?_
    refine r_ifnull C dX4_canMove_7 (t := 37) (by decide) (fun c7 => ?_) (fun a7 c7 => ?_)
    · skip
      refine r_iconst C dX4_canMove_37 ?_
      refine r_istore C dX4_canMove_38 (Nat.le_of_ble_eq_true rfl) ?_
      dsimp only [List.set]
      refine r_iload C dX4_canMove_40 rfl ?_
      refine r_if_eq C dX4_canMove_42 (t := 64) (by decide) (by first | assumption | exact R.rg _ _ | exact R.ru _ _ | (unfold inR; omega)) (fun c42 => ?_) (fun c42 => ?_)
      · skip
        refine r_iconst C dX4_canMove_64 ?_
        refine r_iret C dX4_canMove_65 (Or.inr ⟨rfl, (by first | assumption | omega | decide)⟩) ?_
        first | exact K _ inR1 (.y ⟨hpl, by omega, hgd, by omega, hhas⟩) | exact K _ inR0 (.n (fun z => by have z1 := z.1; have z2 := z.2.1; have z3 := z.2.2.1.1; have z4 := z.2.2.1.2; have z5 := z.2.2.2.1; have z6 := z.2.2.2.2; first | omega | exact hpl z1 | exact hgd z.2.2.1))
      · skip
        exact absurd c42 (by decide)
    · skip
      cases c7

set_option maxRecDepth 100000 in
set_option maxHeartbeats 4000000 in
theorem C_X4_moveCopy {gx : GX} {d : Nat} {Qr : Option AV → Hp → Prop} {Qx : String → Hp → Prop} {x : Nat} {A : Nat → Int → Nat} {u : GT} {m : Int} {g : GT} {h : Hp} {p a b : Int} (Z : Rw gx x A u m g h) (p0 : 0 ≤ p) (p1 : p < g 11 0) (a0 : 0 ≤ a) (a1 : a < g 4 0) (l0 : 0 ≤ b) (l1 : b < g 4 0) (hb : baP g a b p) (hl : loadG g b < g 6 b) (K : ∀ u' h1, Rw gx x A u' m (baD g a b p) h1 → SU u u' → Qr none h1) : aM gx (d + 6) mX4_moveCopy [vr (A 4 p), vr (A 0 a), vr (A 0 b)] h 0 0 Qr Qx := by
  intro J C
  show J 0 [some (vr (A 4 p)), some (vr (A 0 a)), some (vr (A 0 b)), none, none] [] h 0 0
  have R := Z.1; have W := Z.2.1; have Ci := Z.2.2; have B := W.b; have b1 := B.nn; have b2 := B.np; have b3 := B.nf; have Zd := Z.z; have vp := W.i.2.2.2.2 p p0 p1
  have ha : 0 < g 18 (60 * a + p) := by have := hb.2.2.1.2; omega
  have hz := hb.2.2.2.2
  have hab : a ≠ b := fun e => by rw [e] at ha; omega
  have tk := Ci.tk l0 l1
  have lo := load_b B b
  have lo2 := load_b B a
  have tka := Ci.tk a0 a1
  have rm := R.room l0 l1
  have rma := R.room a0 a1
  obtain ⟨f0, f1, f2, f3⟩ := Ci.free l0 l1 hl (fun i i0 i1 => R.rv b i l0 l1 i0 i1)
  have no : ∀ j, 0 ≤ j → j < g 6 b → u 0 (12 * b + j) ≠ p := fun j j0 j1 e => by
    have := Ci.occ l0 l1 j0 j1 e p0
    omega
  have R0 := R
  refine r_aload_n C dX4_moveCopy_0 (i := 1) rfl rfl ?_
  refine r_aload_n C dX4_moveCopy_1 (i := 0) rfl rfl ?_
  refine c_VN1 C dX4_moveCopy_2 sX4_82 rfl R (by omega) (by omega) rfl (Nat.le_of_ble_eq_true rfl) 0 0 (Nat.zero_le _) (Nat.zero_le _) (C_X2_copyOfP R a0 a1 p0 p1 (fun i i0 i1 hu => ?_) (fun no2 => ?_))
  · skip
    refine r_astore_n C dX4_moveCopy_5 (i := 3) rfl (Nat.le_of_ble_eq_true rfl) ?_
    dsimp only [List.set]
    refine r_aload_n C dX4_moveCopy_6 (i := 2) rfl rfl ?_
    refine r_aload_n C dX4_moveCopy_7 (i := 0) rfl rfl ?_
    refine c_VN1 C dX4_moveCopy_8 sX4_271 rfl R (by omega) (by omega) rfl (Nat.le_of_ble_eq_true rfl) 0 0 (Nat.zero_le _) (Nat.zero_le _) (C_X2_takePlace R l0 l1 p0 p1 no (fun j => (W.i.2.2.1 j).2) b2.2 (by unfold inR; omega) b2.1 (fun j h1 j0 j1 hj R => ?_) (fun nf => ?_))
    · skip
      obtain ⟨u1, hu1⟩ : ∃ u1, u1 = up (up u 0 (12 * b + j) p) 3 b (u 3 b + 1) := ⟨_, rfl⟩
      rw [← hu1] at R
      have nei : ¬ (b = a ∧ j = i) := fun z => hab z.1.symm
      have u1j : u1 0 (12 * b + j) = p := by rw [hu1, up_ne (by decide), up_self]
      have u1i : u1 0 (12 * a + i) = p := by rw [hu1, up_ne (by decide), up_off (by omega)]; exact hu
      have u13 : u1 3 a = u 3 a := by rw [hu1, up_off (by omega), up_ne (by decide)]
      have inj' : ∀ k, 0 ≤ k → k < g 6 b → u1 0 (12 * b + k) = p → k = j := fun k k0 k1 e => by
        rw [hu1, up_ne (by decide), up_at] at e
        by_cases c : 12 * b + k = 12 * b + j
        · omega
        · rw [if_neg c] at e; exact absurd e (no k k0 k1)
      have cl' : ∀ k, 0 ≤ bgG g b p 19 k ∧ bgG g b p 19 k ≤ 4 := fun k => by
        have := W.i.2.2.1 k
        unfold bgG
        rw [up_ne (by decide), up_at]
        split
        · omega
        · rw [up_ne (by decide)]; exact this
      have C1 : CI u1 (gtG g b p a p) := by
        rw [hu1]
        exact Ci.on (v := g 12 p) l0 l1 j0 j1 hj p0 p1 b2.2 R0.rml (R0.rvl b2.1) hz (by omega) (fun j => by rw [gt_18]) (gt_ne _ _ _ _ _ (by decide) _) (fun j => gt_ne _ _ _ _ _ (by decide) j) (gt_ne _ _ _ _ _ (by decide) _)
      refine r_astore C dX4_moveCopy_11 (Nat.le_of_ble_eq_true rfl) ?_
      dsimp only [List.set]
      refine r_aload_n C dX4_moveCopy_13 (i := 3) rfl rfl ?_
      refine r_ifnull C dX4_moveCopy_14 (t := 22) (by decide) (fun c14 => ?_) (fun a14 c14 => ?_)
      · skip
        cases c14
      · skip
        refine r_aload C dX4_moveCopy_17 rfl ?_
        refine r_ifnonnull C dX4_moveCopy_19 (t := 23) (by decide) (fun a19 c19 => ?_) (fun c19 => ?_)
        · skip
          refine r_aload C dX4_moveCopy_23 rfl ?_
          refine r_aload_n C dX4_moveCopy_25 (i := 3) rfl rfl ?_
          refine c_VS1 (n := b) (i := j) C dX4_moveCopy_26 sX4_274 rfl R l0 l1 j0 j1 rfl (Nat.le_of_ble_eq_true rfl) 0 0 (Nat.zero_le _) (Nat.zero_le _) (C_X0_takeCellsOf R l0 l1 j0 j1 u1j p0 inj' cl' b2.2 a0 a1 i0 i1 u1i p0 nei (fun h2 R => ?_))
          rw [tc_bg g (by omega)] at R
          obtain ⟨s, hs⟩ : ∃ s, s = gtG g b p a p := ⟨_, rfl⟩
          have BS : BD s := by rw [hs]; exact (iw_gt W p0 p1 l0 l1 a p).b
          have ge : ∀ k, k ≠ 18 ∧ k ≠ 19 ∧ k ≠ 20 ∧ k ≠ 21 → ∀ j, s k j = g k j := fun k hk j => by rw [hs]; exact gt_ne _ _ _ _ _ hk j
          have s18 : ∀ j, s 18 j = if j = 60 * b + p then g 12 p else g 18 j := fun j => by rw [hs]; exact gt_18 _ _ _ _ _ j
          have bT := baD_T (g := g) (mo := a) (le := b) hb.1
          have bX := fun j => (baD_x g a b p (k := 18) (by decide) j).trans (ba1_18 g a b p j)
          rw [← hs] at R C1 bT bX
          have s4 := ge 4 (by decide) 0
          have s11 := ge 11 (by decide) 0
          have s13 := ge 13 (by decide) p
          rw [← s13] at bT
          refine r_aload_n C dX4_moveCopy_29 (i := 0) rfl rfl ?_
          refine r_aload_n C dX4_moveCopy_30 (i := 1) rfl rfl ?_
          refine r_aload_n C dX4_moveCopy_31 (i := 2) rfl rfl ?_
          refine c_VQ2 C dX4_moveCopy_32 sX4_400 rfl R (by omega) (by omega) rfl rfl (Nat.le_of_ble_eq_true rfl) 0 0 (Nat.zero_le _) (Nat.zero_le _) (C_X3_replaceHolder R BS p0 (by omega) a0 (by omega) l0 (by omega) (fun z => by rw [s13] at z ⊢; rw [s4]; exact W.p.b B p0 p1 z) (fun h3 R => ?_))
          have e : ∀ k, k ≠ 13 ∧ k ≠ 14 ∧ k ≠ 17 → ∀ j, (if s 13 p = a then elG (rpG s p a b) p else rpG s p a b) k j = s k j := fun k hk j => by
            split
            · rw [el_ne _ _ ⟨hk.1, hk.2.1⟩, rp_ne _ _ _ _ hk.2.2]
            · exact rp_ne _ _ _ _ hk.2.2 j
          obtain ⟨t, ht⟩ : ∃ t, t = (if s 13 p = a then elG (rpG s p a b) p else rpG s p a b) := ⟨_, rfl⟩
          rw [← ht] at R bT e
          have t4 := e 4 (by decide) 0
          have t6 := e 6 (by decide) a
          have t11 := e 11 (by decide) 0
          have g6a := ge 6 (by decide) a
          refine r_aload_n C dX4_moveCopy_35 (i := 1) rfl rfl ?_
          refine r_aload_n C dX4_moveCopy_36 (i := 3) rfl rfl ?_
          refine c_VN1 C dX4_moveCopy_37 sX4_282 rfl R a0 (by omega) rfl (Nat.le_of_ble_eq_true rfl) 0 0 (Nat.zero_le _) (Nat.zero_le _) (C_X2_freePlace R a0 (by omega) i0 (by omega) (by rw [u13]; unfold inR; omega) (fun h4 R => ?_))
          have cle : ∀ j, g 19 j ≤ 4 := fun j => (W.i.2.2.1 j).2
          have R5 : Rp gx x A (dpU u1 a i) m (baD g a b p) h4 := by
            rw [bT]
            refine Rp.ghost (n := a) (p := p) R (by omega) p0 (by omega) (fun j => ?_) (fun k k0 k1 z => ?_) (fun k j q1 q2 => ?_) (rgu (rgu R.rg inR0) inR0)
            · rw [e 19 (by decide), hs, gt_19]
              split <;> exact cle _
            · unfold dpU at z
              rw [up_ne (by decide), up_at] at z
              by_cases c : 12 * a + k = 12 * a + i
              · rw [if_pos c] at z; omega
              · rw [if_neg c, hu1, up_ne (by decide), up_off (by omega)] at z
                have := Ci.inj a0 a1 i0 i1 hu p0 k k0 (by omega) z
                omega
            · unfold up
              rw [if_neg (by omega), if_neg (by omega)]
          have eb : ∀ k, k ≠ 13 ∧ k ≠ 14 ∧ k ≠ 17 ∧ k ≠ 18 ∧ k ≠ 19 ∧ k ≠ 20 ∧ k ≠ 21 → ∀ j, baD g a b p k j = g k j := fun k hk j => by rw [baD_x _ _ _ _ (by omega), ba1_ne _ _ _ _ (by omega)]
          have C2 : CI (dpU u1 a i) (baD g a b p) := C1.off a0 (by omega) i0 (by omega) u1i p0 (by omega) (by omega) (fun n n0 n1 => by rw [ge 6 (by decide)]; exact R0.rml n n0 (by omega)) (fun n k n0 n1 k0 k1 => by
            rw [ge 6 (by decide)] at k1
            have := R0.rvl b2.1 n k n0 (by omega) k0 k1
            rw [hu1, up_ne (by decide), up_at]
            split <;> omega) bX ((eb 4 (by decide) 0).trans s4.symm) (fun j => (eb 6 (by decide) j).trans (ge 6 (by decide) j).symm) ((eb 11 (by decide) 0).trans s11.symm)
          refine r_ret C dX4_moveCopy_40 rfl ?_
          first | exact K _ _ ⟨R5, iw_ba W p0 p1 a0 a1 l0 l1 hb, C2⟩ (fun k j k0 k3 => by rw [su_dp u1 a i k j k0 k3, hu1, up_ne k3, up_ne k0])
        · skip
          cases c19
    · skip
      exact absurd f3 (nf f0 f1 f2)
  · skip
    have := Ci.no W.n a0 a1 p0 p1 no2
    omega

set_option maxRecDepth 100000 in
set_option maxHeartbeats 4000000 in
theorem C_X4_moveOneCopy {gx : GX} {d : Nat} {Qr : Option AV → Hp → Prop} {Qx : String → Hp → Prop} {x : Nat} {A : Nat → Int → Nat} {u : GT} {m : Int} {g : GT} {h : Hp} (Z : Rw gx x A u m g h) (hm : m = g 11 0) (F : ∀ p, 0 ≤ p → p < g 11 0 → u 2 p = fwG g p (-1)) (K : ∀ u' h1, Rw gx x A u' m (baG g) h1 → SU u u' → Qr none h1) : aM gx (d + 7) mX4_moveOneCopy [vr x] h 0 0 Qr Qx := by
  intro J C
  show J 0 [some (vr x), none, none, none, none] [] h 0 0
  have R := Z.1; have W := Z.2.1; have Ci := Z.2.2; have B := W.b; have b1 := B.nn; have b2 := B.np; have b3 := B.nf; have Zd := Z.z
  refine r_anull C dX4_moveOneCopy_0 ?_
  refine r_astore_n C dX4_moveOneCopy_1 (i := 1) rfl (Nat.le_of_ble_eq_true rfl) ?_
  dsimp only [List.set]
  refine r_anull C dX4_moveOneCopy_2 ?_
  refine r_astore_n C dX4_moveOneCopy_3 (i := 2) rfl (Nat.le_of_ble_eq_true rfl) ?_
  dsimp only [List.set]
  refine r_iconst C dX4_moveOneCopy_4 ?_
  refine r_istore_n C dX4_moveOneCopy_5 (i := 3) rfl (Nat.le_of_ble_eq_true rfl) ?_
  dsimp only [List.set]
  suffices LOOP : ∀ (m9 : Nat) (f e i : Int) (r1 r2 : Option Nat) (y : Option AV), g 4 0 - i < (m9 : Int) → 0 ≤ i → i ≤ g 4 0 → r1 = nq A f → r2 = nq A e → f = bmI g i → e = blI g i → J 6 [some (vr x), some (vq r1), some (vq r2), some (vi i), y] [] h 0 0 by
    exact LOOP ((g 4 0).toNat + 1) (-1) (-1) 0 _ _ _ (by omega) (by omega) (by omega) nq_0.symm nq_0.symm rfl rfl
  intro m9
  induction m9 with
  | zero => intro f e i r1 r2 y hm9 i0 i1 hr1 hr2 hf he; exact absurd hm9 (by omega)
  | succ m9 ih9 =>
    intro f e i r1 r2 y hm9 i0 i1 hr1 hr2 hf he
    have bb := bm_b g i0
    rw [← hf, ← he] at bb
    refine r_iload_n C dX4_moveOneCopy_6 (i := 3) rfl rfl ?_
    refine r_aload_n C dX4_moveOneCopy_7 (i := 0) rfl rfl ?_
    refine c_5_0 C dX4_moveOneCopy_8 fX4_10 R  ?_
    refine c_szN C dX4_moveOneCopy_11 sX4_44 R  (Nat.le_of_ble_eq_true rfl) ?_
    refine r_ic_ge C dX4_moveOneCopy_14 (t := 101) (by decide) (by first | assumption | exact R.rg _ _ | exact R.ru _ _ | (unfold inR; omega)) (by first | assumption | exact R.rg _ _ | exact R.ru _ _ | (unfold inR; omega)) (fun c14 => ?_) (fun c14 => ?_)
    · skip
      have ei : i = g 4 0 := by omega
      rw [ei] at hf he bb
      refine r_aload_n C dX4_moveOneCopy_101 (i := 1) rfl rfl ?_
      refine r_ifnull C dX4_moveOneCopy_102 (t := 129) (by decide) (fun c102 => ?_) (fun a102 c102 => ?_)
      · skip
        have hfn := nq_n (hr1.symm.trans c102)
        have e0 : baG g = g := if_pos (Or.inl (by rw [← hf]; exact hfn))
        rw [e0] at K
        refine r_ret C dX4_moveOneCopy_129 rfl ?_
        exact K _ _ Z (SU.refl _)
      · skip
        obtain ⟨hfn, ha⟩ := nq_s (hr1.symm.trans c102)
        rw [ha] at c102
        subst c102
        have bb := bb.resolve_left (fun z => hfn z.1)
        have tkf := Ci.tk (n := f) (by omega) (by omega); have lof := load_b B f
        refine r_aload_n C dX4_moveOneCopy_105 (i := 2) rfl rfl ?_
        refine r_ifnull C dX4_moveOneCopy_106 (t := 129) (by decide) (fun c106 => ?_) (fun a106 c106 => ?_)
        · skip
          have hen := nq_n (hr2.symm.trans c106)
          omega
        · skip
          obtain ⟨hen, ha2⟩ := nq_s (hr2.symm.trans c106)
          rw [ha2] at c106
          subst c106
          have tke := Ci.tk (n := e) (by omega) (by omega); have loe := load_b B e
          have rme := R.room (n := e) (by omega) (by omega)
          refine r_aload_n C dX4_moveOneCopy_109 (i := 1) rfl rfl ?_
          refine c_3_3 C dX4_moveOneCopy_110 fX4_217 R (by omega) (by omega) ?_
          refine r_aload_n C dX4_moveOneCopy_113 (i := 2) rfl rfl ?_
          refine c_3_3 C dX4_moveOneCopy_114 fX4_217 R (by omega) (by omega) ?_
          refine r_iconst C dX4_moveOneCopy_117 ?_
          refine r_iadd C dX4_moveOneCopy_118 ?_
          refine r_ic_lt C dX4_moveOneCopy_119 (t := 129) (by decide) (by first | assumption | exact R.rg _ _ | exact R.ru _ _ | (unfold inR; omega)) (by first | assumption | exact R.rg _ _ | exact R.ru _ _ | (unfold inR; omega)) (fun c119 => ?_) (fun c119 => ?_)
          · skip
            have e0 : baG g = g := if_pos (Or.inr (Or.inl (by rw [← hf, ← he]; omega)))
            rw [e0] at K
            refine r_ret C dX4_moveOneCopy_129 rfl ?_
            exact K _ _ Z (SU.refl _)
          · skip
            refine r_aload_n C dX4_moveOneCopy_122 (i := 2) rfl rfl ?_
            refine c_VN0 C dX4_moveOneCopy_123 sX4_261 rfl R (by omega) (by omega)  (Nat.le_of_ble_eq_true rfl) 0 0 (Nat.zero_le _) (Nat.zero_le _) (C_X2_hasRoom R (by omega) (by omega) (fun z hz hb => ?_))
            have hb01 := hb.b
            refine r_if_ne C dX4_moveOneCopy_126 (t := 130) (by decide) (by first | assumption | exact R.rg _ _ | exact R.ru _ _ | (unfold inR; omega)) (fun c126 => ?_) (fun c126 => ?_)
            · skip
              have hrm := hb.t c126
              have e1 : baG g = if findI (baC g f e) (g 11 0) = -1 then g else baD g f e (findI (baC g f e) (g 11 0)) := by
                unfold baG
                rw [← hf, ← he, if_neg (fun z => by omega)]
              rw [e1] at K
              refine r_iconst C dX4_moveOneCopy_130 ?_
              refine r_istore_n C dX4_moveOneCopy_131 (i := 3) rfl (Nat.le_of_ble_eq_true rfl) ?_
              dsimp only [List.set]
              suffices LOOP : ∀ (m8 : Nat) (i : Int) (y : Option AV), g 11 0 - i < (m8 : Int) → 0 ≤ i → i ≤ g 11 0 → (∀ j, 0 ≤ j → j < i → baC g f e j = false) → J 132 [some (vr x), some (vr (A 0 f)), some (vr (A 0 e)), some (vi i), y] [] h 0 0 by
                exact LOOP ((g 11 0).toNat + 1) 0 _ (by omega) (by omega) (by omega) all_0
              intro m8
              induction m8 with
              | zero => intro i y hm8 i0 i1 al; exact absurd hm8 (by omega)
              | succ m8 ih8 =>
                intro i y hm8 i0 i1 al
                refine r_iload_n C dX4_moveOneCopy_132 (i := 3) rfl rfl ?_
                refine r_aload_n C dX4_moveOneCopy_133 (i := 0) rfl rfl ?_
                refine c_5_1 C dX4_moveOneCopy_134 fX4_16 R  ?_
                refine c_szA C dX4_moveOneCopy_137 sX4_44 R  (Nat.le_of_ble_eq_true rfl) ?_
                refine r_ic_ge C dX4_moveOneCopy_140 (t := 180) (by decide) (by first | assumption | exact R.rg _ _ | exact R.ru _ _ | (unfold inR; omega)) (by first | assumption | exact R.rg _ _ | exact R.ru _ _ | (unfold inR; omega)) (fun c140 => ?_) (fun c140 => ?_)
                · skip
                  refine r_ret C dX4_moveOneCopy_180 rfl ?_
                  rw [findI_none (fun j j0 j1 => al j j0 (by omega)), if_pos rfl] at K
                  exact K _ _ Z (SU.refl _)
                · skip
                  refine r_aload_n C dX4_moveOneCopy_143 (i := 0) rfl rfl ?_
                  refine c_5_1 C dX4_moveOneCopy_144 fX4_16 R  ?_
                  refine r_iload_n C dX4_moveOneCopy_147 (i := 3) rfl rfl ?_
                  refine c_gtA C dX4_moveOneCopy_148 sX4_127 R  (by omega) (by omega) (Nat.le_of_ble_eq_true rfl) ?_
                  refine c_castQ C dX4_moveOneCopy_151 kX4_131 R (by omega) (by omega) ?_
                  refine r_astore C dX4_moveOneCopy_154 (Nat.le_of_ble_eq_true rfl) ?_
                  dsimp only [List.set]
                  refine r_aload C dX4_moveOneCopy_156 rfl ?_
                  refine r_aload_n C dX4_moveOneCopy_158 (i := 1) rfl rfl ?_
                  refine r_aload_n C dX4_moveOneCopy_159 (i := 2) rfl rfl ?_
                  refine c_S3 C dX4_moveOneCopy_160 sX4_393 rfl rfl rfl (Nat.le_of_ble_eq_true rfl) 0 0 (Nat.zero_le _) (Nat.zero_le _) (C_X4_canMove Z i0 (by omega) (by omega) (by omega) (by omega) (by omega) (F i i0 (by omega)) (fun z3 hz3 hb3 => ?_))
                  have hb301 := hb3.b
                  refine r_if_eq C dX4_moveOneCopy_163 (t := 174) (by decide) (by first | assumption | exact R.rg _ _ | exact R.ru _ _ | (unfold inR; omega)) (fun c163 => ?_) (fun c163 => ?_)
                  · skip
                    have hcm := hb3.f c163
                    refine r_iinc C dX4_moveOneCopy_174 rfl ?_
                    dsimp only [List.set]
                    refine r_goto C dX4_moveOneCopy_177 (t := 132) (by decide) ?_
                    exact ih8 _ _ (by omega) (by omega) (by omega) (all_s al (decide_eq_false hcm))
                  · skip
                    have hcm := hb3.t c163
                    have e2 : findI (baC g f e) (g 11 0) = i := findI_hit i0 (by omega) (decide_eq_true hcm) al
                    rw [e2, if_neg (by omega)] at K
                    refine r_aload C dX4_moveOneCopy_166 rfl ?_
                    refine r_aload_n C dX4_moveOneCopy_168 (i := 1) rfl rfl ?_
                    refine r_aload_n C dX4_moveOneCopy_169 (i := 2) rfl rfl ?_
                    refine c_S3 C dX4_moveOneCopy_170 sX4_396 rfl rfl rfl (Nat.le_of_ble_eq_true rfl) 0 0 (Nat.zero_le _) (Nat.zero_le _) (C_X4_moveCopy Z i0 (by omega) (by omega) (by omega) (by omega) (by omega) hcm (by omega) (fun u3 h3 Z3 S3 => ?_))
                    refine r_ret C dX4_moveOneCopy_173 rfl ?_
                    exact K _ _ Z3 S3
            · skip
              have hrm := hb.f c126
              have e0 : baG g = g := if_pos (Or.inr (Or.inr (by rw [← he]; omega)))
              rw [e0] at K
              refine r_ret C dX4_moveOneCopy_129 rfl ?_
              exact K _ _ Z (SU.refl _)
    · skip
      have tk := Ci.tk i0 c14; have lo := load_b B i
      refine r_aload_n C dX4_moveOneCopy_17 (i := 0) rfl rfl ?_
      refine c_5_0 C dX4_moveOneCopy_18 fX4_10 R  ?_
      refine r_iload_n C dX4_moveOneCopy_21 (i := 3) rfl rfl ?_
      refine c_gtN C dX4_moveOneCopy_22 sX4_127 R  (by omega) (by omega) (Nat.le_of_ble_eq_true rfl) ?_
      refine c_castN C dX4_moveOneCopy_25 kX4_53 R (by omega) (by omega) ?_
      refine r_astore C dX4_moveOneCopy_28 (Nat.le_of_ble_eq_true rfl) ?_
      dsimp only [List.set]
      refine r_aload C dX4_moveOneCopy_30 rfl ?_
      refine c_3_5 C dX4_moveOneCopy_32 fX4_220 R (by omega) (by omega) ?_
      refine r_if_eq C dX4_moveOneCopy_35 (t := 95) (by decide) (by first | assumption | exact R.rg _ _ | exact R.ru _ _ | (unfold inR; omega)) (fun c35 => ?_) (fun c35 => ?_)
      · skip
        refine r_iinc C dX4_moveOneCopy_95 rfl ?_
        dsimp only [List.set]
        refine r_goto C dX4_moveOneCopy_98 (t := 6) (by decide) ?_
        first
          | exact ih9 f e _ _ _ _ (by omega) (by omega) (by omega) hr1 hr2 (by rw [bmI_s _ i0, if_neg (fun z => by have z1 := z.1.1; have z2 := z.1.2; omega)]; exact hf) (by rw [blI_s _ i0, if_neg (fun z => by have z1 := z.1.1; have z2 := z.1.2; omega)]; exact he)
          | exact ih9 i i _ _ _ _ (by omega) (by omega) (by omega) (nq_1 (by omega)).symm (nq_1 (by omega)).symm (by rw [bmI_s _ i0, ← hf, if_pos ⟨⟨by omega, by omega⟩, by omega⟩]) (by rw [blI_s _ i0, ← he, if_pos ⟨⟨by omega, by omega⟩, by omega⟩])
          | exact ih9 i e _ _ _ _ (by omega) (by omega) (by omega) (nq_1 (by omega)).symm hr2 (by rw [bmI_s _ i0, ← hf, if_pos ⟨⟨by omega, by omega⟩, by omega⟩]) (by rw [blI_s _ i0, ← he, if_neg (fun z => by have z1 := z.2; omega)])
          | exact ih9 f i _ _ _ _ (by omega) (by omega) (by omega) hr1 (nq_1 (by omega)).symm (by rw [bmI_s _ i0, ← hf, if_neg (fun z => by have z1 := z.2; omega)]) (by rw [blI_s _ i0, ← he, if_pos ⟨⟨by omega, by omega⟩, by omega⟩])
          | exact ih9 f e _ _ _ _ (by omega) (by omega) (by omega) hr1 hr2 (by rw [bmI_s _ i0, ← hf, if_neg (fun z => by have z1 := z.2; omega)]) (by rw [blI_s _ i0, ← he, if_neg (fun z => by have z1 := z.2; omega)])
      · skip
        refine r_aload C dX4_moveOneCopy_38 rfl ?_
        refine c_3_4 C dX4_moveOneCopy_40 fX4_69 R (by omega) (by omega) ?_
        refine r_if_ne C dX4_moveOneCopy_43 (t := 49) (by decide) (by first | assumption | exact R.rg _ _ | exact R.ru _ _ | (unfold inR; omega)) (fun c43 => ?_) (fun c43 => ?_)
        · skip
          refine r_aload_n C dX4_moveOneCopy_49 (i := 1) rfl rfl ?_
          refine r_ifnull C dX4_moveOneCopy_50 (t := 65) (by decide) (fun c50 => ?_) (fun a50 c50 => ?_)
          · skip
            have hfn := nq_n (hr1.symm.trans c50)
            refine r_aload C dX4_moveOneCopy_65 rfl ?_
            refine r_goto C dX4_moveOneCopy_67 (t := 71) (by decide) ?_
            refine r_astore_n C dX4_moveOneCopy_71 (i := 1) rfl (Nat.le_of_ble_eq_true rfl) ?_
            dsimp only [List.set]
            refine r_aload_n C dX4_moveOneCopy_72 (i := 2) rfl rfl ?_
            refine r_ifnull C dX4_moveOneCopy_73 (t := 88) (by decide) (fun c73 => ?_) (fun a73 c73 => ?_)
            · skip
              have hen := nq_n (hr2.symm.trans c73)
              refine r_aload C dX4_moveOneCopy_88 rfl ?_
              refine r_goto C dX4_moveOneCopy_90 (t := 94) (by decide) ?_
              refine r_astore_n C dX4_moveOneCopy_94 (i := 2) rfl (Nat.le_of_ble_eq_true rfl) ?_
              dsimp only [List.set]
              refine r_iinc C dX4_moveOneCopy_95 rfl ?_
              dsimp only [List.set]
              refine r_goto C dX4_moveOneCopy_98 (t := 6) (by decide) ?_
              first
                | exact ih9 f e _ _ _ _ (by omega) (by omega) (by omega) hr1 hr2 (by rw [bmI_s _ i0, if_neg (fun z => by have z1 := z.1.1; have z2 := z.1.2; omega)]; exact hf) (by rw [blI_s _ i0, if_neg (fun z => by have z1 := z.1.1; have z2 := z.1.2; omega)]; exact he)
                | exact ih9 i i _ _ _ _ (by omega) (by omega) (by omega) (nq_1 (by omega)).symm (nq_1 (by omega)).symm (by rw [bmI_s _ i0, ← hf, if_pos ⟨⟨by omega, by omega⟩, by omega⟩]) (by rw [blI_s _ i0, ← he, if_pos ⟨⟨by omega, by omega⟩, by omega⟩])
                | exact ih9 i e _ _ _ _ (by omega) (by omega) (by omega) (nq_1 (by omega)).symm hr2 (by rw [bmI_s _ i0, ← hf, if_pos ⟨⟨by omega, by omega⟩, by omega⟩]) (by rw [blI_s _ i0, ← he, if_neg (fun z => by have z1 := z.2; omega)])
                | exact ih9 f i _ _ _ _ (by omega) (by omega) (by omega) hr1 (nq_1 (by omega)).symm (by rw [bmI_s _ i0, ← hf, if_neg (fun z => by have z1 := z.2; omega)]) (by rw [blI_s _ i0, ← he, if_pos ⟨⟨by omega, by omega⟩, by omega⟩])
                | exact ih9 f e _ _ _ _ (by omega) (by omega) (by omega) hr1 hr2 (by rw [bmI_s _ i0, ← hf, if_neg (fun z => by have z1 := z.2; omega)]) (by rw [blI_s _ i0, ← he, if_neg (fun z => by have z1 := z.2; omega)])
            · skip
              obtain ⟨hen, ha2⟩ := nq_s (hr2.symm.trans c73)
              rw [ha2] at c73
              subst c73
              have tke := Ci.tk (n := e) (by omega) (by omega); have loe := load_b B e
              refine r_aload C dX4_moveOneCopy_76 rfl ?_
              refine c_3_3 C dX4_moveOneCopy_78 fX4_217 R (by omega) (by omega) ?_
              refine r_aload_n C dX4_moveOneCopy_81 (i := 2) rfl rfl ?_
              refine c_3_3 C dX4_moveOneCopy_82 fX4_217 R (by omega) (by omega) ?_
              refine r_ic_ge C dX4_moveOneCopy_85 (t := 93) (by decide) (by first | assumption | exact R.rg _ _ | exact R.ru _ _ | (unfold inR; omega)) (by first | assumption | exact R.rg _ _ | exact R.ru _ _ | (unfold inR; omega)) (fun c85 => ?_) (fun c85 => ?_)
              · skip
                refine r_aload_n C dX4_moveOneCopy_93 (i := 2) rfl rfl ?_
                refine r_astore_n C dX4_moveOneCopy_94 (i := 2) rfl (Nat.le_of_ble_eq_true rfl) ?_
                dsimp only [List.set]
                refine r_iinc C dX4_moveOneCopy_95 rfl ?_
                dsimp only [List.set]
                refine r_goto C dX4_moveOneCopy_98 (t := 6) (by decide) ?_
                first
                  | exact ih9 f e _ _ _ _ (by omega) (by omega) (by omega) hr1 hr2 (by rw [bmI_s _ i0, if_neg (fun z => by have z1 := z.1.1; have z2 := z.1.2; omega)]; exact hf) (by rw [blI_s _ i0, if_neg (fun z => by have z1 := z.1.1; have z2 := z.1.2; omega)]; exact he)
                  | exact ih9 i i _ _ _ _ (by omega) (by omega) (by omega) (nq_1 (by omega)).symm (nq_1 (by omega)).symm (by rw [bmI_s _ i0, ← hf, if_pos ⟨⟨by omega, by omega⟩, by omega⟩]) (by rw [blI_s _ i0, ← he, if_pos ⟨⟨by omega, by omega⟩, by omega⟩])
                  | exact ih9 i e _ _ _ _ (by omega) (by omega) (by omega) (nq_1 (by omega)).symm hr2 (by rw [bmI_s _ i0, ← hf, if_pos ⟨⟨by omega, by omega⟩, by omega⟩]) (by rw [blI_s _ i0, ← he, if_neg (fun z => by have z1 := z.2; omega)])
                  | exact ih9 f i _ _ _ _ (by omega) (by omega) (by omega) hr1 (nq_1 (by omega)).symm (by rw [bmI_s _ i0, ← hf, if_neg (fun z => by have z1 := z.2; omega)]) (by rw [blI_s _ i0, ← he, if_pos ⟨⟨by omega, by omega⟩, by omega⟩])
                  | exact ih9 f e _ _ _ _ (by omega) (by omega) (by omega) hr1 hr2 (by rw [bmI_s _ i0, ← hf, if_neg (fun z => by have z1 := z.2; omega)]) (by rw [blI_s _ i0, ← he, if_neg (fun z => by have z1 := z.2; omega)])
              · skip
                refine r_aload C dX4_moveOneCopy_88 rfl ?_
                refine r_goto C dX4_moveOneCopy_90 (t := 94) (by decide) ?_
                refine r_astore_n C dX4_moveOneCopy_94 (i := 2) rfl (Nat.le_of_ble_eq_true rfl) ?_
                dsimp only [List.set]
                refine r_iinc C dX4_moveOneCopy_95 rfl ?_
                dsimp only [List.set]
                refine r_goto C dX4_moveOneCopy_98 (t := 6) (by decide) ?_
                first
                  | exact ih9 f e _ _ _ _ (by omega) (by omega) (by omega) hr1 hr2 (by rw [bmI_s _ i0, if_neg (fun z => by have z1 := z.1.1; have z2 := z.1.2; omega)]; exact hf) (by rw [blI_s _ i0, if_neg (fun z => by have z1 := z.1.1; have z2 := z.1.2; omega)]; exact he)
                  | exact ih9 i i _ _ _ _ (by omega) (by omega) (by omega) (nq_1 (by omega)).symm (nq_1 (by omega)).symm (by rw [bmI_s _ i0, ← hf, if_pos ⟨⟨by omega, by omega⟩, by omega⟩]) (by rw [blI_s _ i0, ← he, if_pos ⟨⟨by omega, by omega⟩, by omega⟩])
                  | exact ih9 i e _ _ _ _ (by omega) (by omega) (by omega) (nq_1 (by omega)).symm hr2 (by rw [bmI_s _ i0, ← hf, if_pos ⟨⟨by omega, by omega⟩, by omega⟩]) (by rw [blI_s _ i0, ← he, if_neg (fun z => by have z1 := z.2; omega)])
                  | exact ih9 f i _ _ _ _ (by omega) (by omega) (by omega) hr1 (nq_1 (by omega)).symm (by rw [bmI_s _ i0, ← hf, if_neg (fun z => by have z1 := z.2; omega)]) (by rw [blI_s _ i0, ← he, if_pos ⟨⟨by omega, by omega⟩, by omega⟩])
                  | exact ih9 f e _ _ _ _ (by omega) (by omega) (by omega) hr1 hr2 (by rw [bmI_s _ i0, ← hf, if_neg (fun z => by have z1 := z.2; omega)]) (by rw [blI_s _ i0, ← he, if_neg (fun z => by have z1 := z.2; omega)])
          · skip
            obtain ⟨hfn, ha⟩ := nq_s (hr1.symm.trans c50)
            rw [ha] at c50
            subst c50
            have tkf := Ci.tk (n := f) (by omega) (by omega); have lof := load_b B f
            refine r_aload C dX4_moveOneCopy_53 rfl ?_
            refine c_3_3 C dX4_moveOneCopy_55 fX4_217 R (by omega) (by omega) ?_
            refine r_aload_n C dX4_moveOneCopy_58 (i := 1) rfl rfl ?_
            refine c_3_3 C dX4_moveOneCopy_59 fX4_217 R (by omega) (by omega) ?_
            refine r_ic_le C dX4_moveOneCopy_62 (t := 70) (by decide) (by first | assumption | exact R.rg _ _ | exact R.ru _ _ | (unfold inR; omega)) (by first | assumption | exact R.rg _ _ | exact R.ru _ _ | (unfold inR; omega)) (fun c62 => ?_) (fun c62 => ?_)
            · skip
              refine r_aload_n C dX4_moveOneCopy_70 (i := 1) rfl rfl ?_
              refine r_astore_n C dX4_moveOneCopy_71 (i := 1) rfl (Nat.le_of_ble_eq_true rfl) ?_
              dsimp only [List.set]
              refine r_aload_n C dX4_moveOneCopy_72 (i := 2) rfl rfl ?_
              refine r_ifnull C dX4_moveOneCopy_73 (t := 88) (by decide) (fun c73 => ?_) (fun a73 c73 => ?_)
              · skip
                have hen := nq_n (hr2.symm.trans c73)
                refine r_aload C dX4_moveOneCopy_88 rfl ?_
                refine r_goto C dX4_moveOneCopy_90 (t := 94) (by decide) ?_
                refine r_astore_n C dX4_moveOneCopy_94 (i := 2) rfl (Nat.le_of_ble_eq_true rfl) ?_
                dsimp only [List.set]
                refine r_iinc C dX4_moveOneCopy_95 rfl ?_
                dsimp only [List.set]
                refine r_goto C dX4_moveOneCopy_98 (t := 6) (by decide) ?_
                first
                  | exact ih9 f e _ _ _ _ (by omega) (by omega) (by omega) hr1 hr2 (by rw [bmI_s _ i0, if_neg (fun z => by have z1 := z.1.1; have z2 := z.1.2; omega)]; exact hf) (by rw [blI_s _ i0, if_neg (fun z => by have z1 := z.1.1; have z2 := z.1.2; omega)]; exact he)
                  | exact ih9 i i _ _ _ _ (by omega) (by omega) (by omega) (nq_1 (by omega)).symm (nq_1 (by omega)).symm (by rw [bmI_s _ i0, ← hf, if_pos ⟨⟨by omega, by omega⟩, by omega⟩]) (by rw [blI_s _ i0, ← he, if_pos ⟨⟨by omega, by omega⟩, by omega⟩])
                  | exact ih9 i e _ _ _ _ (by omega) (by omega) (by omega) (nq_1 (by omega)).symm hr2 (by rw [bmI_s _ i0, ← hf, if_pos ⟨⟨by omega, by omega⟩, by omega⟩]) (by rw [blI_s _ i0, ← he, if_neg (fun z => by have z1 := z.2; omega)])
                  | exact ih9 f i _ _ _ _ (by omega) (by omega) (by omega) hr1 (nq_1 (by omega)).symm (by rw [bmI_s _ i0, ← hf, if_neg (fun z => by have z1 := z.2; omega)]) (by rw [blI_s _ i0, ← he, if_pos ⟨⟨by omega, by omega⟩, by omega⟩])
                  | exact ih9 f e _ _ _ _ (by omega) (by omega) (by omega) hr1 hr2 (by rw [bmI_s _ i0, ← hf, if_neg (fun z => by have z1 := z.2; omega)]) (by rw [blI_s _ i0, ← he, if_neg (fun z => by have z1 := z.2; omega)])
              · skip
                obtain ⟨hen, ha2⟩ := nq_s (hr2.symm.trans c73)
                rw [ha2] at c73
                subst c73
                have tke := Ci.tk (n := e) (by omega) (by omega); have loe := load_b B e
                refine r_aload C dX4_moveOneCopy_76 rfl ?_
                refine c_3_3 C dX4_moveOneCopy_78 fX4_217 R (by omega) (by omega) ?_
                refine r_aload_n C dX4_moveOneCopy_81 (i := 2) rfl rfl ?_
                refine c_3_3 C dX4_moveOneCopy_82 fX4_217 R (by omega) (by omega) ?_
                refine r_ic_ge C dX4_moveOneCopy_85 (t := 93) (by decide) (by first | assumption | exact R.rg _ _ | exact R.ru _ _ | (unfold inR; omega)) (by first | assumption | exact R.rg _ _ | exact R.ru _ _ | (unfold inR; omega)) (fun c85 => ?_) (fun c85 => ?_)
                · skip
                  refine r_aload_n C dX4_moveOneCopy_93 (i := 2) rfl rfl ?_
                  refine r_astore_n C dX4_moveOneCopy_94 (i := 2) rfl (Nat.le_of_ble_eq_true rfl) ?_
                  dsimp only [List.set]
                  refine r_iinc C dX4_moveOneCopy_95 rfl ?_
                  dsimp only [List.set]
                  refine r_goto C dX4_moveOneCopy_98 (t := 6) (by decide) ?_
                  first
                    | exact ih9 f e _ _ _ _ (by omega) (by omega) (by omega) hr1 hr2 (by rw [bmI_s _ i0, if_neg (fun z => by have z1 := z.1.1; have z2 := z.1.2; omega)]; exact hf) (by rw [blI_s _ i0, if_neg (fun z => by have z1 := z.1.1; have z2 := z.1.2; omega)]; exact he)
                    | exact ih9 i i _ _ _ _ (by omega) (by omega) (by omega) (nq_1 (by omega)).symm (nq_1 (by omega)).symm (by rw [bmI_s _ i0, ← hf, if_pos ⟨⟨by omega, by omega⟩, by omega⟩]) (by rw [blI_s _ i0, ← he, if_pos ⟨⟨by omega, by omega⟩, by omega⟩])
                    | exact ih9 i e _ _ _ _ (by omega) (by omega) (by omega) (nq_1 (by omega)).symm hr2 (by rw [bmI_s _ i0, ← hf, if_pos ⟨⟨by omega, by omega⟩, by omega⟩]) (by rw [blI_s _ i0, ← he, if_neg (fun z => by have z1 := z.2; omega)])
                    | exact ih9 f i _ _ _ _ (by omega) (by omega) (by omega) hr1 (nq_1 (by omega)).symm (by rw [bmI_s _ i0, ← hf, if_neg (fun z => by have z1 := z.2; omega)]) (by rw [blI_s _ i0, ← he, if_pos ⟨⟨by omega, by omega⟩, by omega⟩])
                    | exact ih9 f e _ _ _ _ (by omega) (by omega) (by omega) hr1 hr2 (by rw [bmI_s _ i0, ← hf, if_neg (fun z => by have z1 := z.2; omega)]) (by rw [blI_s _ i0, ← he, if_neg (fun z => by have z1 := z.2; omega)])
                · skip
                  refine r_aload C dX4_moveOneCopy_88 rfl ?_
                  refine r_goto C dX4_moveOneCopy_90 (t := 94) (by decide) ?_
                  refine r_astore_n C dX4_moveOneCopy_94 (i := 2) rfl (Nat.le_of_ble_eq_true rfl) ?_
                  dsimp only [List.set]
                  refine r_iinc C dX4_moveOneCopy_95 rfl ?_
                  dsimp only [List.set]
                  refine r_goto C dX4_moveOneCopy_98 (t := 6) (by decide) ?_
                  first
                    | exact ih9 f e _ _ _ _ (by omega) (by omega) (by omega) hr1 hr2 (by rw [bmI_s _ i0, if_neg (fun z => by have z1 := z.1.1; have z2 := z.1.2; omega)]; exact hf) (by rw [blI_s _ i0, if_neg (fun z => by have z1 := z.1.1; have z2 := z.1.2; omega)]; exact he)
                    | exact ih9 i i _ _ _ _ (by omega) (by omega) (by omega) (nq_1 (by omega)).symm (nq_1 (by omega)).symm (by rw [bmI_s _ i0, ← hf, if_pos ⟨⟨by omega, by omega⟩, by omega⟩]) (by rw [blI_s _ i0, ← he, if_pos ⟨⟨by omega, by omega⟩, by omega⟩])
                    | exact ih9 i e _ _ _ _ (by omega) (by omega) (by omega) (nq_1 (by omega)).symm hr2 (by rw [bmI_s _ i0, ← hf, if_pos ⟨⟨by omega, by omega⟩, by omega⟩]) (by rw [blI_s _ i0, ← he, if_neg (fun z => by have z1 := z.2; omega)])
                    | exact ih9 f i _ _ _ _ (by omega) (by omega) (by omega) hr1 (nq_1 (by omega)).symm (by rw [bmI_s _ i0, ← hf, if_neg (fun z => by have z1 := z.2; omega)]) (by rw [blI_s _ i0, ← he, if_pos ⟨⟨by omega, by omega⟩, by omega⟩])
                    | exact ih9 f e _ _ _ _ (by omega) (by omega) (by omega) hr1 hr2 (by rw [bmI_s _ i0, ← hf, if_neg (fun z => by have z1 := z.2; omega)]) (by rw [blI_s _ i0, ← he, if_neg (fun z => by have z1 := z.2; omega)])
            · skip
              refine r_aload C dX4_moveOneCopy_65 rfl ?_
              refine r_goto C dX4_moveOneCopy_67 (t := 71) (by decide) ?_
              refine r_astore_n C dX4_moveOneCopy_71 (i := 1) rfl (Nat.le_of_ble_eq_true rfl) ?_
              dsimp only [List.set]
              refine r_aload_n C dX4_moveOneCopy_72 (i := 2) rfl rfl ?_
              refine r_ifnull C dX4_moveOneCopy_73 (t := 88) (by decide) (fun c73 => ?_) (fun a73 c73 => ?_)
              · skip
                have hen := nq_n (hr2.symm.trans c73)
                refine r_aload C dX4_moveOneCopy_88 rfl ?_
                refine r_goto C dX4_moveOneCopy_90 (t := 94) (by decide) ?_
                refine r_astore_n C dX4_moveOneCopy_94 (i := 2) rfl (Nat.le_of_ble_eq_true rfl) ?_
                dsimp only [List.set]
                refine r_iinc C dX4_moveOneCopy_95 rfl ?_
                dsimp only [List.set]
                refine r_goto C dX4_moveOneCopy_98 (t := 6) (by decide) ?_
                first
                  | exact ih9 f e _ _ _ _ (by omega) (by omega) (by omega) hr1 hr2 (by rw [bmI_s _ i0, if_neg (fun z => by have z1 := z.1.1; have z2 := z.1.2; omega)]; exact hf) (by rw [blI_s _ i0, if_neg (fun z => by have z1 := z.1.1; have z2 := z.1.2; omega)]; exact he)
                  | exact ih9 i i _ _ _ _ (by omega) (by omega) (by omega) (nq_1 (by omega)).symm (nq_1 (by omega)).symm (by rw [bmI_s _ i0, ← hf, if_pos ⟨⟨by omega, by omega⟩, by omega⟩]) (by rw [blI_s _ i0, ← he, if_pos ⟨⟨by omega, by omega⟩, by omega⟩])
                  | exact ih9 i e _ _ _ _ (by omega) (by omega) (by omega) (nq_1 (by omega)).symm hr2 (by rw [bmI_s _ i0, ← hf, if_pos ⟨⟨by omega, by omega⟩, by omega⟩]) (by rw [blI_s _ i0, ← he, if_neg (fun z => by have z1 := z.2; omega)])
                  | exact ih9 f i _ _ _ _ (by omega) (by omega) (by omega) hr1 (nq_1 (by omega)).symm (by rw [bmI_s _ i0, ← hf, if_neg (fun z => by have z1 := z.2; omega)]) (by rw [blI_s _ i0, ← he, if_pos ⟨⟨by omega, by omega⟩, by omega⟩])
                  | exact ih9 f e _ _ _ _ (by omega) (by omega) (by omega) hr1 hr2 (by rw [bmI_s _ i0, ← hf, if_neg (fun z => by have z1 := z.2; omega)]) (by rw [blI_s _ i0, ← he, if_neg (fun z => by have z1 := z.2; omega)])
              · skip
                obtain ⟨hen, ha2⟩ := nq_s (hr2.symm.trans c73)
                rw [ha2] at c73
                subst c73
                have tke := Ci.tk (n := e) (by omega) (by omega); have loe := load_b B e
                refine r_aload C dX4_moveOneCopy_76 rfl ?_
                refine c_3_3 C dX4_moveOneCopy_78 fX4_217 R (by omega) (by omega) ?_
                refine r_aload_n C dX4_moveOneCopy_81 (i := 2) rfl rfl ?_
                refine c_3_3 C dX4_moveOneCopy_82 fX4_217 R (by omega) (by omega) ?_
                refine r_ic_ge C dX4_moveOneCopy_85 (t := 93) (by decide) (by first | assumption | exact R.rg _ _ | exact R.ru _ _ | (unfold inR; omega)) (by first | assumption | exact R.rg _ _ | exact R.ru _ _ | (unfold inR; omega)) (fun c85 => ?_) (fun c85 => ?_)
                · skip
                  refine r_aload_n C dX4_moveOneCopy_93 (i := 2) rfl rfl ?_
                  refine r_astore_n C dX4_moveOneCopy_94 (i := 2) rfl (Nat.le_of_ble_eq_true rfl) ?_
                  dsimp only [List.set]
                  refine r_iinc C dX4_moveOneCopy_95 rfl ?_
                  dsimp only [List.set]
                  refine r_goto C dX4_moveOneCopy_98 (t := 6) (by decide) ?_
                  first
                    | exact ih9 f e _ _ _ _ (by omega) (by omega) (by omega) hr1 hr2 (by rw [bmI_s _ i0, if_neg (fun z => by have z1 := z.1.1; have z2 := z.1.2; omega)]; exact hf) (by rw [blI_s _ i0, if_neg (fun z => by have z1 := z.1.1; have z2 := z.1.2; omega)]; exact he)
                    | exact ih9 i i _ _ _ _ (by omega) (by omega) (by omega) (nq_1 (by omega)).symm (nq_1 (by omega)).symm (by rw [bmI_s _ i0, ← hf, if_pos ⟨⟨by omega, by omega⟩, by omega⟩]) (by rw [blI_s _ i0, ← he, if_pos ⟨⟨by omega, by omega⟩, by omega⟩])
                    | exact ih9 i e _ _ _ _ (by omega) (by omega) (by omega) (nq_1 (by omega)).symm hr2 (by rw [bmI_s _ i0, ← hf, if_pos ⟨⟨by omega, by omega⟩, by omega⟩]) (by rw [blI_s _ i0, ← he, if_neg (fun z => by have z1 := z.2; omega)])
                    | exact ih9 f i _ _ _ _ (by omega) (by omega) (by omega) hr1 (nq_1 (by omega)).symm (by rw [bmI_s _ i0, ← hf, if_neg (fun z => by have z1 := z.2; omega)]) (by rw [blI_s _ i0, ← he, if_pos ⟨⟨by omega, by omega⟩, by omega⟩])
                    | exact ih9 f e _ _ _ _ (by omega) (by omega) (by omega) hr1 hr2 (by rw [bmI_s _ i0, ← hf, if_neg (fun z => by have z1 := z.2; omega)]) (by rw [blI_s _ i0, ← he, if_neg (fun z => by have z1 := z.2; omega)])
                · skip
                  refine r_aload C dX4_moveOneCopy_88 rfl ?_
                  refine r_goto C dX4_moveOneCopy_90 (t := 94) (by decide) ?_
                  refine r_astore_n C dX4_moveOneCopy_94 (i := 2) rfl (Nat.le_of_ble_eq_true rfl) ?_
                  dsimp only [List.set]
                  refine r_iinc C dX4_moveOneCopy_95 rfl ?_
                  dsimp only [List.set]
                  refine r_goto C dX4_moveOneCopy_98 (t := 6) (by decide) ?_
                  first
                    | exact ih9 f e _ _ _ _ (by omega) (by omega) (by omega) hr1 hr2 (by rw [bmI_s _ i0, if_neg (fun z => by have z1 := z.1.1; have z2 := z.1.2; omega)]; exact hf) (by rw [blI_s _ i0, if_neg (fun z => by have z1 := z.1.1; have z2 := z.1.2; omega)]; exact he)
                    | exact ih9 i i _ _ _ _ (by omega) (by omega) (by omega) (nq_1 (by omega)).symm (nq_1 (by omega)).symm (by rw [bmI_s _ i0, ← hf, if_pos ⟨⟨by omega, by omega⟩, by omega⟩]) (by rw [blI_s _ i0, ← he, if_pos ⟨⟨by omega, by omega⟩, by omega⟩])
                    | exact ih9 i e _ _ _ _ (by omega) (by omega) (by omega) (nq_1 (by omega)).symm hr2 (by rw [bmI_s _ i0, ← hf, if_pos ⟨⟨by omega, by omega⟩, by omega⟩]) (by rw [blI_s _ i0, ← he, if_neg (fun z => by have z1 := z.2; omega)])
                    | exact ih9 f i _ _ _ _ (by omega) (by omega) (by omega) hr1 (nq_1 (by omega)).symm (by rw [bmI_s _ i0, ← hf, if_neg (fun z => by have z1 := z.2; omega)]) (by rw [blI_s _ i0, ← he, if_pos ⟨⟨by omega, by omega⟩, by omega⟩])
                    | exact ih9 f e _ _ _ _ (by omega) (by omega) (by omega) hr1 hr2 (by rw [bmI_s _ i0, ← hf, if_neg (fun z => by have z1 := z.2; omega)]) (by rw [blI_s _ i0, ← he, if_neg (fun z => by have z1 := z.2; omega)])
        · skip
          refine r_goto C dX4_moveOneCopy_46 (t := 95) (by decide) ?_
          refine r_iinc C dX4_moveOneCopy_95 rfl ?_
          dsimp only [List.set]
          refine r_goto C dX4_moveOneCopy_98 (t := 6) (by decide) ?_
          first
            | exact ih9 f e _ _ _ _ (by omega) (by omega) (by omega) hr1 hr2 (by rw [bmI_s _ i0, if_neg (fun z => by have z1 := z.1.1; have z2 := z.1.2; omega)]; exact hf) (by rw [blI_s _ i0, if_neg (fun z => by have z1 := z.1.1; have z2 := z.1.2; omega)]; exact he)
            | exact ih9 i i _ _ _ _ (by omega) (by omega) (by omega) (nq_1 (by omega)).symm (nq_1 (by omega)).symm (by rw [bmI_s _ i0, ← hf, if_pos ⟨⟨by omega, by omega⟩, by omega⟩]) (by rw [blI_s _ i0, ← he, if_pos ⟨⟨by omega, by omega⟩, by omega⟩])
            | exact ih9 i e _ _ _ _ (by omega) (by omega) (by omega) (nq_1 (by omega)).symm hr2 (by rw [bmI_s _ i0, ← hf, if_pos ⟨⟨by omega, by omega⟩, by omega⟩]) (by rw [blI_s _ i0, ← he, if_neg (fun z => by have z1 := z.2; omega)])
            | exact ih9 f i _ _ _ _ (by omega) (by omega) (by omega) hr1 (nq_1 (by omega)).symm (by rw [bmI_s _ i0, ← hf, if_neg (fun z => by have z1 := z.2; omega)]) (by rw [blI_s _ i0, ← he, if_pos ⟨⟨by omega, by omega⟩, by omega⟩])
            | exact ih9 f e _ _ _ _ (by omega) (by omega) (by omega) hr1 hr2 (by rw [bmI_s _ i0, ← hf, if_neg (fun z => by have z1 := z.2; omega)]) (by rw [blI_s _ i0, ← he, if_neg (fun z => by have z1 := z.2; omega)])

