/-! ===== the class: a second, and seconds that pass ===== -/
/-- all that holds of the class between two calls, and in a second: N pieces, none mended later than t -/
def Rt (gx : GX) (x : Nat) (A : Nat → Int → Nat) (N t : Int) (u g : GT) (h : Hp) : Prop := Rw gx x A u N g h ∧ CF u g ∧ (∀ p, 0 ≤ p → p < N → u 6 p = 1) ∧ (∀ p, 0 ≤ p → p < N → u 1 p ≤ t)
abbrev Rs (gx : GX) (x : Nat) (A : Nat → Int → Nat) (u g : GT) (h : Hp) : Prop := Rt gx x A (g 11 0) (g 1 0) u g h
section RTs
variable {gx : GX} {x : Nat} {A : Nat → Int → Nat} {u u' : GT} {N t : Int} {g g' : GT} {h h' : Hp}
theorem Rt.su (Z : Rt gx x A N t u g h) (Z' : Rw gx x A u' N g' h') (S : SU u u') (e : ∀ k, k = 11 ∨ k = 22 ∨ k = 23 ∨ k = 25 ∨ k = 26 → ∀ j, g' k j = g k j) : Rt gx x A N t u' g' h' :=
  ⟨Z', Z.2.1.c (fun p => S 2 p (by decide) (by decide)) (fun p => S 4 p (by decide) (by decide)) (fun p => S 5 p (by decide) (by decide)) e, fun p a b => (S 6 p (by decide) (by decide)).trans (Z.2.2.1 p a b), fun p a b => by rw [S 1 p (by decide) (by decide)]; exact Z.2.2.2 p a b⟩
theorem Rp.c15 (R : Rp gx x A u N g h) (e : ∀ k j, k ≠ 15 → k ≠ 0 → g' k j = g k j) (rg : ∀ k j, inR (g' k j)) : Rp gx x A u N g' h := by
  refine ⟨R.gxn, R.xx.c (fun k hk => e k 0 (by omega) (by omega)), fun n h0 h1 => ?_, fun n i h0 h1 h2 h3 => ?_, fun p h0 h1 => ?_, fun f h0 h1 => ?_, R.ap.c (fun k j hk => e k j (by omega) (by omega)), R.bk.c (fun k j hk => e k j (by omega) (by omega)), rg, R.ru, fun n h0 h1 => ?_⟩
  · rw [e 4 0 (by decide) (by decide)] at h1
    exact (R.n h0 h1).c (fun k hk => e k n (by omega) (by omega)) rfl
  · rw [e 4 0 (by decide) (by decide)] at h1
    rw [e 6 n (by decide) (by decide)] at h3
    exact (R.s h0 h1 h2 h3).c rfl (by rw [e 11 0 (by decide) (by decide)]; exact Int.le_refl _) (fun t _ _ _ => ⟨e 18 t (by decide) (by decide), e 19 t (by decide) (by decide), e 21 t (by decide) (by decide), fun c _ _ => e 20 _ (by decide) (by decide)⟩)
  · rw [e 11 0 (by decide) (by decide)] at h1
    exact (R.q h0 h1).c (fun k hk => e k p (by omega) (by omega)) (fun k _ _ => e 17 _ (by decide) (by decide)) rfl rfl rfl
  · rw [e 22 0 (by decide) (by decide)] at h1
    exact (R.f h0 h1).c rfl rfl (fun z => ⟨(e 23 f (by decide) (by decide)).symm.trans z, e 24 f (by decide) (by decide)⟩) (fun k _ _ => e 26 _ (by decide) (by decide))
  · rw [e 4 0 (by decide) (by decide)] at h1
    rw [e 6 n (by decide) (by decide)]
    exact R.room h0 h1
/-- column 0 is nobody's, column 15 the mending's -/
theorem Rt.c15 (Z : Rt gx x A N t u g h) (I : IV1 g') (e : ∀ k j, k ≠ 15 → k ≠ 0 → g' k j = g k j) (rg : ∀ k j, inR (g' k j)) (np : 0 ≤ g 11 0) : Rt gx x A N t u g' h :=
  ⟨⟨Z.1.1.c15 e rg, iw_iv Z.1.2.1 I (fun k hk j => e k j (by omega) (by omega)), Z.1.2.2.same (fun _ => rfl) (fun _ => rfl) (fun n p _ _ => by rw [e 18 _ (by decide) (by decide)]) (e 4 0 (by decide) (by decide)) (fun j => e 6 j (by decide) (by decide)) (e 11 0 (by decide) (by decide)) (Z.1.1.rvl np)⟩, Z.2.1.c (fun _ => rfl) (fun _ => rfl) (fun _ => rfl) (fun k hk j => e k j (by omega) (by omega)), Z.2.2⟩
end RTs
theorem cnF1_ne {s : GT} (I : IV1 s) (n : Int) {k : Nat} (h : k ≠ 9 ∧ k ≠ 13 ∧ k ≠ 14 ∧ k ≠ 16 ∧ k ≠ 17) (j : Int) : cnF1 n s k j = s k j := by
  unfold cnF1
  split
  · rw [(cp_i (iv1_bool (k := 9) (i := n) (x := 0) I (by decide) (Or.inl rfl)) n (j := s 11 0) (by rw [up_ne (by decide)]; exact Int.le_refl _)).2 k h.2 j, up_ne h.1]
  · rfl
theorem soF2_ne {s : GT} (I : IV1 s) {n : Int} (n0 : 0 ≤ n) (n1 : n < s 4 0) {k : Nat} (h : k ≠ 13 ∧ k ≠ 14 ∧ k ≠ 16 ∧ k ≠ 17 ∧ k ≠ 18 ∧ k ≠ 19 ∧ k ≠ 21) (j : Int) : soF2 n s k j = s k j := by
  unfold soF2
  split
  · exact (so_i I n0 n1 (Int.le_refl _)).2 k h j
  · rfl
theorem scF2_ne {s : GT} (I : IV1 s) {n : Int} {k : Nat} (h : k ≠ 10 ∧ k ≠ 13 ∧ k ≠ 14 ∧ k ≠ 16 ∧ k ≠ 17 ∧ k ≠ 18 ∧ k ≠ 19 ∧ k ≠ 21) (j : Int) : scF2 n s k j = s k j := by
  unfold scF2
  split
  · exact (iv1_sc I).2 k h j
  · rfl
theorem tmF_ne {s : GT} (I : IV1 s) {p : Int} (p0 : 0 ≤ p) (p1 : p < s 11 0) {k : Nat} (h : k ≠ 13 ∧ k ≠ 14 ∧ k ≠ 16 ∧ k ≠ 17 ∧ k ≠ 18 ∧ k ≠ 19 ∧ k ≠ 21) (j : Int) : tmF p s k j = s k j := by
  unfold tmF
  split
  · exact (iv1_tr I p0 p1).2 k h j
  · rfl
theorem meF_ne {s : GT} (I : IV1 s) (i : Int) {k : Nat} (h : k ≠ 15 ∧ k ≠ 16 ∧ k ≠ 17 ∧ k ≠ 18 ∧ k ≠ 19 ∧ k ≠ 20 ∧ k ≠ 21) (j : Int) : meF i s k j = s k j := by
  have b2 := I.1.np
  unfold meF
  split
  · rfl
  · rename_i c
    have b := (meI_b s (i := s 11 0) b2.1).resolve_left c
    exact (me_d I b.1 b.2.1 b.2.2.2.2.2.2 b.2.2.1).2 k h j
theorem mf_15 (g : GT) {i : Int} (i0 : 0 ≤ i) : ∀ p, 0 ≤ p → p < i → itrI mfF i g 15 p = 0 := by
  have key : ∀ m : Nat, ∀ p, 0 ≤ p → p < (m : Int) → itrI mfF m g 15 p = 0 := by
    intro m
    induction m with
    | zero => intro p a b; omega
    | succ m ih =>
      intro p a b
      rw [show ((m + 1 : Nat) : Int) = (m : Int) + 1 by omega, itrI_s _ _ (by omega)]
      unfold mfF
      rw [up_at]
      split
      · rfl
      · exact ih p a (by omega)
  have := key i.toNat
  rwa [Int.toNat_of_nonneg i0] at this
theorem mf_rg {g : GT} (r : ∀ k j, inR (g k j)) (i : Int) : ∀ k j, inR (itrI mfF i g k j) :=
  itrI_ind (P := fun s => ∀ k j, inR (s k j)) mfF r (fun p s _ _ S => rgu S inR0)

set_option maxRecDepth 100000 in
set_option maxHeartbeats 4000000 in
theorem C_X4_passOneSecond {gx : GX} {d : Nat} {Qr : Option AV → Hp → Prop} {Qx : String → Hp → Prop} {x : Nat} {A : Nat → Int → Nat} {u g : GT} {h : Hp} (Z : Rs gx x A u g h) (ht : 0 ≤ g 1 0 ∧ g 1 0 ≤ 3000) (hL : 0 ≤ g 2 0 ∧ g 2 0 ≤ 3) (hS : ∀ j, 0 ≤ g 8 j ∧ g 8 j ≤ 3000) (hD : ∀ j, 0 ≤ g 24 j ∧ g 24 j ≤ 3000) (K : ∀ u' h1, Rs gx x A u' (seG g) h1 → Qr none h1) : aM gx (d + 9) mX4_passOneSecond [vr x] h 3 30 Qr Qx := by
  intro J C
  show J 0 [some (vr x), none, none] [] h 3 30
  have R := Z.1.1; have W := Z.1.2.1; have Ci := Z.1.2.2; have I := W.i; have B := W.b; have b1 := B.nn; have b2 := B.np; have b3 := B.nf; have IA := iv1_sec I
  refine r_aload_n C dX4_passOneSecond_0 (i := 0) rfl rfl ?_
  refine r_dup C dX4_passOneSecond_1 rfl ?_
  refine c_5_3 C dX4_passOneSecond_2 fX4_22 R  ?_
  refine r_iconst C dX4_passOneSecond_5 ?_
  refine r_iadd C dX4_passOneSecond_6 ?_
  refine r_putI C dX4_passOneSecond_7 fX4_22 (Or.inl rfl) (Or.inl rfl) R.xx.1.1 R.xx.1.2 ?_
  have e0 : ∀ k, k ≠ 1 → ∀ j, sec1 g k j = g k j := fun k hk j => up_ne hk
  have ZA : Rt gx x A (g 11 0) (g 1 0) u (sec1 g) (wI h x (3 : Nat) (g 1 0 + 1)) := ⟨⟨R.fl_sec ⟨by omega, by omega⟩, iw_same W (fun k hk j => e0 k (by omega) j), Ci.same (fun _ => rfl) (fun _ => rfl) (fun n p _ _ => by rw [e0 18 (by decide)]) (e0 4 (by decide) 0) (e0 6 (by decide)) (e0 11 (by decide) 0) (R.rvl b2.1)⟩, Z.2.1.c (fun _ => rfl) (fun _ => rfl) (fun _ => rfl) (fun k hk j => e0 k (by omega) j), Z.2.2⟩
  refine r_iconst C dX4_passOneSecond_10 ?_
  refine r_istore_n C dX4_passOneSecond_11 (i := 1) rfl (Nat.le_of_ble_eq_true rfl) ?_
  dsimp only [List.set]
  suffices LOOP : ∀ (m1 : Nat) (i : Int) (u2 : GT) (h2 : Hp) (y : Option AV), g 4 0 - i < (m1 : Int) → 0 ≤ i → i ≤ g 4 0 → Rt gx x A (g 11 0) (g 1 0) u2 (itrI cnF1 i (sec1 g)) h2 → J 12 [some (vr x), some (vi i), y] [] h2 3 30 by
    exact LOOP ((g 4 0).toNat + 1) 0 _ _ _ (by omega) (by omega) (by omega) ZA
  intro m1
  induction m1 with
  | zero => intro i u2 h2 y hm1 i0 i1 Z2; exact absurd hm1 (by omega)
  | succ m1 ih1 =>
    intro i u2 h2 y hm1 i0 i1 Z2
    have T := cn1_i IA i
    obtain ⟨s, hs⟩ : ∃ s, s = itrI cnF1 i (sec1 g) := ⟨_, rfl⟩
    rw [← hs] at T Z2
    have R := Z2.1.1
    have s4 : s 4 0 = g 4 0 := (T.2 4 (by omega) 0).trans (sec1_4 g (by decide) 0)
    have s11 : s 11 0 = g 11 0 := (T.2 11 (by omega) 0).trans (sec1_4 g (by decide) 0)
    refine r_iload_n C dX4_passOneSecond_12 (i := 1) rfl rfl ?_
    refine r_aload_n C dX4_passOneSecond_13 (i := 0) rfl rfl ?_
    refine c_5_0 C dX4_passOneSecond_14 fX4_10 R  ?_
    refine c_szN C dX4_passOneSecond_17 sX4_44 R  (Nat.le_of_ble_eq_true rfl) ?_
    refine r_ic_ge C dX4_passOneSecond_20 (t := 44) (by decide) (by first | assumption | exact R.rg _ _ | exact R.ru _ _ | (unfold inR; omega)) (by first | assumption | exact R.rg _ _ | exact R.ru _ _ | (unfold inR; omega)) (fun c20 => ?_) (fun c20 => ?_)
    · skip
      have ei : i = g 4 0 := by omega
      rw [ei] at hs
      have e1 : cn1 (sec1 g) = itrI cnF1 (g 4 0) (sec1 g) := by
        unfold cn1
        rw [sec1_4 g (by decide)]
      rw [hs, ← e1] at Z2 s4 s11
      have ZB := Z2
      have IB := ZB.1.2.1.i
      refine r_iconst C dX4_passOneSecond_44 ?_
      refine r_istore_n C dX4_passOneSecond_45 (i := 1) rfl (Nat.le_of_ble_eq_true rfl) ?_
      dsimp only [List.set]
      suffices LOOP : ∀ (m2 : Nat) (i : Int) (u2 : GT) (h2 : Hp) (y : Option AV), g 4 0 - i < (m2 : Int) → 0 ≤ i → i ≤ g 4 0 → Rt gx x A (g 11 0) (g 1 0) u2 (itrI cnF2 i (cn1 (sec1 g))) h2 → J 46 [some (vr x), some (vi i), y] [] h2 3 30 by
        exact LOOP ((g 4 0).toNat + 1) 0 _ _ _ (by omega) (by omega) (by omega) ZB
      intro m2
      induction m2 with
      | zero => intro i u2 h2 y hm2 i0 i1 Z2; exact absurd hm2 (by omega)
      | succ m2 ih2 =>
        intro i u2 h2 y hm2 i0 i1 Z2
        have T := cn2_i IB i
        obtain ⟨s, hs⟩ : ∃ s, s = itrI cnF2 i (cn1 (sec1 g)) := ⟨_, rfl⟩
        rw [← hs] at T Z2
        have R := Z2.1.1
        have s4 : s 4 0 = g 4 0 := (T.2 4 (by decide) 0).trans s4
        have s11 : s 11 0 = g 11 0 := (T.2 11 (by decide) 0).trans s11
        refine r_iload_n C dX4_passOneSecond_46 (i := 1) rfl rfl ?_
        refine r_aload_n C dX4_passOneSecond_47 (i := 0) rfl rfl ?_
        refine c_5_0 C dX4_passOneSecond_48 fX4_10 R  ?_
        refine c_szN C dX4_passOneSecond_51 sX4_44 R  (Nat.le_of_ble_eq_true rfl) ?_
        refine r_ic_ge C dX4_passOneSecond_54 (t := 98) (by decide) (by first | assumption | exact R.rg _ _ | exact R.ru _ _ | (unfold inR; omega)) (by first | assumption | exact R.rg _ _ | exact R.ru _ _ | (unfold inR; omega)) (fun c54 => ?_) (fun c54 => ?_)
        · skip
          have ei : i = g 4 0 := by omega
          rw [ei] at hs
          have e1 : se1 g = itrI cnF2 (g 4 0) (cn1 (sec1 g)) := by
            show itrI cnF2 (sec1 g 4 0) (cn1 (sec1 g)) = _
            rw [sec1_4 g (by decide)]
          rw [hs, ← e1] at Z2
          have ZC := Z2
          refine r_iconst C dX4_passOneSecond_98 ?_
          refine r_istore_n C dX4_passOneSecond_99 (i := 1) rfl (Nat.le_of_ble_eq_true rfl) ?_
          dsimp only [List.set]
          suffices LOOP : ∀ (m3 : Nat) (i : Int) (u2 : GT) (h2 : Hp) (y : Option AV), g 4 0 - i < (m3 : Int) → 0 ≤ i → i ≤ g 4 0 → Rt gx x A (g 11 0) (g 1 0) u2 (itrI soF2 i (se1 g)) h2 → J 100 [some (vr x), some (vi i), y] [] h2 3 30 by
            exact LOOP ((g 4 0).toNat + 1) 0 _ _ _ (by omega) (by omega) (by omega) ZC
          intro m3
          induction m3 with
          | zero => intro i u2 h2 y hm3 i0 i1 Z2; exact absurd hm3 (by omega)
          | succ m3 ih3 =>
            intro i u2 h2 y hm3 i0 i1 Z2
            have T := so2_i (se1_f I) (i := i) (by rw [sec1_4 g (by decide)]; exact i1)
            obtain ⟨s, hs⟩ : ∃ s, s = itrI soF2 i (se1 g) := ⟨_, rfl⟩
            rw [← hs] at T Z2
            have R := Z2.1.1
            have s4 : s 4 0 = g 4 0 := (T.2 4 (by omega) 0).trans (sec1_4 g (by decide) 0)
            have s11 : s 11 0 = g 11 0 := (T.2 11 (by omega) 0).trans (sec1_4 g (by decide) 0)
            refine r_iload_n C dX4_passOneSecond_100 (i := 1) rfl rfl ?_
            refine r_aload_n C dX4_passOneSecond_101 (i := 0) rfl rfl ?_
            refine c_5_0 C dX4_passOneSecond_102 fX4_10 R  ?_
            refine c_szN C dX4_passOneSecond_105 sX4_44 R  (Nat.le_of_ble_eq_true rfl) ?_
            refine r_ic_ge C dX4_passOneSecond_108 (t := 131) (by decide) (by first | assumption | exact R.rg _ _ | exact R.ru _ _ | (unfold inR; omega)) (by first | assumption | exact R.rg _ _ | exact R.ru _ _ | (unfold inR; omega)) (fun c108 => ?_) (fun c108 => ?_)
            · skip
              have ei : i = g 4 0 := by omega
              rw [hs, ei] at Z2
              refine r_aload_n C dX4_passOneSecond_131 (i := 0) rfl rfl ?_
              refine c_VX0 C dX4_passOneSecond_132 sX4_348 rfl R   (Nat.le_of_ble_eq_true rfl) 0 0 (Nat.zero_le _) (Nat.zero_le _) (C_X4_endFiles (show Rw gx x A u2 (g 11 0) (se2 g) h2 from Z2.1) Z2.2.1 (by have := (se2_f I).2 1 (by omega) 0; have e : sec1 g 1 0 = g 1 0 + 1 := up_self; omega) (fun f => by have := (se2_f I).2 24 (by omega) f; have e := sec1_4 g (k := 24) (by decide) f; have := hD f; omega) (fun u3 h3 R3 F3 S3 => ?_))
              have ZD : Rt gx x A (g 11 0) (g 1 0) u3 (se3 g) h3 := by
                have e22 : se2 g 22 0 = g 22 0 := ((se2_f I).2 22 (by omega) 0).trans (sec1_4 g (by decide) 0)
                rw [e22] at R3 F3
                exact ⟨R3, F3, fun p a b => (S3 6 p (by decide) (by decide) (by decide)).trans (Z2.2.2.1 p a b), fun p a b => by rw [S3 1 p (by decide) (by decide) (by decide)]; exact Z2.2.2.2 p a b⟩
              refine r_iconst C dX4_passOneSecond_135 ?_
              refine r_istore_n C dX4_passOneSecond_136 (i := 1) rfl (Nat.le_of_ble_eq_true rfl) ?_
              dsimp only [List.set]
              suffices LOOP : ∀ (m4 : Nat) (i : Int) (u2 : GT) (h2 : Hp) (y : Option AV), g 4 0 - i < (m4 : Int) → 0 ≤ i → i ≤ g 4 0 → Rt gx x A (g 11 0) (g 1 0) u2 (itrI scF2 i (se3 g)) h2 → J 137 [some (vr x), some (vi i), y] [] h2 3 30 by
                exact LOOP ((g 4 0).toNat + 1) 0 _ _ _ (by omega) (by omega) (by omega) ZD
              intro m4
              induction m4 with
              | zero => intro i u2 h2 y hm4 i0 i1 Z2; exact absurd hm4 (by omega)
              | succ m4 ih4 =>
                intro i u2 h2 y hm4 i0 i1 Z2
                have T := sc2_i (se3_f I) i
                obtain ⟨s, hs⟩ : ∃ s, s = itrI scF2 i (se3 g) := ⟨_, rfl⟩
                rw [← hs] at T Z2
                have R := Z2.1.1
                have s4 : s 4 0 = g 4 0 := (T.2 4 (by omega) 0).trans (sec1_4 g (by decide) 0)
                have s11 : s 11 0 = g 11 0 := (T.2 11 (by omega) 0).trans (sec1_4 g (by decide) 0)
                refine r_iload_n C dX4_passOneSecond_137 (i := 1) rfl rfl ?_
                refine r_aload_n C dX4_passOneSecond_138 (i := 0) rfl rfl ?_
                refine c_5_0 C dX4_passOneSecond_139 fX4_10 R  ?_
                refine c_szN C dX4_passOneSecond_142 sX4_44 R  (Nat.le_of_ble_eq_true rfl) ?_
                refine r_ic_ge C dX4_passOneSecond_145 (t := 168) (by decide) (by first | assumption | exact R.rg _ _ | exact R.ru _ _ | (unfold inR; omega)) (by first | assumption | exact R.rg _ _ | exact R.ru _ _ | (unfold inR; omega)) (fun c145 => ?_) (fun c145 => ?_)
                · skip
                  have ei : i = g 4 0 := by omega
                  rw [hs, ei] at Z2
                  have e11 : se4 g 11 0 = g 11 0 := ((se4_f I).2 11 (by omega) 0).trans (sec1_4 g (by decide) 0)
                  have M0 := mf_i (se4_f I).1 (se4 g 11 0)
                  have ZE0 : Rt gx x A (g 11 0) (g 1 0) u2 (me1 (se4 g)) h2 := Rt.c15 (show Rt gx x A (g 11 0) (g 1 0) u2 (se4 g) h2 from Z2) M0.1 (fun k j a _ => M0.2 k a j) (mf_rg Z2.1.1.rg _) (by omega)
                  have ZE : Rt gx x A (g 11 0) (g 1 0 + 1) u2 (itrI meF 0 (me1 (se4 g))) h2 := ⟨ZE0.1, ZE0.2.1, ZE0.2.2.1, fun p a b => by have := ZE0.2.2.2 p a b; omega⟩
                  have MD : ∀ p, 0 ≤ p → p < g 11 0 → (u2 1 p = g 1 0 + 1 ↔ itrI meF 0 (me1 (se4 g)) 15 p ≠ 0) := fun p a b => by
                    have q1 := ZE0.2.2.2 p a b
                    have q2 : me1 (se4 g) 15 p = 0 := mf_15 _ (by omega) p a (by omega)
                    rw [itrI_0, q2]
                    omega
                  refine r_iconst C dX4_passOneSecond_168 ?_
                  refine r_istore_n C dX4_passOneSecond_169 (i := 1) rfl (Nat.le_of_ble_eq_true rfl) ?_
                  dsimp only [List.set]
                  suffices LOOP : ∀ (m5 : Nat) (i : Int) (u2 : GT) (h2 : Hp) (y : Option AV) (cc ss : Nat), g 2 0 - i < (m5 : Int) → 0 ≤ i → i ≤ g 2 0 → Rt gx x A (g 11 0) (g 1 0 + 1) u2 (itrI meF i (me1 (se4 g))) h2 → (∀ p, 0 ≤ p → p < g 11 0 → (u2 1 p = g 1 0 + 1 ↔ itrI meF i (me1 (se4 g)) 15 p ≠ 0)) → 3 - i ≤ cc → 30 - 10 * i ≤ ss → J 170 [some (vr x), some (vi i), y] [] h2 cc ss by
                    exact LOOP ((g 2 0).toNat + 1) 0 _ _ _ 3 30 (by omega) (by omega) (by omega) ZE MD (by omega) (by omega)
                  intro m5
                  induction m5 with
                  | zero => intro i u2 h2 y cc ss hm5 i0 i1 Z2 M2 hcc hss; exact absurd hm5 (by omega)
                  | succ m5 ih5 =>
                    intro i u2 h2 y cc ss hm5 i0 i1 Z2 M2 hcc hss
                    have I4 := (se4_f I).1
                    have T := me_i I4 i
                    obtain ⟨s, hs⟩ : ∃ s, s = itrI meF i (me1 (se4 g)) := ⟨_, rfl⟩
                    rw [← hs] at T Z2 M2
                    have R := Z2.1.1
                    have T4 := se4_f I
                    have sx : ∀ k, k = 1 ∨ k = 2 ∨ k = 3 ∨ k = 4 ∨ k = 11 → ∀ j, s k j = sec1 g k j := fun k hk j => (T.2 k (by omega) j).trans (T4.2 k (by omega) j)
                    have s4 : s 4 0 = g 4 0 := (sx 4 (by omega) 0).trans (sec1_4 g (by decide) 0)
                    have s11 : s 11 0 = g 11 0 := (sx 11 (by omega) 0).trans (sec1_4 g (by decide) 0)
                    have s2 : s 2 0 = g 2 0 := (sx 2 (by omega) 0).trans (sec1_4 g (by decide) 0)
                    have s1 : s 1 0 = g 1 0 + 1 := (sx 1 (by omega) 0).trans up_self
                    refine r_iload_n C dX4_passOneSecond_170 (i := 1) rfl rfl ?_
                    refine r_aload_n C dX4_passOneSecond_171 (i := 0) rfl rfl ?_
                    refine c_5_4 C dX4_passOneSecond_172 fX4_26 R  ?_
                    refine r_ic_ge C dX4_passOneSecond_175 (t := 188) (by decide) (by first | assumption | exact R.rg _ _ | exact R.ru _ _ | (unfold inR; omega)) (by first | assumption | exact R.rg _ _ | exact R.ru _ _ | (unfold inR; omega)) (fun c175 => ?_) (fun c175 => ?_)
                    · skip
                      have ei : i = g 2 0 := by omega
                      have e2 : se4 g 2 0 = g 2 0 := ((se4_f I).2 2 (by omega) 0).trans (sec1_4 g (by decide) 0)
                      have e5 : se5 g = itrI meF (g 2 0) (me1 (se4 g)) := by
                        unfold se5 meG
                        rw [e2]
                      rw [hs, ei, ← e5] at Z2
                      have ZF := Z2
                      refine r_iconst C dX4_passOneSecond_188 ?_
                      refine r_istore_n C dX4_passOneSecond_189 (i := 1) rfl (Nat.le_of_ble_eq_true rfl) ?_
                      dsimp only [List.set]
                      suffices LOOP : ∀ (m6 : Nat) (i : Int) (u2 : GT) (h2 : Hp) (y : Option AV), g 11 0 - i < (m6 : Int) → 0 ≤ i → i ≤ g 11 0 → Rt gx x A (g 11 0) (g 1 0 + 1) u2 (itrI tmF i (se5 g)) h2 → J 190 [some (vr x), some (vi i), y] [] h2 cc ss by
                        exact LOOP ((g 11 0).toNat + 1) 0 _ _ _ (by omega) (by omega) (by omega) ZF
                      intro m6
                      induction m6 with
                      | zero => intro i u2 h2 y hm6 i0 i1 Z2; exact absurd hm6 (by omega)
                      | succ m6 ih6 =>
                        intro i u2 h2 y hm6 i0 i1 Z2
                        have T := tm_i (se5_f I) (i := i) (by rw [sec1_4 g (by decide)]; exact i1)
                        obtain ⟨s, hs⟩ : ∃ s, s = itrI tmF i (se5 g) := ⟨_, rfl⟩
                        rw [← hs] at T Z2
                        have R := Z2.1.1
                        have s4 : s 4 0 = g 4 0 := (T.2 4 (by omega) 0).trans (sec1_4 g (by decide) 0)
                        have s11 : s 11 0 = g 11 0 := (T.2 11 (by omega) 0).trans (sec1_4 g (by decide) 0)
                        refine r_iload_n C dX4_passOneSecond_190 (i := 1) rfl rfl ?_
                        refine r_aload_n C dX4_passOneSecond_191 (i := 0) rfl rfl ?_
                        refine c_5_1 C dX4_passOneSecond_192 fX4_16 R  ?_
                        refine c_szA C dX4_passOneSecond_195 sX4_44 R  (Nat.le_of_ble_eq_true rfl) ?_
                        refine r_ic_ge C dX4_passOneSecond_198 (t := 221) (by decide) (by first | assumption | exact R.rg _ _ | exact R.ru _ _ | (unfold inR; omega)) (by first | assumption | exact R.rg _ _ | exact R.ru _ _ | (unfold inR; omega)) (fun c198 => ?_) (fun c198 => ?_)
                        · skip
                          have ei : i = g 11 0 := by omega
                          have s1 : s 1 0 = g 1 0 + 1 := (T.2 1 (by omega) 0).trans up_self
                          have e6 : s = se6 g := by rw [hs, ei]; rfl
                          have s3 : s 3 0 = g 3 0 := (T.2 3 (by omega) 0).trans (sec1_4 g (by decide) 0)
                          refine r_aload_n C dX4_passOneSecond_221 (i := 0) rfl rfl ?_
                          refine c_5_5 C dX4_passOneSecond_222 fX4_29 R  ?_
                          refine r_if_eq C dX4_passOneSecond_225 (t := 232) (by decide) (by first | assumption | exact R.rg _ _ | exact R.ru _ _ | (unfold inR; omega)) (fun c225 => ?_) (fun c225 => ?_)
                          · skip
                            have e7 : seG g = s := by rw [e6]; exact if_neg (fun z => z (by omega))
                            refine r_ret C dX4_passOneSecond_232 rfl ?_
                            first
                              | (refine K u2 _ ?_
                                 rw [e7]
                                 show Rt gx x A (s 11 0) (s 1 0) _ _ _
                                 rw [s11, s1]
                                 exact Z2)
                              | (refine K u3 _ ?_
                                 rw [e7]
                                 show Rt gx x A (baG s 11 0) (baG s 1 0) _ _ _
                                 rw [bn 11 (by decide), bn 1 (by decide), s11, s1]
                                 exact Z3)
                          · skip
                            have e7 : seG g = baG s := by rw [e6]; exact if_pos (by omega)
                            refine r_aload_n C dX4_passOneSecond_228 (i := 0) rfl rfl ?_
                            refine c_VX0 C dX4_passOneSecond_229 sX4_360 rfl R   (Nat.le_of_ble_eq_true rfl) 0 0 (Nat.zero_le _) (Nat.zero_le _) (C_X4_moveOneCopy Z2.1 s11.symm (fun p a b => Z2.2.1.1 p a b) (fun u3 h3 R3 S3 => ?_))
                            have bn := fun k hk j => (iv1_ba Z2.1.2.1.i).2 k hk j
                            have Z3 := Z2.su R3 S3 (fun k hk j => bn k (by omega) j)
                            refine r_ret C dX4_passOneSecond_232 rfl ?_
                            first
                              | (refine K u2 _ ?_
                                 rw [e7]
                                 show Rt gx x A (s 11 0) (s 1 0) _ _ _
                                 rw [s11, s1]
                                 exact Z2)
                              | (refine K u3 _ ?_
                                 rw [e7]
                                 show Rt gx x A (baG s 11 0) (baG s 1 0) _ _ _
                                 rw [bn 11 (by decide), bn 1 (by decide), s11, s1]
                                 exact Z3)
                        · skip
                          refine r_aload_n C dX4_passOneSecond_201 (i := 0) rfl rfl ?_
                          refine c_5_1 C dX4_passOneSecond_202 fX4_16 R  ?_
                          refine r_iload_n C dX4_passOneSecond_205 (i := 1) rfl rfl ?_
                          refine c_gtA C dX4_passOneSecond_206 sX4_127 R  (by omega) (by omega) (Nat.le_of_ble_eq_true rfl) ?_
                          refine c_castQ C dX4_passOneSecond_209 kX4_131 R (by omega) (by omega) ?_
                          refine c_S1 C dX4_passOneSecond_212 sX4_357 rfl (Nat.le_of_ble_eq_true rfl) 0 0 (Nat.zero_le _) (Nat.zero_le _) (C_X4_takeAwayOneTooMany Z2.1 i0 (by omega) (Z2.2.1.1 i i0 (by omega)) (fun u3 h3 R3 S3 => ?_))
                          have Z3 := Z2.su R3 S3 (fun k hk j => tmF_ne Z2.1.2.1.i i0 (by omega) (by omega) j)
                          refine r_iinc C dX4_passOneSecond_215 rfl ?_
                          dsimp only [List.set]
                          refine r_goto C dX4_passOneSecond_218 (t := 190) (by decide) ?_
                          exact ih6 _ _ _ _ (by omega) (by omega) (by omega) (by rw [itrI_s _ _ i0, ← hs]; exact Z3)
                    · skip
                      refine r_aload_n C dX4_passOneSecond_178 (i := 0) rfl rfl ?_
                      refine c_VX0 C dX4_passOneSecond_179 sX4_354 rfl R   (Nat.le_of_ble_eq_true rfl) 1 10 (by omega) (by omega) (C_X4_mendNeediestPiece Z2.1 (fun p a b => Z2.2.1.1 p a b) s11.symm (fun p a b => by rw [s1]; exact M2 p a (by omega)) (fun u3 h3 R3 M3 U3 S3 => ?_))
                      have me0 : meF i s = meF 0 s := rfl
                      rw [s1, s11] at M3
                      rw [s1] at U3
                      have Z3 : Rt gx x A (g 11 0) (g 1 0 + 1) u3 (meF 0 s) h3 := ⟨R3, Z2.2.1.c (fun p => S3 2 p (by decide) (by decide) (by decide)) (fun p => S3 4 p (by decide) (by decide) (by decide)) (fun p => S3 5 p (by decide) (by decide) (by decide)) (fun k hk j => meF_ne Z2.1.2.1.i 0 (by omega) j), fun p a b => (S3 6 p (by decide) (by decide) (by decide)).trans (Z2.2.2.1 p a b), fun p a b => by
                        have q := Z2.2.2.2 p a b
                        rcases U3 p with z | z <;> omega⟩
                      refine r_iinc C dX4_passOneSecond_182 rfl ?_
                      dsimp only [List.set]
                      refine r_goto C dX4_passOneSecond_185 (t := 170) (by decide) ?_
                      exact ih5 _ _ _ _ _ _ (by omega) (by omega) (by omega) (by rw [itrI_s _ _ i0, ← hs]; exact Z3) (by rw [itrI_s _ _ i0, ← hs]; exact M3) (by omega) (by omega)
                · skip
                  refine r_aload_n C dX4_passOneSecond_148 (i := 0) rfl rfl ?_
                  refine c_5_0 C dX4_passOneSecond_149 fX4_10 R  ?_
                  refine r_iload_n C dX4_passOneSecond_152 (i := 1) rfl rfl ?_
                  refine c_gtN C dX4_passOneSecond_153 sX4_127 R  (by omega) (by omega) (Nat.le_of_ble_eq_true rfl) ?_
                  refine c_castN C dX4_passOneSecond_156 kX4_53 R (by omega) (by omega) ?_
                  refine c_S1 C dX4_passOneSecond_159 sX4_351 rfl (Nat.le_of_ble_eq_true rfl) 0 0 (Nat.zero_le _) (Nat.zero_le _) (C_X4_lookAtNextPlace Z2.1 i0 (by omega) (fun u3 h3 R3 S3 => ?_))
                  have Z3 := Z2.su R3 S3 (fun k hk j => scF2_ne Z2.1.2.1.i (by omega) j)
                  refine r_iinc C dX4_passOneSecond_162 rfl ?_
                  dsimp only [List.set]
                  refine r_goto C dX4_passOneSecond_165 (t := 137) (by decide) ?_
                  exact ih4 _ _ _ _ (by omega) (by omega) (by omega) (by rw [itrI_s _ _ i0, ← hs]; exact Z3)
            · skip
              refine r_aload_n C dX4_passOneSecond_111 (i := 0) rfl rfl ?_
              refine c_5_0 C dX4_passOneSecond_112 fX4_10 R  ?_
              refine r_iload_n C dX4_passOneSecond_115 (i := 1) rfl rfl ?_
              refine c_gtN C dX4_passOneSecond_116 sX4_127 R  (by omega) (by omega) (Nat.le_of_ble_eq_true rfl) ?_
              refine c_castN C dX4_passOneSecond_119 kX4_53 R (by omega) (by omega) ?_
              refine c_S1 C dX4_passOneSecond_122 sX4_345 rfl (Nat.le_of_ble_eq_true rfl) 0 0 (Nat.zero_le _) (Nat.zero_le _) (C_X4_sortOutPlaces Z2.1 (fun p a b => Z2.2.1.1 p a b) (fun p a b => Z2.2.2.1 p a (by omega)) i0 (by omega) (fun u3 h3 R3 S3 => ?_))
              have Z3 := Z2.su R3 S3 (fun k hk j => soF2_ne Z2.1.2.1.i i0 (by omega) (by omega) j)
              refine r_iinc C dX4_passOneSecond_125 rfl ?_
              dsimp only [List.set]
              refine r_goto C dX4_passOneSecond_128 (t := 100) (by decide) ?_
              exact ih3 _ _ _ _ (by omega) (by omega) (by omega) (by rw [itrI_s _ _ i0, ← hs]; exact Z3)
        · skip
          refine r_aload_n C dX4_passOneSecond_57 (i := 0) rfl rfl ?_
          refine c_5_0 C dX4_passOneSecond_58 fX4_10 R  ?_
          refine r_iload_n C dX4_passOneSecond_61 (i := 1) rfl rfl ?_
          refine c_gtN C dX4_passOneSecond_62 sX4_127 R  (by omega) (by omega) (Nat.le_of_ble_eq_true rfl) ?_
          refine c_castN C dX4_passOneSecond_65 kX4_53 R (by omega) (by omega) ?_
          refine r_astore_n C dX4_passOneSecond_68 (i := 2) rfl (Nat.le_of_ble_eq_true rfl) ?_
          dsimp only [List.set]
          refine r_aload_n C dX4_passOneSecond_69 (i := 2) rfl rfl ?_
          refine r_aload_n C dX4_passOneSecond_70 (i := 2) rfl rfl ?_
          refine c_3_5 C dX4_passOneSecond_71 fX4_220 R (by omega) (by omega) ?_
          refine r_if_ne C dX4_passOneSecond_74 (t := 84) (by decide) (by first | assumption | exact R.rg _ _ | exact R.ru _ _ | (unfold inR; omega)) (fun c74 => ?_) (fun c74 => ?_)
          · skip
            refine r_iconst C dX4_passOneSecond_84 ?_
            refine r_goto C dX4_passOneSecond_85 (t := 89) (by decide) ?_
            refine r_putI C dX4_passOneSecond_89 fX4_220 (Or.inl rfl) (Or.inr ⟨rfl, by omega⟩) (R.n i0 (by omega)).1.1 (R.n i0 (by omega)).1.2 ?_
            have e9 : ∀ v, (v = 0 ∨ v = 1) → (v = if s 9 i = 0 ∧ s 7 i = 0 then 0 else 1) → Rt gx x A (g 11 0) (g 1 0) u2 (cnF2 i s) (wI h2 (A 0 i) (5 : Nat) v) := fun v hv hv2 => by
              unfold cnF2
              rw [← hv2]
              refine Z2.su ⟨R.node_ct i0 (by omega) (by rcases hv with hv | hv <;> rw [hv] <;> exact ⟨by decide, by decide⟩), iw_iv Z2.1.2.1 (iv1_bool Z2.1.2.1.i (by decide) hv) (fun k hk j => up_ne (by omega)), Z2.1.2.2.same (fun _ => rfl) (fun _ => rfl) (fun n p _ _ => by rw [up_ne (by decide)]) (up_ne (by decide)) (fun _ => up_ne (by decide)) (up_ne (by decide)) (R.rvl (by omega))⟩ (SU.refl _) (fun k hk j => up_ne (by omega))
            first
              | (have Z3 := e9 1 (Or.inr rfl) (by rw [if_neg (by omega)])
                 revert Z3)
              | (have Z3 := e9 0 (Or.inl rfl) (by rw [if_pos (by omega)])
                 revert Z3)
            intro Z3
            refine r_iinc C dX4_passOneSecond_92 rfl ?_
            dsimp only [List.set]
            refine r_goto C dX4_passOneSecond_95 (t := 46) (by decide) ?_
            exact ih2 _ _ _ _ (by omega) (by omega) (by omega) (by rw [itrI_s _ _ i0, ← hs]; exact Z3)
          · skip
            refine r_aload_n C dX4_passOneSecond_77 (i := 2) rfl rfl ?_
            refine c_3_4 C dX4_passOneSecond_78 fX4_69 R (by omega) (by omega) ?_
            refine r_if_eq C dX4_passOneSecond_81 (t := 88) (by decide) (by first | assumption | exact R.rg _ _ | exact R.ru _ _ | (unfold inR; omega)) (fun c81 => ?_) (fun c81 => ?_)
            · skip
              refine r_iconst C dX4_passOneSecond_88 ?_
              refine r_putI C dX4_passOneSecond_89 fX4_220 (Or.inl rfl) (Or.inr ⟨rfl, by omega⟩) (R.n i0 (by omega)).1.1 (R.n i0 (by omega)).1.2 ?_
              have e9 : ∀ v, (v = 0 ∨ v = 1) → (v = if s 9 i = 0 ∧ s 7 i = 0 then 0 else 1) → Rt gx x A (g 11 0) (g 1 0) u2 (cnF2 i s) (wI h2 (A 0 i) (5 : Nat) v) := fun v hv hv2 => by
                unfold cnF2
                rw [← hv2]
                refine Z2.su ⟨R.node_ct i0 (by omega) (by rcases hv with hv | hv <;> rw [hv] <;> exact ⟨by decide, by decide⟩), iw_iv Z2.1.2.1 (iv1_bool Z2.1.2.1.i (by decide) hv) (fun k hk j => up_ne (by omega)), Z2.1.2.2.same (fun _ => rfl) (fun _ => rfl) (fun n p _ _ => by rw [up_ne (by decide)]) (up_ne (by decide)) (fun _ => up_ne (by decide)) (up_ne (by decide)) (R.rvl (by omega))⟩ (SU.refl _) (fun k hk j => up_ne (by omega))
              first
                | (have Z3 := e9 1 (Or.inr rfl) (by rw [if_neg (by omega)])
                   revert Z3)
                | (have Z3 := e9 0 (Or.inl rfl) (by rw [if_pos (by omega)])
                   revert Z3)
              intro Z3
              refine r_iinc C dX4_passOneSecond_92 rfl ?_
              dsimp only [List.set]
              refine r_goto C dX4_passOneSecond_95 (t := 46) (by decide) ?_
              exact ih2 _ _ _ _ (by omega) (by omega) (by omega) (by rw [itrI_s _ _ i0, ← hs]; exact Z3)
            · skip
              refine r_iconst C dX4_passOneSecond_84 ?_
              refine r_goto C dX4_passOneSecond_85 (t := 89) (by decide) ?_
              refine r_putI C dX4_passOneSecond_89 fX4_220 (Or.inl rfl) (Or.inr ⟨rfl, by omega⟩) (R.n i0 (by omega)).1.1 (R.n i0 (by omega)).1.2 ?_
              have e9 : ∀ v, (v = 0 ∨ v = 1) → (v = if s 9 i = 0 ∧ s 7 i = 0 then 0 else 1) → Rt gx x A (g 11 0) (g 1 0) u2 (cnF2 i s) (wI h2 (A 0 i) (5 : Nat) v) := fun v hv hv2 => by
                unfold cnF2
                rw [← hv2]
                refine Z2.su ⟨R.node_ct i0 (by omega) (by rcases hv with hv | hv <;> rw [hv] <;> exact ⟨by decide, by decide⟩), iw_iv Z2.1.2.1 (iv1_bool Z2.1.2.1.i (by decide) hv) (fun k hk j => up_ne (by omega)), Z2.1.2.2.same (fun _ => rfl) (fun _ => rfl) (fun n p _ _ => by rw [up_ne (by decide)]) (up_ne (by decide)) (fun _ => up_ne (by decide)) (up_ne (by decide)) (R.rvl (by omega))⟩ (SU.refl _) (fun k hk j => up_ne (by omega))
              first
                | (have Z3 := e9 1 (Or.inr rfl) (by rw [if_neg (by omega)])
                   revert Z3)
                | (have Z3 := e9 0 (Or.inl rfl) (by rw [if_pos (by omega)])
                   revert Z3)
              intro Z3
              refine r_iinc C dX4_passOneSecond_92 rfl ?_
              dsimp only [List.set]
              refine r_goto C dX4_passOneSecond_95 (t := 46) (by decide) ?_
              exact ih2 _ _ _ _ (by omega) (by omega) (by omega) (by rw [itrI_s _ _ i0, ← hs]; exact Z3)
    · skip
      refine r_aload_n C dX4_passOneSecond_23 (i := 0) rfl rfl ?_
      refine r_aload_n C dX4_passOneSecond_24 (i := 0) rfl rfl ?_
      refine c_5_0 C dX4_passOneSecond_25 fX4_10 R  ?_
      refine r_iload_n C dX4_passOneSecond_28 (i := 1) rfl rfl ?_
      refine c_gtN C dX4_passOneSecond_29 sX4_127 R  (by omega) (by omega) (Nat.le_of_ble_eq_true rfl) ?_
      refine c_castN C dX4_passOneSecond_32 kX4_53 R (by omega) (by omega) ?_
      refine c_VX1 C dX4_passOneSecond_35 sX4_342 rfl R  rfl (Nat.le_of_ble_eq_true rfl) 0 0 (Nat.zero_le _) (Nat.zero_le _) (C_X4_stopCountingIfLongDown Z2.1 i0 (by omega) s11.symm (by have s1 : s 1 0 = g 1 0 + 1 := (T.2 1 (by decide) 0).trans up_self; omega) (by have s8 : s 8 i = g 8 i := (T.2 8 (by decide) i).trans (sec1_4 g (by decide) i); have := hS i; omega) (fun h3 R3 => ?_))
      have Z3 := Z2.su R3 (SU.refl _) (fun k hk j => cnF1_ne Z2.1.2.1.i i (by omega) j)
      refine r_iinc C dX4_passOneSecond_38 rfl ?_
      dsimp only [List.set]
      refine r_goto C dX4_passOneSecond_41 (t := 12) (by decide) ?_
      exact ih1 _ _ _ _ (by omega) (by omega) (by omega) (by rw [itrI_s _ _ i0, ← hs]; exact Z3)

set_option maxRecDepth 100000 in
set_option maxHeartbeats 4000000 in
theorem C_X4_pass {gx : GX} {d : Nat} {Qr : Option AV → Hp → Prop} {Qx : String → Hp → Prop} {x : Nat} {A : Nat → Int → Nat} {u g : GT} {h : Hp} {n : Int} (Z : Rs gx x A u g h) (hn : inR n) (ht : 0 ≤ g 1 0 ∧ g 1 0 ≤ 3000) (hL : 0 ≤ g 2 0 ∧ g 2 0 ≤ 3) (hS : ∀ j, 0 ≤ g 8 j ∧ g 8 j ≤ 3000) (hD : ∀ j, 0 ≤ g 24 j ∧ g 24 j ≤ 3000) (K : 1 ≤ n ∧ n ≤ 100 → g 1 0 + n ≤ 3000 → ∀ u' h1, Rs gx x A u' (psG g n) h1 → Qr (some (vi (g 1 0 + n))) h1) (kx1 : ¬ (1 ≤ n ∧ n ≤ 100) → Qx "java/lang/IllegalArgumentException" h) (kx2 : 1 ≤ n ∧ n ≤ 100 → 3000 < g 1 0 + n → Qx "java/lang/IllegalStateException" h) : aM gx (d + 10) mX4_pass [vr x, vi n] h 300 3000 Qr Qx := by
  intro J C
  show J 0 [some (vr x), some (vi n), none] [] h 300 3000
  have R := Z.1.1; have I := Z.1.2.1.i
  refine r_iload_n C dX4_pass_0 (i := 1) rfl rfl ?_
  refine r_iconst C dX4_pass_1 ?_
  refine r_ic_lt C dX4_pass_2 (t := 11) (by decide) (by first | assumption | exact R.rg _ _ | exact R.ru _ _ | (unfold inR; omega)) (by first | assumption | exact R.rg _ _ | exact R.ru _ _ | (unfold inR; omega)) (fun c2 => ?_) (fun c2 => ?_)
  · skip
    refine r_thr C tX4_pass_11 rfl (by omega) (Nat.le_of_ble_eq_true rfl) (by omega) (by omega) ?_
    exact kx1 (by omega)
  · skip
    refine r_iload_n C dX4_pass_5 (i := 1) rfl rfl ?_
    refine r_bipush C dX4_pass_6 (by decide) ?_
    refine r_ic_le C dX4_pass_8 (t := 21) (by decide) (by first | assumption | exact R.rg _ _ | exact R.ru _ _ | (unfold inR; omega)) (by first | assumption | exact R.rg _ _ | exact R.ru _ _ | (unfold inR; omega)) (fun c8 => ?_) (fun c8 => ?_)
    · skip
      refine r_aload_n C dX4_pass_21 (i := 0) rfl rfl ?_
      refine c_5_3 C dX4_pass_22 fX4_22 R  ?_
      refine r_iload_n C dX4_pass_25 (i := 1) rfl rfl ?_
      refine r_iadd C dX4_pass_26 ?_
      refine r_sipush C dX4_pass_27 (by decide) ?_
      refine r_ic_le C dX4_pass_30 (t := 43) (by decide) (by first | assumption | exact R.rg _ _ | exact R.ru _ _ | (unfold inR; omega)) (by first | assumption | exact R.rg _ _ | exact R.ru _ _ | (unfold inR; omega)) (fun c30 => ?_) (fun c30 => ?_)
      · skip
        refine r_iconst C dX4_pass_43 ?_
        refine r_istore_n C dX4_pass_44 (i := 2) rfl (Nat.le_of_ble_eq_true rfl) ?_
        dsimp only [List.set]
        suffices LOOP : ∀ (m9 : Nat) (i : Int) (u2 : GT) (h2 : Hp) (cc ss : Nat), n - i < (m9 : Int) → 0 ≤ i → i ≤ n → Rs gx x A u2 (psG g i) h2 → 3 * (n - i) ≤ cc → 30 * (n - i) ≤ ss → J 45 [some (vr x), some (vi n), some (vi i)] [] h2 cc ss by
          exact LOOP (n.toNat + 1) 0 u h 300 3000 (by omega) (by omega) (by omega) Z (by omega) (by omega)
        intro m9
        induction m9 with
        | zero => intro i u2 h2 cc ss hm9 i0 i1 Z2 hcc hss; exact absurd hm9 (by omega)
        | succ m9 ih9 =>
          intro i u2 h2 cc ss hm9 i0 i1 Z2 hcc hss
          have T := ps_f I i0
          obtain ⟨s, hs⟩ : ∃ s, s = psG g i := ⟨_, rfl⟩
          rw [← hs] at T Z2
          have R := Z2.1.1
          have s1 := T.2.2
          have s2 := T.2.1 2 (by omega) 0
          refine r_iload_n C dX4_pass_45 (i := 2) rfl rfl ?_
          refine r_iload_n C dX4_pass_46 (i := 1) rfl rfl ?_
          refine r_ic_ge C dX4_pass_47 (t := 60) (by decide) (by first | assumption | exact R.rg _ _ | exact R.ru _ _ | (unfold inR; omega)) (by first | assumption | exact R.rg _ _ | exact R.ru _ _ | (unfold inR; omega)) (fun c47 => ?_) (fun c47 => ?_)
          · skip
            refine r_aload_n C dX4_pass_60 (i := 0) rfl rfl ?_
            refine c_5_3 C dX4_pass_61 fX4_22 R  ?_
            refine r_iret C dX4_pass_64 (Or.inl rfl) ?_
            rw [hs, show i = n by omega] at Z2
            rw [s1, show i = n by omega]
            exact K (by omega) (by omega) _ _ Z2
          · skip
            refine r_aload_n C dX4_pass_50 (i := 0) rfl rfl ?_
            refine c_VX0 C dX4_pass_51 sX4_106 rfl R   (Nat.le_of_ble_eq_true rfl) 3 30 (by omega) (by omega) (C_X4_passOneSecond Z2 (by omega) (by omega) (fun j => by rw [T.2.1 8 (by omega) j]; exact hS j) (fun j => by rw [T.2.1 24 (by omega) j]; exact hD j) (fun u3 h3 Z3 => ?_))
            refine r_iinc C dX4_pass_54 rfl ?_
            dsimp only [List.set]
            refine r_goto C dX4_pass_57 (t := 45) (by decide) ?_
            exact ih9 _ _ _ _ _ (by omega) (by omega) (by omega) (by rw [show psG g (i + 1) = seG (psG g i) from itrI_s _ _ i0, ← hs]; exact Z3) (by omega) (by omega)
      · skip
        refine r_thr C tX4_pass_33 rfl (by omega) (Nat.le_of_ble_eq_true rfl) (by omega) (by omega) ?_
        exact kx2 (by omega) (by omega)
    · skip
      refine r_thr C tX4_pass_11 rfl (by omega) (Nat.le_of_ble_eq_true rfl) (by omega) (by omega) ?_
      exact kx1 (by omega)

