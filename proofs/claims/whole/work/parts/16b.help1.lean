/-! ===== the law: how it calls the class, 1 ===== -/
set_option maxRecDepth 100000 in
set_option maxHeartbeats 4000000 in
theorem C_L_append {gx : GX} {d : Nat} {x o : Nat} {A : Nat → Int → Nat} {u g : GT} {hc hm ho H : Hp} {w0 : Int} {f y : Int} (w3 : W3 hc hm ho H) (Z : Rs gx x A u g hc) (O : OU o ho w0) (ir_f : inR f) (ir_y : inR y) (rk : RK g) (ro : RO g) (ht : 0 ≤ g 1 0 ∧ g 1 0 ≤ 3000) (hv : ∀ j, 0 ≤ g 12 j ∧ g 12 j < 1000000) : aM gx (d + 11) mL_append [vr x, vi f, vi y, vr o] H 60 900 (fun v H1 => ∃ kk wv g1 A1 u1 hc1 ho1, v = some (vi kk) ∧ W3 hc1 hm ho1 H1 ∧ Rs gx x A1 u1 g1 hc1 ∧ OU o ho1 wv ∧ C3 (flP g f) (inP y 0 999) (caP g f) kk ∧ (kk = 0 → ∃ z, apQ g f y z g1 ∧ wv = z) ∧ (kk ≠ 0 → g1 = g)) (fun _ _ => False) := by
  intro J C
  show J 0 [some (vr x), some (vi f), some (vi y), some (vr o), none] [] H 60 900
  have xc := Z.1.1.xx.1
  have xm : x ∈ hD H := (w3.1 x).mpr (Or.inl xc.1)
  have xk : hK H x = 6 := (w3.2.2.2.1 x xc.1).1.trans xc.2
  refine r_aload_n C dL_append_0 (i := 3) rfl rfl ?_
  refine r_iconst C dL_append_1 ?_
  refine r_aload_n C dL_append_2 (i := 0) rfl rfl ?_
  refine r_iload_n C dL_append_3 (i := 1) rfl rfl ?_
  refine r_iload_n C dL_append_4 (i := 2) rfl rfl ?_
  refine r_callV C (As := [vi f, vi y]) dL_append_5 sL_48 (fun v hv => by simp only [List.mem_cons, List.not_mem_nil, or_false] at hv; rcases hv with z | z <;> (rw [z]; rfl)) (ci := 5) (by decide) rfl xm xk (Nat.le_of_ble_eq_true rfl) (c1 := 60) (s1 := 900) (Nat.le_of_ble_eq_true rfl) (Nat.le_of_ble_eq_true rfl) (aM_w w3.c (C_X4_append Z ir_f ir_y rk ro ht hv (fun p1 p2 p3 A1 u1 hc1 z g1 hz aq Z1 H1 X1 => ?_) (fun n1 H1 X1 => ?_) (fun p1 n2 H1 X1 => ?_) (fun p1 p2 n3 hc1 Z1 H1 X1 => ?_)))
  · skip
    have w4 := w3.c2 X1
    have om : o ∈ hD H1 := (w4.1 o).mpr (Or.inr (Or.inr O.1))
    have oq := w4.2.2.2.2.2 o O.1
    have ok : hK H1 o = 12 := oq.1.trans O.2.1
    have on1 : hN H1 o = 1 := oq.2.1.trans O.2.2.1
    refine r_i2l C dL_append_8 (hz) ?_
    refine r_last C dL_append_9 om ok (by decide) (by rw [on1]; decide) (by decide) ?_
    have w5 := w4.ow O.1 0 (z)
    refine r_goto C dL_append_10 (t := 25) (by decide) ?_
    refine r_iconst C dL_append_25 ?_
    refine r_iret C dL_append_26 (Or.inl rfl) ?_
    exact ⟨0, (z), g1, A1, u1, hc1, _, rfl, w5, Z1, O.w (z), Or.inr (Or.inr (Or.inr (⟨p1, p2, p3, rfl⟩))), fun _ => ⟨z, aq, rfl⟩, fun z9 => absurd rfl z9⟩
  · skip
    have w4 := w3.c2 X1
    refine cat_i (hh := [(0, 10, 13, 13), (0, 10, 17, 15), (0, 10, 21, 17)]) rfl [] (0, 10, 13, 13) [(0, 10, 17, 15), (0, 10, 21, 17)] "java/lang/IndexOutOfBoundsException" rfl (fun z hz => by cases hz) (by decide) (by decide) (by decide) kL_13 cast_13 (fun q9 => ?_)
    refine r_astore C dL_append_13 (Nat.le_of_ble_eq_true rfl) ?_
    dsimp only [List.set]
    refine r_iconst C dL_append_15 ?_
    refine r_iret C dL_append_16 (Or.inl rfl) ?_
    exact ⟨1, w0, g, A, u, hc, _, rfl, w4, Z, O, Or.inl ⟨n1, rfl⟩, fun z9 => absurd z9 (by decide), fun _ => rfl⟩
  · skip
    have w4 := w3.c2 X1
    refine cat_i (hh := [(0, 10, 13, 13), (0, 10, 17, 15), (0, 10, 21, 17)]) rfl [(0, 10, 13, 13)] (0, 10, 17, 15) [(0, 10, 21, 17)] "java/lang/IllegalArgumentException" rfl (fun z hz => by rw [List.mem_singleton.mp hz]; exact ⟨by decide, "java/lang/IndexOutOfBoundsException", kL_13, by decide⟩) (by decide) (by decide) (by decide) kL_15 cast_15 (fun q9 => ?_)
    refine r_astore C dL_append_17 (Nat.le_of_ble_eq_true rfl) ?_
    dsimp only [List.set]
    refine r_iconst C dL_append_19 ?_
    refine r_iret C dL_append_20 (Or.inl rfl) ?_
    exact ⟨2, w0, g, A, u, hc, _, rfl, w4, Z, O, Or.inr (Or.inl ⟨p1, n2, rfl⟩), fun z9 => absurd z9 (by decide), fun _ => rfl⟩
  · skip
    have w4 := w3.c2 X1
    refine cat_i (hh := [(0, 10, 13, 13), (0, 10, 17, 15), (0, 10, 21, 17)]) rfl [(0, 10, 13, 13), (0, 10, 17, 15)] (0, 10, 21, 17) [] "java/lang/IllegalStateException" rfl (fun z hz => by simp only [List.mem_cons, List.not_mem_nil, or_false] at hz; rcases hz with hz | hz; (rw [hz]; exact ⟨by decide, "java/lang/IndexOutOfBoundsException", kL_13, by decide⟩); (rw [hz]; exact ⟨by decide, "java/lang/IllegalArgumentException", kL_15, by decide⟩)) (by decide) (by decide) (by decide) kL_17 cast_17 (fun q9 => ?_)
    refine r_astore C dL_append_21 (Nat.le_of_ble_eq_true rfl) ?_
    dsimp only [List.set]
    refine r_iconst C dL_append_23 ?_
    refine r_iret C dL_append_24 (Or.inl rfl) ?_
    exact ⟨3, w0, g, A, u, hc1, _, rfl, w4, Z1, O, Or.inr (Or.inr (Or.inl ⟨p1, p2, n3, rfl⟩)), fun z9 => absurd z9 (by decide), fun _ => rfl⟩
set_option maxRecDepth 100000 in
set_option maxHeartbeats 4000000 in
theorem C_L_put {gx : GX} {d : Nat} {x o : Nat} {A : Nat → Int → Nat} {u g : GT} {hc hm ho H : Hp} {w0 : Int} {f w c y : Int} (w3 : W3 hc hm ho H) (Z : Rs gx x A u g hc) (O : OU o ho w0) (ir_f : inR f) (ir_w : inR w) (ir_c : inR c) (ir_y : inR y) (rk : RK g) (ro : RO g) (ht : 0 ≤ g 1 0 ∧ g 1 0 ≤ 3000) (hv : ∀ j, 0 ≤ g 12 j ∧ g 12 j < 1000000) : aM gx (d + 11) mL_put [vr x, vi f, vi w, vi c, vi y, vr o] H 60 900 (fun v H1 => ∃ kk wv g1 A1 u1 hc1 ho1, v = some (vi kk) ∧ W3 hc1 hm ho1 H1 ∧ Rs gx x A1 u1 g1 hc1 ∧ OU o ho1 wv ∧ C3 (flP g f ∧ inP w 0 (rwG g f - 1) ∧ inP c 0 3) (inP y 0 999) (puP g f w c) kk ∧ (kk = 0 → ∃ z, puQ g f w c y z g1 ∧ wv = bz z) ∧ (kk ≠ 0 → g1 = g)) (fun _ _ => False) := by
  intro J C
  show J 0 [some (vr x), some (vi f), some (vi w), some (vi c), some (vi y), some (vr o), none] [] H 60 900
  have xc := Z.1.1.xx.1
  have xm : x ∈ hD H := (w3.1 x).mpr (Or.inl xc.1)
  have xk : hK H x = 6 := (w3.2.2.2.1 x xc.1).1.trans xc.2
  refine r_aload C dL_put_0 rfl ?_
  refine r_iconst C dL_put_2 ?_
  refine r_aload_n C dL_put_3 (i := 0) rfl rfl ?_
  refine r_iload_n C dL_put_4 (i := 1) rfl rfl ?_
  refine r_iload_n C dL_put_5 (i := 2) rfl rfl ?_
  refine r_iload_n C dL_put_6 (i := 3) rfl rfl ?_
  refine r_iload C dL_put_7 rfl ?_
  refine r_callV C (As := [vi f, vi w, vi c, vi y]) dL_put_9 sL_51 (fun v hv => by simp only [List.mem_cons, List.not_mem_nil, or_false] at hv; rcases hv with z | z | z | z <;> (rw [z]; rfl)) (ci := 5) (by decide) rfl xm xk (Nat.le_of_ble_eq_true rfl) (c1 := 60) (s1 := 900) (Nat.le_of_ble_eq_true rfl) (Nat.le_of_ble_eq_true rfl) (aM_w w3.c (C_X4_put Z ir_f ir_w ir_c ir_y rk ro ht hv (fun p1 p2 p3 A1 u1 hc1 z g1 aq Z1 H1 X1 => ?_) (fun n1 H1 X1 => ?_) (fun p1 n2 H1 X1 => ?_) (fun p1 p2 n3 H1 X1 => ?_)))
  · skip
    have w4 := w3.c2 X1
    obtain ⟨u9, p9, -, -, bv9, -⟩ := id aq
    have zb := bv9.b
    have hz : inR z := ⟨by omega, by omega⟩
    have om : o ∈ hD H1 := (w4.1 o).mpr (Or.inr (Or.inr O.1))
    have oq := w4.2.2.2.2.2 o O.1
    have ok : hK H1 o = 12 := oq.1.trans O.2.1
    have on1 : hN H1 o = 1 := oq.2.1.trans O.2.2.1
    refine r_if_eq C dL_put_12 (t := 19) (by decide) (hz) (fun e9 => ?_) (fun e9 => ?_)
    · skip
      refine r_lconst C dL_put_19 ?_
      refine r_last C dL_put_20 om ok (by decide) (by rw [on1]; decide) (by decide) ?_
      have w5 := w4.ow O.1 0 0
      refine r_goto C dL_put_21 (t := 36) (by decide) ?_
      refine r_iconst C dL_put_36 ?_
      refine r_iret C dL_put_37 (Or.inl rfl) ?_
      exact ⟨0, 0, g1, A1, u1, hc1, _, rfl, w5, Z1, O.w 0, Or.inr (Or.inr (Or.inr (⟨p1, p2, p3, rfl⟩))), fun _ => ⟨z, aq, (if_pos e9).symm⟩, fun z9 => absurd rfl z9⟩
    · skip
      refine r_lconst C dL_put_15 ?_
      refine r_goto C dL_put_16 (t := 20) (by decide) ?_
      refine r_last C dL_put_20 om ok (by decide) (by rw [on1]; decide) (by decide) ?_
      have w5 := w4.ow O.1 0 1
      refine r_goto C dL_put_21 (t := 36) (by decide) ?_
      refine r_iconst C dL_put_36 ?_
      refine r_iret C dL_put_37 (Or.inl rfl) ?_
      exact ⟨0, 1, g1, A1, u1, hc1, _, rfl, w5, Z1, O.w 1, Or.inr (Or.inr (Or.inr (⟨p1, p2, p3, rfl⟩))), fun _ => ⟨z, aq, (if_neg e9).symm⟩, fun z9 => absurd rfl z9⟩
  · skip
    have w4 := w3.c2 X1
    refine cat_i (hh := [(0, 21, 24, 13), (0, 21, 28, 15), (0, 21, 32, 17)]) rfl [] (0, 21, 24, 13) [(0, 21, 28, 15), (0, 21, 32, 17)] "java/lang/IndexOutOfBoundsException" rfl (fun z hz => by cases hz) (by decide) (by decide) (by decide) kL_13 cast_13 (fun q9 => ?_)
    refine r_astore C dL_put_24 (Nat.le_of_ble_eq_true rfl) ?_
    dsimp only [List.set]
    refine r_iconst C dL_put_26 ?_
    refine r_iret C dL_put_27 (Or.inl rfl) ?_
    exact ⟨1, w0, g, A, u, hc, _, rfl, w4, Z, O, Or.inl ⟨n1, rfl⟩, fun z9 => absurd z9 (by decide), fun _ => rfl⟩
  · skip
    have w4 := w3.c2 X1
    refine cat_i (hh := [(0, 21, 24, 13), (0, 21, 28, 15), (0, 21, 32, 17)]) rfl [(0, 21, 24, 13)] (0, 21, 28, 15) [(0, 21, 32, 17)] "java/lang/IllegalArgumentException" rfl (fun z hz => by rw [List.mem_singleton.mp hz]; exact ⟨by decide, "java/lang/IndexOutOfBoundsException", kL_13, by decide⟩) (by decide) (by decide) (by decide) kL_15 cast_15 (fun q9 => ?_)
    refine r_astore C dL_put_28 (Nat.le_of_ble_eq_true rfl) ?_
    dsimp only [List.set]
    refine r_iconst C dL_put_30 ?_
    refine r_iret C dL_put_31 (Or.inl rfl) ?_
    exact ⟨2, w0, g, A, u, hc, _, rfl, w4, Z, O, Or.inr (Or.inl ⟨p1, n2, rfl⟩), fun z9 => absurd z9 (by decide), fun _ => rfl⟩
  · skip
    have w4 := w3.c2 X1
    refine cat_i (hh := [(0, 21, 24, 13), (0, 21, 28, 15), (0, 21, 32, 17)]) rfl [(0, 21, 24, 13), (0, 21, 28, 15)] (0, 21, 32, 17) [] "java/lang/IllegalStateException" rfl (fun z hz => by simp only [List.mem_cons, List.not_mem_nil, or_false] at hz; rcases hz with hz | hz; (rw [hz]; exact ⟨by decide, "java/lang/IndexOutOfBoundsException", kL_13, by decide⟩); (rw [hz]; exact ⟨by decide, "java/lang/IllegalArgumentException", kL_15, by decide⟩)) (by decide) (by decide) (by decide) kL_17 cast_17 (fun q9 => ?_)
    refine r_astore C dL_put_32 (Nat.le_of_ble_eq_true rfl) ?_
    dsimp only [List.set]
    refine r_iconst C dL_put_34 ?_
    refine r_iret C dL_put_35 (Or.inl rfl) ?_
    exact ⟨3, w0, g, A, u, hc, _, rfl, w4, Z, O, Or.inr (Or.inr (Or.inl ⟨p1, p2, n3, rfl⟩)), fun z9 => absurd z9 (by decide), fun _ => rfl⟩
set_option maxRecDepth 100000 in
set_option maxHeartbeats 4000000 in
theorem C_L_read {gx : GX} {d : Nat} {x o : Nat} {A : Nat → Int → Nat} {u g : GT} {hc hm ho H : Hp} {w0 : Int} {f w c r : Int} (w3 : W3 hc hm ho H) (Z : Rs gx x A u g hc) (O : OU o ho w0) (ir_f : inR f) (ir_w : inR w) (ir_c : inR c) (ir_r : inR r)  : aM gx (d + 11) mL_read [vr x, vi f, vi w, vi c, vi r, vr o] H 5 30 (fun v H1 => ∃ kk wv g1 A1 u1 hc1 ho1, v = some (vi kk) ∧ W3 hc1 hm ho1 H1 ∧ Rs gx x A1 u1 g1 hc1 ∧ OU o ho1 wv ∧ C2 (flP g f ∧ inP w 0 (rwG g f - 1) ∧ inP c 0 3 ∧ inP r 0 3) (g 23 f = 0) kk ∧ (kk = 0 → wv = rvG (rfG g (g 26 (6 * f + w)) c r) (g 26 (6 * f + w)) c r ∧ g1 = rfG g (g 26 (6 * f + w)) c r) ∧ (kk ≠ 0 → g1 = g)) (fun _ _ => False) := by
  intro J C
  show J 0 [some (vr x), some (vi f), some (vi w), some (vi c), some (vi r), some (vr o), none] [] H 5 30
  have xc := Z.1.1.xx.1
  have xm : x ∈ hD H := (w3.1 x).mpr (Or.inl xc.1)
  have xk : hK H x = 6 := (w3.2.2.2.1 x xc.1).1.trans xc.2
  refine r_aload C dL_read_0 rfl ?_
  refine r_iconst C dL_read_2 ?_
  refine r_aload_n C dL_read_3 (i := 0) rfl rfl ?_
  refine r_iload_n C dL_read_4 (i := 1) rfl rfl ?_
  refine r_iload_n C dL_read_5 (i := 2) rfl rfl ?_
  refine r_iload_n C dL_read_6 (i := 3) rfl rfl ?_
  refine r_iload C dL_read_7 rfl ?_
  refine r_callV C (As := [vi f, vi w, vi c, vi r]) dL_read_9 sL_55 (fun v hv => by simp only [List.mem_cons, List.not_mem_nil, or_false] at hv; rcases hv with z | z | z | z <;> (rw [z]; rfl)) (ci := 5) (by decide) rfl xm xk (Nat.le_of_ble_eq_true rfl) (c1 := 5) (s1 := 30) (Nat.le_of_ble_eq_true rfl) (Nat.le_of_ble_eq_true rfl) (aM_w w3.c (C_X4_read Z ir_f ir_w ir_c ir_r  (fun p1 p2 u1 hc1 Z1 H1 X1 => ?_) (fun n1 H1 X1 => ?_) (fun p1 n2 H1 X1 => ?_)))
  · skip
    have w4 := w3.c2 X1
    have om : o ∈ hD H1 := (w4.1 o).mpr (Or.inr (Or.inr O.1))
    have oq := w4.2.2.2.2.2 o O.1
    have ok : hK H1 o = 12 := oq.1.trans O.2.1
    have on1 : hN H1 o = 1 := oq.2.1.trans O.2.2.1
    refine r_i2l C dL_read_12 (rv_rg Z1.1.1.rg _ _ _) ?_
    refine r_last C dL_read_13 om ok (by decide) (by rw [on1]; decide) (by decide) ?_
    have w5 := w4.ow O.1 0 (rvG (rfG g (g 26 (6 * f + w)) c r) (g 26 (6 * f + w)) c r)
    refine r_goto C dL_read_14 (t := 25) (by decide) ?_
    refine r_iconst C dL_read_25 ?_
    refine r_iret C dL_read_26 (Or.inl rfl) ?_
    exact ⟨0, (rvG (rfG g (g 26 (6 * f + w)) c r) (g 26 (6 * f + w)) c r), rfG g (g 26 (6 * f + w)) c r, A, u1, hc1, _, rfl, w5, Z1, O.w (rvG (rfG g (g 26 (6 * f + w)) c r) (g 26 (6 * f + w)) c r), Or.inr (Or.inr (⟨p1, p2, rfl⟩)), fun _ => ⟨rfl, rfl⟩, fun z9 => absurd rfl z9⟩
  · skip
    have w4 := w3.c2 X1
    refine cat_i (hh := [(0, 14, 17, 13), (0, 14, 21, 17)]) rfl [] (0, 14, 17, 13) [(0, 14, 21, 17)] "java/lang/IndexOutOfBoundsException" rfl (fun z hz => by cases hz) (by decide) (by decide) (by decide) kL_13 cast_13 (fun q9 => ?_)
    refine r_astore C dL_read_17 (Nat.le_of_ble_eq_true rfl) ?_
    dsimp only [List.set]
    refine r_iconst C dL_read_19 ?_
    refine r_iret C dL_read_20 (Or.inl rfl) ?_
    exact ⟨1, w0, g, A, u, hc, _, rfl, w4, Z, O, Or.inl ⟨n1, rfl⟩, fun z9 => absurd z9 (by decide), fun _ => rfl⟩
  · skip
    have w4 := w3.c2 X1
    refine cat_i (hh := [(0, 14, 17, 13), (0, 14, 21, 17)]) rfl [(0, 14, 17, 13)] (0, 14, 21, 17) [] "java/lang/IllegalStateException" rfl (fun z hz => by rw [List.mem_singleton.mp hz]; exact ⟨by decide, "java/lang/IndexOutOfBoundsException", kL_13, by decide⟩) (by decide) (by decide) (by decide) kL_17 cast_17 (fun q9 => ?_)
    refine r_astore C dL_read_21 (Nat.le_of_ble_eq_true rfl) ?_
    dsimp only [List.set]
    refine r_iconst C dL_read_23 ?_
    refine r_iret C dL_read_24 (Or.inl rfl) ?_
    exact ⟨2, w0, g, A, u, hc, _, rfl, w4, Z, O, Or.inr (Or.inl ⟨p1, n2, rfl⟩), fun z9 => absurd z9 (by decide), fun _ => rfl⟩
set_option maxRecDepth 100000 in
set_option maxHeartbeats 4000000 in
theorem C_L_state {gx : GX} {d : Nat} {x o : Nat} {A : Nat → Int → Nat} {u g : GT} {hc hm ho H : Hp} {w0 : Int} {f : Int} (w3 : W3 hc hm ho H) (Z : Rs gx x A u g hc) (O : OU o ho w0) (ir_f : inR f)  : aM gx (d + 11) mL_state [vr x, vi f, vr o] H 1 6 (fun v H1 => ∃ kk wv g1 A1 u1 hc1 ho1, v = some (vi kk) ∧ W3 hc1 hm ho1 H1 ∧ Rs gx x A1 u1 g1 hc1 ∧ OU o ho1 wv ∧ C1 (flP g f) kk ∧ (kk = 0 → wv = g 23 f ∧ g1 = g) ∧ (kk ≠ 0 → g1 = g)) (fun _ _ => False) := by
  intro J C
  show J 0 [some (vr x), some (vi f), some (vr o), none] [] H 1 6
  have xc := Z.1.1.xx.1
  have xm : x ∈ hD H := (w3.1 x).mpr (Or.inl xc.1)
  have xk : hK H x = 6 := (w3.2.2.2.1 x xc.1).1.trans xc.2
  refine r_aload_n C dL_state_0 (i := 2) rfl rfl ?_
  refine r_iconst C dL_state_1 ?_
  refine r_aload_n C dL_state_2 (i := 0) rfl rfl ?_
  refine r_iload_n C dL_state_3 (i := 1) rfl rfl ?_
  refine r_callV C (As := [vi f]) dL_state_4 sL_59 (fun v hv => by rw [List.mem_singleton.mp hv]; rfl) (ci := 5) (by decide) rfl xm xk (Nat.le_of_ble_eq_true rfl) (c1 := 1) (s1 := 6) (Nat.le_of_ble_eq_true rfl) (Nat.le_of_ble_eq_true rfl) (aM_w w3.c (C_X4_state Z ir_f  (fun p1  H1 X1 => ?_) (fun n1 H1 X1 => ?_)))
  · skip
    have w4 := w3.c2 X1
    have Z1 := Z
    have om : o ∈ hD H1 := (w4.1 o).mpr (Or.inr (Or.inr O.1))
    have oq := w4.2.2.2.2.2 o O.1
    have ok : hK H1 o = 12 := oq.1.trans O.2.1
    have on1 : hN H1 o = 1 := oq.2.1.trans O.2.2.1
    refine r_i2l C dL_state_7 (Z.1.1.rg _ _) ?_
    refine r_last C dL_state_8 om ok (by decide) (by rw [on1]; decide) (by decide) ?_
    have w5 := w4.ow O.1 0 (g 23 f)
    refine r_goto C dL_state_9 (t := 15) (by decide) ?_
    refine r_iconst C dL_state_15 ?_
    refine r_iret C dL_state_16 (Or.inl rfl) ?_
    exact ⟨0, (g 23 f), g, A, u, hc, _, rfl, w5, Z1, O.w (g 23 f), Or.inr (⟨p1, rfl⟩), fun _ => ⟨rfl, rfl⟩, fun z9 => absurd rfl z9⟩
  · skip
    have w4 := w3.c2 X1
    refine cat_i (hh := [(0, 9, 12, 13)]) rfl [] (0, 9, 12, 13) [] "java/lang/IndexOutOfBoundsException" rfl (fun z hz => by cases hz) (by decide) (by decide) (by decide) kL_13 cast_13 (fun q9 => ?_)
    refine r_astore_n C dL_state_12 (i := 3) rfl (Nat.le_of_ble_eq_true rfl) ?_
    dsimp only [List.set]
    refine r_iconst C dL_state_13 ?_
    refine r_iret C dL_state_14 (Or.inl rfl) ?_
    exact ⟨1, w0, g, A, u, hc, _, rfl, w4, Z, O, Or.inl ⟨n1, rfl⟩, fun z9 => absurd z9 (by decide), fun _ => rfl⟩
set_option maxRecDepth 100000 in
set_option maxHeartbeats 4000000 in
theorem C_L_pieces {gx : GX} {d : Nat} {x o : Nat} {A : Nat → Int → Nat} {u g : GT} {hc hm ho H : Hp} {w0 : Int} {f : Int} (w3 : W3 hc hm ho H) (Z : Rs gx x A u g hc) (O : OU o ho w0) (ir_f : inR f)  : aM gx (d + 11) mL_pieces [vr x, vi f, vr o] H 1 6 (fun v H1 => ∃ kk wv g1 A1 u1 hc1 ho1, v = some (vi kk) ∧ W3 hc1 hm ho1 H1 ∧ Rs gx x A1 u1 g1 hc1 ∧ OU o ho1 wv ∧ C1 (flP g f) kk ∧ (kk = 0 → wv = rwG g f ∧ g1 = g) ∧ (kk ≠ 0 → g1 = g)) (fun _ _ => False) := by
  intro J C
  show J 0 [some (vr x), some (vi f), some (vr o), none] [] H 1 6
  have xc := Z.1.1.xx.1
  have xm : x ∈ hD H := (w3.1 x).mpr (Or.inl xc.1)
  have xk : hK H x = 6 := (w3.2.2.2.1 x xc.1).1.trans xc.2
  refine r_aload_n C dL_pieces_0 (i := 2) rfl rfl ?_
  refine r_iconst C dL_pieces_1 ?_
  refine r_aload_n C dL_pieces_2 (i := 0) rfl rfl ?_
  refine r_iload_n C dL_pieces_3 (i := 1) rfl rfl ?_
  refine r_callV C (As := [vi f]) dL_pieces_4 sL_62 (fun v hv => by rw [List.mem_singleton.mp hv]; rfl) (ci := 5) (by decide) rfl xm xk (Nat.le_of_ble_eq_true rfl) (c1 := 1) (s1 := 6) (Nat.le_of_ble_eq_true rfl) (Nat.le_of_ble_eq_true rfl) (aM_w w3.c (C_X4_pieces Z ir_f  (fun p1  H1 X1 => ?_) (fun n1 H1 X1 => ?_)))
  · skip
    have w4 := w3.c2 X1
    have Z1 := Z
    have om : o ∈ hD H1 := (w4.1 o).mpr (Or.inr (Or.inr O.1))
    have oq := w4.2.2.2.2.2 o O.1
    have ok : hK H1 o = 12 := oq.1.trans O.2.1
    have on1 : hN H1 o = 1 := oq.2.1.trans O.2.2.1
    refine r_i2l C dL_pieces_7 ((by unfold rwG; split; exact inR0; exact Z.1.1.rg _ _)) ?_
    refine r_last C dL_pieces_8 om ok (by decide) (by rw [on1]; decide) (by decide) ?_
    have w5 := w4.ow O.1 0 (rwG g f)
    refine r_goto C dL_pieces_9 (t := 15) (by decide) ?_
    refine r_iconst C dL_pieces_15 ?_
    refine r_iret C dL_pieces_16 (Or.inl rfl) ?_
    exact ⟨0, (rwG g f), g, A, u, hc, _, rfl, w5, Z1, O.w (rwG g f), Or.inr (⟨p1, rfl⟩), fun _ => ⟨rfl, rfl⟩, fun z9 => absurd rfl z9⟩
  · skip
    have w4 := w3.c2 X1
    refine cat_i (hh := [(0, 9, 12, 13)]) rfl [] (0, 9, 12, 13) [] "java/lang/IndexOutOfBoundsException" rfl (fun z hz => by cases hz) (by decide) (by decide) (by decide) kL_13 cast_13 (fun q9 => ?_)
    refine r_astore_n C dL_pieces_12 (i := 3) rfl (Nat.le_of_ble_eq_true rfl) ?_
    dsimp only [List.set]
    refine r_iconst C dL_pieces_13 ?_
    refine r_iret C dL_pieces_14 (Or.inl rfl) ?_
    exact ⟨1, w0, g, A, u, hc, _, rfl, w4, Z, O, Or.inl ⟨n1, rfl⟩, fun z9 => absurd z9 (by decide), fun _ => rfl⟩
set_option maxRecDepth 100000 in
set_option maxHeartbeats 4000000 in
theorem C_L_pieceAt {gx : GX} {d : Nat} {x o : Nat} {A : Nat → Int → Nat} {u g : GT} {hc hm ho H : Hp} {w0 : Int} {f w : Int} (w3 : W3 hc hm ho H) (Z : Rs gx x A u g hc) (O : OU o ho w0) (ir_f : inR f) (ir_w : inR w)  : aM gx (d + 11) mL_pieceAt [vr x, vi f, vi w, vr o] H 2 12 (fun v H1 => ∃ kk wv g1 A1 u1 hc1 ho1, v = some (vi kk) ∧ W3 hc1 hm ho1 H1 ∧ Rs gx x A1 u1 g1 hc1 ∧ OU o ho1 wv ∧ C1 (flP g f ∧ inP w 0 (rwG g f - 1)) kk ∧ (kk = 0 → wv = g 26 (6 * f + w) ∧ g1 = g) ∧ (kk ≠ 0 → g1 = g)) (fun _ _ => False) := by
  intro J C
  show J 0 [some (vr x), some (vi f), some (vi w), some (vr o), none] [] H 2 12
  have xc := Z.1.1.xx.1
  have xm : x ∈ hD H := (w3.1 x).mpr (Or.inl xc.1)
  have xk : hK H x = 6 := (w3.2.2.2.1 x xc.1).1.trans xc.2
  refine r_aload_n C dL_pieceAt_0 (i := 3) rfl rfl ?_
  refine r_iconst C dL_pieceAt_1 ?_
  refine r_aload_n C dL_pieceAt_2 (i := 0) rfl rfl ?_
  refine r_iload_n C dL_pieceAt_3 (i := 1) rfl rfl ?_
  refine r_iload_n C dL_pieceAt_4 (i := 2) rfl rfl ?_
  refine r_callV C (As := [vi f, vi w]) dL_pieceAt_5 sL_65 (fun v hv => by simp only [List.mem_cons, List.not_mem_nil, or_false] at hv; rcases hv with z | z <;> (rw [z]; rfl)) (ci := 5) (by decide) rfl xm xk (Nat.le_of_ble_eq_true rfl) (c1 := 2) (s1 := 12) (Nat.le_of_ble_eq_true rfl) (Nat.le_of_ble_eq_true rfl) (aM_w w3.c (C_X4_pieceAt Z ir_f ir_w  (fun p1  H1 X1 => ?_) (fun n1 H1 X1 => ?_)))
  · skip
    have w4 := w3.c2 X1
    have Z1 := Z
    have om : o ∈ hD H1 := (w4.1 o).mpr (Or.inr (Or.inr O.1))
    have oq := w4.2.2.2.2.2 o O.1
    have ok : hK H1 o = 12 := oq.1.trans O.2.1
    have on1 : hN H1 o = 1 := oq.2.1.trans O.2.2.1
    refine r_i2l C dL_pieceAt_8 (Z.1.1.rg _ _) ?_
    refine r_last C dL_pieceAt_9 om ok (by decide) (by rw [on1]; decide) (by decide) ?_
    have w5 := w4.ow O.1 0 (g 26 (6 * f + w))
    refine r_goto C dL_pieceAt_10 (t := 17) (by decide) ?_
    refine r_iconst C dL_pieceAt_17 ?_
    refine r_iret C dL_pieceAt_18 (Or.inl rfl) ?_
    exact ⟨0, (g 26 (6 * f + w)), g, A, u, hc, _, rfl, w5, Z1, O.w (g 26 (6 * f + w)), Or.inr (⟨p1, rfl⟩), fun _ => ⟨rfl, rfl⟩, fun z9 => absurd rfl z9⟩
  · skip
    have w4 := w3.c2 X1
    refine cat_i (hh := [(0, 10, 13, 13)]) rfl [] (0, 10, 13, 13) [] "java/lang/IndexOutOfBoundsException" rfl (fun z hz => by cases hz) (by decide) (by decide) (by decide) kL_13 cast_13 (fun q9 => ?_)
    refine r_astore C dL_pieceAt_13 (Nat.le_of_ble_eq_true rfl) ?_
    dsimp only [List.set]
    refine r_iconst C dL_pieceAt_15 ?_
    refine r_iret C dL_pieceAt_16 (Or.inl rfl) ?_
    exact ⟨1, w0, g, A, u, hc, _, rfl, w4, Z, O, Or.inl ⟨n1, rfl⟩, fun z9 => absurd z9 (by decide), fun _ => rfl⟩
set_option maxRecDepth 100000 in
set_option maxHeartbeats 4000000 in
theorem C_L_piece {gx : GX} {d : Nat} {x o : Nat} {A : Nat → Int → Nat} {u g : GT} {hc hm ho H : Hp} {w0 : Int} {p w : Int} (w3 : W3 hc hm ho H) (Z : Rs gx x A u g hc) (O : OU o ho w0) (ir_p : inR p) (ir_w : inR w)  : aM gx (d + 11) mL_piece [vr x, vi p, vi w, vr o] H 2 12 (fun v H1 => ∃ kk wv g1 A1 u1 hc1 ho1, v = some (vi kk) ∧ W3 hc1 hm ho1 H1 ∧ Rs gx x A1 u1 g1 hc1 ∧ OU o ho1 wv ∧ C2 (pcP g p) (inP w 0 5) kk ∧ (kk = 0 → wv = pvG g p w ∧ g1 = g) ∧ (kk ≠ 0 → g1 = g)) (fun _ _ => False) := by
  intro J C
  show J 0 [some (vr x), some (vi p), some (vi w), some (vr o), none] [] H 2 12
  have xc := Z.1.1.xx.1
  have xm : x ∈ hD H := (w3.1 x).mpr (Or.inl xc.1)
  have xk : hK H x = 6 := (w3.2.2.2.1 x xc.1).1.trans xc.2
  refine r_aload_n C dL_piece_0 (i := 3) rfl rfl ?_
  refine r_iconst C dL_piece_1 ?_
  refine r_aload_n C dL_piece_2 (i := 0) rfl rfl ?_
  refine r_iload_n C dL_piece_3 (i := 1) rfl rfl ?_
  refine r_iload_n C dL_piece_4 (i := 2) rfl rfl ?_
  refine r_callV C (As := [vi p, vi w]) dL_piece_5 sL_68 (fun v hv => by simp only [List.mem_cons, List.not_mem_nil, or_false] at hv; rcases hv with z | z <;> (rw [z]; rfl)) (ci := 5) (by decide) rfl xm xk (Nat.le_of_ble_eq_true rfl) (c1 := 2) (s1 := 12) (Nat.le_of_ble_eq_true rfl) (Nat.le_of_ble_eq_true rfl) (aM_w w3.c (C_X4_piece Z ir_p ir_w  (fun p1 p2  H1 X1 => ?_) (fun n1 H1 X1 => ?_) (fun p1 n2 H1 X1 => ?_)))
  · skip
    have w4 := w3.c2 X1
    have Z1 := Z
    have om : o ∈ hD H1 := (w4.1 o).mpr (Or.inr (Or.inr O.1))
    have oq := w4.2.2.2.2.2 o O.1
    have ok : hK H1 o = 12 := oq.1.trans O.2.1
    have on1 : hN H1 o = 1 := oq.2.1.trans O.2.2.1
    refine r_i2l C dL_piece_8 (pv_rg Z.1.1.rg Z.1.2.1.b p1 w) ?_
    refine r_last C dL_piece_9 om ok (by decide) (by rw [on1]; decide) (by decide) ?_
    have w5 := w4.ow O.1 0 (pvG g p w)
    refine r_goto C dL_piece_10 (t := 21) (by decide) ?_
    refine r_iconst C dL_piece_21 ?_
    refine r_iret C dL_piece_22 (Or.inl rfl) ?_
    exact ⟨0, (pvG g p w), g, A, u, hc, _, rfl, w5, Z1, O.w (pvG g p w), Or.inr (Or.inr (⟨p1, p2, rfl⟩)), fun _ => ⟨rfl, rfl⟩, fun z9 => absurd rfl z9⟩
  · skip
    have w4 := w3.c2 X1
    refine cat_i (hh := [(0, 10, 13, 13), (0, 10, 17, 15)]) rfl [] (0, 10, 13, 13) [(0, 10, 17, 15)] "java/lang/IndexOutOfBoundsException" rfl (fun z hz => by cases hz) (by decide) (by decide) (by decide) kL_13 cast_13 (fun q9 => ?_)
    refine r_astore C dL_piece_13 (Nat.le_of_ble_eq_true rfl) ?_
    dsimp only [List.set]
    refine r_iconst C dL_piece_15 ?_
    refine r_iret C dL_piece_16 (Or.inl rfl) ?_
    exact ⟨1, w0, g, A, u, hc, _, rfl, w4, Z, O, Or.inl ⟨n1, rfl⟩, fun z9 => absurd z9 (by decide), fun _ => rfl⟩
  · skip
    have w4 := w3.c2 X1
    refine cat_i (hh := [(0, 10, 13, 13), (0, 10, 17, 15)]) rfl [(0, 10, 13, 13)] (0, 10, 17, 15) [] "java/lang/IllegalArgumentException" rfl (fun z hz => by rw [List.mem_singleton.mp hz]; exact ⟨by decide, "java/lang/IndexOutOfBoundsException", kL_13, by decide⟩) (by decide) (by decide) (by decide) kL_15 cast_15 (fun q9 => ?_)
    refine r_astore C dL_piece_17 (Nat.le_of_ble_eq_true rfl) ?_
    dsimp only [List.set]
    refine r_iconst C dL_piece_19 ?_
    refine r_iret C dL_piece_20 (Or.inl rfl) ?_
    exact ⟨2, w0, g, A, u, hc, _, rfl, w4, Z, O, Or.inr (Or.inl ⟨p1, n2, rfl⟩), fun z9 => absurd z9 (by decide), fun _ => rfl⟩
set_option maxRecDepth 100000 in
set_option maxHeartbeats 4000000 in
theorem C_L_copyAt {gx : GX} {d : Nat} {x o : Nat} {A : Nat → Int → Nat} {u g : GT} {hc hm ho H : Hp} {w0 : Int} {p w : Int} (w3 : W3 hc hm ho H) (Z : Rs gx x A u g hc) (O : OU o ho w0) (ir_p : inR p) (ir_w : inR w)  : aM gx (d + 11) mL_copyAt [vr x, vi p, vi w, vr o] H 2 12 (fun v H1 => ∃ kk wv g1 A1 u1 hc1 ho1, v = some (vi kk) ∧ W3 hc1 hm ho1 H1 ∧ Rs gx x A1 u1 g1 hc1 ∧ OU o ho1 wv ∧ C1 (pcP g p ∧ inP w 0 (g 16 p - 1)) kk ∧ (kk = 0 → wv = g 17 (8 * p + w) ∧ g1 = g) ∧ (kk ≠ 0 → g1 = g)) (fun _ _ => False) := by
  intro J C
  show J 0 [some (vr x), some (vi p), some (vi w), some (vr o), none] [] H 2 12
  have xc := Z.1.1.xx.1
  have xm : x ∈ hD H := (w3.1 x).mpr (Or.inl xc.1)
  have xk : hK H x = 6 := (w3.2.2.2.1 x xc.1).1.trans xc.2
  refine r_aload_n C dL_copyAt_0 (i := 3) rfl rfl ?_
  refine r_iconst C dL_copyAt_1 ?_
  refine r_aload_n C dL_copyAt_2 (i := 0) rfl rfl ?_
  refine r_iload_n C dL_copyAt_3 (i := 1) rfl rfl ?_
  refine r_iload_n C dL_copyAt_4 (i := 2) rfl rfl ?_
  refine r_callV C (As := [vi p, vi w]) dL_copyAt_5 sL_71 (fun v hv => by simp only [List.mem_cons, List.not_mem_nil, or_false] at hv; rcases hv with z | z <;> (rw [z]; rfl)) (ci := 5) (by decide) rfl xm xk (Nat.le_of_ble_eq_true rfl) (c1 := 2) (s1 := 12) (Nat.le_of_ble_eq_true rfl) (Nat.le_of_ble_eq_true rfl) (aM_w w3.c (C_X4_copyAt Z ir_p ir_w  (fun p1  H1 X1 => ?_) (fun n1 H1 X1 => ?_)))
  · skip
    have w4 := w3.c2 X1
    have Z1 := Z
    have om : o ∈ hD H1 := (w4.1 o).mpr (Or.inr (Or.inr O.1))
    have oq := w4.2.2.2.2.2 o O.1
    have ok : hK H1 o = 12 := oq.1.trans O.2.1
    have on1 : hN H1 o = 1 := oq.2.1.trans O.2.2.1
    refine r_i2l C dL_copyAt_8 (Z.1.1.rg _ _) ?_
    refine r_last C dL_copyAt_9 om ok (by decide) (by rw [on1]; decide) (by decide) ?_
    have w5 := w4.ow O.1 0 (g 17 (8 * p + w))
    refine r_goto C dL_copyAt_10 (t := 17) (by decide) ?_
    refine r_iconst C dL_copyAt_17 ?_
    refine r_iret C dL_copyAt_18 (Or.inl rfl) ?_
    exact ⟨0, (g 17 (8 * p + w)), g, A, u, hc, _, rfl, w5, Z1, O.w (g 17 (8 * p + w)), Or.inr (⟨p1, rfl⟩), fun _ => ⟨rfl, rfl⟩, fun z9 => absurd rfl z9⟩
  · skip
    have w4 := w3.c2 X1
    refine cat_i (hh := [(0, 10, 13, 13)]) rfl [] (0, 10, 13, 13) [] "java/lang/IndexOutOfBoundsException" rfl (fun z hz => by cases hz) (by decide) (by decide) (by decide) kL_13 cast_13 (fun q9 => ?_)
    refine r_astore C dL_copyAt_13 (Nat.le_of_ble_eq_true rfl) ?_
    dsimp only [List.set]
    refine r_iconst C dL_copyAt_15 ?_
    refine r_iret C dL_copyAt_16 (Or.inl rfl) ?_
    exact ⟨1, w0, g, A, u, hc, _, rfl, w4, Z, O, Or.inl ⟨n1, rfl⟩, fun z9 => absurd z9 (by decide), fun _ => rfl⟩
set_option maxRecDepth 100000 in
set_option maxHeartbeats 4000000 in
theorem C_L_on {gx : GX} {d : Nat} {x o : Nat} {A : Nat → Int → Nat} {u g : GT} {hc hm ho H : Hp} {w0 : Int} {n p w : Int} (w3 : W3 hc hm ho H) (Z : Rs gx x A u g hc) (O : OU o ho w0) (ir_n : inR n) (ir_p : inR p) (ir_w : inR w)  : aM gx (d + 11) mL_on [vr x, vi n, vi p, vi w, vr o] H 3 18 (fun v H1 => ∃ kk wv g1 A1 u1 hc1 ho1, v = some (vi kk) ∧ W3 hc1 hm ho1 H1 ∧ Rs gx x A1 u1 g1 hc1 ∧ OU o ho1 wv ∧ C2 (ndP g n ∧ pcP g p) (inP w 0 2) kk ∧ (kk = 0 → wv = (if g 18 (60 * n + p) = 0 then -1 else if w = 0 then g 18 (60 * n + p) else if w = 1 then g 19 (60 * n + p) else g 21 (60 * n + p)) ∧ g1 = g) ∧ (kk ≠ 0 → g1 = g)) (fun _ _ => False) := by
  intro J C
  show J 0 [some (vr x), some (vi n), some (vi p), some (vi w), some (vr o), none] [] H 3 18
  have xc := Z.1.1.xx.1
  have xm : x ∈ hD H := (w3.1 x).mpr (Or.inl xc.1)
  have xk : hK H x = 6 := (w3.2.2.2.1 x xc.1).1.trans xc.2
  refine r_aload C dL_on_0 rfl ?_
  refine r_iconst C dL_on_2 ?_
  refine r_aload_n C dL_on_3 (i := 0) rfl rfl ?_
  refine r_iload_n C dL_on_4 (i := 1) rfl rfl ?_
  refine r_iload_n C dL_on_5 (i := 2) rfl rfl ?_
  refine r_iload_n C dL_on_6 (i := 3) rfl rfl ?_
  refine r_callV C (As := [vi n, vi p, vi w]) dL_on_7 sL_74 (fun v hv => by simp only [List.mem_cons, List.not_mem_nil, or_false] at hv; rcases hv with z | z | z <;> (rw [z]; rfl)) (ci := 5) (by decide) rfl xm xk (Nat.le_of_ble_eq_true rfl) (c1 := 3) (s1 := 18) (Nat.le_of_ble_eq_true rfl) (Nat.le_of_ble_eq_true rfl) (aM_w w3.c (C_X4_on Z ir_n ir_p ir_w  (fun p1 p2  H1 X1 => ?_) (fun n1 H1 X1 => ?_) (fun p1 n2 H1 X1 => ?_)))
  · skip
    have w4 := w3.c2 X1
    have Z1 := Z
    have om : o ∈ hD H1 := (w4.1 o).mpr (Or.inr (Or.inr O.1))
    have oq := w4.2.2.2.2.2 o O.1
    have ok : hK H1 o = 12 := oq.1.trans O.2.1
    have on1 : hN H1 o = 1 := oq.2.1.trans O.2.2.1
    refine r_i2l C dL_on_10 ((by split; exact inRn1; split; exact Z.1.1.rg _ _; split; exact Z.1.1.rg _ _; exact Z.1.1.rg _ _)) ?_
    refine r_last C dL_on_11 om ok (by decide) (by rw [on1]; decide) (by decide) ?_
    have w5 := w4.ow O.1 0 ((if g 18 (60 * n + p) = 0 then -1 else if w = 0 then g 18 (60 * n + p) else if w = 1 then g 19 (60 * n + p) else g 21 (60 * n + p)))
    refine r_goto C dL_on_12 (t := 23) (by decide) ?_
    refine r_iconst C dL_on_23 ?_
    refine r_iret C dL_on_24 (Or.inl rfl) ?_
    exact ⟨0, ((if g 18 (60 * n + p) = 0 then -1 else if w = 0 then g 18 (60 * n + p) else if w = 1 then g 19 (60 * n + p) else g 21 (60 * n + p))), g, A, u, hc, _, rfl, w5, Z1, O.w ((if g 18 (60 * n + p) = 0 then -1 else if w = 0 then g 18 (60 * n + p) else if w = 1 then g 19 (60 * n + p) else g 21 (60 * n + p))), Or.inr (Or.inr (⟨p1, p2, rfl⟩)), fun _ => ⟨rfl, rfl⟩, fun z9 => absurd rfl z9⟩
  · skip
    have w4 := w3.c2 X1
    refine cat_i (hh := [(0, 12, 15, 13), (0, 12, 19, 15)]) rfl [] (0, 12, 15, 13) [(0, 12, 19, 15)] "java/lang/IndexOutOfBoundsException" rfl (fun z hz => by cases hz) (by decide) (by decide) (by decide) kL_13 cast_13 (fun q9 => ?_)
    refine r_astore C dL_on_15 (Nat.le_of_ble_eq_true rfl) ?_
    dsimp only [List.set]
    refine r_iconst C dL_on_17 ?_
    refine r_iret C dL_on_18 (Or.inl rfl) ?_
    exact ⟨1, w0, g, A, u, hc, _, rfl, w4, Z, O, Or.inl ⟨n1, rfl⟩, fun z9 => absurd z9 (by decide), fun _ => rfl⟩
  · skip
    have w4 := w3.c2 X1
    refine cat_i (hh := [(0, 12, 15, 13), (0, 12, 19, 15)]) rfl [(0, 12, 15, 13)] (0, 12, 19, 15) [] "java/lang/IllegalArgumentException" rfl (fun z hz => by rw [List.mem_singleton.mp hz]; exact ⟨by decide, "java/lang/IndexOutOfBoundsException", kL_13, by decide⟩) (by decide) (by decide) (by decide) kL_15 cast_15 (fun q9 => ?_)
    refine r_astore C dL_on_19 (Nat.le_of_ble_eq_true rfl) ?_
    dsimp only [List.set]
    refine r_iconst C dL_on_21 ?_
    refine r_iret C dL_on_22 (Or.inl rfl) ?_
    exact ⟨2, w0, g, A, u, hc, _, rfl, w4, Z, O, Or.inr (Or.inl ⟨p1, n2, rfl⟩), fun z9 => absurd z9 (by decide), fun _ => rfl⟩
set_option maxRecDepth 100000 in
set_option maxHeartbeats 4000000 in
theorem C_L_cellOn {gx : GX} {d : Nat} {x o : Nat} {A : Nat → Int → Nat} {u g : GT} {hc hm ho H : Hp} {w0 : Int} {n p c : Int} (w3 : W3 hc hm ho H) (Z : Rs gx x A u g hc) (O : OU o ho w0) (ir_n : inR n) (ir_p : inR p) (ir_c : inR c)  : aM gx (d + 11) mL_cellOn [vr x, vi n, vi p, vi c, vr o] H 3 18 (fun v H1 => ∃ kk wv g1 A1 u1 hc1 ho1, v = some (vi kk) ∧ W3 hc1 hm ho1 H1 ∧ Rs gx x A1 u1 g1 hc1 ∧ OU o ho1 wv ∧ C1 (ndP g n ∧ pcP g p ∧ inP c 0 3) kk ∧ (kk = 0 → wv = (if g 18 (60 * n + p) = 0 ∨ g 19 (60 * n + p) ≤ c then -1 else g 20 (4 * (60 * n + p) + c)) ∧ g1 = g) ∧ (kk ≠ 0 → g1 = g)) (fun _ _ => False) := by
  intro J C
  show J 0 [some (vr x), some (vi n), some (vi p), some (vi c), some (vr o), none] [] H 3 18
  have xc := Z.1.1.xx.1
  have xm : x ∈ hD H := (w3.1 x).mpr (Or.inl xc.1)
  have xk : hK H x = 6 := (w3.2.2.2.1 x xc.1).1.trans xc.2
  refine r_aload C dL_cellOn_0 rfl ?_
  refine r_iconst C dL_cellOn_2 ?_
  refine r_aload_n C dL_cellOn_3 (i := 0) rfl rfl ?_
  refine r_iload_n C dL_cellOn_4 (i := 1) rfl rfl ?_
  refine r_iload_n C dL_cellOn_5 (i := 2) rfl rfl ?_
  refine r_iload_n C dL_cellOn_6 (i := 3) rfl rfl ?_
  refine r_callV C (As := [vi n, vi p, vi c]) dL_cellOn_7 sL_78 (fun v hv => by simp only [List.mem_cons, List.not_mem_nil, or_false] at hv; rcases hv with z | z | z <;> (rw [z]; rfl)) (ci := 5) (by decide) rfl xm xk (Nat.le_of_ble_eq_true rfl) (c1 := 3) (s1 := 18) (Nat.le_of_ble_eq_true rfl) (Nat.le_of_ble_eq_true rfl) (aM_w w3.c (C_X4_cellOn Z ir_n ir_p ir_c  (fun p1  H1 X1 => ?_) (fun n1 H1 X1 => ?_)))
  · skip
    have w4 := w3.c2 X1
    have Z1 := Z
    have om : o ∈ hD H1 := (w4.1 o).mpr (Or.inr (Or.inr O.1))
    have oq := w4.2.2.2.2.2 o O.1
    have ok : hK H1 o = 12 := oq.1.trans O.2.1
    have on1 : hN H1 o = 1 := oq.2.1.trans O.2.2.1
    refine r_i2l C dL_cellOn_10 ((by split; exact inRn1; exact Z.1.1.rg _ _)) ?_
    refine r_last C dL_cellOn_11 om ok (by decide) (by rw [on1]; decide) (by decide) ?_
    have w5 := w4.ow O.1 0 ((if g 18 (60 * n + p) = 0 ∨ g 19 (60 * n + p) ≤ c then -1 else g 20 (4 * (60 * n + p) + c)))
    refine r_goto C dL_cellOn_12 (t := 19) (by decide) ?_
    refine r_iconst C dL_cellOn_19 ?_
    refine r_iret C dL_cellOn_20 (Or.inl rfl) ?_
    exact ⟨0, ((if g 18 (60 * n + p) = 0 ∨ g 19 (60 * n + p) ≤ c then -1 else g 20 (4 * (60 * n + p) + c))), g, A, u, hc, _, rfl, w5, Z1, O.w ((if g 18 (60 * n + p) = 0 ∨ g 19 (60 * n + p) ≤ c then -1 else g 20 (4 * (60 * n + p) + c))), Or.inr (⟨p1, rfl⟩), fun _ => ⟨rfl, rfl⟩, fun z9 => absurd rfl z9⟩
  · skip
    have w4 := w3.c2 X1
    refine cat_i (hh := [(0, 12, 15, 13)]) rfl [] (0, 12, 15, 13) [] "java/lang/IndexOutOfBoundsException" rfl (fun z hz => by cases hz) (by decide) (by decide) (by decide) kL_13 cast_13 (fun q9 => ?_)
    refine r_astore C dL_cellOn_15 (Nat.le_of_ble_eq_true rfl) ?_
    dsimp only [List.set]
    refine r_iconst C dL_cellOn_17 ?_
    refine r_iret C dL_cellOn_18 (Or.inl rfl) ?_
    exact ⟨1, w0, g, A, u, hc, _, rfl, w4, Z, O, Or.inl ⟨n1, rfl⟩, fun z9 => absurd z9 (by decide), fun _ => rfl⟩
set_option maxRecDepth 100000 in
set_option maxHeartbeats 4000000 in
theorem C_L_load {gx : GX} {d : Nat} {x o : Nat} {A : Nat → Int → Nat} {u g : GT} {hc hm ho H : Hp} {w0 : Int} {n : Int} (w3 : W3 hc hm ho H) (Z : Rs gx x A u g hc) (O : OU o ho w0) (ir_n : inR n)  : aM gx (d + 11) mL_load [vr x, vi n, vr o] H 1 6 (fun v H1 => ∃ kk wv g1 A1 u1 hc1 ho1, v = some (vi kk) ∧ W3 hc1 hm ho1 H1 ∧ Rs gx x A1 u1 g1 hc1 ∧ OU o ho1 wv ∧ C1 (ndP g n) kk ∧ (kk = 0 → wv = loadG g n ∧ g1 = g) ∧ (kk ≠ 0 → g1 = g)) (fun _ _ => False) := by
  intro J C
  show J 0 [some (vr x), some (vi n), some (vr o), none] [] H 1 6
  have xc := Z.1.1.xx.1
  have xm : x ∈ hD H := (w3.1 x).mpr (Or.inl xc.1)
  have xk : hK H x = 6 := (w3.2.2.2.1 x xc.1).1.trans xc.2
  refine r_aload_n C dL_load_0 (i := 2) rfl rfl ?_
  refine r_iconst C dL_load_1 ?_
  refine r_aload_n C dL_load_2 (i := 0) rfl rfl ?_
  refine r_iload_n C dL_load_3 (i := 1) rfl rfl ?_
  refine r_callV C (As := [vi n]) dL_load_4 sL_81 (fun v hv => by rw [List.mem_singleton.mp hv]; rfl) (ci := 5) (by decide) rfl xm xk (Nat.le_of_ble_eq_true rfl) (c1 := 1) (s1 := 6) (Nat.le_of_ble_eq_true rfl) (Nat.le_of_ble_eq_true rfl) (aM_w w3.c (C_X4_load Z ir_n  (fun p1  H1 X1 => ?_) (fun n1 H1 X1 => ?_)))
  · skip
    have w4 := w3.c2 X1
    have Z1 := Z
    have om : o ∈ hD H1 := (w4.1 o).mpr (Or.inr (Or.inr O.1))
    have oq := w4.2.2.2.2.2 o O.1
    have ok : hK H1 o = 12 := oq.1.trans O.2.1
    have on1 : hN H1 o = 1 := oq.2.1.trans O.2.2.1
    refine r_i2l C dL_load_7 (lo_rg Z.1.2.1.b n) ?_
    refine r_last C dL_load_8 om ok (by decide) (by rw [on1]; decide) (by decide) ?_
    have w5 := w4.ow O.1 0 (loadG g n)
    refine r_goto C dL_load_9 (t := 15) (by decide) ?_
    refine r_iconst C dL_load_15 ?_
    refine r_iret C dL_load_16 (Or.inl rfl) ?_
    exact ⟨0, (loadG g n), g, A, u, hc, _, rfl, w5, Z1, O.w (loadG g n), Or.inr (⟨p1, rfl⟩), fun _ => ⟨rfl, rfl⟩, fun z9 => absurd rfl z9⟩
  · skip
    have w4 := w3.c2 X1
    refine cat_i (hh := [(0, 9, 12, 13)]) rfl [] (0, 9, 12, 13) [] "java/lang/IndexOutOfBoundsException" rfl (fun z hz => by cases hz) (by decide) (by decide) (by decide) kL_13 cast_13 (fun q9 => ?_)
    refine r_astore_n C dL_load_12 (i := 3) rfl (Nat.le_of_ble_eq_true rfl) ?_
    dsimp only [List.set]
    refine r_iconst C dL_load_13 ?_
    refine r_iret C dL_load_14 (Or.inl rfl) ?_
    exact ⟨1, w0, g, A, u, hc, _, rfl, w4, Z, O, Or.inl ⟨n1, rfl⟩, fun z9 => absurd z9 (by decide), fun _ => rfl⟩
set_option maxRecDepth 100000 in
set_option maxHeartbeats 4000000 in
theorem C_L_isCounted {gx : GX} {d : Nat} {x o : Nat} {A : Nat → Int → Nat} {u g : GT} {hc hm ho H : Hp} {w0 : Int} {n : Int} (w3 : W3 hc hm ho H) (Z : Rs gx x A u g hc) (O : OU o ho w0) (ir_n : inR n)  : aM gx (d + 11) mL_isCounted [vr x, vi n, vr o] H 1 6 (fun v H1 => ∃ kk wv g1 A1 u1 hc1 ho1, v = some (vi kk) ∧ W3 hc1 hm ho1 H1 ∧ Rs gx x A1 u1 g1 hc1 ∧ OU o ho1 wv ∧ C1 (ndP g n) kk ∧ (kk = 0 → wv = bz (g 9 n) ∧ g1 = g) ∧ (kk ≠ 0 → g1 = g)) (fun _ _ => False) := by
  intro J C
  show J 0 [some (vr x), some (vi n), some (vr o), none] [] H 1 6
  have xc := Z.1.1.xx.1
  have xm : x ∈ hD H := (w3.1 x).mpr (Or.inl xc.1)
  have xk : hK H x = 6 := (w3.2.2.2.1 x xc.1).1.trans xc.2
  refine r_aload_n C dL_isCounted_0 (i := 2) rfl rfl ?_
  refine r_iconst C dL_isCounted_1 ?_
  refine r_aload_n C dL_isCounted_2 (i := 0) rfl rfl ?_
  refine r_iload_n C dL_isCounted_3 (i := 1) rfl rfl ?_
  refine r_callV C (As := [vi n]) dL_isCounted_4 sL_84 (fun v hv => by rw [List.mem_singleton.mp hv]; rfl) (ci := 5) (by decide) rfl xm xk (Nat.le_of_ble_eq_true rfl) (c1 := 1) (s1 := 6) (Nat.le_of_ble_eq_true rfl) (Nat.le_of_ble_eq_true rfl) (aM_w w3.c (C_X4_isCounted Z ir_n  (fun p1  H1 X1 => ?_) (fun n1 H1 X1 => ?_)))
  · skip
    have w4 := w3.c2 X1
    have Z1 := Z
    have om : o ∈ hD H1 := (w4.1 o).mpr (Or.inr (Or.inr O.1))
    have oq := w4.2.2.2.2.2 o O.1
    have ok : hK H1 o = 12 := oq.1.trans O.2.1
    have on1 : hN H1 o = 1 := oq.2.1.trans O.2.2.1
    refine r_if_eq C dL_isCounted_7 (t := 14) (by decide) (Z.1.1.rg _ _) (fun e9 => ?_) (fun e9 => ?_)
    · skip
      refine r_lconst C dL_isCounted_14 ?_
      refine r_last C dL_isCounted_15 om ok (by decide) (by rw [on1]; decide) (by decide) ?_
      have w5 := w4.ow O.1 0 0
      refine r_goto C dL_isCounted_16 (t := 22) (by decide) ?_
      refine r_iconst C dL_isCounted_22 ?_
      refine r_iret C dL_isCounted_23 (Or.inl rfl) ?_
      exact ⟨0, 0, g, A, u, hc, _, rfl, w5, Z1, O.w 0, Or.inr (⟨p1, rfl⟩), fun _ => ⟨(if_pos e9).symm, rfl⟩, fun z9 => absurd rfl z9⟩
    · skip
      refine r_lconst C dL_isCounted_10 ?_
      refine r_goto C dL_isCounted_11 (t := 15) (by decide) ?_
      refine r_last C dL_isCounted_15 om ok (by decide) (by rw [on1]; decide) (by decide) ?_
      have w5 := w4.ow O.1 0 1
      refine r_goto C dL_isCounted_16 (t := 22) (by decide) ?_
      refine r_iconst C dL_isCounted_22 ?_
      refine r_iret C dL_isCounted_23 (Or.inl rfl) ?_
      exact ⟨0, 1, g, A, u, hc, _, rfl, w5, Z1, O.w 1, Or.inr (⟨p1, rfl⟩), fun _ => ⟨(if_neg e9).symm, rfl⟩, fun z9 => absurd rfl z9⟩
  · skip
    have w4 := w3.c2 X1
    refine cat_i (hh := [(0, 16, 19, 13)]) rfl [] (0, 16, 19, 13) [] "java/lang/IndexOutOfBoundsException" rfl (fun z hz => by cases hz) (by decide) (by decide) (by decide) kL_13 cast_13 (fun q9 => ?_)
    refine r_astore_n C dL_isCounted_19 (i := 3) rfl (Nat.le_of_ble_eq_true rfl) ?_
    dsimp only [List.set]
    refine r_iconst C dL_isCounted_20 ?_
    refine r_iret C dL_isCounted_21 (Or.inl rfl) ?_
    exact ⟨1, w0, g, A, u, hc, _, rfl, w4, Z, O, Or.inl ⟨n1, rfl⟩, fun z9 => absurd z9 (by decide), fun _ => rfl⟩
set_option maxRecDepth 100000 in
set_option maxHeartbeats 4000000 in
theorem C_L_walk {gx : GX} {d : Nat} {x o : Nat} {A : Nat → Int → Nat} {u g : GT} {hc hm ho H : Hp} {w0 : Int} {w : Int} (w3 : W3 hc hm ho H) (Z : Rs gx x A u g hc) (O : OU o ho w0) (ir_w : inR w)  : aM gx (d + 11) mL_walk [vr x, vi w, vr o] H 1 6 (fun v H1 => ∃ kk wv g1 A1 u1 hc1 ho1, v = some (vi kk) ∧ W3 hc1 hm ho1 H1 ∧ Rs gx x A1 u1 g1 hc1 ∧ OU o ho1 wv ∧ C1 (inP w 0 3) kk ∧ (kk = 0 → wv = wkG g w ∧ g1 = g) ∧ (kk ≠ 0 → g1 = g)) (fun _ _ => False) := by
  intro J C
  show J 0 [some (vr x), some (vi w), some (vr o), none] [] H 1 6
  have xc := Z.1.1.xx.1
  have xm : x ∈ hD H := (w3.1 x).mpr (Or.inl xc.1)
  have xk : hK H x = 6 := (w3.2.2.2.1 x xc.1).1.trans xc.2
  refine r_aload_n C dL_walk_0 (i := 2) rfl rfl ?_
  refine r_iconst C dL_walk_1 ?_
  refine r_aload_n C dL_walk_2 (i := 0) rfl rfl ?_
  refine r_iload_n C dL_walk_3 (i := 1) rfl rfl ?_
  refine r_callV C (As := [vi w]) dL_walk_4 sL_88 (fun v hv => by rw [List.mem_singleton.mp hv]; rfl) (ci := 5) (by decide) rfl xm xk (Nat.le_of_ble_eq_true rfl) (c1 := 1) (s1 := 6) (Nat.le_of_ble_eq_true rfl) (Nat.le_of_ble_eq_true rfl) (aM_w w3.c (C_X4_walk Z ir_w  (fun p1  H1 X1 => ?_) (fun n1 H1 X1 => ?_)))
  · skip
    have w4 := w3.c2 X1
    have Z1 := Z
    have om : o ∈ hD H1 := (w4.1 o).mpr (Or.inr (Or.inr O.1))
    have oq := w4.2.2.2.2.2 o O.1
    have ok : hK H1 o = 12 := oq.1.trans O.2.1
    have on1 : hN H1 o = 1 := oq.2.1.trans O.2.2.1
    refine r_i2l C dL_walk_7 (wk_rg Z.1.2.1.b w) ?_
    refine r_last C dL_walk_8 om ok (by decide) (by rw [on1]; decide) (by decide) ?_
    have w5 := w4.ow O.1 0 (wkG g w)
    refine r_goto C dL_walk_9 (t := 15) (by decide) ?_
    refine r_iconst C dL_walk_15 ?_
    refine r_iret C dL_walk_16 (Or.inl rfl) ?_
    exact ⟨0, (wkG g w), g, A, u, hc, _, rfl, w5, Z1, O.w (wkG g w), Or.inr (⟨p1, rfl⟩), fun _ => ⟨rfl, rfl⟩, fun z9 => absurd rfl z9⟩
  · skip
    have w4 := w3.c2 X1
    refine cat_i (hh := [(0, 9, 12, 15)]) rfl [] (0, 9, 12, 15) [] "java/lang/IllegalArgumentException" rfl (fun z hz => by cases hz) (by decide) (by decide) (by decide) kL_15 cast_15 (fun q9 => ?_)
    refine r_astore_n C dL_walk_12 (i := 3) rfl (Nat.le_of_ble_eq_true rfl) ?_
    dsimp only [List.set]
    refine r_iconst C dL_walk_13 ?_
    refine r_iret C dL_walk_14 (Or.inl rfl) ?_
    exact ⟨1, w0, g, A, u, hc, _, rfl, w4, Z, O, Or.inl ⟨n1, rfl⟩, fun z9 => absurd z9 (by decide), fun _ => rfl⟩
