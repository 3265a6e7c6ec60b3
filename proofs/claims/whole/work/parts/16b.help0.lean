/-! ===== the law: how it calls the class, 0 ===== -/
set_option maxRecDepth 100000 in
set_option maxHeartbeats 4000000 in
theorem C_L_node {gx : GX} {d : Nat} {x o : Nat} {A : Nat → Int → Nat} {u g : GT} {hc hm ho H : Hp} {w0 : Int} {a b : Int} (w3 : W3 hc hm ho H) (Z : Rs gx x A u g hc) (O : OU o ho w0) (ir_a : inR a) (ir_b : inR b)  : aM gx (d + 11) mL_node [vr x, vi a, vi b, vr o] H 60 400 (fun v H1 => ∃ kk wv g1 A1 u1 hc1 ho1, v = some (vi kk) ∧ W3 hc1 hm ho1 H1 ∧ Rs gx x A1 u1 g1 hc1 ∧ OU o ho1 wv ∧ C3 (inP a 0 3) (inP b 1 12) (g 4 0 ≠ 8) kk ∧ (kk = 0 → wv = g 4 0 ∧ g1 = ndG g a b) ∧ (kk ≠ 0 → g1 = g)) (fun _ _ => False) := by
  intro J C
  show J 0 [some (vr x), some (vi a), some (vi b), some (vr o), none] [] H 60 400
  have xc := Z.1.1.xx.1
  have xm : x ∈ hD H := (w3.1 x).mpr (Or.inl xc.1)
  have xk : hK H x = 6 := (w3.2.2.2.1 x xc.1).1.trans xc.2
  refine r_aload_n C dL_node_0 (i := 3) rfl rfl ?_
  refine r_iconst C dL_node_1 ?_
  refine r_aload_n C dL_node_2 (i := 0) rfl rfl ?_
  refine r_iload_n C dL_node_3 (i := 1) rfl rfl ?_
  refine r_iload_n C dL_node_4 (i := 2) rfl rfl ?_
  refine r_callV C (As := [vi a, vi b]) dL_node_5 sL_7 (fun v hv => by simp only [List.mem_cons, List.not_mem_nil, or_false] at hv; rcases hv with z | z <;> (rw [z]; rfl)) (ci := 5) (by decide) rfl xm xk (Nat.le_of_ble_eq_true rfl) (c1 := 60) (s1 := 400) (Nat.le_of_ble_eq_true rfl) (Nat.le_of_ble_eq_true rfl) (aM_w w3.c (C_X4_node Z ir_a ir_b  (fun p1 p2 p3 A1 u1 hc1 Z1 H1 X1 => ?_) (fun n1 H1 X1 => ?_) (fun p1 n2 H1 X1 => ?_) (fun p1 p2 n3 H1 X1 => ?_)))
  · skip
    have w4 := w3.c2 X1
    have om : o ∈ hD H1 := (w4.1 o).mpr (Or.inr (Or.inr O.1))
    have oq := w4.2.2.2.2.2 o O.1
    have ok : hK H1 o = 12 := oq.1.trans O.2.1
    have on1 : hN H1 o = 1 := oq.2.1.trans O.2.2.1
    refine r_i2l C dL_node_8 (Z.1.1.rg _ _) ?_
    refine r_last C dL_node_9 om ok (by decide) (by rw [on1]; decide) (by decide) ?_
    have w5 := w4.ow O.1 0 (g 4 0)
    refine r_goto C dL_node_10 (t := 25) (by decide) ?_
    refine r_iconst C dL_node_25 ?_
    refine r_iret C dL_node_26 (Or.inl rfl) ?_
    exact ⟨0, (g 4 0), ndG g a b, A1, u1, hc1, _, rfl, w5, Z1, O.w (g 4 0), Or.inr (Or.inr (Or.inr (⟨p1, p2, p3, rfl⟩))), fun _ => ⟨rfl, rfl⟩, fun z9 => absurd rfl z9⟩
  · skip
    have w4 := w3.c2 X1
    refine cat_i (hh := [(0, 10, 13, 13), (0, 10, 17, 15), (0, 10, 21, 17)]) rfl [] (0, 10, 13, 13) [(0, 10, 17, 15), (0, 10, 21, 17)] "java/lang/IndexOutOfBoundsException" rfl (fun z hz => by cases hz) (by decide) (by decide) (by decide) kL_13 cast_13 (fun q9 => ?_)
    refine r_astore C dL_node_13 (Nat.le_of_ble_eq_true rfl) ?_
    dsimp only [List.set]
    refine r_iconst C dL_node_15 ?_
    refine r_iret C dL_node_16 (Or.inl rfl) ?_
    exact ⟨1, w0, g, A, u, hc, _, rfl, w4, Z, O, Or.inl ⟨n1, rfl⟩, fun z9 => absurd z9 (by decide), fun _ => rfl⟩
  · skip
    have w4 := w3.c2 X1
    refine cat_i (hh := [(0, 10, 13, 13), (0, 10, 17, 15), (0, 10, 21, 17)]) rfl [(0, 10, 13, 13)] (0, 10, 17, 15) [(0, 10, 21, 17)] "java/lang/IllegalArgumentException" rfl (fun z hz => by rw [List.mem_singleton.mp hz]; exact ⟨by decide, "java/lang/IndexOutOfBoundsException", kL_13, by decide⟩) (by decide) (by decide) (by decide) kL_15 cast_15 (fun q9 => ?_)
    refine r_astore C dL_node_17 (Nat.le_of_ble_eq_true rfl) ?_
    dsimp only [List.set]
    refine r_iconst C dL_node_19 ?_
    refine r_iret C dL_node_20 (Or.inl rfl) ?_
    exact ⟨2, w0, g, A, u, hc, _, rfl, w4, Z, O, Or.inr (Or.inl ⟨p1, n2, rfl⟩), fun z9 => absurd z9 (by decide), fun _ => rfl⟩
  · skip
    have w4 := w3.c2 X1
    refine cat_i (hh := [(0, 10, 13, 13), (0, 10, 17, 15), (0, 10, 21, 17)]) rfl [(0, 10, 13, 13), (0, 10, 17, 15)] (0, 10, 21, 17) [] "java/lang/IllegalStateException" rfl (fun z hz => by simp only [List.mem_cons, List.not_mem_nil, or_false] at hz; rcases hz with hz | hz; (rw [hz]; exact ⟨by decide, "java/lang/IndexOutOfBoundsException", kL_13, by decide⟩); (rw [hz]; exact ⟨by decide, "java/lang/IllegalArgumentException", kL_15, by decide⟩)) (by decide) (by decide) (by decide) kL_17 cast_17 (fun q9 => ?_)
    refine r_astore C dL_node_21 (Nat.le_of_ble_eq_true rfl) ?_
    dsimp only [List.set]
    refine r_iconst C dL_node_23 ?_
    refine r_iret C dL_node_24 (Or.inl rfl) ?_
    exact ⟨3, w0, g, A, u, hc, _, rfl, w4, Z, O, Or.inr (Or.inr (Or.inl ⟨p1, p2, n3, rfl⟩)), fun z9 => absurd z9 (by decide), fun _ => rfl⟩
set_option maxRecDepth 100000 in
set_option maxHeartbeats 4000000 in
theorem C_L_up {gx : GX} {d : Nat} {x o : Nat} {A : Nat → Int → Nat} {u g : GT} {hc hm ho H : Hp} {w0 : Int} {n b : Int} (w3 : W3 hc hm ho H) (Z : Rs gx x A u g hc) (O : OU o ho w0) (ir_n : inR n) (ir_b : b = 0 ∨ b = 1)  : aM gx (d + 11) mL_up [vr x, vi n, vi b, vr o] H 1 6 (fun v H1 => ∃ kk wv g1 A1 u1 hc1 ho1, v = some (vi kk) ∧ W3 hc1 hm ho1 H1 ∧ Rs gx x A1 u1 g1 hc1 ∧ OU o ho1 wv ∧ C1 (ndP g n) kk ∧ (kk = 0 → wv = bz (g 7 n) ∧ g1 = upG g n b) ∧ (kk ≠ 0 → g1 = g)) (fun _ _ => False) := by
  intro J C
  show J 0 [some (vr x), some (vi n), some (vi b), some (vr o), none] [] H 1 6
  have xc := Z.1.1.xx.1
  have xm : x ∈ hD H := (w3.1 x).mpr (Or.inl xc.1)
  have xk : hK H x = 6 := (w3.2.2.2.1 x xc.1).1.trans xc.2
  refine r_aload_n C dL_up_0 (i := 3) rfl rfl ?_
  refine r_iconst C dL_up_1 ?_
  refine r_aload_n C dL_up_2 (i := 0) rfl rfl ?_
  refine r_iload_n C dL_up_3 (i := 1) rfl rfl ?_
  refine r_iload_n C dL_up_4 (i := 2) rfl rfl ?_
  refine r_callV C (As := [vi n, vi b]) dL_up_5 sL_19 (fun v hv => by simp only [List.mem_cons, List.not_mem_nil, or_false] at hv; rcases hv with z | z <;> (rw [z]; rfl)) (ci := 5) (by decide) rfl xm xk (Nat.le_of_ble_eq_true rfl) (c1 := 1) (s1 := 6) (Nat.le_of_ble_eq_true rfl) (Nat.le_of_ble_eq_true rfl) (aM_w w3.c (C_X4_up Z ir_n ir_b  (fun p1 hc1 Z1 H1 X1 => ?_) (fun n1 H1 X1 => ?_)))
  · skip
    have w4 := w3.c2 X1
    have om : o ∈ hD H1 := (w4.1 o).mpr (Or.inr (Or.inr O.1))
    have oq := w4.2.2.2.2.2 o O.1
    have ok : hK H1 o = 12 := oq.1.trans O.2.1
    have on1 : hN H1 o = 1 := oq.2.1.trans O.2.2.1
    refine r_if_eq C dL_up_8 (t := 15) (by decide) (Z.1.1.rg _ _) (fun e9 => ?_) (fun e9 => ?_)
    · skip
      refine r_lconst C dL_up_15 ?_
      refine r_last C dL_up_16 om ok (by decide) (by rw [on1]; decide) (by decide) ?_
      have w5 := w4.ow O.1 0 0
      refine r_goto C dL_up_17 (t := 24) (by decide) ?_
      refine r_iconst C dL_up_24 ?_
      refine r_iret C dL_up_25 (Or.inl rfl) ?_
      exact ⟨0, 0, upG g n b, A, u, hc1, _, rfl, w5, Z1, O.w 0, Or.inr (⟨p1, rfl⟩), fun _ => ⟨(if_pos e9).symm, rfl⟩, fun z9 => absurd rfl z9⟩
    · skip
      refine r_lconst C dL_up_11 ?_
      refine r_goto C dL_up_12 (t := 16) (by decide) ?_
      refine r_last C dL_up_16 om ok (by decide) (by rw [on1]; decide) (by decide) ?_
      have w5 := w4.ow O.1 0 1
      refine r_goto C dL_up_17 (t := 24) (by decide) ?_
      refine r_iconst C dL_up_24 ?_
      refine r_iret C dL_up_25 (Or.inl rfl) ?_
      exact ⟨0, 1, upG g n b, A, u, hc1, _, rfl, w5, Z1, O.w 1, Or.inr (⟨p1, rfl⟩), fun _ => ⟨(if_neg e9).symm, rfl⟩, fun z9 => absurd rfl z9⟩
  · skip
    have w4 := w3.c2 X1
    refine cat_i (hh := [(0, 17, 20, 13)]) rfl [] (0, 17, 20, 13) [] "java/lang/IndexOutOfBoundsException" rfl (fun z hz => by cases hz) (by decide) (by decide) (by decide) kL_13 cast_13 (fun q9 => ?_)
    refine r_astore C dL_up_20 (Nat.le_of_ble_eq_true rfl) ?_
    dsimp only [List.set]
    refine r_iconst C dL_up_22 ?_
    refine r_iret C dL_up_23 (Or.inl rfl) ?_
    exact ⟨1, w0, g, A, u, hc, _, rfl, w4, Z, O, Or.inl ⟨n1, rfl⟩, fun z9 => absurd z9 (by decide), fun _ => rfl⟩
set_option maxRecDepth 100000 in
set_option maxHeartbeats 4000000 in
theorem C_L_spoil {gx : GX} {d : Nat} {x o : Nat} {A : Nat → Int → Nat} {u g : GT} {hc hm ho H : Hp} {w0 : Int} {n p c : Int} (w3 : W3 hc hm ho H) (Z : Rs gx x A u g hc) (O : OU o ho w0) (ir_n : inR n) (ir_p : inR p) (ir_c : inR c)  : aM gx (d + 11) mL_spoil [vr x, vi n, vi p, vi c, vr o] H 4 24 (fun v H1 => ∃ kk wv g1 A1 u1 hc1 ho1, v = some (vi kk) ∧ W3 hc1 hm ho1 H1 ∧ Rs gx x A1 u1 g1 hc1 ∧ OU o ho1 wv ∧ C2 (ndP g n ∧ pcP g p ∧ inP c 0 3) (g 18 (60 * n + p) ≠ 0 ∧ c < g 19 (60 * n + p)) kk ∧ (kk = 0 → ∃ z, BV z (shB (g 21 (60 * n + p)) c = 1) ∧ wv = bz z ∧ g1 = spG g n p c) ∧ (kk ≠ 0 → g1 = g)) (fun _ _ => False) := by
  intro J C
  show J 0 [some (vr x), some (vi n), some (vi p), some (vi c), some (vr o), none] [] H 4 24
  have xc := Z.1.1.xx.1
  have xm : x ∈ hD H := (w3.1 x).mpr (Or.inl xc.1)
  have xk : hK H x = 6 := (w3.2.2.2.1 x xc.1).1.trans xc.2
  refine r_aload C dL_spoil_0 rfl ?_
  refine r_iconst C dL_spoil_2 ?_
  refine r_aload_n C dL_spoil_3 (i := 0) rfl rfl ?_
  refine r_iload_n C dL_spoil_4 (i := 1) rfl rfl ?_
  refine r_iload_n C dL_spoil_5 (i := 2) rfl rfl ?_
  refine r_iload_n C dL_spoil_6 (i := 3) rfl rfl ?_
  refine r_callV C (As := [vi n, vi p, vi c]) dL_spoil_7 sL_23 (fun v hv => by simp only [List.mem_cons, List.not_mem_nil, or_false] at hv; rcases hv with z | z | z <;> (rw [z]; rfl)) (ci := 5) (by decide) rfl xm xk (Nat.le_of_ble_eq_true rfl) (c1 := 4) (s1 := 24) (Nat.le_of_ble_eq_true rfl) (Nat.le_of_ble_eq_true rfl) (aM_w w3.c (C_X4_spoil Z ir_n ir_p ir_c  (fun p1 p2 z hc1 hz bz1 Z1 H1 X1 => ?_) (fun n1 H1 X1 => ?_) (fun p1 n2 H1 X1 => ?_)))
  · skip
    have w4 := w3.c2 X1
    have om : o ∈ hD H1 := (w4.1 o).mpr (Or.inr (Or.inr O.1))
    have oq := w4.2.2.2.2.2 o O.1
    have ok : hK H1 o = 12 := oq.1.trans O.2.1
    have on1 : hN H1 o = 1 := oq.2.1.trans O.2.2.1
    refine r_if_eq C dL_spoil_10 (t := 17) (by decide) (hz) (fun e9 => ?_) (fun e9 => ?_)
    · skip
      refine r_lconst C dL_spoil_17 ?_
      refine r_last C dL_spoil_18 om ok (by decide) (by rw [on1]; decide) (by decide) ?_
      have w5 := w4.ow O.1 0 0
      refine r_goto C dL_spoil_19 (t := 30) (by decide) ?_
      refine r_iconst C dL_spoil_30 ?_
      refine r_iret C dL_spoil_31 (Or.inl rfl) ?_
      exact ⟨0, 0, spG g n p c, A, u, hc1, _, rfl, w5, Z1, O.w 0, Or.inr (Or.inr (⟨p1, p2, rfl⟩)), fun _ => ⟨z, bz1, (if_pos e9).symm, rfl⟩, fun z9 => absurd rfl z9⟩
    · skip
      refine r_lconst C dL_spoil_13 ?_
      refine r_goto C dL_spoil_14 (t := 18) (by decide) ?_
      refine r_last C dL_spoil_18 om ok (by decide) (by rw [on1]; decide) (by decide) ?_
      have w5 := w4.ow O.1 0 1
      refine r_goto C dL_spoil_19 (t := 30) (by decide) ?_
      refine r_iconst C dL_spoil_30 ?_
      refine r_iret C dL_spoil_31 (Or.inl rfl) ?_
      exact ⟨0, 1, spG g n p c, A, u, hc1, _, rfl, w5, Z1, O.w 1, Or.inr (Or.inr (⟨p1, p2, rfl⟩)), fun _ => ⟨z, bz1, (if_neg e9).symm, rfl⟩, fun z9 => absurd rfl z9⟩
  · skip
    have w4 := w3.c2 X1
    refine cat_i (hh := [(0, 19, 22, 13), (0, 19, 26, 17)]) rfl [] (0, 19, 22, 13) [(0, 19, 26, 17)] "java/lang/IndexOutOfBoundsException" rfl (fun z hz => by cases hz) (by decide) (by decide) (by decide) kL_13 cast_13 (fun q9 => ?_)
    refine r_astore C dL_spoil_22 (Nat.le_of_ble_eq_true rfl) ?_
    dsimp only [List.set]
    refine r_iconst C dL_spoil_24 ?_
    refine r_iret C dL_spoil_25 (Or.inl rfl) ?_
    exact ⟨1, w0, g, A, u, hc, _, rfl, w4, Z, O, Or.inl ⟨n1, rfl⟩, fun z9 => absurd z9 (by decide), fun _ => rfl⟩
  · skip
    have w4 := w3.c2 X1
    refine cat_i (hh := [(0, 19, 22, 13), (0, 19, 26, 17)]) rfl [(0, 19, 22, 13)] (0, 19, 26, 17) [] "java/lang/IllegalStateException" rfl (fun z hz => by rw [List.mem_singleton.mp hz]; exact ⟨by decide, "java/lang/IndexOutOfBoundsException", kL_13, by decide⟩) (by decide) (by decide) (by decide) kL_17 cast_17 (fun q9 => ?_)
    refine r_astore C dL_spoil_26 (Nat.le_of_ble_eq_true rfl) ?_
    dsimp only [List.set]
    refine r_iconst C dL_spoil_28 ?_
    refine r_iret C dL_spoil_29 (Or.inl rfl) ?_
    exact ⟨2, w0, g, A, u, hc, _, rfl, w4, Z, O, Or.inr (Or.inl ⟨p1, n2, rfl⟩), fun z9 => absurd z9 (by decide), fun _ => rfl⟩
set_option maxRecDepth 100000 in
set_option maxHeartbeats 4000000 in
theorem C_L_limit {gx : GX} {d : Nat} {x o : Nat} {A : Nat → Int → Nat} {u g : GT} {hc hm ho H : Hp} {w0 : Int} {a : Int} (w3 : W3 hc hm ho H) (Z : Rs gx x A u g hc) (O : OU o ho w0) (ir_a : inR a)  : aM gx (d + 11) mL_limit [vr x, vi a, vr o] H 1 6 (fun v H1 => ∃ kk wv g1 A1 u1 hc1 ho1, v = some (vi kk) ∧ W3 hc1 hm ho1 H1 ∧ Rs gx x A1 u1 g1 hc1 ∧ OU o ho1 wv ∧ C1 (inP a 0 3) kk ∧ (kk = 0 → wv = g 2 0 ∧ g1 = up g 2 0 a) ∧ (kk ≠ 0 → g1 = g)) (fun _ _ => False) := by
  intro J C
  show J 0 [some (vr x), some (vi a), some (vr o), none] [] H 1 6
  have xc := Z.1.1.xx.1
  have xm : x ∈ hD H := (w3.1 x).mpr (Or.inl xc.1)
  have xk : hK H x = 6 := (w3.2.2.2.1 x xc.1).1.trans xc.2
  refine r_aload_n C dL_limit_0 (i := 2) rfl rfl ?_
  refine r_iconst C dL_limit_1 ?_
  refine r_aload_n C dL_limit_2 (i := 0) rfl rfl ?_
  refine r_iload_n C dL_limit_3 (i := 1) rfl rfl ?_
  refine r_callV C (As := [vi a]) dL_limit_4 sL_27 (fun v hv => by rw [List.mem_singleton.mp hv]; rfl) (ci := 5) (by decide) rfl xm xk (Nat.le_of_ble_eq_true rfl) (c1 := 1) (s1 := 6) (Nat.le_of_ble_eq_true rfl) (Nat.le_of_ble_eq_true rfl) (aM_w w3.c (C_X4_limit Z ir_a  (fun p1 hc1 Z1 H1 X1 => ?_) (fun n1 H1 X1 => ?_)))
  · skip
    have w4 := w3.c2 X1
    have om : o ∈ hD H1 := (w4.1 o).mpr (Or.inr (Or.inr O.1))
    have oq := w4.2.2.2.2.2 o O.1
    have ok : hK H1 o = 12 := oq.1.trans O.2.1
    have on1 : hN H1 o = 1 := oq.2.1.trans O.2.2.1
    refine r_i2l C dL_limit_7 (Z.1.1.rg _ _) ?_
    refine r_last C dL_limit_8 om ok (by decide) (by rw [on1]; decide) (by decide) ?_
    have w5 := w4.ow O.1 0 (g 2 0)
    refine r_goto C dL_limit_9 (t := 15) (by decide) ?_
    refine r_iconst C dL_limit_15 ?_
    refine r_iret C dL_limit_16 (Or.inl rfl) ?_
    exact ⟨0, (g 2 0), up g 2 0 a, A, u, hc1, _, rfl, w5, Z1, O.w (g 2 0), Or.inr (⟨p1, rfl⟩), fun _ => ⟨rfl, rfl⟩, fun z9 => absurd rfl z9⟩
  · skip
    have w4 := w3.c2 X1
    refine cat_i (hh := [(0, 9, 12, 15)]) rfl [] (0, 9, 12, 15) [] "java/lang/IllegalArgumentException" rfl (fun z hz => by cases hz) (by decide) (by decide) (by decide) kL_15 cast_15 (fun q9 => ?_)
    refine r_astore_n C dL_limit_12 (i := 3) rfl (Nat.le_of_ble_eq_true rfl) ?_
    dsimp only [List.set]
    refine r_iconst C dL_limit_13 ?_
    refine r_iret C dL_limit_14 (Or.inl rfl) ?_
    exact ⟨1, w0, g, A, u, hc, _, rfl, w4, Z, O, Or.inl ⟨n1, rfl⟩, fun z9 => absurd z9 (by decide), fun _ => rfl⟩
set_option maxRecDepth 100000 in
set_option maxHeartbeats 4000000 in
theorem C_L_pass {gx : GX} {d : Nat} {x o : Nat} {A : Nat → Int → Nat} {u g : GT} {hc hm ho H : Hp} {w0 : Int} {n : Int} (w3 : W3 hc hm ho H) (Z : Rs gx x A u g hc) (O : OU o ho w0) (ir_n : inR n) (ht : 0 ≤ g 1 0 ∧ g 1 0 ≤ 3000) (hL : 0 ≤ g 2 0 ∧ g 2 0 ≤ 3) (hS : ∀ j, 0 ≤ g 8 j ∧ g 8 j ≤ 3000) (hE : ∀ j, 0 ≤ g 24 j ∧ g 24 j ≤ 3000) : aM gx (d + 11) mL_pass [vr x, vi n, vr o] H 300 3000 (fun v H1 => ∃ kk wv g1 A1 u1 hc1 ho1, v = some (vi kk) ∧ W3 hc1 hm ho1 H1 ∧ Rs gx x A1 u1 g1 hc1 ∧ OU o ho1 wv ∧ PAC g n kk ∧ (kk = 0 → wv = g 1 0 + n ∧ g1 = psG g n) ∧ (kk ≠ 0 → g1 = g)) (fun _ _ => False) := by
  intro J C
  show J 0 [some (vr x), some (vi n), some (vr o), none] [] H 300 3000
  have xc := Z.1.1.xx.1
  have xm : x ∈ hD H := (w3.1 x).mpr (Or.inl xc.1)
  have xk : hK H x = 6 := (w3.2.2.2.1 x xc.1).1.trans xc.2
  refine r_aload_n C dL_pass_0 (i := 2) rfl rfl ?_
  refine r_iconst C dL_pass_1 ?_
  refine r_aload_n C dL_pass_2 (i := 0) rfl rfl ?_
  refine r_iload_n C dL_pass_3 (i := 1) rfl rfl ?_
  refine r_callV C (As := [vi n]) dL_pass_4 sL_31 (fun v hv => by rw [List.mem_singleton.mp hv]; rfl) (ci := 5) (by decide) rfl xm xk (Nat.le_of_ble_eq_true rfl) (c1 := 300) (s1 := 3000) (Nat.le_of_ble_eq_true rfl) (Nat.le_of_ble_eq_true rfl) (aM_w w3.c (C_X4_pass Z ir_n ht hL hS hE (fun p1 p2 u1 hc1 Z1 H1 X1 => ?_) (fun n1 H1 X1 => ?_) (fun p1 n2 H1 X1 => ?_)))
  · skip
    have w4 := w3.c2 X1
    have om : o ∈ hD H1 := (w4.1 o).mpr (Or.inr (Or.inr O.1))
    have oq := w4.2.2.2.2.2 o O.1
    have ok : hK H1 o = 12 := oq.1.trans O.2.1
    have on1 : hN H1 o = 1 := oq.2.1.trans O.2.2.1
    refine r_i2l C dL_pass_7 (⟨by omega, by omega⟩) ?_
    refine r_last C dL_pass_8 om ok (by decide) (by rw [on1]; decide) (by decide) ?_
    have w5 := w4.ow O.1 0 (g 1 0 + n)
    refine r_goto C dL_pass_9 (t := 18) (by decide) ?_
    refine r_iconst C dL_pass_18 ?_
    refine r_iret C dL_pass_19 (Or.inl rfl) ?_
    exact ⟨0, (g 1 0 + n), psG g n, A, u1, hc1, _, rfl, w5, Z1, O.w (g 1 0 + n), Or.inr (Or.inr ⟨p1, p2, rfl⟩), fun _ => ⟨rfl, rfl⟩, fun z9 => absurd rfl z9⟩
  · skip
    have w4 := w3.c2 X1
    refine cat_i (hh := [(0, 9, 12, 15), (0, 9, 15, 17)]) rfl [] (0, 9, 12, 15) [(0, 9, 15, 17)] "java/lang/IllegalArgumentException" rfl (fun z hz => by cases hz) (by decide) (by decide) (by decide) kL_15 cast_15 (fun q9 => ?_)
    refine r_astore_n C dL_pass_12 (i := 3) rfl (Nat.le_of_ble_eq_true rfl) ?_
    dsimp only [List.set]
    refine r_iconst C dL_pass_13 ?_
    refine r_iret C dL_pass_14 (Or.inl rfl) ?_
    exact ⟨1, w0, g, A, u, hc, _, rfl, w4, Z, O, Or.inl ⟨n1, rfl⟩, fun z9 => absurd z9 (by decide), fun _ => rfl⟩
  · skip
    have w4 := w3.c2 X1
    refine cat_i (hh := [(0, 9, 12, 15), (0, 9, 15, 17)]) rfl [(0, 9, 12, 15)] (0, 9, 15, 17) [] "java/lang/IllegalStateException" rfl (fun z hz => by rw [List.mem_singleton.mp hz]; exact ⟨by decide, "java/lang/IllegalArgumentException", kL_15, by decide⟩) (by decide) (by decide) (by decide) kL_17 cast_17 (fun q9 => ?_)
    refine r_astore_n C dL_pass_15 (i := 3) rfl (Nat.le_of_ble_eq_true rfl) ?_
    dsimp only [List.set]
    refine r_iconst C dL_pass_16 ?_
    refine r_iret C dL_pass_17 (Or.inl rfl) ?_
    exact ⟨2, w0, g, A, u, hc, _, rfl, w4, Z, O, Or.inr (Or.inl ⟨p1, n2, rfl⟩), fun z9 => absurd z9 (by decide), fun _ => rfl⟩
set_option maxRecDepth 100000 in
set_option maxHeartbeats 4000000 in
theorem C_L_file {gx : GX} {d : Nat} {x o : Nat} {A : Nat → Int → Nat} {u g : GT} {hc hm ho H : Hp} {w0 : Int} (w3 : W3 hc hm ho H) (Z : Rs gx x A u g hc) (O : OU o ho w0)   : aM gx (d + 11) mL_file [vr x, vr o] H 10 200 (fun v H1 => ∃ kk wv g1 A1 u1 hc1 ho1, v = some (vi kk) ∧ W3 hc1 hm ho1 H1 ∧ Rs gx x A1 u1 g1 hc1 ∧ OU o ho1 wv ∧ C1 (g 22 0 ≠ 20) kk ∧ (kk = 0 → wv = g 22 0 ∧ g1 = flG g) ∧ (kk ≠ 0 → g1 = g)) (fun _ _ => False) := by
  intro J C
  show J 0 [some (vr x), some (vr o), none] [] H 10 200
  have xc := Z.1.1.xx.1
  have xm : x ∈ hD H := (w3.1 x).mpr (Or.inl xc.1)
  have xk : hK H x = 6 := (w3.2.2.2.1 x xc.1).1.trans xc.2
  refine r_aload_n C dL_file_0 (i := 1) rfl rfl ?_
  refine r_iconst C dL_file_1 ?_
  refine r_aload_n C dL_file_2 (i := 0) rfl rfl ?_
  refine r_callV C (As := []) dL_file_3 sL_34 (fun v hv => by cases hv) (ci := 5) (by decide) rfl xm xk (Nat.le_of_ble_eq_true rfl) (c1 := 10) (s1 := 200) (Nat.le_of_ble_eq_true rfl) (Nat.le_of_ble_eq_true rfl) (aM_w w3.c (C_X4_file Z   (fun p1 A1 u1 hc1 Z1 H1 X1 => ?_) (fun n1 H1 X1 => ?_)))
  · skip
    have w4 := w3.c2 X1
    have om : o ∈ hD H1 := (w4.1 o).mpr (Or.inr (Or.inr O.1))
    have oq := w4.2.2.2.2.2 o O.1
    have ok : hK H1 o = 12 := oq.1.trans O.2.1
    have on1 : hN H1 o = 1 := oq.2.1.trans O.2.2.1
    refine r_i2l C dL_file_6 (Z.1.1.rg _ _) ?_
    refine r_last C dL_file_7 om ok (by decide) (by rw [on1]; decide) (by decide) ?_
    have w5 := w4.ow O.1 0 (g 22 0)
    refine r_goto C dL_file_8 (t := 14) (by decide) ?_
    refine r_iconst C dL_file_14 ?_
    refine r_iret C dL_file_15 (Or.inl rfl) ?_
    exact ⟨0, (g 22 0), flG g, A1, u1, hc1, _, rfl, w5, Z1, O.w (g 22 0), Or.inr (⟨p1, rfl⟩), fun _ => ⟨rfl, rfl⟩, fun z9 => absurd rfl z9⟩
  · skip
    have w4 := w3.c2 X1
    refine cat_i (hh := [(0, 8, 11, 17)]) rfl [] (0, 8, 11, 17) [] "java/lang/IllegalStateException" rfl (fun z hz => by cases hz) (by decide) (by decide) (by decide) kL_17 cast_17 (fun q9 => ?_)
    refine r_astore_n C dL_file_11 (i := 2) rfl (Nat.le_of_ble_eq_true rfl) ?_
    dsimp only [List.set]
    refine r_iconst C dL_file_12 ?_
    refine r_iret C dL_file_13 (Or.inl rfl) ?_
    exact ⟨1, w0, g, A, u, hc, _, rfl, w4, Z, O, Or.inl ⟨n1, rfl⟩, fun z9 => absurd z9 (by decide), fun _ => rfl⟩
set_option maxRecDepth 100000 in
set_option maxHeartbeats 4000000 in
theorem C_L_snapshot {gx : GX} {d : Nat} {x o : Nat} {A : Nat → Int → Nat} {u g : GT} {hc hm ho H : Hp} {w0 : Int} {f : Int} (w3 : W3 hc hm ho H) (Z : Rs gx x A u g hc) (O : OU o ho w0) (ir_f : inR f)  : aM gx (d + 11) mL_snapshot [vr x, vi f, vr o] H 20 400 (fun v H1 => ∃ kk wv g1 A1 u1 hc1 ho1, v = some (vi kk) ∧ W3 hc1 hm ho1 H1 ∧ Rs gx x A1 u1 g1 hc1 ∧ OU o ho1 wv ∧ C2 (flP g f) (g 23 f = 0 ∧ g 22 0 ≠ 20) kk ∧ (kk = 0 → wv = g 22 0 ∧ g1 = snG g f) ∧ (kk ≠ 0 → g1 = g)) (fun _ _ => False) := by
  intro J C
  show J 0 [some (vr x), some (vi f), some (vr o), none] [] H 20 400
  have xc := Z.1.1.xx.1
  have xm : x ∈ hD H := (w3.1 x).mpr (Or.inl xc.1)
  have xk : hK H x = 6 := (w3.2.2.2.1 x xc.1).1.trans xc.2
  refine r_aload_n C dL_snapshot_0 (i := 2) rfl rfl ?_
  refine r_iconst C dL_snapshot_1 ?_
  refine r_aload_n C dL_snapshot_2 (i := 0) rfl rfl ?_
  refine r_iload_n C dL_snapshot_3 (i := 1) rfl rfl ?_
  refine r_callV C (As := [vi f]) dL_snapshot_4 sL_38 (fun v hv => by rw [List.mem_singleton.mp hv]; rfl) (ci := 5) (by decide) rfl xm xk (Nat.le_of_ble_eq_true rfl) (c1 := 20) (s1 := 400) (Nat.le_of_ble_eq_true rfl) (Nat.le_of_ble_eq_true rfl) (aM_w w3.c (C_X4_snapshot Z ir_f  (fun p1 p2 A1 u1 hc1 Z1 H1 X1 => ?_) (fun n1 H1 X1 => ?_) (fun p1 n2 H1 X1 => ?_)))
  · skip
    have w4 := w3.c2 X1
    have om : o ∈ hD H1 := (w4.1 o).mpr (Or.inr (Or.inr O.1))
    have oq := w4.2.2.2.2.2 o O.1
    have ok : hK H1 o = 12 := oq.1.trans O.2.1
    have on1 : hN H1 o = 1 := oq.2.1.trans O.2.2.1
    refine r_i2l C dL_snapshot_7 (Z.1.1.rg _ _) ?_
    refine r_last C dL_snapshot_8 om ok (by decide) (by rw [on1]; decide) (by decide) ?_
    have w5 := w4.ow O.1 0 (g 22 0)
    refine r_goto C dL_snapshot_9 (t := 18) (by decide) ?_
    refine r_iconst C dL_snapshot_18 ?_
    refine r_iret C dL_snapshot_19 (Or.inl rfl) ?_
    exact ⟨0, (g 22 0), snG g f, A1, u1, hc1, _, rfl, w5, Z1, O.w (g 22 0), Or.inr (Or.inr (⟨p1, p2, rfl⟩)), fun _ => ⟨rfl, rfl⟩, fun z9 => absurd rfl z9⟩
  · skip
    have w4 := w3.c2 X1
    refine cat_i (hh := [(0, 9, 12, 13), (0, 9, 15, 17)]) rfl [] (0, 9, 12, 13) [(0, 9, 15, 17)] "java/lang/IndexOutOfBoundsException" rfl (fun z hz => by cases hz) (by decide) (by decide) (by decide) kL_13 cast_13 (fun q9 => ?_)
    refine r_astore_n C dL_snapshot_12 (i := 3) rfl (Nat.le_of_ble_eq_true rfl) ?_
    dsimp only [List.set]
    refine r_iconst C dL_snapshot_13 ?_
    refine r_iret C dL_snapshot_14 (Or.inl rfl) ?_
    exact ⟨1, w0, g, A, u, hc, _, rfl, w4, Z, O, Or.inl ⟨n1, rfl⟩, fun z9 => absurd z9 (by decide), fun _ => rfl⟩
  · skip
    have w4 := w3.c2 X1
    refine cat_i (hh := [(0, 9, 12, 13), (0, 9, 15, 17)]) rfl [(0, 9, 12, 13)] (0, 9, 15, 17) [] "java/lang/IllegalStateException" rfl (fun z hz => by rw [List.mem_singleton.mp hz]; exact ⟨by decide, "java/lang/IndexOutOfBoundsException", kL_13, by decide⟩) (by decide) (by decide) (by decide) kL_17 cast_17 (fun q9 => ?_)
    refine r_astore_n C dL_snapshot_15 (i := 3) rfl (Nat.le_of_ble_eq_true rfl) ?_
    dsimp only [List.set]
    refine r_iconst C dL_snapshot_16 ?_
    refine r_iret C dL_snapshot_17 (Or.inl rfl) ?_
    exact ⟨2, w0, g, A, u, hc, _, rfl, w4, Z, O, Or.inr (Or.inl ⟨p1, n2, rfl⟩), fun z9 => absurd z9 (by decide), fun _ => rfl⟩
set_option maxRecDepth 100000 in
set_option maxHeartbeats 4000000 in
theorem C_L_remove {gx : GX} {d : Nat} {x o : Nat} {A : Nat → Int → Nat} {u g : GT} {hc hm ho H : Hp} {w0 : Int} {f : Int} (w3 : W3 hc hm ho H) (Z : Rs gx x A u g hc) (O : OU o ho w0) (ir_f : inR f)  : aM gx (d + 11) mL_remove [vr x, vi f] H 2 12 (fun v H1 => ∃ kk wv g1 A1 u1 hc1 ho1, v = some (vi kk) ∧ W3 hc1 hm ho1 H1 ∧ Rs gx x A1 u1 g1 hc1 ∧ OU o ho1 wv ∧ C2 (flP g f) (g 23 f = 0) kk ∧ (kk = 0 → g1 = rmG g f) ∧ (kk ≠ 0 → g1 = g)) (fun _ _ => False) := by
  intro J C
  show J 0 [some (vr x), some (vi f), none] [] H 2 12
  have xc := Z.1.1.xx.1
  have xm : x ∈ hD H := (w3.1 x).mpr (Or.inl xc.1)
  have xk : hK H x = 6 := (w3.2.2.2.1 x xc.1).1.trans xc.2
  refine r_aload_n C dL_remove_0 (i := 0) rfl rfl ?_
  refine r_iload_n C dL_remove_1 (i := 1) rfl rfl ?_
  refine r_callV C (As := [vi f]) dL_remove_2 sL_41 (fun v hv => by rw [List.mem_singleton.mp hv]; rfl) (ci := 5) (by decide) rfl xm xk (Nat.le_of_ble_eq_true rfl) (c1 := 2) (s1 := 12) (Nat.le_of_ble_eq_true rfl) (Nat.le_of_ble_eq_true rfl) (aM_w w3.c (C_X4_remove Z ir_f  (fun p1 p2 u1 hc1 Z1 H1 X1 => ?_) (fun n1 H1 X1 => ?_) (fun p1 n2 H1 X1 => ?_)))
  · skip
    have w4 := w3.c2 X1
    refine r_goto C dL_remove_5 (t := 14) (by decide) ?_
    refine r_iconst C dL_remove_14 ?_
    refine r_iret C dL_remove_15 (Or.inl rfl) ?_
    exact ⟨0, w0, rmG g f, A, u1, hc1, _, rfl, w4, Z1, O, Or.inr (Or.inr (⟨p1, p2, rfl⟩)), fun _ => rfl, fun z9 => absurd rfl z9⟩
  · skip
    have w4 := w3.c2 X1
    refine cat_i (hh := [(0, 5, 8, 13), (0, 5, 11, 17)]) rfl [] (0, 5, 8, 13) [(0, 5, 11, 17)] "java/lang/IndexOutOfBoundsException" rfl (fun z hz => by cases hz) (by decide) (by decide) (by decide) kL_13 cast_13 (fun q9 => ?_)
    refine r_astore_n C dL_remove_8 (i := 2) rfl (Nat.le_of_ble_eq_true rfl) ?_
    dsimp only [List.set]
    refine r_iconst C dL_remove_9 ?_
    refine r_iret C dL_remove_10 (Or.inl rfl) ?_
    exact ⟨1, w0, g, A, u, hc, _, rfl, w4, Z, O, Or.inl ⟨n1, rfl⟩, fun z9 => absurd z9 (by decide), fun _ => rfl⟩
  · skip
    have w4 := w3.c2 X1
    refine cat_i (hh := [(0, 5, 8, 13), (0, 5, 11, 17)]) rfl [(0, 5, 8, 13)] (0, 5, 11, 17) [] "java/lang/IllegalStateException" rfl (fun z hz => by rw [List.mem_singleton.mp hz]; exact ⟨by decide, "java/lang/IndexOutOfBoundsException", kL_13, by decide⟩) (by decide) (by decide) (by decide) kL_17 cast_17 (fun q9 => ?_)
    refine r_astore_n C dL_remove_11 (i := 2) rfl (Nat.le_of_ble_eq_true rfl) ?_
    dsimp only [List.set]
    refine r_iconst C dL_remove_12 ?_
    refine r_iret C dL_remove_13 (Or.inl rfl) ?_
    exact ⟨2, w0, g, A, u, hc, _, rfl, w4, Z, O, Or.inr (Or.inl ⟨p1, n2, rfl⟩), fun z9 => absurd z9 (by decide), fun _ => rfl⟩
set_option maxRecDepth 100000 in
set_option maxHeartbeats 4000000 in
theorem C_L_restore {gx : GX} {d : Nat} {x o : Nat} {A : Nat → Int → Nat} {u g : GT} {hc hm ho H : Hp} {w0 : Int} {f : Int} (w3 : W3 hc hm ho H) (Z : Rs gx x A u g hc) (O : OU o ho w0) (ir_f : inR f)  : aM gx (d + 11) mL_restore [vr x, vi f] H 2 12 (fun v H1 => ∃ kk wv g1 A1 u1 hc1 ho1, v = some (vi kk) ∧ W3 hc1 hm ho1 H1 ∧ Rs gx x A1 u1 g1 hc1 ∧ OU o ho1 wv ∧ C2 (flP g f) (g 23 f = 1) kk ∧ (kk = 0 → g1 = rsG g f) ∧ (kk ≠ 0 → g1 = g)) (fun _ _ => False) := by
  intro J C
  show J 0 [some (vr x), some (vi f), none] [] H 2 12
  have xc := Z.1.1.xx.1
  have xm : x ∈ hD H := (w3.1 x).mpr (Or.inl xc.1)
  have xk : hK H x = 6 := (w3.2.2.2.1 x xc.1).1.trans xc.2
  refine r_aload_n C dL_restore_0 (i := 0) rfl rfl ?_
  refine r_iload_n C dL_restore_1 (i := 1) rfl rfl ?_
  refine r_callV C (As := [vi f]) dL_restore_2 sL_45 (fun v hv => by rw [List.mem_singleton.mp hv]; rfl) (ci := 5) (by decide) rfl xm xk (Nat.le_of_ble_eq_true rfl) (c1 := 2) (s1 := 12) (Nat.le_of_ble_eq_true rfl) (Nat.le_of_ble_eq_true rfl) (aM_w w3.c (C_X4_restore Z ir_f  (fun p1 p2 u1 hc1 Z1 H1 X1 => ?_) (fun n1 H1 X1 => ?_) (fun p1 n2 H1 X1 => ?_)))
  · skip
    have w4 := w3.c2 X1
    refine r_goto C dL_restore_5 (t := 14) (by decide) ?_
    refine r_iconst C dL_restore_14 ?_
    refine r_iret C dL_restore_15 (Or.inl rfl) ?_
    exact ⟨0, w0, rsG g f, A, u1, hc1, _, rfl, w4, Z1, O, Or.inr (Or.inr (⟨p1, p2, rfl⟩)), fun _ => rfl, fun z9 => absurd rfl z9⟩
  · skip
    have w4 := w3.c2 X1
    refine cat_i (hh := [(0, 5, 8, 13), (0, 5, 11, 17)]) rfl [] (0, 5, 8, 13) [(0, 5, 11, 17)] "java/lang/IndexOutOfBoundsException" rfl (fun z hz => by cases hz) (by decide) (by decide) (by decide) kL_13 cast_13 (fun q9 => ?_)
    refine r_astore_n C dL_restore_8 (i := 2) rfl (Nat.le_of_ble_eq_true rfl) ?_
    dsimp only [List.set]
    refine r_iconst C dL_restore_9 ?_
    refine r_iret C dL_restore_10 (Or.inl rfl) ?_
    exact ⟨1, w0, g, A, u, hc, _, rfl, w4, Z, O, Or.inl ⟨n1, rfl⟩, fun z9 => absurd z9 (by decide), fun _ => rfl⟩
  · skip
    have w4 := w3.c2 X1
    refine cat_i (hh := [(0, 5, 8, 13), (0, 5, 11, 17)]) rfl [(0, 5, 8, 13)] (0, 5, 11, 17) [] "java/lang/IllegalStateException" rfl (fun z hz => by rw [List.mem_singleton.mp hz]; exact ⟨by decide, "java/lang/IndexOutOfBoundsException", kL_13, by decide⟩) (by decide) (by decide) (by decide) kL_17 cast_17 (fun q9 => ?_)
    refine r_astore_n C dL_restore_11 (i := 2) rfl (Nat.le_of_ble_eq_true rfl) ?_
    dsimp only [List.set]
    refine r_iconst C dL_restore_12 ?_
    refine r_iret C dL_restore_13 (Or.inl rfl) ?_
    exact ⟨2, w0, g, A, u, hc, _, rfl, w4, Z, O, Or.inr (Or.inl ⟨p1, n2, rfl⟩), fun z9 => absurd z9 (by decide), fun _ => rfl⟩
