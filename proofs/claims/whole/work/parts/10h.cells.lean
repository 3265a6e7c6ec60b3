/-! ===== the class: cells ===== -/
set_option maxRecDepth 100000 in
set_option maxHeartbeats 4000000 in
theorem C_X0_takeCellsOf {gx : GX} {d : Nat} {Qr : Option AV → Hp → Prop} {Qx : String → Hp → Prop} {x : Nat} {A : Nat → Int → Nat} {u : GT} {m : Int} {g : GT} {h : Hp} {n i p n2 i2 p2 : Int} (R : Rp gx x A u m g h) (n0 : 0 ≤ n) (n1 : n < g 4 0) (i0 : 0 ≤ i) (i1 : i < g 6 n) (hu : u 0 (12 * n + i) = p) (hp : 0 ≤ p) (inj : ∀ j, 0 ≤ j → j < g 6 n → u 0 (12 * n + j) = p → j = i) (cl : ∀ j, 0 ≤ g 19 j ∧ g 19 j ≤ 4) (np : g 11 0 ≤ 60) (m0 : 0 ≤ n2) (m1 : n2 < g 4 0) (l0 : 0 ≤ i2) (l1 : i2 < g 6 n2) (hu2 : u 0 (12 * n2 + i2) = p2) (hp2 : 0 ≤ p2) (ne : ¬ (n = n2 ∧ i = i2)) (K : ∀ h1, Rp gx x A u m (tcG g (60 * n + p) (60 * n2 + p2)) h1 → Qr none h1) : aM gx (d + 1) mX0_takeCellsOf [vr (A 2 (12 * n + i)), vr (A 2 (12 * n2 + i2))] h 0 0 Qr Qx := by
  intro J C
  show J 0 [some (vr (A 2 (12 * n + i))), some (vr (A 2 (12 * n2 + i2))), none] [] h 0 0
  have s := R.s n0 n1 i0 i1
  have s2 := R.s m0 m1 l0 l1
  have oc := R.oc n0 n1 i0 i1 hu hp
  have oc2 := R.oc m0 m1 l0 l1 hu2 hp2
  have rm := R.room n0 n1
  have rm2 := R.room m0 m1
  have jj : 12 * n + i ≠ 12 * n2 + i2 := by omega
  have ne22 : A 2 (12 * n2 + i2) ≠ A 2 (12 * n + i) := fun z => jj (R.ap 2 _ 2 _ (VA.s (Or.inl rfl) m0 m1 l0 l1 rm2.2) (VA.s (Or.inl rfl) n0 n1 i0 i1 rm.2) z).2.symm
  have ne33 : A 3 (12 * n2 + i2) ≠ A 3 (12 * n + i) := fun z => jj (R.ap 3 _ 3 _ (VA.s (Or.inr rfl) m0 m1 l0 l1 rm2.2) (VA.s (Or.inr rfl) n0 n1 i0 i1 rm.2) z).2.symm
  have k10 := s.2.2.1.2.2.1
  have k10b := s2.2.2.1.2.2.1
  have k2 := s.2.1.2
  have ne32 : A 3 (12 * n + i) ≠ A 2 (12 * n + i) := fun z => by rw [z] at k10; omega
  have ne32b : A 3 (12 * n2 + i2) ≠ A 2 (12 * n + i) := fun z => by rw [z] at k10b; omega
  refine r_aload_n C dX0_takeCellsOf_0 (i := 0) rfl rfl ?_
  refine r_aload_n C dX0_takeCellsOf_1 (i := 1) rfl rfl ?_
  refine c_1_2 C dX0_takeCellsOf_2 fX0_19 R (by omega) (by omega) (by omega) (by omega) hu2 (by omega) ?_
  refine r_putI C dX0_takeCellsOf_5 fX0_19 (Or.inl rfl) (Or.inl rfl) s.2.1.1 s.2.1.2 ?_
  refine r_aload_n C dX0_takeCellsOf_8 (i := 0) rfl rfl ?_
  refine r_aload_n C dX0_takeCellsOf_9 (i := 1) rfl rfl ?_
  refine r_getI C dX0_takeCellsOf_10 fX0_22 rfl s2.2.1.1 s2.2.1.2 ?_
  rw [show hI (wI h (A 2 (12 * n + i)) (2 : Nat) (g 19 (60 * n2 + p2))) (A 2 (12 * n2 + i2)) (3 : Nat) = g 21 (60 * n2 + p2) from (if_neg (fun z => ne22 z.1)).trans oc2.2.2.2.2.1]
  refine r_putI C dX0_takeCellsOf_13 fX0_22 (Or.inl rfl) (Or.inl rfl) s.2.1.1 s.2.1.2 ?_
  refine r_iconst C dX0_takeCellsOf_16 ?_
  refine r_istore_n C dX0_takeCellsOf_17 (i := 2) rfl (Nat.le_of_ble_eq_true rfl) ?_
  dsimp only [List.set]
  show J _ _ _ (wI (wI h (A 2 (12 * n + i)) (2 : Nat) (g 19 (60 * n2 + p2))) (A 2 (12 * n + i)) (3 : Nat) (g 21 (60 * n2 + p2))) _ _
  have iw : ∀ b k, hI (wI (wI h (A 2 (12 * n + i)) (2 : Nat) (g 19 (60 * n2 + p2))) (A 2 (12 * n + i)) (3 : Nat) (g 21 (60 * n2 + p2))) b k = if b = (A 2 (12 * n + i)) ∧ k = (3 : Nat) then g 21 (60 * n2 + p2) else if b = (A 2 (12 * n + i)) ∧ k = (2 : Nat) then g 19 (60 * n2 + p2) else hI h b k := fun _ _ => rfl
  have F1 : OT h (wI (wI h (A 2 (12 * n + i)) (2 : Nat) (g 19 (60 * n2 + p2))) (A 2 (12 * n + i)) (3 : Nat) (g 21 (60 * n2 + p2))) (fun b => b = (A 2 (12 * n + i)) ∨ b = (A 3 (12 * n + i))) := (OT.wi h (Or.inl rfl) _ _).trans (OT.wi _ (Or.inl rfl) _ _)
  have F2 : hD (wI (wI h (A 2 (12 * n + i)) (2 : Nat) (g 19 (60 * n2 + p2))) (A 2 (12 * n + i)) (3 : Nat) (g 21 (60 * n2 + p2))) = hD h := rfl
  have F3 : ∀ b k, hP (wI (wI h (A 2 (12 * n + i)) (2 : Nat) (g 19 (60 * n2 + p2))) (A 2 (12 * n + i)) (3 : Nat) (g 21 (60 * n2 + p2))) b k = hP h b k := fun _ _ => rfl
  have F4 : hI (wI (wI h (A 2 (12 * n + i)) (2 : Nat) (g 19 (60 * n2 + p2))) (A 2 (12 * n + i)) (3 : Nat) (g 21 (60 * n2 + p2))) (A 2 (12 * n + i)) 1 = g 18 (60 * n + p) := by rw [iw, if_neg (by omega), if_neg (by omega)]; exact oc.2.2.1
  have F5 : hI (wI (wI h (A 2 (12 * n + i)) (2 : Nat) (g 19 (60 * n2 + p2))) (A 2 (12 * n + i)) (3 : Nat) (g 21 (60 * n2 + p2))) (A 2 (12 * n + i)) 2 = g 19 (60 * n2 + p2) := by rw [iw, if_neg (by omega), if_pos ⟨rfl, rfl⟩]
  have F6 : hI (wI (wI h (A 2 (12 * n + i)) (2 : Nat) (g 19 (60 * n2 + p2))) (A 2 (12 * n + i)) (3 : Nat) (g 21 (60 * n2 + p2))) (A 2 (12 * n + i)) 3 = g 21 (60 * n2 + p2) := by rw [iw, if_pos ⟨rfl, rfl⟩]
  have F7 : ∀ b c, b ≠ (A 2 (12 * n + i)) → b ≠ (A 3 (12 * n + i)) → hI (wI (wI h (A 2 (12 * n + i)) (2 : Nat) (g 19 (60 * n2 + p2))) (A 2 (12 * n + i)) (3 : Nat) (g 21 (60 * n2 + p2))) b c = hI h b c := fun b c b1 _ => by rw [iw, if_neg (fun z => b1 z.1), if_neg (fun z => b1 z.1)]
  generalize wI (wI h (A 2 (12 * n + i)) (2 : Nat) (g 19 (60 * n2 + p2))) (A 2 (12 * n + i)) (3 : Nat) (g 21 (60 * n2 + p2)) = h2 at F1 F2 F3 F4 F5 F6 F7 ⊢
  suffices LOOP : ∀ (m9 : Nat) (k : Int) (h3 : Hp), 4 - k < (m9 : Int) → 0 ≤ k → k ≤ 4 → OT h h3 (fun b => b = (A 2 (12 * n + i)) ∨ b = (A 3 (12 * n + i))) → hD h3 = hD h → (∀ b k, hP h3 b k = hP h b k) → hI h3 (A 2 (12 * n + i)) 1 = g 18 (60 * n + p) → hI h3 (A 2 (12 * n + i)) 2 = g 19 (60 * n2 + p2) → hI h3 (A 2 (12 * n + i)) 3 = g 21 (60 * n2 + p2) → (∀ b c, b ≠ (A 2 (12 * n + i)) → b ≠ (A 3 (12 * n + i)) → hI h3 b c = hI h b c) → (∀ c, 0 ≤ c → c < k → hI h3 (A 3 (12 * n + i)) c = hI h (A 3 (12 * n2 + i2)) c) → J 18 [some (vr (A 2 (12 * n + i))), some (vr (A 2 (12 * n2 + i2))), some (vi k)] [] h3 0 0 by
    exact LOOP 5 0 _ (by omega) (by omega) (by omega) F1 F2 F3 F4 F5 F6 F7 all_0
  intro m9
  induction m9 with
  | zero => intro k h3 hm9 k0 k1 G1 G2 G3 G4 G5 G6 G7 G8; exact absurd hm9 (by omega)
  | succ m9 ih9 =>
    intro k h3 hm9 k0 k1 G1 G2 G3 G4 G5 G6 G7 G8
    refine r_iload_n C dX0_takeCellsOf_18 (i := 2) rfl rfl ?_
    refine r_iconst C dX0_takeCellsOf_19 ?_
    refine r_ic_ge C dX0_takeCellsOf_20 (t := 41) (by decide) (by first | assumption | exact R.rg _ _ | exact R.ru _ _ | (unfold inR; omega)) (by first | assumption | exact R.rg _ _ | exact R.ru _ _ | (unfold inR; omega)) (fun c20 => ?_) (fun c20 => ?_)
    · skip
      refine r_ret C dX0_takeCellsOf_41 rfl ?_
      refine K _ (R.slotI n0 n1 i0 i1 hu hp np inj (fun j => (cl j).2) G1 G2 G3 ⟨?_, ?_, ?_, fun c c0 c1 => ?_⟩ (fun k j a b => ?_) (fun k j => ?_))
      · rw [G4]; unfold tcG nuG; rw [if_neg (by omega), up_ne (by decide), up_ne (by decide)]
      · rw [G5]; unfold tcG nuG; rw [if_neg (by omega), up_ne (by decide), up_self]
      · rw [G6]; unfold tcG nuG; rw [if_neg (by omega), up_self]
      · have c2 : c < g 19 (60 * n2 + p2) := by
          unfold tcG nuG at c1
          rw [if_neg (by omega), up_ne (by decide), up_self] at c1
          exact c1
        have c4 := cl (60 * n2 + p2)
        rw [G8 c c0 (by omega), oc2.2.2.2.2.2 c c0 c2]
        unfold tcG nuG
        rw [if_pos (by omega), up_ne (by decide), up_ne (by decide)]
        congr 1
        omega
      · unfold tcG nuG
        rw [if_neg (by omega)]
        unfold up
        rw [if_neg (by omega), if_neg (by omega)]
      · unfold tcG nuG up
        split
        · split
          · exact R.rg _ _
          · split <;> exact R.rg _ _
        · split
          · exact R.rg _ _
          · split <;> exact R.rg _ _
    · skip
      refine r_aload_n C dX0_takeCellsOf_23 (i := 0) rfl rfl ?_
      have y1 := G1 _ s.2.1.1
      have y2 := G1 _ s2.2.1.1
      have y3 := G1 _ s.2.2.1.2.1
      have y4 := G1 _ s2.2.2.1.2.1
      refine r_getP C dX0_takeCellsOf_24 fX0_25 rfl y1.1 (y1.2.1.trans s.2.1.2) ?_
      rw [show hP h3 (A 2 (12 * n + i)) (4 : Nat) = some (A 3 (12 * n + i)) from (G3 _ _).trans s.2.2.1.1]
      refine r_iload_n C dX0_takeCellsOf_27 (i := 2) rfl rfl ?_
      refine r_aload_n C dX0_takeCellsOf_28 (i := 1) rfl rfl ?_
      refine r_getP C dX0_takeCellsOf_29 fX0_25 rfl y2.1 (y2.2.1.trans s2.2.1.2) ?_
      rw [show hP h3 (A 2 (12 * n2 + i2)) (4 : Nat) = some (A 3 (12 * n2 + i2)) from (G3 _ _).trans s2.2.2.1.1]
      refine r_iload_n C dX0_takeCellsOf_32 (i := 2) rfl rfl ?_
      refine r_iald C dX0_takeCellsOf_33 y4.1 (y4.2.1.trans k10b) k0 (by rw [y4.2.2.1, s2.2.2.1.2.2.2]; omega) (by omega) ?_
      rw [G7 _ _ ne32b ne33]
      refine r_iast C dX0_takeCellsOf_34 y3.1 (y3.2.1.trans k10) k0 (by rw [y3.2.2.1, s.2.2.1.2.2.2]; omega) (by omega) ?_
      refine r_iinc C dX0_takeCellsOf_35 rfl ?_
      dsimp only [List.set]
      refine r_goto C dX0_takeCellsOf_38 (t := 18) (by decide) ?_
      refine ih9 _ _ (by omega) (by omega) (by omega) (G1.trans (OT.wi h3 (Or.inr rfl) _ _)) G2 G3 ?_ ?_ ?_ (fun b c b1 b2 => ?_) (fun c c0 c1 => ?_)
      · rw [i_wi, if_neg (fun z => ne32 z.1.symm)]; exact G4
      · rw [i_wi, if_neg (fun z => ne32 z.1.symm)]; exact G5
      · rw [i_wi, if_neg (fun z => ne32 z.1.symm)]; exact G6
      · rw [i_wi, if_neg (fun z => b2 z.1)]; exact G7 b c b1 b2
      · rw [i_wi]
        by_cases e : c = k
        · rw [if_pos ⟨rfl, e⟩, e]
        · rw [if_neg (fun z => e z.2)]; exact G8 c c0 (by omega)

set_option maxRecDepth 100000 in
set_option maxHeartbeats 4000000 in
theorem C_X0_write {gx : GX} {d : Nat} {Qr : Option AV → Hp → Prop} {Qx : String → Hp → Prop} {x : Nat} {A : Nat → Int → Nat} {u : GT} {m : Int} {g : GT} {h : Hp} {n i p c y : Int} (R : Rp gx x A u m g h) (n0 : 0 ≤ n) (n1 : n < g 4 0) (i0 : 0 ≤ i) (i1 : i < g 6 n) (hu : u 0 (12 * n + i) = p) (hp : 0 ≤ p) (inj : ∀ j, 0 ≤ j → j < g 6 n → u 0 (12 * n + j) = p → j = i) (cl : ∀ j, 0 ≤ g 19 j ∧ g 19 j ≤ 4) (np : g 11 0 ≤ 60) (c0 : 0 ≤ c) (c1 : c < 4) (hy : inR y) (K : ∀ h1, Rp gx x A u m (wrG g n p c y) h1 → Qr none h1) : aM gx (d + 1) mX0_write [vr (A 2 (12 * n + i)), vi c, vi y] h 0 0 Qr Qx := by
  intro J C
  show J 0 [some (vr (A 2 (12 * n + i))), some (vi c), some (vi y), none] [] h 0 0
  have s := R.s n0 n1 i0 i1
  have oc := R.oc n0 n1 i0 i1 hu hp
  have k10 := s.2.2.1.2.2.1
  have ne32 : A 3 (12 * n + i) ≠ A 2 (12 * n + i) := fun z => by have k2 := s.2.1.2; rw [z] at k10; omega
  have cle := cl (60 * n + p)
  obtain ⟨len, hlen⟩ : ∃ len, len = g 19 (60 * n + p) := ⟨_, rfl⟩
  rw [← hlen] at cle
  refine r_iload_n C dX0_write_0 (i := 1) rfl rfl ?_
  refine r_if_lt C dX0_write_1 (t := 9) (by decide) (by first | assumption | exact R.rg _ _ | exact R.ru _ _ | (unfold inR; omega)) (fun c1 => ?_) (fun c1 => ?_)
  · skip
    refine r_ret C dX0_write_9 rfl ?_
    exfalso; omega
  · skip
    refine r_iload_n C dX0_write_4 (i := 1) rfl rfl ?_
    refine r_iconst C dX0_write_5 ?_
    refine r_ic_lt C dX0_write_6 (t := 10) (by decide) (by first | assumption | exact R.rg _ _ | exact R.ru _ _ | (unfold inR; omega)) (by first | assumption | exact R.rg _ _ | exact R.ru _ _ | (unfold inR; omega)) (fun c6 => ?_) (fun c6 => ?_)
    · skip
      refine r_aload_n C dX0_write_10 (i := 0) rfl rfl ?_
      refine c_1_2 C dX0_write_11 fX0_19 R (by omega) (by omega) (by omega) (by omega) hu (by omega) ?_
      rw [← hlen]
      refine r_istore_n C dX0_write_14 (i := 3) rfl (Nat.le_of_ble_eq_true rfl) ?_
      dsimp only [List.set]
      suffices LOOP : ∀ (m9 : Nat) (k : Int) (h3 : Hp), 4 - k < (m9 : Int) → len ≤ k → (k ≤ c ∨ k = len) → OT h h3 (fun b => b = (A 2 (12 * n + i)) ∨ b = (A 3 (12 * n + i))) → hD h3 = hD h → (∀ b k, hP h3 b k = hP h b k) → (∀ b k, b ≠ (A 3 (12 * n + i)) → hI h3 b k = hI h b k) → (∀ d, len ≤ d → d < k → hI h3 (A 3 (12 * n + i)) d = -1) → (∀ d, 0 ≤ d → d < len → hI h3 (A 3 (12 * n + i)) d = hI h (A 3 (12 * n + i)) d) → J 15 [some (vr (A 2 (12 * n + i))), some (vi c), some (vi y), some (vi k)] [] h3 0 0 by
        exact LOOP 5 len h (by omega) (by omega) (by omega) (OT.refl _ _) rfl (fun _ _ => rfl) (fun _ _ _ => rfl) (fun d d0 d1 => by omega) (fun _ _ _ => rfl)
      intro m9
      induction m9 with
      | zero => intro k h3 hm9 k0 k1 G1 G2 G3 G4 G5 G6; exact absurd hm9 (by omega)
      | succ m9 ih9 =>
        intro k h3 hm9 k0 k1 G1 G2 G3 G4 G5 G6
        have y1 := G1 _ s.2.1.1
        have y3 := G1 _ s.2.2.1.2.1
        have kb : inR k := ⟨by omega, by omega⟩
        refine r_iload_n C dX0_write_15 (i := 3) rfl rfl ?_
        refine r_iload_n C dX0_write_16 (i := 1) rfl rfl ?_
        refine r_ic_ge C dX0_write_17 (t := 33) (by decide) (by first | assumption | exact R.rg _ _ | exact R.ru _ _ | (unfold inR; omega)) (by first | assumption | exact R.rg _ _ | exact R.ru _ _ | (unfold inR; omega)) (fun c17 => ?_) (fun c17 => ?_)
        · skip
          refine r_aload_n C dX0_write_33 (i := 0) rfl rfl ?_
          refine r_aload_n C dX0_write_34 (i := 0) rfl rfl ?_
          refine r_getI C dX0_write_35 fX0_19 rfl y1.1 (y1.2.1.trans s.2.1.2) ?_
          rw [show hI h3 (A 2 (12 * n + i)) (2 : Nat) = len from (G4 _ _ ne32.symm).trans (oc.2.2.2.1.trans hlen.symm)]
          refine r_iload_n C dX0_write_38 (i := 1) rfl rfl ?_
          refine r_iconst C dX0_write_39 ?_
          refine r_iadd C dX0_write_40 ?_
          refine r_mmax C dX0_write_41 lX0_36 (by unfold inR; omega) (by unfold inR; omega) (Nat.le_of_ble_eq_true rfl) ?_
          refine r_putI C dX0_write_44 fX0_19 (Or.inl rfl) (Or.inl rfl) y1.1 (y1.2.1.trans s.2.1.2) ?_
          refine r_aload_n C dX0_write_47 (i := 0) rfl rfl ?_
          refine r_getP C dX0_write_48 fX0_25 rfl y1.1 (y1.2.1.trans s.2.1.2) ?_
          rw [show hP (wI h3 (A 2 (12 * n + i)) (2 : Nat) (if len < c + 1 then c + 1 else len)) (A 2 (12 * n + i)) (4 : Nat) = some (A 3 (12 * n + i)) from (G3 _ _).trans s.2.2.1.1]
          refine r_iload_n C dX0_write_51 (i := 1) rfl rfl ?_
          refine r_iload_n C dX0_write_52 (i := 2) rfl rfl ?_
          refine r_iast C dX0_write_53 y3.1 (y3.2.1.trans k10) (by omega) (by show c < hN h3 _; rw [y3.2.2.1, s.2.2.1.2.2.2]; omega) (by omega) ?_
          refine r_aload_n C dX0_write_54 (i := 0) rfl rfl ?_
          refine r_dup C dX0_write_55 rfl ?_
          refine r_getI C dX0_write_56 fX0_22 rfl y1.1 (y1.2.1.trans s.2.1.2) ?_
          rw [show hI (wI (wI h3 (A 2 (12 * n + i)) (2 : Nat) (if len < c + 1 then c + 1 else len)) (A 3 (12 * n + i)) c y) (A 2 (12 * n + i)) (3 : Nat) = g 21 (60 * n + p) from by
            rw [i_wi, if_neg (fun z => ne32 z.1.symm), i_wi, if_neg (by omega)]
            exact (G4 _ _ ne32.symm).trans oc.2.2.2.2.1]
          refine r_iconst C dX0_write_59 ?_
          refine r_iload_n C dX0_write_60 (i := 1) rfl rfl ?_
          refine r_ishl C dX0_write_61 ?_
          refine r_iconst C dX0_write_62 ?_
          refine r_ixor C dX0_write_63 ?_
          refine r_iand C dX0_write_64 ?_
          refine r_putI C dX0_write_65 fX0_22 (Or.inl rfl) (Or.inl rfl) y1.1 (y1.2.1.trans s.2.1.2) ?_
          show J _ _ _ (wI (wI (wI h3 (A 2 (12 * n + i)) (2 : Nat) (if len < c + 1 then c + 1 else len)) (A 3 (12 * n + i)) c y) (A 2 (12 * n + i)) (3 : Nat) (clrB (g 21 (60 * n + p)) c)) _ _
          refine r_ret C dX0_write_68 rfl ?_
          have iw : ∀ b k, hI (wI (wI (wI h3 (A 2 (12 * n + i)) (2 : Nat) (if len < c + 1 then c + 1 else len)) (A 3 (12 * n + i)) c y) (A 2 (12 * n + i)) (3 : Nat) (clrB (g 21 (60 * n + p)) c)) b k = if b = (A 2 (12 * n + i)) ∧ k = (3 : Nat) then clrB (g 21 (60 * n + p)) c else if b = (A 3 (12 * n + i)) ∧ k = c then y else if b = (A 2 (12 * n + i)) ∧ k = (2 : Nat) then (if len < c + 1 then c + 1 else len) else hI h3 b k := fun _ _ => rfl
          have O : OT h (wI (wI (wI h3 (A 2 (12 * n + i)) (2 : Nat) (if len < c + 1 then c + 1 else len)) (A 3 (12 * n + i)) c y) (A 2 (12 * n + i)) (3 : Nat) (clrB (g 21 (60 * n + p)) c)) (fun b => b = (A 2 (12 * n + i)) ∨ b = (A 3 (12 * n + i))) := ((G1.trans (OT.wi h3 (Or.inl rfl) _ _)).trans (OT.wi _ (Or.inr rfl) _ _)).trans (OT.wi _ (Or.inl rfl) _ _)
          have w19 : wrG g n p c y 19 (60 * n + p) = if len < c + 1 then c + 1 else len := by
            unfold wrG
            rw [up_ne (by decide), up_ne (by decide), up_self, ← hlen]
            split <;> split <;> omega
          refine K _ (R.slotI n0 n1 i0 i1 hu hp np inj (fun j => (cl j).2) O G2 G3 ⟨?_, ?_, ?_, fun d d0 d1 => ?_⟩ (fun k j a b => ?_) (fun k j => ?_))
          · rw [iw, if_neg (by omega), if_neg (fun z => ne32 z.1.symm), if_neg (by omega), G4 _ _ ne32.symm, oc.2.2.1, wr_ne _ _ _ _ _ (by decide)]
          · rw [iw, if_neg (by omega), if_neg (fun z => ne32 z.1.symm), if_pos ⟨rfl, rfl⟩, w19]
          · rw [iw, if_pos ⟨rfl, rfl⟩]; unfold wrG; rw [up_self]
          · rw [w19] at d1
            rw [iw, if_neg (fun z => ne32 z.1)]
            unfold wrG
            rw [up_ne (by decide), up_at]
            by_cases e : d = c
            · rw [if_pos ⟨rfl, e⟩, if_pos (by omega)]
            · rw [if_neg (fun z => e z.2), if_neg (fun z => ne32 z.1), if_neg (by omega), up_ne (by decide)]
              unfold filG
              rw [← hlen]
              by_cases e2 : d < len
              · rw [if_neg (by omega), G6 d d0 e2]
                exact oc.2.2.2.2.2 d d0 (by omega)
              · rw [if_pos (by split at d1 <;> omega)]
                exact G5 d (by omega) (by split at d1 <;> omega)
          · unfold wrG filG up
            rw [if_neg (by omega), if_neg (by omega), if_neg (by omega)]
            dsimp only
            rw [if_neg (by omega)]
          · unfold wrG filG up
            split
            · exact inR_toInt _
            · split
              · exact hy
              · split
                · rw [← hlen]; exact ⟨by split <;> omega, by split <;> omega⟩
                · dsimp only
                  split
                  · exact inRn1
                  · exact R.rg _ _
        · skip
          refine r_aload_n C dX0_write_20 (i := 0) rfl rfl ?_
          refine r_getP C dX0_write_21 fX0_25 rfl y1.1 (y1.2.1.trans s.2.1.2) ?_
          rw [show hP h3 (A 2 (12 * n + i)) (4 : Nat) = some (A 3 (12 * n + i)) from (G3 _ _).trans s.2.2.1.1]
          refine r_iload_n C dX0_write_24 (i := 3) rfl rfl ?_
          refine r_iconst C dX0_write_25 ?_
          refine r_iast C dX0_write_26 y3.1 (y3.2.1.trans k10) (by omega) (by rw [y3.2.2.1, s.2.2.1.2.2.2]; omega) (by omega) ?_
          refine r_iinc C dX0_write_27 rfl ?_
          dsimp only [List.set]
          refine r_goto C dX0_write_30 (t := 15) (by decide) ?_
          refine ih9 _ _ (by omega) (by omega) (by omega) (G1.trans (OT.wi h3 (Or.inr rfl) _ _)) G2 G3 (fun b k b1 => ?_) (fun d d0 d1 => ?_) (fun d d0 d1 => ?_)
          · rw [i_wi, if_neg (fun z => b1 z.1)]; exact G4 b k b1
          · rw [i_wi]
            by_cases e : d = k
            · rw [if_pos ⟨rfl, e⟩]
            · rw [if_neg (fun z => e z.2)]; exact G5 d d0 (by omega)
          · rw [i_wi, if_neg (by omega)]; exact G6 d d0 d1
    · skip
      refine r_ret C dX0_write_9 rfl ?_
      exfalso; omega

