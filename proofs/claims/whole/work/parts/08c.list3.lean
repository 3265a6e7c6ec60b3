/-! ===== lists that get shorter ===== -/
theorem p_cp (h : Hp) (x : Nat) (sp : Int) (y : Nat) (dp n : Int) (b : Nat) (j : Int) : hP (hCp h x sp y dp n) b j = if b = y ∧ dp ≤ j ∧ j < dp + n then hP h x (sp + (j - dp)) else hP h b j := rfl

set_option maxRecDepth 100000 in
set_option maxHeartbeats 4000000 in
theorem C_AL_fastRemove {gx : GX} {d : Nat} {Qr : Option AV → Hp → Prop} {Qx : String → Hp → Prop} {l a : Nat} {n i : Int} {f : Int → Option Nat} {h : Hp} (L : LI gx h l n f) (e1 : hP h l 1 = some a) (ha : a ∈ hD h) (hka : hK h a = 13) (hna : n ≤ hN h a) (hcap : 10 ≤ hN h a ∧ hN h a ≤ 1000) (hf : ∀ i, 0 ≤ i → i < n → hP h a i = f i) (h0 : 0 ≤ i) (h1 : i < n) (hE : ∀ j, 0 ≤ j → j < n → ∀ y, f j = some y → y ∈ hD h ∧ ∃ ci, ci < 7 ∧ hK h y = ci + 1 ∧ Cond.castable (cNm ci) "java/lang/Object" ∈ tb) (k : ∀ h1, LC gx h h1 l (n - 1) (fun j => if j < i then f j else f (j + 1)) → Qr none h1) : aM gx (d + 1) mAL_fastRemove [vr l, vr a, vi i] h 0 0 Qr Qx := by
  intro J C
  show J 0 [some (vr l), some (vr a), some (vi i), none] [] h 0 0
  obtain ⟨⟨hl, hk⟩, hn, hn0, hn1, -⟩ := L
  have hla : l ≠ a := fun z => by rw [z, hka] at hk; exact absurd hk (by decide)
  have hal : a ≠ l := fun z => hla z.symm
  refine r_aload_n C dAL_fastRemove_0 (i := 0) rfl rfl ?_
  refine r_dup C dAL_fastRemove_1 rfl ?_
  refine r_getI C dAL_fastRemove_2 fAL_63 rfl hl hk ?_
  refine r_iconst C dAL_fastRemove_5 ?_
  refine r_iadd C dAL_fastRemove_6 ?_
  refine r_putI C dAL_fastRemove_7 fAL_63 (Or.inl rfl) (Or.inl rfl) hl hk ?_
  have O0 : OT h (wI h l (0 : Nat) (hI h l (0 : Nat) + 1)) (fun b => b = l ∨ hP h l 1 = some b) := OT.wi h (Or.inl rfl) _ _
  have kv : hI (wI h l (0 : Nat) (hI h l (0 : Nat) + 1)) l (2 : Nat) = n := by rw [i_wi, if_neg (fun z => absurd z.2 (by decide))]; exact hn
  have kp : ∀ b j, hP (wI h l (0 : Nat) (hI h l (0 : Nat) + 1)) b j = hP h b j := fun _ _ => rfl
  have hl2 : l ∈ hD (wI h l (0 : Nat) (hI h l (0 : Nat) + 1)) := hl
  have hk2 : hK (wI h l (0 : Nat) (hI h l (0 : Nat) + 1)) l = 1 := hk
  have ha2 : a ∈ hD (wI h l (0 : Nat) (hI h l (0 : Nat) + 1)) := ha
  have hka2 : hK (wI h l (0 : Nat) (hI h l (0 : Nat) + 1)) a = 13 := hka
  have hNa2 : hN (wI h l (0 : Nat) (hI h l (0 : Nat) + 1)) a = hN h a := rfl
  generalize wI h l (0 : Nat) (hI h l (0 : Nat) + 1) = hm at O0 kv kp hl2 hk2 ha2 hka2 hNa2 ⊢
  have hl9 := hl; have hk9 := hk; have ha9 := ha; have hka9 := hka
  clear hl hk ha hka
  have hl := hl2; have hk := hk2; have ha := ha2; have hka := hka2
  refine r_aload_n C dAL_fastRemove_10 (i := 0) rfl rfl ?_
  refine r_getI C dAL_fastRemove_11 fAL_48 rfl hl hk ?_
  rw [show hI hm l (2 : Nat) = n from kv]
  refine r_iconst C dAL_fastRemove_14 ?_
  refine r_isub C dAL_fastRemove_15 ?_
  refine r_dup C dAL_fastRemove_16 rfl ?_
  refine r_istore_n C dAL_fastRemove_17 (i := 3) rfl (Nat.le_of_ble_eq_true rfl) ?_
  dsimp only [List.set]
  refine r_iload_n C dAL_fastRemove_18 (i := 2) rfl rfl ?_
  refine r_ic_le C dAL_fastRemove_19 (t := 34) (by decide) (by first | assumption | exact R.rg _ _ | exact rg _ _ | (unfold inR; omega)) (by first | assumption | exact R.rg _ _ | exact rg _ _ | (unfold inR; omega)) (fun c19 => ?_) (fun c19 => ?_)
  · skip
    have K : OT h hm (fun b => b = l ∨ hP h l 1 = some b) ∧ (∀ j, 0 ≤ j → j < n - 1 → hP hm a j = if j < i then f j else f (j + 1)) ∧ hP hm l 1 = some a ∧ hN hm a = hN h a := ⟨O0, fun j j0 j1 => by rw [kp, hf j j0 (by omega), if_pos (by omega)], by rw [kp]; exact e1, hNa2⟩
    refine r_aload_n C dAL_fastRemove_34 (i := 1) rfl rfl ?_
    refine r_aload_n C dAL_fastRemove_35 (i := 0) rfl rfl ?_
    refine r_iload_n C dAL_fastRemove_36 (i := 3) rfl rfl ?_
    refine r_dup_x1 C dAL_fastRemove_37 rfl rfl ?_
    refine r_putI C dAL_fastRemove_38 fAL_48 (Or.inl rfl) (Or.inl rfl) hl hk ?_
    refine r_anull C dAL_fastRemove_41 ?_
    obtain ⟨K1, K2, K3, K4⟩ := K
    refine r_aastN C dAL_fastRemove_42 ha hka (by omega) (by show n - 1 < hN hm a; omega) (by omega) ?_
    refine r_ret C dAL_fastRemove_43 rfl ?_
    refine k _ ⟨⟨⟨hl, hk⟩, if_pos ⟨rfl, rfl⟩, by omega, by omega, Or.inr ⟨a, ?_, ha, hka, (show n - 1 ≤ hN hm a by omega), (show 10 ≤ hN hm a ∧ hN hm a ≤ 1000 by omega), fun j j0 j1 => ?_⟩⟩, K1.trans ((OT.wi hm (S := fun b => b = l ∨ hP h l 1 = some b) (Or.inl rfl) _ _).trans (OT.wp _ (Or.inr e1) _ _)), Or.inl ?_⟩
    · rw [p_wp, if_neg (fun z => hla z.1)]; exact K3
    · rw [p_wp, if_neg (fun z => by have := z.2; omega)]
      exact K2 j j0 j1
    · rw [p_wp, if_neg (fun z => hla z.1)]; exact K3.trans e1.symm
  · skip
    refine r_aload_n C dAL_fastRemove_22 (i := 1) rfl rfl ?_
    refine r_iload_n C dAL_fastRemove_23 (i := 2) rfl rfl ?_
    refine r_iconst C dAL_fastRemove_24 ?_
    refine r_iadd C dAL_fastRemove_25 ?_
    refine r_aload_n C dAL_fastRemove_26 (i := 1) rfl rfl ?_
    refine r_iload_n C dAL_fastRemove_27 (i := 2) rfl rfl ?_
    refine r_iload_n C dAL_fastRemove_28 (i := 3) rfl rfl ?_
    refine r_iload_n C dAL_fastRemove_29 (i := 2) rfl rfl ?_
    refine r_isub C dAL_fastRemove_30 ?_
    refine r_acopy C dAL_fastRemove_31 lAL_112 ha hka ha hka (by omega) (by omega) (by omega) (by rw [hNa2]; omega) (by rw [hNa2]; omega) (by omega) (by omega) (fun j j0 j1 y hy => ?_) (Nat.le_of_ble_eq_true rfl) ?_
    · rw [kp, hf _ (by omega) (by omega)] at hy
      obtain ⟨z1, ci, z2, z3, z4⟩ := hE _ (by omega) (by omega) y hy
      exact ⟨(O0 y z1).1, ci, z2, by rw [(O0 y z1).2.1]; exact z3, z4⟩
    have K : OT h (hCp hm a (i + 1) a i (n - 1 - i)) (fun b => b = l ∨ hP h l 1 = some b) ∧ (∀ j, 0 ≤ j → j < n - 1 → hP (hCp hm a (i + 1) a i (n - 1 - i)) a j = if j < i then f j else f (j + 1)) ∧ hP (hCp hm a (i + 1) a i (n - 1 - i)) l 1 = some a ∧ hN (hCp hm a (i + 1) a i (n - 1 - i)) a = hN h a := by
      refine ⟨O0.trans (OT.cp hm (Or.inr e1) _ _ _), fun j j0 j1 => ?_, ?_, hNa2⟩
      · rw [p_cp]
        by_cases z : j < i
        · rw [if_neg (fun y => by have := y.2.1; omega), if_pos z, kp]
          exact hf j j0 (by omega)
        · rw [if_pos ⟨rfl, by omega, by omega⟩, if_neg z, kp, hf _ (by omega) (by omega)]
          congr 1
          omega
      · rw [p_cp, if_neg (fun y => hla y.1), kp]
        exact e1
    have hl3 : l ∈ hD (hCp hm a (i + 1) a i (n - 1 - i)) := hl
    have hk3 : hK (hCp hm a (i + 1) a i (n - 1 - i)) l = 1 := hk
    have ha3 : a ∈ hD (hCp hm a (i + 1) a i (n - 1 - i)) := ha
    have hka3 : hK (hCp hm a (i + 1) a i (n - 1 - i)) a = 13 := hka
    clear O0 kv kp hl2 hk2 ha2 hka2 hNa2 hl hk ha hka
    generalize hCp hm a (i + 1) a i (n - 1 - i) = hm at K hl3 hk3 ha3 hka3 ⊢
    have hl := hl3; have hk := hk3; have ha := ha3; have hka := hka3
    refine r_aload_n C dAL_fastRemove_34 (i := 1) rfl rfl ?_
    refine r_aload_n C dAL_fastRemove_35 (i := 0) rfl rfl ?_
    refine r_iload_n C dAL_fastRemove_36 (i := 3) rfl rfl ?_
    refine r_dup_x1 C dAL_fastRemove_37 rfl rfl ?_
    refine r_putI C dAL_fastRemove_38 fAL_48 (Or.inl rfl) (Or.inl rfl) hl hk ?_
    refine r_anull C dAL_fastRemove_41 ?_
    obtain ⟨K1, K2, K3, K4⟩ := K
    refine r_aastN C dAL_fastRemove_42 ha hka (by omega) (by show n - 1 < hN hm a; omega) (by omega) ?_
    refine r_ret C dAL_fastRemove_43 rfl ?_
    refine k _ ⟨⟨⟨hl, hk⟩, if_pos ⟨rfl, rfl⟩, by omega, by omega, Or.inr ⟨a, ?_, ha, hka, (show n - 1 ≤ hN hm a by omega), (show 10 ≤ hN hm a ∧ hN hm a ≤ 1000 by omega), fun j j0 j1 => ?_⟩⟩, K1.trans ((OT.wi hm (S := fun b => b = l ∨ hP h l 1 = some b) (Or.inl rfl) _ _).trans (OT.wp _ (Or.inr e1) _ _)), Or.inl ?_⟩
    · rw [p_wp, if_neg (fun z => hla z.1)]; exact K3
    · rw [p_wp, if_neg (fun z => by have := z.2; omega)]
      exact K2 j j0 j1
    · rw [p_wp, if_neg (fun z => hla z.1)]; exact K3.trans e1.symm

set_option maxRecDepth 100000 in
set_option maxHeartbeats 4000000 in
theorem C_AL_remove {gx : GX} {d : Nat} {Qr : Option AV → Hp → Prop} {Qx : String → Hp → Prop} {l : Nat} {n i : Int} {f : Int → Option Nat} {h : Hp} (L : LI gx h l n f) (h0 : 0 ≤ i) (h1 : i < n) (hE : ∀ j, 0 ≤ j → j < n → ∀ y, f j = some y → y ∈ hD h ∧ ∃ ci, ci < 7 ∧ hK h y = ci + 1 ∧ Cond.castable (cNm ci) "java/lang/Object" ∈ tb) (k : ∀ h1, LC gx h h1 l (n - 1) (fun j => if j < i then f j else f (j + 1)) → Qr (some (vq (f i))) h1) : aM gx (d + 3) mAL_remove [vr l, vi i] h 0 0 Qr Qx := by
  intro J C
  show J 0 [some (vr l), some (vi i), none, none] [] h 0 0
  have L0 := L
  obtain ⟨a, e1, ha, hka, hna, hcap, hf⟩ := L.arr (by omega)
  obtain ⟨⟨hl, hk⟩, hn, hn0, hn1, -⟩ := L
  refine r_iload_n C dAL_remove_0 (i := 1) rfl rfl ?_
  refine r_aload_n C dAL_remove_1 (i := 0) rfl rfl ?_
  refine r_getI C dAL_remove_2 fAL_48 rfl hl hk ?_
  rw [show hI h l (2 : Nat) = n from hn]
  refine r_callS C dAL_remove_5 sAL_118 (As := [vi i, vi n]) (fun v hv => by simp only [List.mem_cons, List.mem_nil_iff, or_false] at hv; rcases hv with hv | hv <;> subst hv <;> rfl) (Nat.le_of_ble_eq_true rfl) (Nat.zero_le _) (Nat.zero_le _) (C_OBJ_checkIndex h0 h1 (by omega) ?_)
  refine r_pop C dAL_remove_8 rfl ?_
  refine r_aload_n C dAL_remove_9 (i := 0) rfl rfl ?_
  refine r_getP C dAL_remove_10 fAL_9 rfl hl hk ?_
  rw [show hP h l (1 : Nat) = some a from e1]
  refine r_astore_n C dAL_remove_13 (i := 2) rfl (Nat.le_of_ble_eq_true rfl) ?_
  dsimp only [List.set]
  refine r_aload_n C dAL_remove_14 (i := 2) rfl rfl ?_
  refine r_iload_n C dAL_remove_15 (i := 1) rfl rfl ?_
  refine r_aald C dAL_remove_16 ha (Or.inl hka) (by omega) (by omega) (by omega) ?_
  refine r_astore_n C dAL_remove_17 (i := 3) rfl (Nat.le_of_ble_eq_true rfl) ?_
  dsimp only [List.set]
  refine r_aload_n C dAL_remove_18 (i := 0) rfl rfl ?_
  refine r_aload_n C dAL_remove_19 (i := 2) rfl rfl ?_
  refine r_iload_n C dAL_remove_20 (i := 1) rfl rfl ?_
  refine r_callV C dAL_remove_21 sAL_144 (As := [vr a, vi i]) (fun v hv => by simp only [List.mem_cons, List.mem_nil_iff, or_false] at hv; rcases hv with hv | hv <;> subst hv <;> rfl) (ci := 0) (by decide) rfl hl hk (Nat.le_of_ble_eq_true rfl) (Nat.zero_le _) (Nat.zero_le _) (C_AL_fastRemove L0 e1 ha hka hna hcap hf h0 h1 hE (fun h2 R => ?_))
  refine r_aload_n C dAL_remove_24 (i := 3) rfl rfl ?_
  refine r_aret C dAL_remove_25 rfl rfl ?_
  rw [hf i h0 h1]; exact k _ R

set_option maxRecDepth 100000 in
set_option maxHeartbeats 4000000 in
theorem C_AL_clear {gx : GX} {d : Nat} {Qr : Option AV → Hp → Prop} {Qx : String → Hp → Prop} {l : Nat} {n : Int} {f : Int → Option Nat} {h : Hp} (L : LI gx h l n f) (k : ∀ h1, LC gx h h1 l 0 f → Qr none h1) : aM gx (d + 1) mAL_clear [vr l] h 0 0 Qr Qx := by
  intro J C
  show J 0 [some (vr l), none, none, none] [] h 0 0
  have L0 := L
  obtain ⟨⟨hl, hk⟩, hn, hn0, hn1, LL⟩ := L
  refine r_aload_n C dAL_clear_0 (i := 0) rfl rfl ?_
  refine r_dup C dAL_clear_1 rfl ?_
  refine r_getI C dAL_clear_2 fAL_63 rfl hl hk ?_
  refine r_iconst C dAL_clear_5 ?_
  refine r_iadd C dAL_clear_6 ?_
  refine r_putI C dAL_clear_7 fAL_63 (Or.inl rfl) (Or.inl rfl) hl hk ?_
  have kv : hI (wI h l (0 : Nat) (hI h l (0 : Nat) + 1)) l (2 : Nat) = n := by rw [i_wi, if_neg (fun z => absurd z.2 (by decide))]; exact hn
  refine r_aload_n C dAL_clear_10 (i := 0) rfl rfl ?_
  refine r_getP C dAL_clear_11 fAL_9 rfl hl hk ?_
  refine r_astore_n C dAL_clear_14 (i := 1) rfl (Nat.le_of_ble_eq_true rfl) ?_
  dsimp only [List.set]
  refine r_aload_n C dAL_clear_15 (i := 0) rfl rfl ?_
  refine r_getI C dAL_clear_16 fAL_48 rfl hl hk ?_
  rw [kv]
  refine r_istore_n C dAL_clear_19 (i := 2) rfl (Nat.le_of_ble_eq_true rfl) ?_
  dsimp only [List.set]
  refine r_aload_n C dAL_clear_20 (i := 0) rfl rfl ?_
  refine r_iconst C dAL_clear_21 ?_
  refine r_dup_x1 C dAL_clear_22 rfl rfl ?_
  refine r_putI C dAL_clear_23 fAL_48 (Or.inl rfl) (Or.inl rfl) hl hk ?_
  have Q1 : OT h (wI (wI h l (0 : Nat) (hI h l (0 : Nat) + 1)) l (2 : Nat) 0) (fun b => b = l ∨ hP h l 1 = some b) := (OT.wi h (Or.inl rfl) _ _).trans (OT.wi _ (Or.inl rfl) _ _)
  have Q2 : hI (wI (wI h l (0 : Nat) (hI h l (0 : Nat) + 1)) l (2 : Nat) 0) l 2 = 0 := if_pos ⟨rfl, rfl⟩
  have Q3 : hP (wI (wI h l (0 : Nat) (hI h l (0 : Nat) + 1)) l (2 : Nat) 0) l 1 = hP h l 1 := rfl
  show J _ _ _ (wI (wI h l (0 : Nat) (hI h l (0 : Nat) + 1)) l (2 : Nat) 0) 0 0
  generalize wI (wI h l (0 : Nat) (hI h l (0 : Nat) + 1)) l (2 : Nat) 0 = h9 at Q1 Q2 Q3 ⊢
  refine r_istore_n C dAL_clear_26 (i := 3) rfl (Nat.le_of_ble_eq_true rfl) ?_
  dsimp only [List.set]
  suffices LOOP : ∀ (m : Nat) (i : Int) (h2 : Hp), n - i < (m : Int) → 0 ≤ i → i ≤ n → OT h h2 (fun b => b = l ∨ hP h l 1 = some b) → hI h2 l 2 = 0 → hP h2 l 1 = hP h l 1 → J 27 [some (vr l), some (vq (hP h l (1 : Nat))), some (vi n), some (vi i)] [] h2 0 0 by
    exact LOOP (n.toNat + 1) 0 _ (by omega) (by omega) (by omega) Q1 Q2 Q3
  intro m
  induction m with
  | zero => intro i h2 hm hi0 hi1 hO h20 hp; exact absurd hm (by omega)
  | succ m ih =>
    intro i h2 hm hi0 hi1 hO h20 hp
    refine r_iload_n C dAL_clear_27 (i := 3) rfl rfl ?_
    refine r_iload_n C dAL_clear_28 (i := 2) rfl rfl ?_
    refine r_ic_ge C dAL_clear_29 (t := 42) (by decide) (by first | assumption | exact R.rg _ _ | exact rg _ _ | (unfold inR; omega)) (by first | assumption | exact R.rg _ _ | exact rg _ _ | (unfold inR; omega)) (fun c29 => ?_) (fun c29 => ?_)
    · skip
      refine r_ret C dAL_clear_42 rfl ?_
      have yl := hO l hl
      refine k _ ⟨⟨⟨yl.1, yl.2.1.trans hk⟩, h20, by omega, by omega, ?_⟩, hO, Or.inl hp⟩
      rcases LL with z | ⟨a, e1, ha, hka, hna, hcap, hf⟩
      · exact Or.inl ⟨rfl, hp.trans z.2⟩
      · have ya := hO a ha
        exact Or.inr ⟨a, hp.trans e1, ya.1, ya.2.1.trans hka, by rw [ya.2.2.1]; omega, by rw [ya.2.2.1]; exact hcap, fun j j0 j1 => by omega⟩
    · skip
      obtain ⟨a, e1, ha, hka, hna, hcap, hf⟩ := L0.arr (by omega)
      have hla : l ≠ a := fun z => by rw [z, hka] at hk; exact absurd hk (by decide)
      rw [show hP h l (1 : Nat) = some a from e1]
      refine r_aload_n C dAL_clear_32 (i := 1) rfl rfl ?_
      refine r_iload_n C dAL_clear_33 (i := 3) rfl rfl ?_
      refine r_anull C dAL_clear_34 ?_
      have ya := hO a ha
      refine r_aastN C dAL_clear_35 ya.1 (ya.2.1.trans hka) (by omega) (by rw [ya.2.2.1]; omega) (by omega) ?_
      rw [← show hP h l (1 : Nat) = some a from e1]
      refine r_iinc C dAL_clear_36 rfl ?_
      dsimp only [List.set]
      refine r_goto C dAL_clear_39 (t := 27) (by decide) ?_
      exact ih _ _ (by omega) (by omega) (by omega) (hO.trans (OT.wp h2 (Or.inr e1) _ _)) h20 (by rw [p_wp, if_neg (fun z => hla z.1)]; exact hp)

