/-! ===== lists that grow ===== -/
theorem cASU_200 : Cond.constant RJ8 200 (zI 2147483639) ∈ tb := tbm2 48 (by decide +kernel) (by decide +kernel)
theorem shr1 : ∀ N : Fin 128, (zI ((N : Nat) : Int) >>> (zI 1 &&& 31)).toInt = (((N : Nat) / 2 : Nat) : Int) := by decide +kernel

set_option maxRecDepth 100000 in
set_option maxHeartbeats 4000000 in
theorem C_ASU_newLength {gx : GX} {d : Nat} {Qr : Option AV → Hp → Prop} {Qx : String → Hp → Prop} {n m p : Int} {h : Hp} (hn0 : 0 ≤ n) (hn1 : n ≤ 1000) (hm0 : 1 ≤ m) (hm1 : m ≤ 1000) (hp0 : 0 ≤ p) (hp1 : p ≤ 1000) (k : ∀ w, 1 ≤ w → (w = m ∨ w = p) → Qr (some (vi (n + w))) h) : aM gx (d + 1) mASU_newLength [vi n, vi m, vi p] h 0 0 Qr Qx := by
  intro J C
  show J 0 [some (vi n), some (vi m), some (vi p), none] [] h 0 0
  refine r_iload_n C dASU_newLength_0 (i := 0) rfl rfl ?_
  refine r_iload_n C dASU_newLength_1 (i := 1) rfl rfl ?_
  refine r_iload_n C dASU_newLength_2 (i := 2) rfl rfl ?_
  refine r_mmax C dASU_newLength_3 lASU_194 (by unfold inR; omega) (by unfold inR; omega) (Nat.le_of_ble_eq_true rfl) ?_
  obtain ⟨w, hw⟩ : ∃ w, w = (if m < p then p else m) := ⟨_, rfl⟩
  have hwb : 1 ≤ w ∧ w ≤ 1000 ∧ (w = m ∨ w = p) := by rw [hw]; split <;> omega
  rw [← hw]
  refine r_iadd C dASU_newLength_6 ?_
  refine r_istore_n C dASU_newLength_7 (i := 3) rfl (Nat.le_of_ble_eq_true rfl) ?_
  dsimp only [List.set]
  refine r_iconst C dASU_newLength_8 ?_
  refine r_iload_n C dASU_newLength_9 (i := 3) rfl rfl ?_
  refine r_ic_ge C dASU_newLength_10 (t := 21) (by decide) (by first | assumption | exact R.rg _ _ | exact rg _ _ | (unfold inR; omega)) (by first | assumption | exact R.rg _ _ | exact rg _ _ | (unfold inR; omega)) (fun c10 => ?_) (fun c10 => ?_)
  · skip
    exfalso; omega
  · skip
    refine r_iload_n C dASU_newLength_13 (i := 3) rfl rfl ?_
    refine r_ldcI C dASU_newLength_14 cASU_200 ?_
    refine r_ic_gt C dASU_newLength_16 (t := 21) (by decide) (by first | assumption | exact R.rg _ _ | exact rg _ _ | (unfold inR; omega)) (by first | assumption | exact R.rg _ _ | exact rg _ _ | (unfold inR; omega)) (fun c16 => ?_) (fun c16 => ?_)
    · skip
      exfalso; omega
    · skip
      refine r_iload_n C dASU_newLength_19 (i := 3) rfl rfl ?_
      refine r_iret C dASU_newLength_20 (Or.inl rfl) ?_
      exact k w hwb.1 hwb.2.2

set_option maxRecDepth 100000 in
set_option maxHeartbeats 4000000 in
theorem C_ARR_copyOf3 {gx : GX} {d : Nat} {Qr : Option AV → Hp → Prop} {Qx : String → Hp → Prop} {a : Nat} {m : Int} {h : Hp} {S : Nat} (ha : a ∈ hD h) (hka : hK h a = 13) (hm : (hN h a : Int) ≤ m) (hm1 : m ≤ 1000) (hS : m.toNat ≤ S) (hE : ∀ j : Int, 0 ≤ j → j < hN h a → ∀ y, hP h a j = some y → y ∈ hD h ∧ ∃ ci, ci < 7 ∧ hK h y = ci + 1 ∧ Cond.castable (cNm ci) "java/lang/Object" ∈ tb) (k : ∀ q, q ∉ hD h → Qr (some (vr q)) (hCp (hNew h q 13 m.toNat) a 0 q 0 (hN h a))) : aM gx (d + 1) mARR_copyOf3 [vr a, vi m, vr gx.2.2.2.2] h 1 S Qr Qx := by
  intro J C
  show J 0 [some (vr a), some (vi m), some (vr gx.2.2.2.2), none] [] h 1 S
  refine r_aload_n C dARR_copyOf3_0 (i := 2) rfl rfl ?_
  refine r_ldcC C dARR_copyOf3_1 kARR_110 ?_
  refine r_ac_ne C dARR_copyOf3_3 (t := 13) (by decide) (fun c3 => ?_) (fun c3 => ?_)
  · skip
    exact absurd rfl c3
  · skip
    refine r_iload_n C dARR_copyOf3_6 (i := 1) rfl rfl ?_
    refine r_newO C dARR_copyOf3_7 kARR_2 (by omega) (by omega) (Nat.le_refl _) hS (fun q hq => ?_)
    have haq : a ≠ q := fun z => hq (z ▸ ha)
    have ha2 : a ∈ hD (hNew h q 13 m.toNat) := List.mem_append.mpr (Or.inl ha)
    have hk2 : hK (hNew h q 13 m.toNat) a = 13 := (if_neg haq).trans hka
    have hn2 : hN (hNew h q 13 m.toNat) a = hN h a := if_neg haq
    have hq2 : q ∈ hD (hNew h q 13 m.toNat) := List.mem_append.mpr (Or.inr (List.mem_singleton.mpr rfl))
    have hqk : hK (hNew h q 13 m.toNat) q = 13 := if_pos rfl
    have hqn : hN (hNew h q 13 m.toNat) q = m.toNat := if_pos rfl
    refine r_goto C dARR_copyOf3_10 (t := 24) (by decide) ?_
    refine r_astore_n C dARR_copyOf3_24 (i := 3) rfl (Nat.le_of_ble_eq_true rfl) ?_
    dsimp only [List.set]
    refine r_aload_n C dARR_copyOf3_25 (i := 0) rfl rfl ?_
    refine r_iconst C dARR_copyOf3_26 ?_
    refine r_aload_n C dARR_copyOf3_27 (i := 3) rfl rfl ?_
    refine r_iconst C dARR_copyOf3_28 ?_
    refine r_aload_n C dARR_copyOf3_29 (i := 0) rfl rfl ?_
    refine r_alen C dARR_copyOf3_30 ha2 (by omega) (by omega) ?_
    rw [hn2]
    refine r_iload_n C dARR_copyOf3_31 (i := 1) rfl rfl ?_
    refine r_mmin C dARR_copyOf3_32 lARR_304 (by unfold inR; omega) (by unfold inR; omega) (Nat.le_of_ble_eq_true rfl) ?_
    rw [if_neg (by omega)]
    refine r_acopy C dARR_copyOf3_35 lARR_150 ha2 hk2 hq2 hqk (by omega) (by omega) (by omega) (by rw [hn2]; omega) (by rw [hqn]; omega) (by omega) (by omega) (fun j j0 j1 y hy => ?_) (Nat.le_of_ble_eq_true rfl) ?_
    · have e : hP (hNew h q 13 m.toNat) a (0 + j) = hP h a (0 + j) := if_neg haq
      rw [e] at hy
      obtain ⟨z1, ci, z2, z3, z4⟩ := hE _ (by omega) (by omega) y hy
      exact ⟨List.mem_append.mpr (Or.inl z1), ci, z2, (if_neg (fun (z : y = q) => hq (z ▸ z1))).trans z3, z4⟩
    refine r_aload_n C dARR_copyOf3_38 (i := 3) rfl rfl ?_
    refine r_aret C dARR_copyOf3_39 rfl rfl ?_
    exact k q hq

set_option maxRecDepth 100000 in
set_option maxHeartbeats 4000000 in
theorem C_ARR_copyOf2 {gx : GX} {d : Nat} {Qr : Option AV → Hp → Prop} {Qx : String → Hp → Prop} {a : Nat} {m : Int} {h : Hp} {S : Nat} (ha : a ∈ hD h) (hka : hK h a = 13) (hm : (hN h a : Int) ≤ m) (hm1 : m ≤ 1000) (hS : m.toNat ≤ S) (hE : ∀ j : Int, 0 ≤ j → j < hN h a → ∀ y, hP h a j = some y → y ∈ hD h ∧ ∃ ci, ci < 7 ∧ hK h y = ci + 1 ∧ Cond.castable (cNm ci) "java/lang/Object" ∈ tb) (k : ∀ q, q ∉ hD h → Qr (some (vr q)) (hCp (hNew h q 13 m.toNat) a 0 q 0 (hN h a))) : aM gx (d + 2) mARR_copyOf2 [vr a, vi m] h 1 S Qr Qx := by
  intro J C
  show J 0 [some (vr a), some (vi m)] [] h 1 S
  refine r_aload_n C dARR_copyOf2_0 (i := 0) rfl rfl ?_
  refine r_iload_n C dARR_copyOf2_1 (i := 1) rfl rfl ?_
  refine r_aload_n C dARR_copyOf2_2 (i := 0) rfl rfl ?_
  refine r_getC C dARR_copyOf2_3 gc1 ha hka (Nat.le_of_ble_eq_true rfl) ?_
  refine r_callS C dARR_copyOf2_6 sARR_300 (As := [vr a, vi m, vr gx.2.2.2.2]) (fun v hv => by simp only [List.mem_cons, List.mem_nil_iff, or_false] at hv; rcases hv with hv | hv | hv <;> subst hv <;> rfl) (Nat.le_of_ble_eq_true rfl) (Nat.le_refl _) (Nat.le_refl _) (C_ARR_copyOf3 ha hka hm hm1 hS hE (fun q hq => ?_))
  refine r_aret C dARR_copyOf2_9 rfl rfl ?_
  exact k q hq

set_option maxRecDepth 100000 in
set_option maxHeartbeats 4000000 in
theorem C_AL_grow1g {gx : GX} {d : Nat} {Qr : Option AV → Hp → Prop} {Qx : String → Hp → Prop} {l a : Nat} {n : Int} {h : Hp} (hl : l ∈ hD h) (hk : hK h l = 1) (e1 : hP h l 1 = some a) (ha : a ∈ hD h) (hka : hK h a = 13) (hna : n = hN h a) (hn0 : 0 < n) (hn1 : n < 100) (hE : ∀ j : Int, 0 ≤ j → j < hN h a → ∀ y, hP h a j = some y → y ∈ hD h ∧ ∃ ci, ci < 7 ∧ hK h y = ci + 1 ∧ Cond.castable (cNm ci) "java/lang/Object" ∈ tb) (k : ∀ q m, q ∉ hD h → (hN h a : Int) < m → m ≤ 1000 → Qr (some (vr q)) (wP (hCp (hNew h q 13 m.toNat) a 0 q 0 (hN h a)) l 1 (some q))) : aM gx (d + 3) mAL_grow1 [vr l, vi (n + 1)] h 1 150 Qr Qx := by
  intro J C
  show J 0 [some (vr l), some (vi (n + 1)), none, none] [] h 1 150
  refine r_aload_n C dAL_grow1_0 (i := 0) rfl rfl ?_
  refine r_getP C dAL_grow1_1 fAL_9 rfl hl hk ?_
  rw [show hP h l (1 : Nat) = some a from e1]
  refine r_alen C dAL_grow1_4 ha (by omega) (by omega) ?_
  rw [← hna]
  refine r_istore_n C dAL_grow1_5 (i := 2) rfl (Nat.le_of_ble_eq_true rfl) ?_
  dsimp only [List.set]
  refine r_iload_n C dAL_grow1_6 (i := 2) rfl rfl ?_
  refine r_if_gt C dAL_grow1_7 (t := 20) (by decide) (by first | assumption | exact R.rg _ _ | exact rg _ _ | (unfold inR; omega)) (fun c7 => ?_) (fun c7 => ?_)
  · skip
    refine r_iload_n C dAL_grow1_20 (i := 2) rfl rfl ?_
    refine r_iload_n C dAL_grow1_21 (i := 1) rfl rfl ?_
    refine r_iload_n C dAL_grow1_22 (i := 2) rfl rfl ?_
    refine r_isub C dAL_grow1_23 ?_
    refine r_iload_n C dAL_grow1_24 (i := 2) rfl rfl ?_
    refine r_iconst C dAL_grow1_25 ?_
    refine r_ishr C dAL_grow1_26 ?_
    have hsh : (zI n >>> (zI 1 &&& 31)).toInt = n / 2 := by have hsh9 : (zI ((hN h a : Nat) : Int) >>> (zI 1 &&& 31)).toInt = (((hN h a : Nat) / 2 : Nat) : Int) := shr1 ⟨hN h a, by omega⟩; rw [hna, hsh9]; omega
    rw [hsh]
    refine r_callS C dAL_grow1_27 sAL_73 (As := [vi n, vi (n + 1 - n), vi (n / 2)]) (fun v hv => by simp only [List.mem_cons, List.mem_nil_iff, or_false] at hv; rcases hv with hv | hv | hv <;> subst hv <;> rfl) (Nat.le_of_ble_eq_true rfl) (Nat.zero_le _) (Nat.zero_le _) (C_ASU_newLength (by omega) (by omega) (by omega) (by omega) (by omega) (by omega) (fun w hw0 hw1 => ?_))
    refine r_istore_n C dAL_grow1_30 (i := 3) rfl (Nat.le_of_ble_eq_true rfl) ?_
    dsimp only [List.set]
    refine r_aload_n C dAL_grow1_31 (i := 0) rfl rfl ?_
    refine r_aload_n C dAL_grow1_32 (i := 0) rfl rfl ?_
    refine r_getP C dAL_grow1_33 fAL_9 rfl hl hk ?_
    rw [show hP h l (1 : Nat) = some a from e1]
    refine r_iload_n C dAL_grow1_36 (i := 3) rfl rfl ?_
    refine r_callS C dAL_grow1_37 sAL_66 (As := [vr a, vi (n + w)]) (fun v hv => by simp only [List.mem_cons, List.mem_nil_iff, or_false] at hv; rcases hv with hv | hv <;> subst hv <;> rfl) (Nat.le_of_ble_eq_true rfl) (Nat.le_refl _) (Nat.le_refl _) (C_ARR_copyOf2 ha hka (by omega) (by omega) (by omega) hE (fun q hq => ?_))
    refine r_dup_x1 C dAL_grow1_40 rfl rfl ?_
    refine r_putP C dAL_grow1_41 fAL_9 (Or.inl rfl) rfl (List.mem_append.mpr (Or.inl hl)) ((if_neg (fun (z : l = q) => hq (z ▸ hl))).trans hk) ?_
    refine r_aret C dAL_grow1_44 rfl rfl ?_
    exact k q _ hq (by omega) (by omega)
  · skip
    exfalso; omega

set_option maxRecDepth 100000 in
set_option maxHeartbeats 4000000 in
theorem C_AL_grow0g {gx : GX} {d : Nat} {Qr : Option AV → Hp → Prop} {Qx : String → Hp → Prop} {l a : Nat} {n : Int} {h : Hp} (hl : l ∈ hD h) (hk : hK h l = 1) (hn : hI h l 2 = n) (e1 : hP h l 1 = some a) (ha : a ∈ hD h) (hka : hK h a = 13) (hna : n = hN h a) (hn0 : 0 < n) (hn1 : n < 100) (hE : ∀ j : Int, 0 ≤ j → j < hN h a → ∀ y, hP h a j = some y → y ∈ hD h ∧ ∃ ci, ci < 7 ∧ hK h y = ci + 1 ∧ Cond.castable (cNm ci) "java/lang/Object" ∈ tb) (k : ∀ q m, q ∉ hD h → (hN h a : Int) < m → m ≤ 1000 → Qr (some (vr q)) (wP (hCp (hNew h q 13 m.toNat) a 0 q 0 (hN h a)) l 1 (some q))) : aM gx (d + 4) mAL_grow0 [vr l] h 1 150 Qr Qx := by
  intro J C
  show J 0 [some (vr l)] [] h 1 150
  refine r_aload_n C dAL_grow0_0 (i := 0) rfl rfl ?_
  refine r_aload_n C dAL_grow0_1 (i := 0) rfl rfl ?_
  refine r_getI C dAL_grow0_2 fAL_48 rfl hl hk ?_
  rw [show hI h l (2 : Nat) = n from hn]
  refine r_iconst C dAL_grow0_5 ?_
  refine r_iadd C dAL_grow0_6 ?_
  refine r_callV C dAL_grow0_7 sAL_69 (As := [vi (n + 1)]) (fun v hv => by rw [List.mem_singleton.mp hv]; rfl) (ci := 0) (by decide) rfl hl hk (Nat.le_of_ble_eq_true rfl) (Nat.le_refl _) (Nat.le_refl _) (C_AL_grow1g hl hk e1 ha hka hna hn0 hn1 hE (fun q m hq hm hm1 => ?_))
  refine r_aret C dAL_grow0_10 rfl rfl ?_
  exact k q m hq hm hm1

set_option maxRecDepth 100000 in
set_option maxHeartbeats 4000000 in
theorem C_AL_add3c {gx : GX} {d : Nat} {Qr : Option AV → Hp → Prop} {Qx : String → Hp → Prop} {l v a ci : Nat} {n : Int} {f : Int → Option Nat} {h : Hp} (L : LI gx h l n f) (e1 : hP h l 1 = some a) (ha : a ∈ hD h) (hka : hK h a = 13) (hna : n = hN h a) (hf : ∀ i, 0 ≤ i → i < n → hP h a i = f i) (hcap : 10 ≤ hN h a) (hn9 : n < 100) (hv : v ∈ hD h) (hkv : hK h v = ci + 1) (hci : ci < 7) (hcv : Cond.castable (cNm ci) "java/lang/Object" ∈ tb) (hE : ∀ j : Int, 0 ≤ j → j < hN h a → ∀ y, hP h a j = some y → y ∈ hD h ∧ ∃ ci, ci < 7 ∧ hK h y = ci + 1 ∧ Cond.castable (cNm ci) "java/lang/Object" ∈ tb) (k : ∀ h1, LC gx h h1 l (n + 1) (fun j => if j = n then some v else f j) → Qr none h1) : aM gx (d + 5) mAL_add3 [vr l, vr v, vr a, vi n] h 1 150 Qr Qx := by
  intro J C
  show J 0 [some (vr l), some (vr v), some (vr a), some (vi n)] [] h 1 150
  obtain ⟨⟨hl, hk⟩, hn, hn0, hn1, -⟩ := L
  have hla : l ≠ a := fun z => by rw [z, hka] at hk; exact absurd hk (by decide)
  refine r_iload_n C dAL_add3_0 (i := 3) rfl rfl ?_
  refine r_aload_n C dAL_add3_1 (i := 2) rfl rfl ?_
  refine r_alen C dAL_add3_2 ha (by omega) (by omega) ?_
  rw [← hna]
  refine r_ic_ne C dAL_add3_3 (t := 11) (by decide) (by first | assumption | exact R.rg _ _ | exact rg _ _ | (unfold inR; omega)) (by first | assumption | exact R.rg _ _ | exact rg _ _ | (unfold inR; omega)) (fun c3 => ?_) (fun c3 => ?_)
  · skip
    exact absurd rfl c3
  · skip
    refine r_aload_n C dAL_add3_6 (i := 0) rfl rfl ?_
    refine r_callV C dAL_add3_7 sAL_129 (As := []) (fun v hv => by cases hv) (ci := 0) (by decide) rfl hl hk (Nat.le_of_ble_eq_true rfl) (Nat.le_refl _) (Nat.le_refl _) (C_AL_grow0g hl hk hn e1 ha hka hna (by omega) hn9 hE (fun q m hq hm hm1 => ?_))
    have hlq : l ≠ q := fun z => hq (z ▸ hl)
    have hql : q ≠ l := fun z => hlq z.symm
    have hvq : v ≠ q := fun z => hq (z ▸ hv)
    have haq : a ≠ q := fun z => hq (z ▸ ha)
    have hqD : q ∈ hD (wP (hCp (hNew h q 13 m.toNat) a 0 q 0 (hN h a)) l 1 (some q)) := List.mem_append.mpr (Or.inr (List.mem_singleton.mpr rfl))
    have hqK : hK (wP (hCp (hNew h q 13 m.toNat) a 0 q 0 (hN h a)) l 1 (some q)) q = 13 := if_pos rfl
    have hqN : hN (wP (hCp (hNew h q 13 m.toNat) a 0 q 0 (hN h a)) l 1 (some q)) q = m.toNat := if_pos rfl
    have hlD : l ∈ hD (wP (hCp (hNew h q 13 m.toNat) a 0 q 0 (hN h a)) l 1 (some q)) := List.mem_append.mpr (Or.inl hl)
    have hlK : hK (wP (hCp (hNew h q 13 m.toNat) a 0 q 0 (hN h a)) l 1 (some q)) l = 1 := (if_neg hlq).trans hk
    have hvK : hK (wP (hCp (hNew h q 13 m.toNat) a 0 q 0 (hN h a)) l 1 (some q)) v = ci + 1 := (if_neg hvq).trans hkv
    have hle : hP (wP (hCp (hNew h q 13 m.toNat) a 0 q 0 (hN h a)) l 1 (some q)) l 1 = some q := if_pos ⟨rfl, rfl⟩
    have hent : ∀ j, 0 ≤ j → j < n → hP (wP (hCp (hNew h q 13 m.toNat) a 0 q 0 (hN h a)) l 1 (some q)) q j = f j := fun j j0 j1 => by
      rw [p_wp, if_neg (fun z => hql z.1)]
      show (if q = q ∧ 0 ≤ j ∧ j < 0 + (hN h a : Int) then hP (hNew h q 13 m.toNat) a (0 + (j - 0)) else _) = _
      rw [if_pos ⟨rfl, j0, by omega⟩, show (0 : Int) + (j - 0) = j by omega]
      exact (if_neg haq).trans (hf j j0 j1)
    have hO : OT h (wP (hCp (hNew h q 13 m.toNat) a 0 q 0 (hN h a)) l 1 (some q)) (fun b => b = l ∨ hP h l 1 = some b) := (OT.nw hq 13 m.toNat).tr2 ((OT.cp _ (S := fun b => b = q ∨ b = l) (Or.inl rfl) _ _ _).trans (OT.wp _ (Or.inr rfl) _ _)) (fun b hb z => z.elim (fun z => absurd (z ▸ hb) hq) (fun z => Or.inl z))
    show J _ _ _ _ 0 0
    generalize wP (hCp (hNew h q 13 m.toNat) a 0 q 0 (hN h a)) l 1 (some q) = h2 at hqD hqK hqN hlD hlK hvK hle hent hO ⊢
    clear hl hk
    have hl := hlD
    have hk := hlK
    refine r_astore_n C dAL_add3_10 (i := 2) rfl (Nat.le_of_ble_eq_true rfl) ?_
    dsimp only [List.set]
    refine r_aload_n C dAL_add3_11 (i := 2) rfl rfl ?_
    refine r_iload_n C dAL_add3_12 (i := 3) rfl rfl ?_
    refine r_aload_n C dAL_add3_13 (i := 1) rfl rfl ?_
    refine r_aastO C dAL_add3_14 hqD hqK (by omega) (by rw [hqN]; omega) (by omega) ((hO v hv).1) hvK hci hcv ?_
    refine r_aload_n C dAL_add3_15 (i := 0) rfl rfl ?_
    refine r_iload_n C dAL_add3_16 (i := 3) rfl rfl ?_
    refine r_iconst C dAL_add3_17 ?_
    refine r_iadd C dAL_add3_18 ?_
    refine r_putI C dAL_add3_19 fAL_48 (Or.inl rfl) (Or.inl rfl) hl hk ?_
    refine r_ret C dAL_add3_22 rfl ?_
    refine k _ ⟨⟨⟨hl, hk⟩, ?_, by omega, by omega, Or.inr ⟨q, ?_, hqD, hqK, ?_, ?_, fun j j0 j1 => ?_⟩⟩, hO.tr2 ((OT.wp h2 (S := fun b => b = q ∨ b = l) (Or.inl rfl) _ _).trans (OT.wi _ (Or.inr rfl) _ _)) (fun b hb z => z.elim (fun z => absurd (z ▸ hb) hq) (fun z => Or.inl z)), Or.inr ⟨q, ?_, hq, hqD⟩⟩
    · exact if_pos ⟨rfl, rfl⟩
    · show hP (wP h2 q n (some v)) l 1 = some q
      rw [p_wp, if_neg (fun z => hlq z.1), hle]
    · show n + 1 ≤ (hN h2 q : Nat)
      rw [hqN]; omega
    · show 10 ≤ hN h2 q ∧ hN h2 q ≤ 1000
      rw [hqN]; omega
    · show hP (wP h2 q n (some v)) q j = _
      rw [p_wp]
      dsimp only
      by_cases z : j = n
      · rw [if_pos ⟨rfl, z⟩, if_pos z]
      · rw [if_neg (fun y => z y.2), if_neg z]; exact hent j j0 (by omega)
    · show hP (wP h2 q n (some v)) l 1 = some q
      rw [p_wp, if_neg (fun z => hlq z.1), hle]

set_option maxRecDepth 100000 in
set_option maxHeartbeats 4000000 in
theorem C_AL_add1g {gx : GX} {d : Nat} {Qr : Option AV → Hp → Prop} {Qx : String → Hp → Prop} {l v ci : Nat} {n : Int} {f : Int → Option Nat} {h : Hp} (L : LI gx h l n f) (hn10 : n < 100) (hv : v ∈ hD h) (hkv : hK h v = ci + 1) (hci : ci < 7) (hcv : Cond.castable (cNm ci) "java/lang/Object" ∈ tb) (hE : ∀ j, 0 ≤ j → j < n → ∀ y, f j = some y → y ∈ hD h ∧ ∃ ci, ci < 7 ∧ hK h y = ci + 1 ∧ Cond.castable (cNm ci) "java/lang/Object" ∈ tb) (k : ∀ h1, LC gx h h1 l (n + 1) (fun j => if j = n then some v else f j) → Qr (some (vi 1)) h1) : aM gx (d + 6) mAL_add1 [vr l, vr v] h 1 150 Qr Qx := by
  intro J C
  show J 0 [some (vr l), some (vr v)] [] h 1 150
  have L0 := L
  obtain ⟨⟨hl, hk⟩, hn, hn0, hn1, LL⟩ := L
  refine r_aload_n C dAL_add1_0 (i := 0) rfl rfl ?_
  refine r_dup C dAL_add1_1 rfl ?_
  refine r_getI C dAL_add1_2 fAL_63 rfl hl hk ?_
  refine r_iconst C dAL_add1_5 ?_
  refine r_iadd C dAL_add1_6 ?_
  refine r_putI C dAL_add1_7 fAL_63 (Or.inl rfl) (Or.inl rfl) hl hk ?_
  have L1 := L0.mc (hI h l (0 : Nat) + 1)
  have kv : hI (wI h l (0 : Nat) (hI h l (0 : Nat) + 1)) l (2 : Nat) = n := by rw [i_wi, if_neg (fun z => absurd z.2 (by decide))]; exact hn
  replace k := fun h1 (z : LC gx (wI h l (0 : Nat) (hI h l (0 : Nat) + 1)) h1 l (n + 1) (fun j => if j = n then some v else f j)) => k h1 z.mc
  have kl : hP (wI h l (0 : Nat) (hI h l (0 : Nat) + 1)) l (1 : Nat) = hP h l 1 := rfl
  revert k L1 kv kl
  generalize hh : wI h l (0 : Nat) (hI h l (0 : Nat) + 1) = h0
  intro L1 kv k kl
  have hl0 : l ∈ hD h0 := by rw [← hh]; exact hl
  have hk0 : hK h0 l = 1 := by rw [← hh]; exact hk
  have hv0 : v ∈ hD h0 := by rw [← hh]; exact hv
  have hkv0 : hK h0 v = ci + 1 := by rw [← hh]; exact hkv
  have hE0 : ∀ j, 0 ≤ j → j < n → ∀ y, f j = some y → y ∈ hD h0 ∧ ∃ ci, ci < 7 ∧ hK h0 y = ci + 1 ∧ Cond.castable (cNm ci) "java/lang/Object" ∈ tb := by rw [← hh]; exact hE
  clear hl hk hv hkv
  have hl := hl0; have hk := hk0
  refine r_aload_n C dAL_add1_10 (i := 0) rfl rfl ?_
  refine r_aload_n C dAL_add1_11 (i := 1) rfl rfl ?_
  refine r_aload_n C dAL_add1_12 (i := 0) rfl rfl ?_
  refine r_getP C dAL_add1_13 fAL_9 rfl hl hk ?_
  refine r_aload_n C dAL_add1_16 (i := 0) rfl rfl ?_
  refine r_getI C dAL_add1_17 fAL_48 rfl hl hk ?_
  rw [show hI h0 l (2 : Nat) = n from kv]
  have L2 := L1
  obtain ⟨-, -, -, -, LL⟩ := L1
  obtain ⟨r, er⟩ : ∃ r, r = hP h0 l (1 : Nat) := ⟨_, rfl⟩
  rw [← er]
  rcases LL with ⟨zn, zp⟩ | ⟨a, zp, ha, hka, hna, hcap, hf⟩
  case inl =>
    have e2 : r = some gx.1 := er.trans zp
    subst zn; subst e2
    refine r_callV C dAL_add1_20 sAL_131 (As := [vr v, vr gx.1, vi 0]) (fun v hv => by simp only [List.mem_cons, List.mem_nil_iff, or_false] at hv; rcases hv with hv | hv | hv <;> subst hv <;> rfl) (ci := 0) (by decide) rfl hl hk (Nat.le_of_ble_eq_true rfl) (c1 := 1) (s1 := 10) (by decide) (by decide) (C_AL_add3b L2 zp hv0 hkv0 hci hcv (fun h1 R => ?_))
    refine r_iconst C dAL_add1_23 ?_
    refine r_iret C dAL_add1_24 (Or.inr ⟨rfl, Or.inr rfl⟩) ?_
    exact k _ R
  have e2 : r = some a := er.trans zp
  subst e2
  by_cases hfull : n = hN h0 a
  case pos =>
    refine r_callV C dAL_add1_20 sAL_131 (As := [vr v, vr a, vi n]) (fun v hv => by simp only [List.mem_cons, List.mem_nil_iff, or_false] at hv; rcases hv with hv | hv | hv <;> subst hv <;> rfl) (ci := 0) (by decide) rfl hl hk (Nat.le_of_ble_eq_true rfl) (Nat.le_refl _) (Nat.le_refl _) (C_AL_add3c L2 zp ha hka hfull hf hcap.1 hn10 hv0 hkv0 hci hcv (fun j j0 j1 y hy => hE0 j j0 (by omega) y (by rw [← hf j j0 (by omega)]; exact hy)) (fun h1 R => ?_))
    refine r_iconst C dAL_add1_23 ?_
    refine r_iret C dAL_add1_24 (Or.inr ⟨rfl, Or.inr rfl⟩) ?_
    exact k _ R
  refine r_callV C dAL_add1_20 sAL_131 (As := [vr v, vr a, vi n]) (fun v hv => by simp only [List.mem_cons, List.mem_nil_iff, or_false] at hv; rcases hv with hv | hv | hv <;> subst hv <;> rfl) (ci := 0) (by decide) rfl hl hk (Nat.le_of_ble_eq_true rfl) (Nat.zero_le _) (Nat.zero_le _) (C_AL_add3a L2 zp ha hka (by omega) hf hcap hv0 hkv0 hci hcv (fun h1 R => ?_))
  refine r_iconst C dAL_add1_23 ?_
  refine r_iret C dAL_add1_24 (Or.inr ⟨rfl, (by first | assumption | omega | decide)⟩) ?_
  exact k _ R

