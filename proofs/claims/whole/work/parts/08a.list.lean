/-! ===== lists ===== -/
/-- l is a list of n references, those of f -/
def LI (gx : GX) (h : Hp) (l : Nat) (n : Int) (f : Int → Option Nat) : Prop :=
  (l ∈ hD h ∧ hK h l = 1) ∧ hI h l 2 = n ∧ 0 ≤ n ∧ n ≤ 1000 ∧
  ((n = 0 ∧ hP h l 1 = some gx.1) ∨ ∃ a, hP h l 1 = some a ∧ a ∈ hD h ∧ hK h a = 13 ∧ n ≤ hN h a ∧ (10 ≤ hN h a ∧ hN h a ≤ 1000) ∧ ∀ i, 0 ≤ i → i < n → hP h a i = f i)
theorem LI.arr {gx : GX} {h : Hp} {l : Nat} {n : Int} {f : Int → Option Nat} (L : LI gx h l n f) (hn : 0 < n) : ∃ a, hP h l 1 = some a ∧ a ∈ hD h ∧ hK h a = 13 ∧ n ≤ hN h a ∧ (10 ≤ hN h a ∧ hN h a ≤ 1000) ∧ ∀ i, 0 ≤ i → i < n → hP h a i = f i :=
  L.2.2.2.2.resolve_left (fun z => by have z1 := z.1; omega)

set_option maxRecDepth 100000 in
set_option maxHeartbeats 4000000 in
theorem C_ABC_init {gx : GX} {d : Nat} {Qr : Option AV → Hp → Prop} {Qx : String → Hp → Prop} {l : Nat} {h : Hp} (k : Qr none h) : aM gx (d + 1) mABC_init [vr l] h 0 0 Qr Qx := by
  intro J C
  show J 0 [some (vr l)] [] h 0 0
  refine r_aload_n C dABC_init_0 (i := 0) rfl rfl ?_
  refine r_objI C dABC_init_1 lABC_1 (Nat.le_of_ble_eq_true rfl) ?_
  refine r_ret C dABC_init_4 rfl ?_
  exact k

set_option maxRecDepth 100000 in
set_option maxHeartbeats 4000000 in
theorem C_ABL_init {gx : GX} {d : Nat} {Qr : Option AV → Hp → Prop} {Qx : String → Hp → Prop} {l : Nat} {h : Hp} (hl : l ∈ hD h) (hk : hK h l = 1) (k : Qr none (wI h l (0 : Nat) 0))  : aM gx (d + 2) mABL_init [vr l] h 0 0 Qr Qx := by
  intro J C
  show J 0 [some (vr l)] [] h 0 0
  refine r_aload_n C dABL_init_0 (i := 0) rfl rfl ?_
  refine r_callI C dABL_init_1 sABL_1 (As := []) (fun v hv => by cases hv) (Nat.le_of_ble_eq_true rfl) (Nat.zero_le _) (Nat.zero_le _) (C_ABC_init ?_)
  refine r_aload_n C dABL_init_4 (i := 0) rfl rfl ?_
  refine r_iconst C dABL_init_5 ?_
  refine r_putI C dABL_init_6 fABL_7 (Or.inl rfl) (Or.inl rfl) hl hk ?_
  refine r_ret C dABL_init_9 rfl ?_
  exact k

set_option maxRecDepth 100000 in
set_option maxHeartbeats 4000000 in
theorem C_AL_init {gx : GX} {d : Nat} {Qr : Option AV → Hp → Prop} {Qx : String → Hp → Prop} {l : Nat} {h : Hp} (hl : l ∈ hD h) (hk : hK h l = 1) (k : Qr none (wP (wI h l (0 : Nat) 0) l (1 : Nat) (some gx.1))) : aM gx (d + 3) mAL_init [vr l] h 0 0 Qr Qx := by
  intro J C
  show J 0 [some (vr l)] [] h 0 0
  refine r_aload_n C dAL_init_0 (i := 0) rfl rfl ?_
  refine r_callI C dAL_init_1 sAL_1 (As := []) (fun v hv => by cases hv) (Nat.le_of_ble_eq_true rfl) (Nat.zero_le _) (Nat.zero_le _) (C_ABL_init hl hk ?_)
  replace k := k
  refine r_aload_n C dAL_init_4 (i := 0) rfl rfl ?_
  refine r_gets C dAL_init_5 gsAL_39 ?_
  refine r_putP C dAL_init_8 fAL_9 (Or.inl rfl) rfl hl hk ?_
  refine r_ret C dAL_init_11 rfl ?_
  exact k

set_option maxRecDepth 100000 in
set_option maxHeartbeats 4000000 in
theorem C_AL_size {gx : GX} {d : Nat} {Qr : Option AV → Hp → Prop} {Qx : String → Hp → Prop} {l : Nat} {n : Int} {f : Int → Option Nat} {h : Hp} (L : LI gx h l n f) (k : Qr (some (vi n)) h) : aM gx (d + 1) mAL_size [vr l] h 0 0 Qr Qx := by
  intro J C
  show J 0 [some (vr l)] [] h 0 0
  obtain ⟨⟨hl, hk⟩, hn, hn0, hn1, -⟩ := L
  refine r_aload_n C dAL_size_0 (i := 0) rfl rfl ?_
  refine r_getI C dAL_size_1 fAL_48 rfl hl hk ?_
  refine r_iret C dAL_size_4 (Or.inl rfl) ?_
  rw [show hI h l (2 : Nat) = n from hn]; exact k

set_option maxRecDepth 100000 in
set_option maxHeartbeats 4000000 in
theorem C_PRE_checkIndex {gx : GX} {d : Nat} {Qr : Option AV → Hp → Prop} {Qx : String → Hp → Prop} {i n : Int} {h : Hp} (h0 : 0 ≤ i) (h1 : i < n) (hn : n < 2147483648) (k : Qr (some (vi i)) h) : aM gx (d + 1) mPRE_checkIndex [vi i, vi n, vn] h 0 0 Qr Qx := by
  intro J C
  show J 0 [some (vi i), some (vi n), some vn] [] h 0 0
  refine r_iload_n C dPRE_checkIndex_0 (i := 0) rfl rfl ?_
  refine r_if_lt C dPRE_checkIndex_1 (t := 9) (by decide) (by first | assumption | exact R.rg _ _ | exact rg _ _ | (unfold inR; omega)) (fun c1 => ?_) (fun c1 => ?_)
  · skip
    exfalso; omega
  · skip
    refine r_iload_n C dPRE_checkIndex_4 (i := 0) rfl rfl ?_
    refine r_iload_n C dPRE_checkIndex_5 (i := 1) rfl rfl ?_
    refine r_ic_lt C dPRE_checkIndex_6 (t := 16) (by decide) (by first | assumption | exact R.rg _ _ | exact rg _ _ | (unfold inR; omega)) (by first | assumption | exact R.rg _ _ | exact rg _ _ | (unfold inR; omega)) (fun c6 => ?_) (fun c6 => ?_)
    · skip
      refine r_iload_n C dPRE_checkIndex_16 (i := 0) rfl rfl ?_
      refine r_iret C dPRE_checkIndex_17 (Or.inl rfl) ?_
      exact k
    · skip
      exfalso; omega

set_option maxRecDepth 100000 in
set_option maxHeartbeats 4000000 in
theorem C_OBJ_checkIndex {gx : GX} {d : Nat} {Qr : Option AV → Hp → Prop} {Qx : String → Hp → Prop} {i n : Int} {h : Hp} (h0 : 0 ≤ i) (h1 : i < n) (hn : n < 2147483648) (k : Qr (some (vi i)) h) : aM gx (d + 2) mOBJ_checkIndex [vi i, vi n] h 0 0 Qr Qx := by
  intro J C
  show J 0 [some (vi i), some (vi n)] [] h 0 0
  refine r_iload_n C dOBJ_checkIndex_0 (i := 0) rfl rfl ?_
  refine r_iload_n C dOBJ_checkIndex_1 (i := 1) rfl rfl ?_
  refine r_anull C dOBJ_checkIndex_2 ?_
  refine r_callS C dOBJ_checkIndex_3 sOBJ_105 (As := [vi i, vi n, vn]) (fun v hv => by simp only [List.mem_cons, List.mem_nil_iff, or_false] at hv; rcases hv with hv | hv | hv <;> subst hv <;> rfl) (Nat.le_of_ble_eq_true rfl) (Nat.zero_le _) (Nat.zero_le _) (C_PRE_checkIndex h0 h1 hn ?_)
  refine r_iret C dOBJ_checkIndex_6 (Or.inl rfl) ?_
  exact k

set_option maxRecDepth 100000 in
set_option maxHeartbeats 4000000 in
theorem C_AL_elementData {gx : GX} {d : Nat} {Qr : Option AV → Hp → Prop} {Qx : String → Hp → Prop} {l : Nat} {n i : Int} {f : Int → Option Nat} {h : Hp} (L : LI gx h l n f) (h0 : 0 ≤ i) (h1 : i < n) (k : Qr (some (vq (f i))) h) : aM gx (d + 1) mAL_elementData [vr l, vi i] h 0 0 Qr Qx := by
  intro J C
  show J 0 [some (vr l), some (vi i)] [] h 0 0
  obtain ⟨a, e1, ha, hka, hna, hcap, hf⟩ := L.arr (by omega)
  obtain ⟨⟨hl, hk⟩, hn, hn0, hn1, -⟩ := L
  refine r_aload_n C dAL_elementData_0 (i := 0) rfl rfl ?_
  refine r_getP C dAL_elementData_1 fAL_9 rfl hl hk ?_
  rw [show hP h l (1 : Nat) = some a from e1]
  refine r_iload_n C dAL_elementData_4 (i := 1) rfl rfl ?_
  refine r_aald C dAL_elementData_5 ha (Or.inl hka) (by omega) (by omega) (by omega) ?_
  refine r_aret C dAL_elementData_6 rfl rfl ?_
  rw [hf i h0 h1]; exact k

set_option maxRecDepth 100000 in
set_option maxHeartbeats 4000000 in
theorem C_AL_get {gx : GX} {d : Nat} {Qr : Option AV → Hp → Prop} {Qx : String → Hp → Prop} {l : Nat} {n i : Int} {f : Int → Option Nat} {h : Hp} (L : LI gx h l n f) (h0 : 0 ≤ i) (h1 : i < n) (k : Qr (some (vq (f i))) h) : aM gx (d + 3) mAL_get [vr l, vi i] h 0 0 Qr Qx := by
  intro J C
  show J 0 [some (vr l), some (vi i)] [] h 0 0
  have L0 := L
  obtain ⟨⟨hl, hk⟩, hn, hn0, hn1, -⟩ := L
  refine r_iload_n C dAL_get_0 (i := 1) rfl rfl ?_
  refine r_aload_n C dAL_get_1 (i := 0) rfl rfl ?_
  refine r_getI C dAL_get_2 fAL_48 rfl hl hk ?_
  rw [show hI h l (2 : Nat) = n from hn]
  refine r_callS C dAL_get_5 sAL_118 (As := [vi i, vi n]) (fun v hv => by simp only [List.mem_cons, List.mem_nil_iff, or_false] at hv; rcases hv with hv | hv <;> subst hv <;> rfl) (Nat.le_of_ble_eq_true rfl) (Nat.zero_le _) (Nat.zero_le _) (C_OBJ_checkIndex h0 h1 (by omega) ?_)
  refine r_pop C dAL_get_8 rfl ?_
  refine r_aload_n C dAL_get_9 (i := 0) rfl rfl ?_
  refine r_iload_n C dAL_get_10 (i := 1) rfl rfl ?_
  refine r_callV C dAL_get_11 sAL_123 (As := [vi i]) (fun v hv => by rw [List.mem_singleton.mp hv]; rfl) (ci := 0) (by decide) rfl hl hk (Nat.le_of_ble_eq_true rfl) (Nat.zero_le _) (Nat.zero_le _) (C_AL_elementData L0 h0 h1 ?_)
  refine r_aret C dAL_get_14 rfl rfl ?_
  exact k

