/-! ===== lists that have their row ===== -/
set_option maxRecDepth 100000 in
set_option maxHeartbeats 4000000 in
theorem C_AL_add1z {gx : GX} {d : Nat} {Qr : Option AV → Hp → Prop} {Qx : String → Hp → Prop} {l v ci : Nat} {n : Int} {f : Int → Option Nat} {h : Hp} (L : LI gx h l n f) (hn10 : n < 10) (hb : hP h l 1 ≠ some gx.1) (hv : v ∈ hD h) (hkv : hK h v = ci + 1) (hci : ci < 7) (hcv : Cond.castable (cNm ci) "java/lang/Object" ∈ tb) (k : ∀ h1, LC gx h h1 l (n + 1) (fun j => if j = n then some v else f j) → Qr (some (vi 1)) h1) : aM gx (d + 6) mAL_add1 [vr l, vr v] h 0 0 Qr Qx := by
  intro J C
  show J 0 [some (vr l), some (vr v)] [] h 0 0
  have L0 := L
  obtain ⟨⟨hl, hk⟩, hn, hn0, hn1, LL⟩ := L
  refine r_aload_n C dAL_add1_0 (i := 0) rfl rfl ?_
  refine r_dup C dAL_add1_1 rfl ?_
  refine r_getI C dAL_add1_2 fAL_63 rfl hl hk ?_
  refine r_iconst C dAL_add1_5 ?_
  refine r_iadd C dAL_add1_6 ?_
  refine r_putI C dAL_add1_7 fAL_63 (Or.inl rfl) (Or.inl rfl) hl hk ?_
  have L1 := L0.mc (hI h l (0 : Nat) + 1)
  have kv : hI (wI h l (0 : Nat) (hI h l (0 : Nat) + 1)) l (2 : Nat) = n := by rw [i_wi, if_neg (fun z => absurd z.2 (by decide))]; exact hn
  replace k := fun h1 (z : LC gx (wI h l (0 : Nat) (hI h l (0 : Nat) + 1)) h1 l (n + 1) (fun j => if j = n then some v else f j)) => k h1 z.mc
  have kl : hP (wI h l (0 : Nat) (hI h l (0 : Nat) + 1)) l (1 : Nat) = hP h l 1 := rfl
  revert k L1 kv kl
  generalize hh : wI h l (0 : Nat) (hI h l (0 : Nat) + 1) = h0
  intro L1 kv k kl
  have hl0 : l ∈ hD h0 := by rw [← hh]; exact hl
  have hk0 : hK h0 l = 1 := by rw [← hh]; exact hk
  have hv0 : v ∈ hD h0 := by rw [← hh]; exact hv
  have hkv0 : hK h0 v = ci + 1 := by rw [← hh]; exact hkv
  clear hl hk hv hkv
  have hl := hl0; have hk := hk0
  refine r_aload_n C dAL_add1_10 (i := 0) rfl rfl ?_
  refine r_aload_n C dAL_add1_11 (i := 1) rfl rfl ?_
  refine r_aload_n C dAL_add1_12 (i := 0) rfl rfl ?_
  refine r_getP C dAL_add1_13 fAL_9 rfl hl hk ?_
  refine r_aload_n C dAL_add1_16 (i := 0) rfl rfl ?_
  refine r_getI C dAL_add1_17 fAL_48 rfl hl hk ?_
  rw [show hI h0 l (2 : Nat) = n from kv]
  have L2 := L1
  obtain ⟨-, -, -, -, LL⟩ := L1
  obtain ⟨r, er⟩ : ∃ r, r = hP h0 l (1 : Nat) := ⟨_, rfl⟩
  rw [← er]
  rcases LL with ⟨zn, zp⟩ | ⟨a, zp, ha, hka, hna, hcap, hf⟩
  case inl => exact absurd (kl.symm.trans zp) hb
  have e2 : r = some a := er.trans zp
  subst e2
  refine r_callV C dAL_add1_20 sAL_131 (As := [vr v, vr a, vi n]) (fun v hv => by simp only [List.mem_cons, List.mem_nil_iff, or_false] at hv; rcases hv with hv | hv | hv <;> subst hv <;> rfl) (ci := 0) (by decide) rfl hl hk (Nat.le_of_ble_eq_true rfl) (Nat.zero_le _) (Nat.zero_le _) (C_AL_add3a L2 zp ha hka (by omega) hf hcap hv0 hkv0 hci hcv (fun h1 R => ?_))
  refine r_iconst C dAL_add1_23 ?_
  refine r_iret C dAL_add1_24 (Or.inr ⟨rfl, (by first | assumption | omega | decide)⟩) ?_
  exact k _ R

