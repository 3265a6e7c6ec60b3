/-! ===== lists that change ===== -/
/-- h' has all that h has; its contents are the same but for S -/
def OT (h h' : Hp) (S : Nat → Prop) : Prop := ∀ b, b ∈ hD h → b ∈ hD h' ∧ hK h' b = hK h b ∧ hN h' b = hN h b ∧ (¬ S b → (∀ j, hI h' b j = hI h b j) ∧ (∀ j, hP h' b j = hP h b j))
theorem OT.refl (h : Hp) (S : Nat → Prop) : OT h h S := fun b hb => ⟨hb, rfl, rfl, fun _ => ⟨fun _ => rfl, fun _ => rfl⟩⟩
theorem OT.trans {h1 h2 h3 : Hp} {S : Nat → Prop} (a : OT h1 h2 S) (b : OT h2 h3 S) : OT h1 h3 S := by
  intro x hx
  obtain ⟨a1, a2, a3, a4⟩ := a x hx
  obtain ⟨b1, b2, b3, b4⟩ := b x a1
  exact ⟨b1, b2.trans a2, b3.trans a3, fun n => ⟨fun j => ((b4 n).1 j).trans ((a4 n).1 j), fun j => ((b4 n).2 j).trans ((a4 n).2 j)⟩⟩
theorem OT.tr2 {h1 h2 h3 : Hp} {S T : Nat → Prop} (a : OT h1 h2 S) (b : OT h2 h3 T) (st : ∀ b, b ∈ hD h1 → T b → S b) : OT h1 h3 S := by
  intro x hx
  obtain ⟨a1, a2, a3, a4⟩ := a x hx
  obtain ⟨b1, b2, b3, b4⟩ := b x a1
  exact ⟨b1, b2.trans a2, b3.trans a3, fun n => ⟨fun j => ((b4 (fun t => n (st x hx t))).1 j).trans ((a4 n).1 j), fun j => ((b4 (fun t => n (st x hx t))).2 j).trans ((a4 n).2 j)⟩⟩
theorem OT.sub {h h' : Hp} {S T : Nat → Prop} (a : OT h h' S) (st : ∀ b, b ∈ hD h → S b → T b) : OT h h' T := fun b hb => ⟨(a b hb).1, (a b hb).2.1, (a b hb).2.2.1, fun n => (a b hb).2.2.2 (fun s => n (st b hb s))⟩
theorem OT.wi (h : Hp) {S : Nat → Prop} {a : Nat} (ha : S a) (k v : Int) : OT h (wI h a k v) S := fun b hb => ⟨hb, rfl, rfl, fun n => ⟨fun j => by
  show (if b = a ∧ j = k then v else hI h b j) = _
  rw [if_neg (fun (z : b = a ∧ j = k) => n (z.1 ▸ ha))], fun _ => rfl⟩⟩
theorem OT.wp (h : Hp) {S : Nat → Prop} {a : Nat} (ha : S a) (k : Int) (v : Option Nat) : OT h (wP h a k v) S := fun b hb => ⟨hb, rfl, rfl, fun n => ⟨fun _ => rfl, fun j => by
  show (if b = a ∧ j = k then v else hP h b j) = _
  rw [if_neg (fun (z : b = a ∧ j = k) => n (z.1 ▸ ha))]⟩⟩
theorem OT.cp (h : Hp) {S : Nat → Prop} {a0 a1 : Nat} (ha : S a1) (sp dp n : Int) : OT h (hCp h a0 sp a1 dp n) S := fun b hb => ⟨hb, rfl, rfl, fun nn => ⟨fun _ => rfl, fun j => by
  show (if b = a1 ∧ dp ≤ j ∧ j < dp + n then hP h a0 (sp + (j - dp)) else hP h b j) = _
  rw [if_neg (fun (z : b = a1 ∧ dp ≤ j ∧ j < dp + n) => nn (z.1 ▸ ha))]⟩⟩
theorem OT.nw {h : Hp} {S : Nat → Prop} {q : Nat} (hq : q ∉ hD h) (kd n : Nat) : OT h (hNew h q kd n) S := by
  intro b hb
  have e : b ≠ q := fun z => hq (z ▸ hb)
  exact ⟨List.mem_append.mpr (Or.inl hb), if_neg e, if_neg e, fun _ => ⟨fun j => if_neg e, fun j => if_neg e⟩⟩
theorem i_wi (h : Hp) (a : Nat) (k v : Int) (b : Nat) (j : Int) : hI (wI h a k v) b j = if b = a ∧ j = k then v else hI h b j := rfl
theorem p_wp (h : Hp) (a : Nat) (k : Int) (v : Option Nat) (b : Nat) (j : Int) : hP (wP h a k v) b j = if b = a ∧ j = k then v else hP h b j := rfl
/-- what a change of a list leaves -/
def LC (gx : GX) (h h' : Hp) (l : Nat) (n : Int) (f : Int → Option Nat) : Prop := LI gx h' l n f ∧ OT h h' (fun b => b = l ∨ hP h l 1 = some b) ∧ (hP h' l 1 = hP h l 1 ∨ ∃ q, hP h' l 1 = some q ∧ q ∉ hD h ∧ q ∈ hD h')

set_option maxRecDepth 100000 in
set_option maxHeartbeats 4000000 in
theorem C_AL_set {gx : GX} {d : Nat} {Qr : Option AV → Hp → Prop} {Qx : String → Hp → Prop} {l v ci : Nat} {n i : Int} {f : Int → Option Nat} {h : Hp} (L : LI gx h l n f) (h0 : 0 ≤ i) (h1 : i < n) (hv : v ∈ hD h) (hkv : hK h v = ci + 1) (hci : ci < 7) (hcv : Cond.castable (cNm ci) "java/lang/Object" ∈ tb) (k : ∀ h1, LC gx h h1 l n (fun j => if j = i then some v else f j) → Qr (some (vq (f i))) h1) : aM gx (d + 3) mAL_set [vr l, vi i, vr v] h 0 0 Qr Qx := by
  intro J C
  show J 0 [some (vr l), some (vi i), some (vr v), none] [] h 0 0
  have L0 := L
  obtain ⟨a, e1, ha, hka, hna, hcap, hf⟩ := L.arr (by omega)
  obtain ⟨⟨hl, hk⟩, hn, hn0, hn1, -⟩ := L
  have hla : l ≠ a := fun z => by rw [z, hka] at hk; exact absurd hk (by decide)
  refine r_iload_n C dAL_set_0 (i := 1) rfl rfl ?_
  refine r_aload_n C dAL_set_1 (i := 0) rfl rfl ?_
  refine r_getI C dAL_set_2 fAL_48 rfl hl hk ?_
  rw [show hI h l (2 : Nat) = n from hn]
  refine r_callS C dAL_set_5 sAL_118 (As := [vi i, vi n]) (fun v hv => by simp only [List.mem_cons, List.mem_nil_iff, or_false] at hv; rcases hv with hv | hv <;> subst hv <;> rfl) (Nat.le_of_ble_eq_true rfl) (Nat.zero_le _) (Nat.zero_le _) (C_OBJ_checkIndex h0 h1 (by omega) ?_)
  refine r_pop C dAL_set_8 rfl ?_
  refine r_aload_n C dAL_set_9 (i := 0) rfl rfl ?_
  refine r_iload_n C dAL_set_10 (i := 1) rfl rfl ?_
  refine r_callV C dAL_set_11 sAL_123 (As := [vi i]) (fun v hv => by rw [List.mem_singleton.mp hv]; rfl) (ci := 0) (by decide) rfl hl hk (Nat.le_of_ble_eq_true rfl) (Nat.zero_le _) (Nat.zero_le _) (C_AL_elementData L0 h0 h1 ?_)
  refine r_astore_n C dAL_set_14 (i := 3) rfl (Nat.le_of_ble_eq_true rfl) ?_
  dsimp only [List.set]
  refine r_aload_n C dAL_set_15 (i := 0) rfl rfl ?_
  refine r_getP C dAL_set_16 fAL_9 rfl hl hk ?_
  rw [show hP h l (1 : Nat) = some a from e1]
  refine r_iload_n C dAL_set_19 (i := 1) rfl rfl ?_
  refine r_aload_n C dAL_set_20 (i := 2) rfl rfl ?_
  refine r_aastO C dAL_set_21 ha hka (by omega) (by omega) (by omega) hv hkv hci hcv ?_
  refine r_aload_n C dAL_set_22 (i := 3) rfl rfl ?_
  refine r_aret C dAL_set_23 rfl rfl ?_
  refine k _ ⟨⟨⟨hl, hk⟩, hn, hn0, hn1, Or.inr ⟨a, ?_, ha, hka, hna, hcap, fun j j0 j1 => ?_⟩⟩, OT.wp h (Or.inr e1) _ _, Or.inl ?_⟩
  · rw [p_wp, if_neg (fun z => hla z.1), e1]
  · rw [p_wp]
    dsimp only
    by_cases z : j = i
    · rw [if_pos ⟨rfl, z⟩, if_pos z]
    · rw [if_neg (fun y => z y.2), if_neg z]; exact hf j j0 j1
  · rw [p_wp, if_neg (fun z => hla z.1)]

set_option maxRecDepth 100000 in
set_option maxHeartbeats 4000000 in
theorem C_AL_grow1 {gx : GX} {d : Nat} {Qr : Option AV → Hp → Prop} {Qx : String → Hp → Prop} {l : Nat} {h : Hp} (hl : l ∈ hD h) (hk : hK h l = 1) (e1 : hP h l 1 = some gx.1) (k : ∀ q, q ∉ hD h → Qr (some (vr q)) (wP (hNew h q 13 10) l 1 (some q))) : aM gx (d + 3) mAL_grow1 [vr l, vi 1] h 1 10 Qr Qx := by
  intro J C
  show J 0 [some (vr l), some (vi 1), none, none] [] h 1 10
  refine r_aload_n C dAL_grow1_0 (i := 0) rfl rfl ?_
  refine r_getP C dAL_grow1_1 fAL_9 rfl hl hk ?_
  rw [show hP h l (1 : Nat) = some gx.1 from e1]
  refine r_alen0 C dAL_grow1_4 ?_
  refine r_istore_n C dAL_grow1_5 (i := 2) rfl (Nat.le_of_ble_eq_true rfl) ?_
  dsimp only [List.set]
  refine r_iload_n C dAL_grow1_6 (i := 2) rfl rfl ?_
  refine r_if_gt C dAL_grow1_7 (t := 20) (by decide) (by first | assumption | exact R.rg _ _ | exact rg _ _ | (unfold inR; omega)) (fun c7 => ?_) (fun c7 => ?_)
  · skip
    exact absurd c7 (by decide)
  · skip
    refine r_aload_n C dAL_grow1_10 (i := 0) rfl rfl ?_
    refine r_getP C dAL_grow1_11 fAL_9 rfl hl hk ?_
    rw [show hP h l (1 : Nat) = some gx.1 from e1]
    refine r_gets C dAL_grow1_14 gsAL_39 ?_
    refine r_ac_eq C dAL_grow1_17 (t := 45) (by decide) (fun c17 => ?_) (fun c17 => ?_)
    · skip
      refine r_aload_n C dAL_grow1_45 (i := 0) rfl rfl ?_
      refine r_bipush C dAL_grow1_46 (by decide) ?_
      refine r_iload_n C dAL_grow1_48 (i := 1) rfl rfl ?_
      refine r_mmax C dAL_grow1_49 lAL_79 (by unfold inR; omega) (by unfold inR; omega) (Nat.le_of_ble_eq_true rfl) ?_
      rw [if_neg (by decide)]
      refine r_newO C dAL_grow1_52 kAL_7 (by decide) (by decide) (Nat.le_refl _) (Nat.le_refl _) (fun q hq => ?_)
      refine r_dup_x1 C dAL_grow1_55 rfl rfl ?_
      refine r_putP C dAL_grow1_56 fAL_9 (Or.inl rfl) rfl (List.mem_append.mpr (Or.inl hl)) ((if_neg (fun (z : l = q) => hq (z ▸ hl))).trans hk) ?_
      refine r_aret C dAL_grow1_59 rfl rfl ?_
      exact k q hq
    · skip
      exact absurd rfl c17

set_option maxRecDepth 100000 in
set_option maxHeartbeats 4000000 in
theorem C_AL_grow0 {gx : GX} {d : Nat} {Qr : Option AV → Hp → Prop} {Qx : String → Hp → Prop} {l : Nat} {h : Hp} (hl : l ∈ hD h) (hk : hK h l = 1) (hn : hI h l 2 = 0) (e1 : hP h l 1 = some gx.1) (k : ∀ q, q ∉ hD h → Qr (some (vr q)) (wP (hNew h q 13 10) l 1 (some q))) : aM gx (d + 4) mAL_grow0 [vr l] h 1 10 Qr Qx := by
  intro J C
  show J 0 [some (vr l)] [] h 1 10
  refine r_aload_n C dAL_grow0_0 (i := 0) rfl rfl ?_
  refine r_aload_n C dAL_grow0_1 (i := 0) rfl rfl ?_
  refine r_getI C dAL_grow0_2 fAL_48 rfl hl hk ?_
  rw [show hI h l (2 : Nat) = 0 from hn]
  refine r_iconst C dAL_grow0_5 ?_
  refine r_iadd C dAL_grow0_6 ?_
  refine r_callV C dAL_grow0_7 sAL_69 (As := [vi 1]) (fun v hv => by rw [List.mem_singleton.mp hv]; rfl) (ci := 0) (by decide) rfl hl hk (Nat.le_of_ble_eq_true rfl) (Nat.le_refl _) (Nat.le_refl _) (C_AL_grow1 hl hk e1 (fun q hq => ?_))
  refine r_aret C dAL_grow0_10 rfl rfl ?_
  exact k q hq

set_option maxRecDepth 100000 in
set_option maxHeartbeats 4000000 in
theorem C_AL_add3a {gx : GX} {d : Nat} {Qr : Option AV → Hp → Prop} {Qx : String → Hp → Prop} {l v a ci : Nat} {n : Int} {f : Int → Option Nat} {h : Hp} (L : LI gx h l n f) (e1 : hP h l 1 = some a) (ha : a ∈ hD h) (hka : hK h a = 13) (hna : n < hN h a) (hf : ∀ i, 0 ≤ i → i < n → hP h a i = f i) (hcap : 10 ≤ hN h a ∧ hN h a ≤ 1000) (hv : v ∈ hD h) (hkv : hK h v = ci + 1) (hci : ci < 7) (hcv : Cond.castable (cNm ci) "java/lang/Object" ∈ tb) (k : ∀ h1, LC gx h h1 l (n + 1) (fun j => if j = n then some v else f j) → Qr none h1) : aM gx (d + 5) mAL_add3 [vr l, vr v, vr a, vi n] h 0 0 Qr Qx := by
  intro J C
  show J 0 [some (vr l), some (vr v), some (vr a), some (vi n)] [] h 0 0
  obtain ⟨⟨hl, hk⟩, hn, hn0, hn1, -⟩ := L
  have hla : l ≠ a := fun z => by rw [z, hka] at hk; exact absurd hk (by decide)
  refine r_iload_n C dAL_add3_0 (i := 3) rfl rfl ?_
  refine r_aload_n C dAL_add3_1 (i := 2) rfl rfl ?_
  refine r_alen C dAL_add3_2 ha (by omega) (by omega) ?_
  refine r_ic_ne C dAL_add3_3 (t := 11) (by decide) (by first | assumption | exact R.rg _ _ | exact rg _ _ | (unfold inR; omega)) (by first | assumption | exact R.rg _ _ | exact rg _ _ | (unfold inR; omega)) (fun c3 => ?_) (fun c3 => ?_)
  · skip
    refine r_aload_n C dAL_add3_11 (i := 2) rfl rfl ?_
    refine r_iload_n C dAL_add3_12 (i := 3) rfl rfl ?_
    refine r_aload_n C dAL_add3_13 (i := 1) rfl rfl ?_
    refine r_aastO C dAL_add3_14 ha hka (by omega) (by omega) (by omega) hv hkv hci hcv ?_
    refine r_aload_n C dAL_add3_15 (i := 0) rfl rfl ?_
    refine r_iload_n C dAL_add3_16 (i := 3) rfl rfl ?_
    refine r_iconst C dAL_add3_17 ?_
    refine r_iadd C dAL_add3_18 ?_
    refine r_putI C dAL_add3_19 fAL_48 (Or.inl rfl) (Or.inl rfl) hl hk ?_
    refine r_ret C dAL_add3_22 rfl ?_
    refine k _ ⟨⟨⟨hl, hk⟩, ?_, by omega, by omega, Or.inr ⟨a, ?_, ha, hka, (show n + 1 ≤ hN h a by omega), hcap, fun j j0 j1 => ?_⟩⟩, (OT.wp h (Or.inr e1) _ _).trans (OT.wi _ (Or.inl rfl) _ _), Or.inl ?_⟩
    · exact if_pos ⟨rfl, rfl⟩
    · show hP (wP h a n (some v)) l 1 = some a
      rw [p_wp, if_neg (fun z => hla z.1), e1]
    · show hP (wP h a n (some v)) a j = _
      rw [p_wp]
      dsimp only
      by_cases z : j = n
      · rw [if_pos ⟨rfl, z⟩, if_pos z]
      · rw [if_neg (fun y => z y.2), if_neg z]; exact hf j j0 (by omega)
    · show hP (wP h a n (some v)) l 1 = hP h l 1
      rw [p_wp, if_neg (fun z => hla z.1)]
  · skip
    exfalso; omega

set_option maxRecDepth 100000 in
set_option maxHeartbeats 4000000 in
theorem C_AL_add3b {gx : GX} {d : Nat} {Qr : Option AV → Hp → Prop} {Qx : String → Hp → Prop} {l v ci : Nat} {f : Int → Option Nat} {h : Hp} (L : LI gx h l 0 f) (e1 : hP h l 1 = some gx.1) (hv : v ∈ hD h) (hkv : hK h v = ci + 1) (hci : ci < 7) (hcv : Cond.castable (cNm ci) "java/lang/Object" ∈ tb) (k : ∀ h1, LC gx h h1 l (0 + 1) (fun j => if j = 0 then some v else f j) → Qr none h1) : aM gx (d + 5) mAL_add3 [vr l, vr v, vr gx.1, vi 0] h 1 10 Qr Qx := by
  intro J C
  show J 0 [some (vr l), some (vr v), some (vr gx.1), some (vi 0)] [] h 1 10
  obtain ⟨⟨hl, hk⟩, hn, hn0, hn1, -⟩ := L
  refine r_iload_n C dAL_add3_0 (i := 3) rfl rfl ?_
  refine r_aload_n C dAL_add3_1 (i := 2) rfl rfl ?_
  refine r_alen0 C dAL_add3_2 ?_
  refine r_ic_ne C dAL_add3_3 (t := 11) (by decide) (by first | assumption | exact R.rg _ _ | exact rg _ _ | (unfold inR; omega)) (by first | assumption | exact R.rg _ _ | exact rg _ _ | (unfold inR; omega)) (fun c3 => ?_) (fun c3 => ?_)
  · skip
    exact absurd rfl c3
  · skip
    refine r_aload_n C dAL_add3_6 (i := 0) rfl rfl ?_
    refine r_callV C dAL_add3_7 sAL_129 (As := []) (fun v hv => by cases hv) (ci := 0) (by decide) rfl hl hk (Nat.le_of_ble_eq_true rfl) (Nat.le_refl _) (Nat.le_refl _) (C_AL_grow0 hl hk hn e1 (fun q hq => ?_))
    have hlq : l ≠ q := fun z => hq (z ▸ hl)
    have hvq : v ≠ q := fun z => hq (z ▸ hv)
    have hqD : q ∈ hD (wP (hNew h q 13 10) l 1 (some q)) := List.mem_append.mpr (Or.inr (List.mem_singleton.mpr rfl))
    have hqK : hK (wP (hNew h q 13 10) l 1 (some q)) q = 13 := if_pos rfl
    have hqN : hN (wP (hNew h q 13 10) l 1 (some q)) q = 10 := if_pos rfl
    have hlD : l ∈ hD (wP (hNew h q 13 10) l 1 (some q)) := List.mem_append.mpr (Or.inl hl)
    have hlK : hK (wP (hNew h q 13 10) l 1 (some q)) l = 1 := (if_neg hlq).trans hk
    have hvK : hK (wP (hNew h q 13 10) l 1 (some q)) v = ci + 1 := (if_neg hvq).trans hkv
    have hle : hP (wP (hNew h q 13 10) l 1 (some q)) l 1 = some q := if_pos ⟨rfl, rfl⟩
    have hO : OT h (wP (hNew h q 13 10) l 1 (some q)) (fun b => b = l ∨ hP h l 1 = some b) := (OT.nw hq 13 10).trans (OT.wp _ (Or.inl rfl) _ _)
    show J _ _ _ _ 0 0
    generalize wP (hNew h q 13 10) l 1 (some q) = h2 at hqD hqK hqN hlD hlK hvK hle hO ⊢
    clear hl hk
    have hl := hlD
    have hk := hlK
    refine r_astore_n C dAL_add3_10 (i := 2) rfl (Nat.le_of_ble_eq_true rfl) ?_
    dsimp only [List.set]
    refine r_aload_n C dAL_add3_11 (i := 2) rfl rfl ?_
    refine r_iload_n C dAL_add3_12 (i := 3) rfl rfl ?_
    refine r_aload_n C dAL_add3_13 (i := 1) rfl rfl ?_
    refine r_aastO C dAL_add3_14 hqD hqK (by decide) (by rw [hqN]; decide) (by decide) ((hO v hv).1) hvK hci hcv ?_
    refine r_aload_n C dAL_add3_15 (i := 0) rfl rfl ?_
    refine r_iload_n C dAL_add3_16 (i := 3) rfl rfl ?_
    refine r_iconst C dAL_add3_17 ?_
    refine r_iadd C dAL_add3_18 ?_
    refine r_putI C dAL_add3_19 fAL_48 (Or.inl rfl) (Or.inl rfl) hl hk ?_
    refine r_ret C dAL_add3_22 rfl ?_
    refine k _ ⟨⟨⟨hl, hk⟩, ?_, by omega, by omega, Or.inr ⟨q, ?_, hqD, hqK, ?_, ?_, fun j j0 j1 => ?_⟩⟩, hO.tr2 ((OT.wp h2 (S := fun b => b = q ∨ b = l) (Or.inl rfl) _ _).trans (OT.wi _ (Or.inr rfl) _ _)) (fun b hb z => z.elim (fun z => absurd (z ▸ hb) hq) (fun z => Or.inl z)), Or.inr ⟨q, ?_, hq, hqD⟩⟩
    · exact if_pos ⟨rfl, rfl⟩
    · show hP (wP h2 q 0 (some v)) l 1 = some q
      rw [p_wp, if_neg (fun z => hlq z.1), hle]
    · show (0 : Int) + 1 ≤ (hN h2 q : Nat)
      rw [hqN]; decide
    · show 10 ≤ hN h2 q ∧ hN h2 q ≤ 1000
      rw [hqN]; decide
    · show hP (wP h2 q 0 (some v)) q j = _
      rw [p_wp]
      dsimp only
      rw [if_pos ⟨rfl, by omega⟩, if_pos (by omega)]
    · show hP (wP h2 q 0 (some v)) l 1 = some q
      rw [p_wp, if_neg (fun z => hlq z.1), hle]

/-- the count of changes -/
theorem LI.mc {gx : GX} {h : Hp} {l : Nat} {n : Int} {f : Int → Option Nat} (L : LI gx h l n f) (x : Int) : LI gx (wI h l (0 : Nat) x) l n f := by
  obtain ⟨⟨hl, hk⟩, hn, hn0, hn1, L⟩ := L
  exact ⟨⟨hl, hk⟩, by rw [i_wi, if_neg (fun z => absurd z.2 (by decide))]; exact hn, hn0, hn1, L⟩
theorem LC.mc {gx : GX} {h h1 : Hp} {l : Nat} {n x : Int} {f : Int → Option Nat} (L : LC gx (wI h l (0 : Nat) x) h1 l n f) : LC gx h h1 l n f :=
  ⟨L.1, (OT.wi h (S := fun b => b = l ∨ hP h l 1 = some b) (Or.inl rfl) _ _).trans L.2.1, L.2.2⟩

set_option maxRecDepth 100000 in
set_option maxHeartbeats 4000000 in
theorem C_AL_add1 {gx : GX} {d : Nat} {Qr : Option AV → Hp → Prop} {Qx : String → Hp → Prop} {l v ci : Nat} {n : Int} {f : Int → Option Nat} {h : Hp} (L : LI gx h l n f) (hn10 : n < 10) (hv : v ∈ hD h) (hkv : hK h v = ci + 1) (hci : ci < 7) (hcv : Cond.castable (cNm ci) "java/lang/Object" ∈ tb) (k : ∀ h1, LC gx h h1 l (n + 1) (fun j => if j = n then some v else f j) → Qr (some (vi 1)) h1) : aM gx (d + 6) mAL_add1 [vr l, vr v] h 1 10 Qr Qx := by
  intro J C
  show J 0 [some (vr l), some (vr v)] [] h 1 10
  have L0 := L
  obtain ⟨⟨hl, hk⟩, hn, hn0, hn1, LL⟩ := L
  refine r_aload_n C dAL_add1_0 (i := 0) rfl rfl ?_
  refine r_dup C dAL_add1_1 rfl ?_
  refine r_getI C dAL_add1_2 fAL_63 rfl hl hk ?_
  refine r_iconst C dAL_add1_5 ?_
  refine r_iadd C dAL_add1_6 ?_
  refine r_putI C dAL_add1_7 fAL_63 (Or.inl rfl) (Or.inl rfl) hl hk ?_
  have L1 := L0.mc (hI h l (0 : Nat) + 1)
  have kv : hI (wI h l (0 : Nat) (hI h l (0 : Nat) + 1)) l (2 : Nat) = n := by rw [i_wi, if_neg (fun z => absurd z.2 (by decide))]; exact hn
  replace k := fun h1 (z : LC gx (wI h l (0 : Nat) (hI h l (0 : Nat) + 1)) h1 l (n + 1) (fun j => if j = n then some v else f j)) => k h1 z.mc
  have kl : hP (wI h l (0 : Nat) (hI h l (0 : Nat) + 1)) l (1 : Nat) = hP h l 1 := rfl
  revert k L1 kv kl
  generalize hh : wI h l (0 : Nat) (hI h l (0 : Nat) + 1) = h0
  intro L1 kv k kl
  have hl0 : l ∈ hD h0 := by rw [← hh]; exact hl
  have hk0 : hK h0 l = 1 := by rw [← hh]; exact hk
  have hv0 : v ∈ hD h0 := by rw [← hh]; exact hv
  have hkv0 : hK h0 v = ci + 1 := by rw [← hh]; exact hkv
  clear hl hk hv hkv
  have hl := hl0; have hk := hk0
  refine r_aload_n C dAL_add1_10 (i := 0) rfl rfl ?_
  refine r_aload_n C dAL_add1_11 (i := 1) rfl rfl ?_
  refine r_aload_n C dAL_add1_12 (i := 0) rfl rfl ?_
  refine r_getP C dAL_add1_13 fAL_9 rfl hl hk ?_
  refine r_aload_n C dAL_add1_16 (i := 0) rfl rfl ?_
  refine r_getI C dAL_add1_17 fAL_48 rfl hl hk ?_
  rw [show hI h0 l (2 : Nat) = n from kv]
  have L2 := L1
  obtain ⟨-, -, -, -, LL⟩ := L1
  obtain ⟨r, er⟩ : ∃ r, r = hP h0 l (1 : Nat) := ⟨_, rfl⟩
  rw [← er]
  rcases LL with ⟨zn, zp⟩ | ⟨a, zp, ha, hka, hna, hcap, hf⟩
  case inl =>
    have e2 : r = some gx.1 := er.trans zp
    subst zn; subst e2
    refine r_callV C dAL_add1_20 sAL_131 (As := [vr v, vr gx.1, vi 0]) (fun v hv => by simp only [List.mem_cons, List.mem_nil_iff, or_false] at hv; rcases hv with hv | hv | hv <;> subst hv <;> rfl) (ci := 0) (by decide) rfl hl hk (Nat.le_of_ble_eq_true rfl) (Nat.le_refl _) (Nat.le_refl _) (C_AL_add3b L2 zp hv0 hkv0 hci hcv (fun h1 R => ?_))
    refine r_iconst C dAL_add1_23 ?_
    refine r_iret C dAL_add1_24 (Or.inr ⟨rfl, Or.inr rfl⟩) ?_
    exact k _ R
  have e2 : r = some a := er.trans zp
  subst e2
  refine r_callV C dAL_add1_20 sAL_131 (As := [vr v, vr a, vi n]) (fun v hv => by simp only [List.mem_cons, List.mem_nil_iff, or_false] at hv; rcases hv with hv | hv | hv <;> subst hv <;> rfl) (ci := 0) (by decide) rfl hl hk (Nat.le_of_ble_eq_true rfl) (Nat.zero_le _) (Nat.zero_le _) (C_AL_add3a L2 zp ha hka (by omega) hf hcap hv0 hkv0 hci hcv (fun h1 R => ?_))
  refine r_iconst C dAL_add1_23 ?_
  refine r_iret C dAL_add1_24 (Or.inr ⟨rfl, (by first | assumption | omega | decide)⟩) ?_
  exact k _ R

