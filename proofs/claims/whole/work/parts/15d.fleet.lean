/-! ===== the class: a new fleet ===== -/
theorem g0_z {k : Nat} (h : k ≠ 2) (j : Int) : g0T k j = 0 := if_neg (fun z => h z.1)
theorem g0_2 : g0T 2 0 = 1 := if_pos ⟨rfl, rfl⟩
theorem iw_g0 : IW g0T := by
  have z := fun (k : Nat) (h : k ≠ 2) (j : Int) => g0_z h j
  have B : BD g0T := by
    refine ⟨by rw [z 4 (by decide)]; decide, by rw [z 11 (by decide)]; decide, by rw [z 22 (by decide)]; decide, fun n => Or.inl (z 7 (by decide) n), fun n => Or.inl (z 9 (by decide) n), fun n => Or.inl (z 15 (by decide) n), fun p h0 h1 => ?_, fun p k h0 h1 => ?_, fun f h0 h1 => ?_, fun f k h0 h1 => ?_, fun p h0 h1 => ?_⟩
    · rw [z 11 (by decide)] at h1; omega
    · rw [z 11 (by decide)] at h1; omega
    · rw [z 22 (by decide)] at h1; omega
    · rw [z 22 (by decide)] at h1; omega
    · rw [z 11 (by decide)] at h1; omega
  refine ⟨⟨B, fun p h0 h1 => ?_, fun j => by rw [z 19 (by decide)]; decide, fun p n h0 h1 => ?_, fun p h0 h1 => ?_⟩, fun n p _ _ _ _ _ => z 18 (by decide) _, fun p h0 h1 => ?_, fun j => by rw [z 21 (by decide), z 19 (by decide)]; decide, fun j => by rw [z 18 (by decide)]; decide⟩
  · rw [z 11 (by decide)] at h1; omega
  · rw [z 11 (by decide)] at h1; omega
  · rw [z 11 (by decide)] at h1; omega
  · rw [z 11 (by decide)] at h1; omega
theorem g0_rg : ∀ k j, inR (g0T k j) := fun k j => by
  unfold g0T
  split
  · exact inR1
  · exact inR0
def A8 (l0 l1 l2 : Nat) : Nat → Int → Nat := fun _ j => if j = 0 then l0 else if j = 1 then l1 else l2
theorem rs_0 {gx : GX} {x l0 l1 l2 : Nat} {h : Hp} (hg : gx.1 ∉ hD h) (hx : x ∈ hD h ∧ hK h x = 6) (p0 : hP h x 0 = some l0) (p1 : hP h x 1 = some l1) (p2 : hP h x 2 = some l2) (i3 : hI h x 3 = 0) (i4 : hI h x 4 = 1) (i5 : hI h x 5 = 0)
    (L0 : LI gx h l0 0 (fun _ => none) ∧ hP h l0 1 = some gx.1) (L1 : LI gx h l1 0 (fun _ => none) ∧ hP h l1 1 = some gx.1) (L2 : LI gx h l2 0 (fun _ => none) ∧ hP h l2 1 = some gx.1) (n01 : l0 ≠ l1) (n02 : l0 ≠ l2) (n12 : l1 ≠ l2) : Rs gx x (A8 l0 l1 l2) (fun _ _ => 0) g0T h := by
  have z := fun (k : Nat) (h : k ≠ 2) (j : Int) => g0_z h j
  have one : ∀ k j, VA g0T k j → k = 8 ∧ (j = 0 ∨ j = 1 ∨ j = 2) := by
    intro k j v
    match k, v with
    | 0, v => exact absurd v.2 (by rw [z 4 (by decide)]; have := v.1; omega)
    | 1, v => exact absurd v.2 (by rw [z 4 (by decide)]; have := v.1; omega)
    | 2, v => exact absurd v.2.1 (by rw [z 4 (by decide)]; have := v.1; omega)
    | 3, v => exact absurd v.2.1 (by rw [z 4 (by decide)]; have := v.1; omega)
    | 4, v => exact absurd v.2 (by rw [z 11 (by decide)]; have := v.1; omega)
    | 5, v => exact absurd v.2 (by rw [z 11 (by decide)]; have := v.1; omega)
    | 6, v => exact absurd v.2 (by rw [z 22 (by decide)]; have := v.1; omega)
    | 7, v => exact absurd v.2 (by rw [z 22 (by decide)]; have := v.1; omega)
    | 8, v => exact ⟨rfl, by have := v.1; have b : j < 3 := v.2; omega⟩
    | _ + 9, v => exact absurd v id
  have a0 : ∀ k, A8 l0 l1 l2 k 0 = l0 := fun _ => rfl
  have a1 : ∀ k, A8 l0 l1 l2 k 1 = l1 := fun _ => rfl
  have a2 : ∀ k, A8 l0 l1 l2 k 2 = l2 := fun _ => rfl
  refine ⟨⟨⟨hg, ⟨hx, ⟨p0, p1, p2⟩, ⟨i3, i4, i5⟩, L0.1.c (fun i i0 i1 => ?_), L1.1.c (fun i i0 i1 => ?_), L2.1.c (fun i i0 i1 => ?_)⟩, fun n n0 n1 => ?_, fun n i n0 n1 => ?_, fun p h0 h1 => ?_, fun f h0 h1 => ?_, fun k j k' j' v v' e => ?_, fun k j k' j' a _ _ v _ ha e _ => ?_, g0_rg, fun _ _ => inR0, fun n n0 n1 => ?_⟩, iw_g0, fun n i n0 n1 => ?_, fun n p n0 n1 => ?_, fun n i j n0 n1 => ?_, fun n n0 n1 => ?_⟩, ⟨fun p h0 h1 => ?_, fun f h0 h1 => ?_⟩, fun p h0 h1 => ?_, fun p h0 h1 => ?_⟩
  · exact absurd i1 (by omega)
  · exact absurd i1 (by omega)
  · exact absurd i1 (by omega)
  · rw [z 4 (by decide)] at n1; omega
  · rw [z 4 (by decide)] at n1; omega
  · rw [z 11 (by decide)] at h1; omega
  · rw [z 22 (by decide)] at h1; omega
  · obtain ⟨rfl, c⟩ := one k j v
    obtain ⟨rfl, d⟩ := one k' j' v'
    refine ⟨rfl, ?_⟩
    rcases c with rfl | rfl | rfl <;> rcases d with rfl | rfl | rfl <;> first | rfl | exact absurd e n01 | exact absurd e n02 | exact absurd e n12 | exact absurd e.symm n01 | exact absurd e.symm n02 | exact absurd e.symm n12
  · exfalso
    obtain ⟨rfl, c⟩ := one k j v
    rcases c with rfl | rfl | rfl
    · exact hg (Option.some.inj (L0.2.symm.trans e) ▸ ha)
    · exact hg (Option.some.inj (L1.2.symm.trans e) ▸ ha)
    · exact hg (Option.some.inj (L2.2.symm.trans e) ▸ ha)
  · rw [z 4 (by decide)] at n1; omega
  · rw [z 4 (by decide)] at n1; omega
  · rw [z 4 (by decide)] at n1; omega
  · rw [z 4 (by decide)] at n1; omega
  · rw [z 4 (by decide)] at n1; omega
  · rw [z 11 (by decide)] at h1; omega
  · rw [z 22 (by decide)] at h1; omega
  · rw [z 11 (by decide)] at h1; omega
  · rw [z 11 (by decide)] at h1; omega

set_option maxRecDepth 100000 in
set_option maxHeartbeats 4000000 in
theorem C_X4_init {gx : GX} {d : Nat} {Qr : Option AV → Hp → Prop} {Qx : String → Hp → Prop} {x : Nat} {h : Hp} (hx : x ∈ hD h) (hk : hK h x = 6) (K : ∀ A u h1, Rs gx x A u g0T h1 → Qr none h1) : aM gx (d + 4) mX4_init [vr x] h 3 9 Qr Qx := by
  intro J C
  show J 0 [some (vr x)] [] h 3 9
  refine r_aload_n C dX4_init_0 (i := 0) rfl rfl ?_
  refine r_objI C dX4_init_1 lX4_1 (Nat.le_of_ble_eq_true rfl) ?_
  refine r_aload_n C dX4_init_4 (i := 0) rfl rfl ?_
  refine r_new C dX4_init_5 (ci := 0) (by decide) kX4_7 (Nat.le_of_ble_eq_true rfl) (Nat.le_of_ble_eq_true rfl) (fun l0 hl0 => ?_)
  have hl0' : l0 ∉ hD h := hl0
  have xl0 : x ≠ l0 := fun z => hl0' (z ▸ hx)
  refine r_dup C dX4_init_8 rfl ?_
  refine r_callI C dX4_init_9 sX4_9 (As := []) (fun v hv => by cases hv) (Nat.le_of_ble_eq_true rfl) (Nat.zero_le _) (Nat.zero_le _) (C_AL_init (List.mem_append.mpr (Or.inr (List.mem_singleton.mpr rfl))) (if_pos rfl) ?_)
  have ml0 : x ∈ hD (hNew h l0 1 3) := List.mem_append.mpr (Or.inl hx)
  have kl0 : hK (hNew h l0 1 3) x = 6 := (if_neg xl0).trans hk
  refine r_putP C dX4_init_12 fX4_10 (Or.inr ⟨rfl, rfl, rfl⟩) rfl ml0 kl0 ?_
  obtain ⟨h1, eh1⟩ : ∃ h1, h1 = wP (wP (wI (hNew h l0 (0 + 1) (nF 0)) l0 (0 : Nat) 0) l0 (1 : Nat) (some gx.1)) x (0 : Nat) (some l0) := ⟨_, rfl⟩
  rw [← eh1]
  have xh1 : x ∈ hD h1 ∧ hK h1 x = 6 := by rw [eh1]; exact ⟨ml0, kl0⟩
  have dh1 : ∀ z, z ∈ hD h → z ∈ hD h1 ∧ hK h1 z = hK h z ∧ (z ≠ x → (∀ j, hI h1 z j = hI h z j) ∧ (∀ j, hP h1 z j = hP h z j)) := fun z hz => by
    have zl : z ≠ l0 := fun y => hl0' (y ▸ hz)
    rw [eh1]
    refine ⟨List.mem_append.mpr (Or.inl hz), if_neg zl, fun zx => ⟨fun j => ?_, fun j => ?_⟩⟩
    · simp only [i_wi, i_wp, i_nw]; simp [zl]
    · simp only [p_wp, p_wi, p_nw]; simp [zl, zx]
  have lh1 : (l0 ∈ hD h1 ∧ hK h1 l0 = 1) ∧ hI h1 l0 2 = 0 ∧ hP h1 l0 1 = some gx.1 := by
    rw [eh1]
    refine ⟨⟨List.mem_append.mpr (Or.inr (List.mem_singleton.mpr rfl)), if_pos rfl⟩, ?_, ?_⟩
    · simp only [i_wi, i_wp, i_nw]; simp
    · simp only [p_wp, p_wi, p_nw]; simp [xl0.symm]
  have ph1 : ∀ j, hP h1 x j = if j = (0 : Nat) then some l0 else hP h x j := fun j => by
    rw [eh1]
    simp only [p_wp, p_wi, p_nw]; simp [xl0]
  refine r_aload_n C dX4_init_15 (i := 0) rfl rfl ?_
  refine r_new C dX4_init_16 (ci := 0) (by decide) kX4_7 (Nat.le_of_ble_eq_true rfl) (Nat.le_of_ble_eq_true rfl) (fun l1 hl1 => ?_)
  have hl1' : l1 ∉ hD h1 := hl1
  have xl1 : x ≠ l1 := fun z => hl1' (z ▸ xh1.1)
  refine r_dup C dX4_init_19 rfl ?_
  refine r_callI C dX4_init_20 sX4_9 (As := []) (fun v hv => by cases hv) (Nat.le_of_ble_eq_true rfl) (Nat.zero_le _) (Nat.zero_le _) (C_AL_init (List.mem_append.mpr (Or.inr (List.mem_singleton.mpr rfl))) (if_pos rfl) ?_)
  have ml1 : x ∈ hD (hNew h1 l1 1 3) := List.mem_append.mpr (Or.inl xh1.1)
  have kl1 : hK (hNew h1 l1 1 3) x = 6 := (if_neg xl1).trans xh1.2
  refine r_putP C dX4_init_23 fX4_16 (Or.inr ⟨rfl, rfl, rfl⟩) rfl ml1 kl1 ?_
  obtain ⟨h2, eh2⟩ : ∃ h2, h2 = wP (wP (wI (hNew h1 l1 (0 + 1) (nF 0)) l1 (0 : Nat) 0) l1 (1 : Nat) (some gx.1)) x (1 : Nat) (some l1) := ⟨_, rfl⟩
  rw [← eh2]
  have xh2 : x ∈ hD h2 ∧ hK h2 x = 6 := by rw [eh2]; exact ⟨ml1, kl1⟩
  have dh2 : ∀ z, z ∈ hD h1 → z ∈ hD h2 ∧ hK h2 z = hK h1 z ∧ (z ≠ x → (∀ j, hI h2 z j = hI h1 z j) ∧ (∀ j, hP h2 z j = hP h1 z j)) := fun z hz => by
    have zl : z ≠ l1 := fun y => hl1' (y ▸ hz)
    rw [eh2]
    refine ⟨List.mem_append.mpr (Or.inl hz), if_neg zl, fun zx => ⟨fun j => ?_, fun j => ?_⟩⟩
    · simp only [i_wi, i_wp, i_nw]; simp [zl]
    · simp only [p_wp, p_wi, p_nw]; simp [zl, zx]
  have lh2 : (l1 ∈ hD h2 ∧ hK h2 l1 = 1) ∧ hI h2 l1 2 = 0 ∧ hP h2 l1 1 = some gx.1 := by
    rw [eh2]
    refine ⟨⟨List.mem_append.mpr (Or.inr (List.mem_singleton.mpr rfl)), if_pos rfl⟩, ?_, ?_⟩
    · simp only [i_wi, i_wp, i_nw]; simp
    · simp only [p_wp, p_wi, p_nw]; simp [xl1.symm]
  have ph2 : ∀ j, hP h2 x j = if j = (1 : Nat) then some l1 else hP h1 x j := fun j => by
    rw [eh2]
    simp only [p_wp, p_wi, p_nw]; simp [xl1]
  refine r_aload_n C dX4_init_26 (i := 0) rfl rfl ?_
  refine r_new C dX4_init_27 (ci := 0) (by decide) kX4_7 (Nat.le_of_ble_eq_true rfl) (Nat.le_of_ble_eq_true rfl) (fun l2 hl2 => ?_)
  have hl2' : l2 ∉ hD h2 := hl2
  have xl2 : x ≠ l2 := fun z => hl2' (z ▸ xh2.1)
  refine r_dup C dX4_init_30 rfl ?_
  refine r_callI C dX4_init_31 sX4_9 (As := []) (fun v hv => by cases hv) (Nat.le_of_ble_eq_true rfl) (Nat.zero_le _) (Nat.zero_le _) (C_AL_init (List.mem_append.mpr (Or.inr (List.mem_singleton.mpr rfl))) (if_pos rfl) ?_)
  have ml2 : x ∈ hD (hNew h2 l2 1 3) := List.mem_append.mpr (Or.inl xh2.1)
  have kl2 : hK (hNew h2 l2 1 3) x = 6 := (if_neg xl2).trans xh2.2
  refine r_putP C dX4_init_34 fX4_19 (Or.inr ⟨rfl, rfl, rfl⟩) rfl ml2 kl2 ?_
  obtain ⟨h3, eh3⟩ : ∃ h3, h3 = wP (wP (wI (hNew h2 l2 (0 + 1) (nF 0)) l2 (0 : Nat) 0) l2 (1 : Nat) (some gx.1)) x (2 : Nat) (some l2) := ⟨_, rfl⟩
  rw [← eh3]
  have xh3 : x ∈ hD h3 ∧ hK h3 x = 6 := by rw [eh3]; exact ⟨ml2, kl2⟩
  have dh3 : ∀ z, z ∈ hD h2 → z ∈ hD h3 ∧ hK h3 z = hK h2 z ∧ (z ≠ x → (∀ j, hI h3 z j = hI h2 z j) ∧ (∀ j, hP h3 z j = hP h2 z j)) := fun z hz => by
    have zl : z ≠ l2 := fun y => hl2' (y ▸ hz)
    rw [eh3]
    refine ⟨List.mem_append.mpr (Or.inl hz), if_neg zl, fun zx => ⟨fun j => ?_, fun j => ?_⟩⟩
    · simp only [i_wi, i_wp, i_nw]; simp [zl]
    · simp only [p_wp, p_wi, p_nw]; simp [zl, zx]
  have lh3 : (l2 ∈ hD h3 ∧ hK h3 l2 = 1) ∧ hI h3 l2 2 = 0 ∧ hP h3 l2 1 = some gx.1 := by
    rw [eh3]
    refine ⟨⟨List.mem_append.mpr (Or.inr (List.mem_singleton.mpr rfl)), if_pos rfl⟩, ?_, ?_⟩
    · simp only [i_wi, i_wp, i_nw]; simp
    · simp only [p_wp, p_wi, p_nw]; simp [xl2.symm]
  have ph3 : ∀ j, hP h3 x j = if j = (2 : Nat) then some l2 else hP h2 x j := fun j => by
    rw [eh3]
    simp only [p_wp, p_wi, p_nw]; simp [xl2]
  refine r_aload_n C dX4_init_37 (i := 0) rfl rfl ?_
  refine r_iconst C dX4_init_38 ?_
  refine r_putI C dX4_init_39 fX4_22 (Or.inl rfl) (Or.inl rfl) xh3.1 xh3.2 ?_
  refine r_aload_n C dX4_init_42 (i := 0) rfl rfl ?_
  refine r_iconst C dX4_init_43 ?_
  refine r_putI C dX4_init_44 fX4_26 (Or.inl rfl) (Or.inl rfl) xh3.1 xh3.2 ?_
  refine r_aload_n C dX4_init_47 (i := 0) rfl rfl ?_
  refine r_iconst C dX4_init_48 ?_
  refine r_putI C dX4_init_49 fX4_29 (Or.inl rfl) (Or.inr ⟨rfl, Or.inl rfl⟩) xh3.1 xh3.2 ?_
  refine r_gxn C (fun hg => ?_)
  refine r_ret C dX4_init_52 rfl ?_
  have x0 : l0 ≠ x := xl0.symm
  have x1 : l1 ≠ x := xl1.symm
  have x2 : l2 ≠ x := xl2.symm
  have n01 : l0 ≠ l1 := fun z => hl1' (z ▸ lh1.1.1)
  have n02 : l0 ≠ l2 := fun z => hl2' (z ▸ (dh2 l0 lh1.1.1).1)
  have n12 : l1 ≠ l2 := fun z => hl2' (z ▸ lh2.1.1)
  have q1 := dh2 l0 lh1.1.1
  have q2 := dh3 l0 q1.1
  have q3 := dh3 l1 lh2.1.1
  have I : ∀ l, l ≠ x → ∀ j, hI (wI (wI (wI h3 x (3 : Nat) 0) x (4 : Nat) 1) x (5 : Nat) 0) l j = hI h3 l j := fun l hl j => by simp only [i_wi]; simp [hl]
  refine K (A8 l0 l1 l2) (fun _ _ => 0) _ (rs_0 hg xh3 ?_ ?_ ?_ ?_ ?_ ?_ ⟨⟨⟨q2.1, q2.2.1.trans (q1.2.1.trans lh1.1.2)⟩, ?_, by decide, by decide, Or.inl ⟨rfl, ?_⟩⟩, ?_⟩ ⟨⟨⟨q3.1, q3.2.1.trans lh2.1.2⟩, ?_, by decide, by decide, Or.inl ⟨rfl, ?_⟩⟩, ?_⟩ ⟨⟨lh3.1, ?_, by decide, by decide, Or.inl ⟨rfl, ?_⟩⟩, ?_⟩ n01 n02 n12)
  · show hP h3 x 0 = _
    rw [ph3, if_neg (by decide), ph2, if_neg (by decide), ph1, if_pos (by decide)]
  · show hP h3 x 1 = _
    rw [ph3, if_neg (by decide), ph2, if_pos (by decide)]
  · show hP h3 x 2 = _
    rw [ph3, if_pos (by decide)]
  · simp only [i_wi]; simp
  · simp only [i_wi]; simp
  · simp only [i_wi]; simp
  · rw [I l0 x0, (q2.2.2 x0).1, (q1.2.2 x0).1]; exact lh1.2.1
  · exact ((q2.2.2 x0).2 1).trans (((q1.2.2 x0).2 1).trans lh1.2.2)
  · exact ((q2.2.2 x0).2 1).trans (((q1.2.2 x0).2 1).trans lh1.2.2)
  · rw [I l1 x1, (q3.2.2 x1).1]; exact lh2.2.1
  · exact ((q3.2.2 x1).2 1).trans lh2.2.2
  · exact ((q3.2.2 x1).2 1).trans lh2.2.2
  · rw [I l2 x2]; exact lh3.2.1
  · exact lh3.2.2
  · exact lh3.2.2

