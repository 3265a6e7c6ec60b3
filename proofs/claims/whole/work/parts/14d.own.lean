/-! ===== the class: a piece of one's own ===== -/
def RK (g : GT) : Prop := ∀ n, 0 ≤ n → n < g 4 0 → 0 ≤ g 5 n
theorem nr_fg {g : GT} (B : BD g) (rk : RK g) {p : Int} (p0 : 0 ≤ p) (p1 : p < g 11 0) : nrG g p (-1) = fgG g p 0 := by
  unfold nrG
  rcases pick_kn (g := g) p (fun n => decide (goodP g p n ∧ g 5 n = -1)) with h | h
  · rw [if_pos h]
  · have a := h.1.r B p0 p1
    have b := (of_decide_eq_true h.2).2
    have c := rk _ a.1 a.2
    omega
theorem i_nw (h : Hp) (q kd n : Nat) (b : Nat) (j : Int) : hI (hNew h q kd n) b j = if b = q then 0 else hI h b j := rfl
theorem p_nw (h : Hp) (q kd n : Nat) (b : Nat) (j : Int) : hP (hNew h q kd n) b j = if b = q then none else hP h b j := rfl
theorem i_wp (h : Hp) (a : Nat) (k : Int) (v : Option Nat) (b : Nat) (j : Int) : hI (wP h a k v) b j = hI h b j := rfl
theorem p_wi (h : Hp) (a : Nat) (k v : Int) (b : Nat) (j : Int) : hP (wI h a k v) b j = hP h b j := rfl
/-- one entry of a row changes -/
theorem fc_1 {g g' : GT} {f w v : Int} (w0 : 0 ≤ w) (w1 : w < g 25 f) (e25 : g' 25 f = g 25 f) (e26 : ∀ k, 0 ≤ k → k < g 25 f → k ≠ w → g' 26 (6 * f + k) = g 26 (6 * f + k)) (ev : g' 26 (6 * f + w) = v) (p : Int) : fcG g' p f = fcG g p f - (if g 26 (6 * f + w) = p then 1 else 0) + (if v = p then 1 else 0) := by
  have ee : ∀ k, 0 ≤ k → k < g 25 f → k ≠ w → decide (g' 26 (6 * f + k) = p) = decide (g 26 (6 * f + k) = p) := fun k a b c => by rw [e26 k a b c]
  unfold fcG
  rw [e25]
  by_cases a : g 26 (6 * f + w) = p
  · rw [if_pos a]
    by_cases b : v = p
    · rw [if_pos b, cnt_c (f := fun k => decide (g 26 (6 * f + k) = p)) (f' := fun k => decide (g' 26 (6 * f + k) = p)) (fun k k0 k1 => by
        by_cases c : k = w
        · rw [c]; exact (decide_eq_true (ev.trans b)).trans (decide_eq_true a).symm
        · exact ee k k0 k1 c)]
      omega
    · rw [if_neg b, cnt_off (f := fun k => decide (g 26 (6 * f + k) = p)) (f' := fun k => decide (g' 26 (6 * f + k) = p)) w0 w1 (decide_eq_true a) (decide_eq_false (fun z => b (ev.symm.trans z))) ee]
      omega
  · rw [if_neg a]
    by_cases b : v = p
    · rw [if_pos b, cnt_on (f := fun k => decide (g 26 (6 * f + k) = p)) (f' := fun k => decide (g' 26 (6 * f + k) = p)) w0 w1 (decide_eq_false a) (decide_eq_true (ev.trans b)) ee]
      omega
    · rw [if_neg b, cnt_c (f := fun k => decide (g 26 (6 * f + k) = p)) (f' := fun k => decide (g' 26 (6 * f + k) = p)) (fun k k0 k1 => by
        by_cases c : k = w
        · rw [c]; exact (decide_eq_false (fun z => b (ev.symm.trans z))).trans (decide_eq_false a).symm
        · exact ee k k0 k1 c)]
      omega
theorem fw_row {g g' : GT} {f : Int} (f0 : 0 ≤ f) (f1 : f < g 22 0) (h : g 23 f ≠ 2) (e22 : g' 22 0 = g 22 0) (e23 : ∀ j, g' 23 j = g 23 j) {p : Int} (ec : ∀ q, 0 ≤ q → q < g 22 0 → q ≠ f → fcG g' p q = fcG g p q) : fwG g' p (-1) = fwG g p (-1) - fcG g p f + fcG g' p f := by
  unfold fwG
  rw [e22, sum_off (f := fun q => if g 23 q ≠ 2 ∧ q ≠ -1 then fcG g p q else 0) f0 f1 (fun k k0 k1 ne => by rw [e23, ec k k0 k1 ne])]
  rw [e23, if_pos ⟨h, by omega⟩, if_pos ⟨h, by omega⟩]
theorem fc_cg {g g' : GT} {f p : Int} (e25 : g' 25 f = g 25 f) (e26 : ∀ k, 0 ≤ k → k < g 25 f → g' 26 (6 * f + k) = g 26 (6 * f + k)) : fcG g' p f = fcG g p f := by
  unfold fcG
  rw [e25]
  exact cnt_c (fun k a b => by rw [e26 k a b])
theorem fc_z {g : GT} {f p : Int} (h : ∀ k, 0 ≤ k → k < g 25 f → g 26 (6 * f + k) ≠ p) : fcG g p f = 0 := cnt_z (fun k a b => decide_eq_false (h k a b))
theorem fw_np {g : GT} (B : BD g) {p : Int} (hp : g 11 0 ≤ p) (b : Int) : fwG g p b = 0 := fw_z (fun f k f0 f1 _ k0 k1 e => by have := (B.re f k f0 f1 k0 k1).2; omega)
/-- the copies that a new piece takes over are nowhere else -/
theorem pt3_i {g : GT} (W : IW g) (h : g 11 0 < 60) (o l i : Int) : 0 ≤ itrI (ptF o l (g 11 0)) i (npG g) 16 (g 11 0) ∧ ∀ n, 0 ≤ n → n < 8 → ¬ KN (itrI (ptF o l (g 11 0)) i (npG g)) (g 11 0) n → itrI (ptF o l (g 11 0)) i (npG g) 18 (60 * n + g 11 0) = 0 := by
  have b2 := W.b.np
  refine itrI_ind (P := fun s => 0 ≤ s 16 (g 11 0) ∧ ∀ n, 0 ≤ n → n < 8 → ¬ KN s (g 11 0) n → s 18 (60 * n + g 11 0) = 0) _ ⟨?_, fun n n0 n1 _ => ?_⟩ (fun k s _ _ S => ?_)
  · rw [np_16, if_pos rfl]; exact Int.le_refl _
  · rw [np_ne g (by decide)]
    exact W.z n _ n0 n1 b2.1 h (Or.inr (Int.le_refl _))
  · unfold ptF
    split
    · have e16 : gtG s (s 17 (8 * o + k)) (g 11 0) l o 16 (g 11 0) = s 16 (g 11 0) := gt_ne _ _ _ _ _ (by decide) _
      refine ⟨by rw [kn_16, e16]; omega, fun n n0 n1 hn => ?_⟩
      rw [kn_kn (by rw [e16]; exact S.1), KN.c (fun j => gt_ne _ _ _ _ _ (by decide) j) (fun j => gt_ne _ _ _ _ _ (by decide) j)] at hn
      rw [kn_ne _ _ _ (by decide) (by decide), gt_18, if_neg (fun z => hn (Or.inr (by omega)))]
      exact S.2 n n0 n1 (fun z => hn (Or.inl z))
    · exact S

set_option maxRecDepth 100000 in
set_option maxHeartbeats 4000000 in
theorem C_X3_init {gx : GX} {d : Nat} {Qr : Option AV → Hp → Prop} {Qx : String → Hp → Prop} {q : Nat} {i : Int} {h : Hp} (hq : q ∈ hD h) (hk : hK h q = 5) (K : ∀ l h1, l ∉ hD h → OT h h1 (fun b => b = q) → (q ∈ hD h1 ∧ hK h1 q = 5) → (hI h1 q 0 = i ∧ hI h1 q 1 = 1 ∧ hI h1 q 2 = 1 ∧ hI h1 q 4 = -1 ∧ hI h1 q 5 = -1) → hP h1 q 3 = none → hP h1 q 6 = some l → LI gx h1 l 0 (fun _ => none) → hP h1 l 1 = some gx.1 → Qr none h1) : aM gx (d + 4) mX3_init [vr q, vi i] h 1 3 Qr Qx := by
  intro J C
  show J 0 [some (vr q), some (vi i)] [] h 1 3
  refine r_aload_n C dX3_init_0 (i := 0) rfl rfl ?_
  refine r_objI C dX3_init_1 oX3_3 (Nat.le_of_ble_eq_true rfl) ?_
  refine r_aload_n C dX3_init_4 (i := 0) rfl rfl ?_
  refine r_iconst C dX3_init_5 ?_
  refine r_putI C dX3_init_6 fX3_9 (Or.inl rfl) (Or.inl rfl) hq hk ?_
  refine r_aload_n C dX3_init_9 (i := 0) rfl rfl ?_
  refine r_iconst C dX3_init_10 ?_
  refine r_putI C dX3_init_11 fX3_15 (Or.inl rfl) (Or.inl rfl) hq hk ?_
  refine r_aload_n C dX3_init_14 (i := 0) rfl rfl ?_
  refine r_anull C dX3_init_15 ?_
  refine r_putP C dX3_init_16 fX3_18 (Or.inl rfl) rfl hq hk ?_
  refine r_aload_n C dX3_init_19 (i := 0) rfl rfl ?_
  refine r_iconst C dX3_init_20 ?_
  refine r_putI C dX3_init_21 fX3_22 (Or.inl rfl) (Or.inl rfl) hq hk ?_
  refine r_aload_n C dX3_init_24 (i := 0) rfl rfl ?_
  refine r_iconst C dX3_init_25 ?_
  refine r_putI C dX3_init_26 fX3_25 (Or.inl rfl) (Or.inl rfl) hq hk ?_
  refine r_aload_n C dX3_init_29 (i := 0) rfl rfl ?_
  refine r_new C dX3_init_30 (ci := 0) (by decide) kX3_28 (Nat.le_refl _) (by decide) (fun l hl => ?_)
  have hl' : l ∉ hD h := hl
  have ql : q ≠ l := fun z => hl' (z ▸ hq)
  refine r_dup C dX3_init_33 rfl ?_
  refine r_callI C dX3_init_34 sX3_30 (As := []) (fun v hv => by cases hv) (Nat.le_of_ble_eq_true rfl) (Nat.zero_le _) (Nat.zero_le _) (C_AL_init (List.mem_append.mpr (Or.inr (List.mem_singleton.mpr rfl))) (if_pos rfl) ?_)
  have hq2 : q ∈ hD (hNew h l 1 3) := List.mem_append.mpr (Or.inl hq)
  have hk2 : hK (hNew h l 1 3) q = 5 := (if_neg ql).trans hk
  refine r_putP C dX3_init_37 fX3_31 (Or.inr ⟨rfl, rfl, rfl⟩) rfl hq2 hk2 ?_
  refine r_aload_n C dX3_init_40 (i := 0) rfl rfl ?_
  refine r_iload_n C dX3_init_41 (i := 1) rfl rfl ?_
  refine r_putI C dX3_init_42 fX3_35 (Or.inr ⟨rfl, rfl, rfl⟩) (Or.inl rfl) hq2 hk2 ?_
  refine r_ret C dX3_init_45 rfl ?_
  refine K l _ hl' ?_ ⟨hq2, hk2⟩ ⟨?_, ?_, ?_, ?_, ?_⟩ ?_ ?_ ⟨⟨?_, ?_⟩, ?_, by decide, by decide, Or.inl ⟨rfl, ?_⟩⟩ ?_
  · intro b hb
    have bl : b ≠ l := fun z => hl' (z ▸ hb)
    refine ⟨List.mem_append.mpr (Or.inl hb), if_neg bl, if_neg bl, fun nb => ⟨fun j => ?_, fun j => ?_⟩⟩
    · simp only [i_wi, i_wp, i_nw]; simp [nb, bl]
    · simp only [p_wp, p_wi, p_nw]; simp [nb, bl]
  · simp only [i_wi, i_wp, i_nw]; simp [ql]
  · simp only [i_wi, i_wp, i_nw]; simp [ql]
  · simp only [i_wi, i_wp, i_nw]; simp [ql]
  · simp only [i_wi, i_wp, i_nw]; simp [ql]
  · simp only [i_wi, i_wp, i_nw]; simp [ql]
  · simp only [p_wp, p_wi, p_nw]; simp [ql]
  · simp only [p_wp, p_wi, p_nw]; simp
  · exact List.mem_append.mpr (Or.inr (List.mem_singleton.mpr rfl))
  · exact if_pos rfl
  · simp only [i_wi, i_wp, i_nw]; simp [ql.symm]
  · simp only [p_wp, p_wi, p_nw]; simp [ql.symm]
  · simp only [p_wp, p_wi, p_nw]; simp [ql.symm]

