/-! ===== the class: a piece of one's own ===== -/
def RK (g : GT) : Prop := ∀ n, 0 ≤ n → n < g 4 0 → 0 ≤ g 5 n
theorem nr_fg {g : GT} (B : BD g) (rk : RK g) {p : Int} (p0 : 0 ≤ p) (p1 : p < g 11 0) : nrG g p (-1) = fgG g p 0 := by
  unfold nrG
  rcases pick_kn (g := g) p (fun n => decide (goodP g p n ∧ g 5 n = -1)) with h | h
  · rw [if_pos h]
  · have a := h.1.r B p0 p1
    have b := (of_decide_eq_true h.2).2
    have c := rk _ a.1 a.2
    omega
theorem i_nw (h : Hp) (q kd n : Nat) (b : Nat) (j : Int) : hI (hNew h q kd n) b j = if b = q then 0 else hI h b j := rfl
theorem p_nw (h : Hp) (q kd n : Nat) (b : Nat) (j : Int) : hP (hNew h q kd n) b j = if b = q then none else hP h b j := rfl
theorem i_wp (h : Hp) (a : Nat) (k : Int) (v : Option Nat) (b : Nat) (j : Int) : hI (wP h a k v) b j = hI h b j := rfl
theorem p_wi (h : Hp) (a : Nat) (k v : Int) (b : Nat) (j : Int) : hP (wI h a k v) b j = hP h b j := rfl
/-- one entry of a row changes -/
theorem fc_1 {g g' : GT} {f w v : Int} (w0 : 0 ≤ w) (w1 : w < g 25 f) (e25 : g' 25 f = g 25 f) (e26 : ∀ k, 0 ≤ k → k < g 25 f → k ≠ w → g' 26 (6 * f + k) = g 26 (6 * f + k)) (ev : g' 26 (6 * f + w) = v) (p : Int) : fcG g' p f = fcG g p f - (if g 26 (6 * f + w) = p then 1 else 0) + (if v = p then 1 else 0) := by
  have ee : ∀ k, 0 ≤ k → k < g 25 f → k ≠ w → decide (g' 26 (6 * f + k) = p) = decide (g 26 (6 * f + k) = p) := fun k a b c => by rw [e26 k a b c]
  unfold fcG
  rw [e25]
  by_cases a : g 26 (6 * f + w) = p
  · rw [if_pos a]
    by_cases b : v = p
    · rw [if_pos b, cnt_c (f := fun k => decide (g 26 (6 * f + k) = p)) (f' := fun k => decide (g' 26 (6 * f + k) = p)) (fun k k0 k1 => by
        by_cases c : k = w
        · rw [c]; exact (decide_eq_true (ev.trans b)).trans (decide_eq_true a).symm
        · exact ee k k0 k1 c)]
      omega
    · rw [if_neg b, cnt_off (f := fun k => decide (g 26 (6 * f + k) = p)) (f' := fun k => decide (g' 26 (6 * f + k) = p)) w0 w1 (decide_eq_true a) (decide_eq_false (fun z => b (ev.symm.trans z))) ee]
      omega
  · rw [if_neg a]
    by_cases b : v = p
    · rw [if_pos b, cnt_on (f := fun k => decide (g 26 (6 * f + k) = p)) (f' := fun k => decide (g' 26 (6 * f + k) = p)) w0 w1 (decide_eq_false a) (decide_eq_true (ev.trans b)) ee]
      omega
    · rw [if_neg b, cnt_c (f := fun k => decide (g 26 (6 * f + k) = p)) (f' := fun k => decide (g' 26 (6 * f + k) = p)) (fun k k0 k1 => by
        by_cases c : k = w
        · rw [c]; exact (decide_eq_false (fun z => b (ev.symm.trans z))).trans (decide_eq_false a).symm
        · exact ee k k0 k1 c)]
      omega
theorem fw_row {g g' : GT} {f : Int} (f0 : 0 ≤ f) (f1 : f < g 22 0) (h : g 23 f ≠ 2) (e22 : g' 22 0 = g 22 0) (e23 : ∀ j, g' 23 j = g 23 j) {p : Int} (ec : ∀ q, 0 ≤ q → q < g 22 0 → q ≠ f → fcG g' p q = fcG g p q) : fwG g' p (-1) = fwG g p (-1) - fcG g p f + fcG g' p f := by
  unfold fwG
  rw [e22, sum_off (f := fun q => if g 23 q ≠ 2 ∧ q ≠ -1 then fcG g p q else 0) f0 f1 (fun k k0 k1 ne => by rw [e23, ec k k0 k1 ne])]
  rw [e23, if_pos ⟨h, by omega⟩, if_pos ⟨h, by omega⟩]
theorem fc_cg {g g' : GT} {f p : Int} (e25 : g' 25 f = g 25 f) (e26 : ∀ k, 0 ≤ k → k < g 25 f → g' 26 (6 * f + k) = g 26 (6 * f + k)) : fcG g' p f = fcG g p f := by
  unfold fcG
  rw [e25]
  exact cnt_c (fun k a b => by rw [e26 k a b])
theorem fc_z {g : GT} {f p : Int} (h : ∀ k, 0 ≤ k → k < g 25 f → g 26 (6 * f + k) ≠ p) : fcG g p f = 0 := cnt_z (fun k a b => decide_eq_false (h k a b))
theorem fw_np {g : GT} (B : BD g) {p : Int} (hp : g 11 0 ≤ p) (b : Int) : fwG g p b = 0 := fw_z (fun f k f0 f1 _ k0 k1 e => by have := (B.re f k f0 f1 k0 k1).2; omega)
/-- the copies that a new piece takes over are nowhere else -/
theorem pt3_i {g : GT} (W : IW g) (h : g 11 0 < 60) (o l i : Int) : 0 ≤ itrI (ptF o l (g 11 0)) i (npG g) 16 (g 11 0) ∧ ∀ n, 0 ≤ n → n < 8 → ¬ KN (itrI (ptF o l (g 11 0)) i (npG g)) (g 11 0) n → itrI (ptF o l (g 11 0)) i (npG g) 18 (60 * n + g 11 0) = 0 := by
  have b2 := W.b.np
  refine itrI_ind (P := fun s => 0 ≤ s 16 (g 11 0) ∧ ∀ n, 0 ≤ n → n < 8 → ¬ KN s (g 11 0) n → s 18 (60 * n + g 11 0) = 0) _ ⟨?_, fun n n0 n1 _ => ?_⟩ (fun k s _ _ S => ?_)
  · rw [np_16, if_pos rfl]; exact Int.le_refl _
  · rw [np_ne g (by decide)]
    exact W.z n _ n0 n1 b2.1 h (Or.inr (Int.le_refl _))
  · unfold ptF
    split
    · have e16 : gtG s (s 17 (8 * o + k)) (g 11 0) l o 16 (g 11 0) = s 16 (g 11 0) := gt_ne _ _ _ _ _ (by decide) _
      refine ⟨by rw [kn_16, e16]; omega, fun n n0 n1 hn => ?_⟩
      rw [kn_kn (by rw [e16]; exact S.1), KN.c (fun j => gt_ne _ _ _ _ _ (by decide) j) (fun j => gt_ne _ _ _ _ _ (by decide) j)] at hn
      rw [kn_ne _ _ _ (by decide) (by decide), gt_18, if_neg (fun z => hn (Or.inr (by omega)))]
      exact S.2 n n0 n1 (fun z => hn (Or.inl z))
    · exact S

set_option maxRecDepth 100000 in
set_option maxHeartbeats 4000000 in
theorem C_X3_init {gx : GX} {d : Nat} {Qr : Option AV → Hp → Prop} {Qx : String → Hp → Prop} {q : Nat} {i : Int} {h : Hp} (hq : q ∈ hD h) (hk : hK h q = 5) (K : ∀ l h1, l ∉ hD h → OT h h1 (fun b => b = q) → (q ∈ hD h1 ∧ hK h1 q = 5) → (hI h1 q 0 = i ∧ hI h1 q 1 = 1 ∧ hI h1 q 2 = 1 ∧ hI h1 q 4 = -1 ∧ hI h1 q 5 = -1) → hP h1 q 3 = none → hP h1 q 6 = some l → LI gx h1 l 0 (fun _ => none) → hP h1 l 1 = some gx.1 → Qr none h1) : aM gx (d + 4) mX3_init [vr q, vi i] h 1 3 Qr Qx := by
  intro J C
  show J 0 [some (vr q), some (vi i)] [] h 1 3
  refine r_aload_n C dX3_init_0 (i := 0) rfl rfl ?_
  refine r_objI C dX3_init_1 lX3_3 (Nat.le_of_ble_eq_true rfl) ?_
  refine r_aload_n C dX3_init_4 (i := 0) rfl rfl ?_
  refine r_iconst C dX3_init_5 ?_
  refine r_putI C dX3_init_6 fX3_9 (Or.inl rfl) (Or.inl rfl) hq hk ?_
  refine r_aload_n C dX3_init_9 (i := 0) rfl rfl ?_
  refine r_iconst C dX3_init_10 ?_
  refine r_putI C dX3_init_11 fX3_15 (Or.inl rfl) (Or.inl rfl) hq hk ?_
  refine r_aload_n C dX3_init_14 (i := 0) rfl rfl ?_
  refine r_anull C dX3_init_15 ?_
  refine r_putP C dX3_init_16 fX3_18 (Or.inl rfl) rfl hq hk ?_
  refine r_aload_n C dX3_init_19 (i := 0) rfl rfl ?_
  refine r_iconst C dX3_init_20 ?_
  refine r_putI C dX3_init_21 fX3_22 (Or.inl rfl) (Or.inl rfl) hq hk ?_
  refine r_aload_n C dX3_init_24 (i := 0) rfl rfl ?_
  refine r_iconst C dX3_init_25 ?_
  refine r_putI C dX3_init_26 fX3_25 (Or.inl rfl) (Or.inl rfl) hq hk ?_
  refine r_aload_n C dX3_init_29 (i := 0) rfl rfl ?_
  refine r_new C dX3_init_30 (ci := 0) (by decide) kX3_28 (Nat.le_refl _) (by decide) (fun l hl => ?_)
  have hl' : l ∉ hD h := hl
  have ql : q ≠ l := fun z => hl' (z ▸ hq)
  refine r_dup C dX3_init_33 rfl ?_
  refine r_callI C dX3_init_34 sX3_30 (As := []) (fun v hv => by cases hv) (Nat.le_of_ble_eq_true rfl) (Nat.zero_le _) (Nat.zero_le _) (C_AL_init (List.mem_append.mpr (Or.inr (List.mem_singleton.mpr rfl))) (if_pos rfl) ?_)
  have hq2 : q ∈ hD (hNew h l 1 3) := List.mem_append.mpr (Or.inl hq)
  have hk2 : hK (hNew h l 1 3) q = 5 := (if_neg ql).trans hk
  refine r_putP C dX3_init_37 fX3_31 (Or.inr ⟨rfl, rfl, rfl⟩) rfl hq2 hk2 ?_
  refine r_aload_n C dX3_init_40 (i := 0) rfl rfl ?_
  refine r_iload_n C dX3_init_41 (i := 1) rfl rfl ?_
  refine r_putI C dX3_init_42 fX3_35 (Or.inr ⟨rfl, rfl, rfl⟩) (Or.inl rfl) hq2 hk2 ?_
  refine r_ret C dX3_init_45 rfl ?_
  refine K l _ hl' ?_ ⟨hq2, hk2⟩ ⟨?_, ?_, ?_, ?_, ?_⟩ ?_ ?_ ⟨⟨?_, ?_⟩, ?_, by decide, by decide, Or.inl ⟨rfl, ?_⟩⟩ ?_
  · intro b hb
    have bl : b ≠ l := fun z => hl' (z ▸ hb)
    refine ⟨List.mem_append.mpr (Or.inl hb), if_neg bl, if_neg bl, fun nb => ⟨fun j => ?_, fun j => ?_⟩⟩
    · simp only [i_wi, i_wp, i_nw]; simp [nb, bl]
    · simp only [p_wp, p_wi, p_nw]; simp [nb, bl]
  · simp only [i_wi, i_wp, i_nw]; simp [ql]
  · simp only [i_wi, i_wp, i_nw]; simp [ql]
  · simp only [i_wi, i_wp, i_nw]; simp [ql]
  · simp only [i_wi, i_wp, i_nw]; simp [ql]
  · simp only [i_wi, i_wp, i_nw]; simp [ql]
  · simp only [p_wp, p_wi, p_nw]; simp [ql]
  · simp only [p_wp, p_wi, p_nw]; simp
  · exact List.mem_append.mpr (Or.inr (List.mem_singleton.mpr rfl))
  · exact if_pos rfl
  · simp only [i_wi, i_wp, i_nw]; simp [ql.symm]
  · simp only [p_wp, p_wi, p_nw]; simp [ql.symm]
  · simp only [p_wp, p_wi, p_nw]; simp [ql.symm]

set_option maxRecDepth 100000 in
set_option maxHeartbeats 4000000 in
theorem C_X4_partPiece {gx : GX} {d : Nat} {Qr : Option AV → Hp → Prop} {Qx : String → Hp → Prop} {x : Nat} {A : Nat → Int → Nat} {u g : GT} {h : Hp} {f w p : Int} (Z : Rs gx x A u g h) (f0 : 0 ≤ f) (f1 : f < g 22 0) (w0 : 0 ≤ w) (w1 : w < g 25 f) (h23 : g 23 f ≠ 2) (ew : g 26 (6 * f + w) = p) (rk : RK g) (ht : 0 ≤ g 1 0) (K : cpP g p → ∀ A' u' h1, Rs gx x A' u' (ptG g f w) h1 → Qr (some (vr (A' 4 (g 11 0)))) h1) (kx : ¬ cpP g p → Qx "java/lang/IllegalStateException" h) : aM gx (d + 8) mX4_partPiece [vr x, vr (A 6 f), vi w, vr (A 4 p)] h 20 300 Qr Qx := by
  intro J C
  show J 0 [some (vr x), some (vr (A 6 f)), some (vi w), some (vr (A 4 p)), none, none, none, none, none] [] h 20 300
  have R := Z.1.1; have W := Z.1.2.1; have Ci := Z.1.2.2; have F := Z.2.1; have I := W.i; have B := W.b; have b1 := B.nn; have b2 := B.np; have b3 := B.nf; have Zd := Z.1.z; have po := B.re f w f0 f1 w0 w1
  rw [ew] at po
  have bcp := B.cp p po.1 po.2
  have bcc : ∀ k, 0 ≤ k → k < g 16 p → 0 ≤ g 17 (8 * p + k) ∧ g 17 (8 * p + k) < g 4 0 := fun k a b => B.cy p k po.1 po.2 a b
  have b25 := B.rw f f0 f1
  have nrf := nr_fg B rk po.1 po.2
  refine r_aload_n C dX4_partPiece_0 (i := 0) rfl rfl ?_
  refine c_VX0 C dX4_partPiece_1 sX4_304 rfl R   (Nat.le_of_ble_eq_true rfl) 1 6 (Nat.le_of_ble_eq_true rfl) (Nat.le_of_ble_eq_true rfl) (C_X4_requireRoomForPiece R b2.1 b2.2 (fun h60 => ?_) (fun n60 => kx (fun z => n60 z.2)))
  refine r_aload_n C dX4_partPiece_4 (i := 3) rfl rfl ?_
  refine r_iconst C dX4_partPiece_5 ?_
  refine c_S2 C dX4_partPiece_6 sX4_168 rfl rfl (Nat.le_of_ble_eq_true rfl) 0 0 (Nat.zero_le _) (Nat.zero_le _) (C_X4_nearestGoodHolder Zd po.1 po.2 inRn1 ?_)
  rw [nrf]
  refine r_astore C dX4_partPiece_9 (Nat.le_of_ble_eq_true rfl) ?_
  dsimp only [List.set]
  refine r_aload C dX4_partPiece_11 rfl ?_
  refine r_ifnonnull C dX4_partPiece_13 (t := 20) (by decide) (fun a13 c13 => ?_) (fun c13 => ?_)
  · skip
    obtain ⟨hfg, -⟩ := nq_s c13
    rw [nq_1 hfg]
    have fg := (pick_kn (g := g) p (fun n => decide (goodP g p n ∧ ((0 : Int) = 0 ∨ g 21 (60 * n + p) = 0)))).resolve_left hfg
    have fgr : 0 ≤ fgG g p 0 ∧ fgG g p 0 < g 4 0 := KN.r B po.1 po.2 fg.1
    have fgg : goodP g p (fgG g p 0) := (of_decide_eq_true fg.2).1
    refine r_aload C dX4_partPiece_20 rfl ?_
    refine r_aload_n C dX4_partPiece_22 (i := 3) rfl rfl ?_
    refine c_VN1 C dX4_partPiece_23 sX4_82 rfl R (by omega) (by omega) rfl (Nat.le_of_ble_eq_true rfl) 0 0 (Nat.zero_le _) (Nat.zero_le _) (C_X2_copyOfP R fgr.1 fgr.2 po.1 po.2 (fun i2 l0 l1 hu2 => ?_) (fun no => ?_))
    · skip
      refine r_astore C dX4_partPiece_26 (Nat.le_of_ble_eq_true rfl) ?_
      dsimp only [List.set]
      refine r_aload C dX4_partPiece_28 rfl ?_
      refine r_ifnull C dX4_partPiece_30 (t := 40) (by decide) (fun c30 => ?_) (fun a30 c30 => ?_)
      · skip
        cases c30
      · skip
        refine r_aload_n C dX4_partPiece_33 (i := 3) rfl rfl ?_
        refine c_S1 C dX4_partPiece_34 sX4_332 rfl (Nat.le_of_ble_eq_true rfl) 0 0 (Nat.zero_le _) (Nat.zero_le _) (C_X4_hasGoodHolderWithRoom Zd po.1 po.2 (fun z hz hb => ?_))
        have hb01 := hb.b
        refine r_if_ne C dX4_partPiece_37 (t := 51) (by decide) (by first | assumption | exact R.rg _ _ | exact R.ru _ _ | (unfold inR; omega)) (fun c37 => ?_) (fun c37 => ?_)
        · skip
          have hcp : cpP g p := ⟨hb.t c37, h60⟩
          refine r_new C dX4_partPiece_51 (ci := 4) (by decide) kX4_131 (by omega) (Nat.le_of_ble_eq_true rfl) (fun q hq => ?_)
          refine r_gxn C (fun hgq => ?_)
          have R0 := R
          have OTq : OT h (hNew h q 5 7) (fun _ => False) := OT.nw hq 5 7
          have R := R0.gar OTq hgq
          have hqD : q ∈ hD (hNew h q 5 7) := List.mem_append.mpr (Or.inr (List.mem_singleton.mpr rfl))
          have hqK : hK (hNew h q 5 7) q = 5 := if_pos rfl
          refine r_dup C dX4_partPiece_54 rfl ?_
          refine r_aload_n C dX4_partPiece_55 (i := 0) rfl rfl ?_
          refine c_5_1 C dX4_partPiece_56 fX4_16 R  ?_
          refine c_szA C dX4_partPiece_59 sX4_44 R  (Nat.le_of_ble_eq_true rfl) ?_
          refine r_callI C dX4_partPiece_62 sX4_307 (As := [vi (g 11 0)]) (fun v hv => by rw [List.mem_singleton.mp hv]; rfl) (Nat.le_of_ble_eq_true rfl) (c1 := 1) (s1 := 3) (Nat.le_of_ble_eq_true rfl) (Nat.le_of_ble_eq_true rfl) (C_X3_init hqD hqK (fun l h1 hl O1 qD qI qP ql Ll Lg => ?_))
          refine r_gxn C (fun hg1 => ?_)
          have hlh : l ∉ hD h := fun z => hl (List.mem_append.mpr (Or.inl z))
          have hlq : q ≠ l := fun z => hl (z ▸ hqD)
          have OT1 : OT h h1 (fun _ => False) := OTq.tr2 O1 (fun b hb e => hq (e ▸ hb))
          have hre : ∀ f k, 0 ≤ f → f < g 22 0 → 0 ≤ k → k < u 5 f → g 26 (6 * f + k) < g 11 0 := fun f' k a b c d => by
            rw [(F.2 f' a b).2] at d
            unfold rwG at d
            split at d
            · omega
            · exact (B.re f' k a b c d).2
          have R := R0.extP OT1 hg1 hq hlh hlq (Int.le_refl _) b2.1 h60 hre qD qI qP ql Ll Lg
          obtain ⟨A', hA⟩ : ∃ A', A' = A4 A (g 11 0) q l := ⟨_, rfl⟩
          rw [← hA] at R
          have eA : ∀ k j, ¬ ((k = 4 ∨ k = 5) ∧ j = g 11 0) → A' k j = A k j := fun k j z => by rw [hA]; exact A4_ne z
          have eAq : A' 4 (g 11 0) = q := by rw [hA]; exact A4_4
          have W1 := iw_np W h60
          have C1 : CI (U4 u (g 11 0)) (npG g) := Ci.np W h60 (fun j => U4_ne (by omega)) (fun j => U4_ne (by omega))
          have n4 : npG g 4 0 = g 4 0 := np_ne g (by decide) 0
          have n22 : npG g 22 0 = g 22 0 := np_ne g (by decide) 0
          have n11 : npG g 11 0 = g 11 0 + 1 := np_11 g
          rw [← eA 6 f (by omega), ← eA 4 p (by omega), ← eA 0 (fgG g p 0) (by omega), ← eA 2 (12 * fgG g p 0 + i2) (by omega), ← eAq]
          refine r_astore C dX4_partPiece_65 (Nat.le_of_ble_eq_true rfl) ?_
          dsimp only [List.set]
          refine r_aload_n C dX4_partPiece_67 (i := 0) rfl rfl ?_
          refine c_5_1 C dX4_partPiece_68 fX4_16 R  ?_
          refine r_aload C dX4_partPiece_71 rfl ?_
          have LA := R.xx.2.2.2.2.1
          have qn := (R.q b2.1 (show g 11 0 < npG g 11 0 by omega)).1
          have hE : ∀ j, 0 ≤ j → j < g 11 0 → ∀ y, (fun i => some (A' 4 i)) j = some y → y ∈ hD h1 ∧ ∃ ci, ci < 7 ∧ hK h1 y = ci + 1 ∧ Cond.castable (cNm ci) "java/lang/Object" ∈ tb := fun j j0 j1 y hy => by
            have n := (R.q j0 (show j < npG g 11 0 by omega)).1
            have e : A' 4 j = y := Option.some.inj hy
            rw [← e]
            exact ⟨n.1, 4, by decide, n.2, castO_4⟩
          refine r_callV C (As := [vr (A' 4 (g 11 0))]) dX4_partPiece_73 sX4_58 (fun v hv => by rw [List.mem_singleton.mp hv]; rfl) (ci := 0) (by decide) rfl LA.1.1 LA.1.2 (Nat.le_of_ble_eq_true rfl) (Nat.le_of_ble_eq_true rfl) (Nat.le_of_ble_eq_true rfl) (C_AL_add1g LA (by omega) qn.1 qn.2 (by decide) castO_4 hE (fun h2 L2 => ?_))
          refine r_gxn C (fun hg2 => ?_)
          have R := R.wA L2 hg2 (fun k k0 k1 => by
            show (if k = g 11 0 then some (A' 4 (g 11 0)) else some (A' 4 k)) = _
            split
            · rename_i e; rw [e]
            · rfl)
          have ZL : Rw gx x A' (U4 u (g 11 0)) (g 11 0 + 1) (npG g) h2 := ⟨R, W1, C1⟩
          refine r_pop C dX4_partPiece_76 rfl ?_
          refine r_iconst C dX4_partPiece_77 ?_
          refine r_istore C dX4_partPiece_78 (Nat.le_of_ble_eq_true rfl) ?_
          dsimp only [List.set]
          suffices LOOP : ∀ (m9 : Nat) (i : Int) (u2 : GT) (h2 : Hp) (y : Option AV) (cc ss : Nat), g 16 p - i < (m9 : Int) → 0 ≤ i → i ≤ g 16 p → Rw gx x A' u2 (g 11 0 + 1) (itrI (ptF p (fgG g p 0) (g 11 0)) i (npG g)) h2 → SU (U4 u (g 11 0)) u2 → u2 0 (12 * fgG g p 0 + i2) = p → 8 - i ≤ cc → 10 * (8 - i) ≤ ss → J 80 [some (vr x), some (vr (A' 6 f)), some (vi w), some (vr (A' 4 p)), some (vr (A' 0 (fgG g p 0))), some (vr (A' 2 (12 * fgG g p 0 + i2))), some (vr (A' 4 (g 11 0))), some (vi i), y] [] h2 cc ss by
            exact LOOP ((g 16 p).toNat + 1) 0 _ _ _ _ _ (by omega) (by omega) (by omega) ZL (SU.refl _) (by rw [U4_ne (by omega)]; exact hu2) (by decide) (by decide)
          intro m9
          induction m9 with
          | zero => intro i u2 h2 y cc ss hm9 i0 i1 Z2 S2 H2 hcc hss; exact absurd hm9 (by omega)
          | succ m9 ih9 =>
            intro i u2 h2 y cc ss hm9 i0 i1 Z2 S2 H2 hcc hss
            have T := pt2_i (l := fgG g p 0) I W.z h60 po.1 po.2 i0 i1
            have P := pt_i (l := fgG g p 0) B I.2.1 h60 po.1 po.2 i0 i1
            have P3 := pt3_i W h60 p (fgG g p 0) i
            have sn : itrI (ptF p (fgG g p 0) (g 11 0)) (i + 1) (npG g) = ptF p (fgG g p 0) (g 11 0) i (itrI (ptF p (fgG g p 0) (g 11 0)) i (npG g)) := itrI_s _ _ i0
            obtain ⟨s, hs⟩ : ∃ s, s = itrI (ptF p (fgG g p 0) (g 11 0)) i (npG g) := ⟨_, rfl⟩
            rw [← hs] at T P P3 Z2 sn
            obtain ⟨SI, s11, s12, s13, SS, sk, s19, s0⟩ := T
            obtain ⟨-, -, -, -, -, -, -, p16, p17, pc, py⟩ := P
            have s4 := SS 4 (by decide) 0
            have s22 := SS 22 (by decide) 0
            have s16 : s 16 p = g 16 p := p16 p (by omega)
            have R := Z2.1; have Ci2 := Z2.2.2; have Zd2 := Z2.z
            refine r_iload C dX4_partPiece_80 rfl ?_
            refine r_aload_n C dX4_partPiece_82 (i := 3) rfl rfl ?_
            refine c_4_6 C dX4_partPiece_83 fX4_184 R (by omega) (by omega) ?_
            refine c_szH C dX4_partPiece_86 sX4_44 R (by omega) (by omega) (Nat.le_of_ble_eq_true rfl) ?_
            refine r_ic_ge C dX4_partPiece_89 (t := 138) (by decide) (by first | assumption | exact R.rg _ _ | exact R.ru _ _ | (unfold inR; omega)) (by first | assumption | exact R.rg _ _ | exact R.ru _ _ | (unfold inR; omega)) (fun c89 => ?_) (fun c89 => ?_)
            · skip
              refine r_aload_n C dX4_partPiece_138 (i := 3) rfl rfl ?_
              refine r_dup C dX4_partPiece_139 rfl ?_
              refine c_4_2 C dX4_partPiece_140 fX4_133 R (by omega) (by omega) ?_
              refine r_iconst C dX4_partPiece_143 ?_
              refine r_isub C dX4_partPiece_144 ?_
              refine r_putI C dX4_partPiece_145 fX4_133 (Or.inl rfl) (Or.inl rfl) (R.q po.1 (by omega)).1.1 (R.q po.1 (by omega)).1.2 ?_
              have ub : u2 2 p = fwG g p (-1) := by rw [S2 2 p (by decide) (by decide), U4_ne (by omega)]; exact F.1 p po.1 po.2
              have fb := fwb B p (-1)
              have R := R.pc_inf (v := u2 2 p - 1) po.1 (by omega) ⟨by omega, by omega⟩
              refine r_aload_n C dX4_partPiece_148 (i := 1) rfl rfl ?_
              refine c_2_3 C dX4_partPiece_149 fX4_124 R (by omega) (by omega) ?_
              refine r_iload_n C dX4_partPiece_152 (i := 2) rfl rfl ?_
              refine r_aload C dX4_partPiece_153 rfl ?_
              have er : rwG g f = g 25 f := if_neg h23
              have u5 : ∀ q, u2 5 q = u 5 q := fun q => by rw [S2 5 q (by decide) (by decide), U4_ne (by omega)]
              have u5f : up u2 2 p (u2 2 p - 1) 5 f = g 25 f := by rw [up_ne (by decide), u5]; exact (F.2 f f0 f1).2.trans er
              have LF := (R.f f0 (show f < s 22 0 by omega)).2.2.2
              rw [u5f] at LF
              have qn := (R.q b2.1 (show g 11 0 < s 11 0 by omega)).1
              refine r_callV C (As := [vi w, vr (A' 4 (g 11 0))]) dX4_partPiece_155 sX4_335 (fun v hv => by rcases List.mem_cons.mp hv with z | z <;> first | (rw [z]; rfl) | (rw [List.mem_singleton.mp z]; rfl)) (ci := 0) (by decide) rfl LF.1.1 LF.1.2 (Nat.le_of_ble_eq_true rfl) (Nat.zero_le _) (Nat.zero_le _) (C_AL_set LF w0 w1 qn.1 qn.2 (by decide) castO_4 (fun h4 L4 => ?_))
              refine r_gxn C (fun hg4 => ?_)
              have s25 := SS 25 (by decide)
              have s26 := SS 26 (by decide)
              have ei : i = g 16 p := by omega
              have et : ptG g f w = up s 26 (6 * f + w) (g 11 0) := by
                unfold ptG
                rw [ew, ← ei, ← hs]
              obtain ⟨t, ht9⟩ : ∃ t, t = ptG g f w := ⟨_, rfl⟩
              have ne : ∀ k, k ≠ 26 → ∀ j, t k j = s k j := fun k hk j => by rw [ht9, et, up_ne hk]
              have t26 : ∀ j, t 26 j = if j = 6 * f + w then g 11 0 else g 26 j := fun j => by rw [ht9, et, up_at, s26]
              have R5 : Rp gx x A' (up u2 2 p (u2 2 p - 1)) (g 11 0 + 1) t h4 := by
                refine R.wR f0 (show f < s 22 0 by omega) L4 hg4 (fun q a b => ?_) u5f (fun k k0 k1 => ?_) (fun k j hk => ?_) (fun _ _ _ => rfl) ?_ R.ru
                · rw [s22] at b
                  have br := B.rw q a b
                  rw [up_ne (by decide), u5, (F.2 q a b).2]
                  unfold rwG
                  split <;> omega
                · show (if k = w then some (A' 4 (g 11 0)) else some (A' 4 (s 26 (6 * f + k)))) = _
                  rw [t26]
                  by_cases c : k = w
                  · rw [if_pos c, if_pos (by omega)]
                  · rw [if_neg c, if_neg (by omega), s26]
                · rw [ht9, et]
                  unfold up
                  rw [if_neg (by omega)]
                · rw [ht9, et]
                  exact rgu R.rg (R0.rg _ _)
              have t11 : t 11 0 = g 11 0 + 1 := (ne 11 (by decide) 0).trans s11
              have t16 : 0 < t 16 (g 11 0) := by rw [ht9]; exact (ptG_f I W.z f0 f1 w0 w1 (by rw [ew]; exact hcp)).2.2.2.2.2.2
              have R6 := R5.h6 b2.1 (by omega) t16
              obtain ⟨u6, hu6⟩ : ∃ u6, u6 = up (up u2 2 p (u2 2 p - 1)) 6 (g 11 0) 1 := ⟨_, rfl⟩
              rw [← hu6] at R6
              have W6 : IW t := iw_iv Z2.2.1 (by rw [ht9]; exact (ptG_f I W.z f0 f1 w0 w1 (by rw [ew]; exact hcp)).1) (fun k hk j => ne k (by omega) j)
              have C6 : CI u6 t := Ci2.same (fun j => by rw [hu6, up_ne (by decide), up_ne (by decide)]) (fun j => by rw [hu6, up_ne (by decide), up_ne (by decide)]) (fun n q _ _ => by rw [ne 18 (by decide)]) (ne 4 (by decide) 0) (ne 6 (by decide)) (ne 11 (by decide) 0) (Z2.1.rvl (by omega))
              have t22 : t 22 0 = g 22 0 := (ne 22 (by decide) 0).trans s22
              have t23 : ∀ j, t 23 j = g 23 j := fun j => (ne 23 (by decide) j).trans (SS 23 (by decide) j)
              have t25 : ∀ j, t 25 j = g 25 j := fun j => (ne 25 (by decide) j).trans (s25 j)
              have fwt : ∀ q, fwG t q (-1) = fwG g q (-1) - (if p = q then 1 else 0) + (if g 11 0 = q then 1 else 0) := fun q => by
                have a := fw_row (g := g) (g' := t) f0 f1 h23 t22 t23 (p := q) (fun r r0 r1 hr => fc_cg (t25 r) (fun k k0 k1 => by
                  have b := B.rw r r0 r1
                  rw [t26, if_neg (by omega)]))
                have b := fc_1 (g := g) (g' := t) (f := f) (w := w) (v := g 11 0) w0 w1 (t25 f) (fun k k0 k1 hk => by rw [t26, if_neg (by omega)]) (by rw [t26, if_pos rfl]) q
                rw [ew] at b
                omega
              have F6 : CF u6 t := by
                refine ⟨fun q a b => ?_, fun q a b => ?_⟩
                · rw [t11] at b
                  rw [fwt q, hu6, up_ne (by decide), up_at]
                  by_cases c : q = p
                  · rw [if_pos c, if_pos c.symm, if_neg (by omega), ub, c]
                    omega
                  · rw [if_neg c, if_neg (fun z => c z.symm), S2 2 q (by decide) (by decide)]
                    by_cases e : q = g 11 0
                    · rw [if_pos e.symm, e, fw_np B (Int.le_refl _)]
                      unfold U4
                      rw [up_ne (by decide), up_self]
                      omega
                    · rw [if_neg (fun z => e z.symm), U4_ne (by omega), F.1 q a (by omega)]
                      omega
                · rw [t22] at b
                  rw [t23, show rwG t q = rwG g q by unfold rwG; rw [t23, t25], hu6, up_ne (by decide), up_ne (by decide), up_ne (by decide), up_ne (by decide), u5, S2 4 q (by decide) (by decide), U4_ne (by omega)]
                  exact F.2 q a b
              have t1 : t 1 0 = g 1 0 := (ne 1 (by decide) 0).trans (SS 1 (by decide) 0)
              have Z6 : Rs gx x A' u6 t h4 := by
                show Rt gx x A' (t 11 0) (t 1 0) u6 t h4
                rw [t11, t1]
                refine ⟨⟨R6, W6, C6⟩, F6, fun q a b => ?_, fun q a b => ?_⟩
                · rw [hu6, up_at]
                  by_cases c : q = g 11 0
                  · rw [if_pos c]
                  · rw [if_neg c, up_ne (by decide), S2 6 q (by decide) (by decide), U4_ne (by omega)]
                    exact Z.2.2.1 q a (by omega)
                · rw [hu6, up_ne (by decide), up_ne (by decide), S2 1 q (by decide) (by decide)]
                  by_cases c : q = g 11 0
                  · rw [c]
                    unfold U4
                    rw [up_ne (by decide), up_ne (by decide), up_self]
                    omega
                  · rw [U4_ne (by omega)]
                    exact Z.2.2.2 q a (by omega)
              rw [ht9] at Z6
              refine r_pop C dX4_partPiece_158 rfl ?_
              refine r_aload C dX4_partPiece_159 rfl ?_
              refine r_aret C dX4_partPiece_161 rfl rfl ?_
              exact K hcp _ _ _ Z6
            · skip
              have s17 : s 17 (8 * p + i) = g 17 (8 * p + i) := p17 _ (by omega)
              refine r_aload_n C dX4_partPiece_92 (i := 3) rfl rfl ?_
              refine c_4_6 C dX4_partPiece_93 fX4_184 R (by omega) (by omega) ?_
              refine r_iload C dX4_partPiece_96 rfl ?_
              refine c_gtH C dX4_partPiece_98 sX4_127 R (by omega) (by omega) (by omega) (by omega) (Nat.le_of_ble_eq_true rfl) ?_
              have bcy := bcc i i0 (by omega)
              rw [s17]
              obtain ⟨n, en⟩ : ∃ n, n = g 17 (8 * p + i) := ⟨_, rfl⟩
              rw [← en] at bcy ⊢
              refine c_castN C dX4_partPiece_101 kX4_53 R (by omega) (by omega) ?_
              refine r_astore C dX4_partPiece_104 (Nat.le_of_ble_eq_true rfl) ?_
              dsimp only [List.set]
              refine r_aload C dX4_partPiece_106 rfl ?_
              refine r_aload_n C dX4_partPiece_108 (i := 3) rfl rfl ?_
              refine c_S2 C dX4_partPiece_109 sX4_257 rfl rfl (Nat.le_of_ble_eq_true rfl) 0 0 (Nat.zero_le _) (Nat.zero_le _) (C_X4_isGood Zd2 bcy.1 (show n < s 4 0 by omega) po.1 (show p < s 11 0 by omega) (fun z hz hb => ?_))
              have hb01 := hb.b
              refine r_if_eq C dX4_partPiece_112 (t := 132) (by decide) (by first | assumption | exact R.rg _ _ | exact R.ru _ _ | (unfold inR; omega)) (fun c112 => ?_) (fun c112 => ?_)
              · skip
                have hn := hb.f c112
                have e9 : ptF p (fgG g p 0) (g 11 0) i s = s := by
                  unfold ptF
                  rw [s17, ← en]
                  exact if_neg (fun z => hn z.1)
                have Z3 := Z2; have S3 := S2; have H3 := H2
                refine r_iinc C dX4_partPiece_132 rfl ?_
                dsimp only [List.set]
                refine r_goto C dX4_partPiece_135 (t := 80) (by decide) ?_
                exact ih9 _ _ _ _ _ _ (by omega) (by omega) (by omega) (by rw [sn, e9]; exact Z3) S3 H3 (by omega) (by omega)
              · skip
                have hgd := hb.t c112
                refine r_aload C dX4_partPiece_115 rfl ?_
                refine c_VN0 C dX4_partPiece_117 sX4_261 rfl R (by omega) (by omega)  (Nat.le_of_ble_eq_true rfl) 0 0 (Nat.zero_le _) (Nat.zero_le _) (C_X2_hasRoom R bcy.1 (show n < s 4 0 by omega) (fun z2 hz2 hb2 => ?_))
                have hb201 := hb2.b
                have tk2 := Ci2.tk bcy.1 (show n < s 4 0 by omega)
                refine r_if_eq C dX4_partPiece_120 (t := 132) (by decide) (by first | assumption | exact R.rg _ _ | exact R.ru _ _ | (unfold inR; omega)) (fun c120 => ?_) (fun c120 => ?_)
                · skip
                  have hn := hb2.f c120
                  have e9 : ptF p (fgG g p 0) (g 11 0) i s = s := by
                    unfold ptF
                    rw [s17, ← en]
                    exact if_neg (fun z => hn (by have := z.2; omega))
                  have Z3 := Z2; have S3 := S2; have H3 := H2
                  refine r_iinc C dX4_partPiece_132 rfl ?_
                  dsimp only [List.set]
                  refine r_goto C dX4_partPiece_135 (t := 80) (by decide) ?_
                  exact ih9 _ _ _ _ _ _ (by omega) (by omega) (by omega) (by rw [sn, e9]; exact Z3) S3 H3 (by omega) (by omega)
                · skip
                  have hrm := hb2.t c120
                  have hkn : ¬ KN s (g 11 0) n := by
                    rintro ⟨j, j0, j1, j2⟩
                    obtain ⟨k, k0, k1, k2⟩ := py j j0 j1
                    rw [k2, en] at j2
                    exact I.2.1 p po.1 po.2 k i k0 k1 (by omega) j2
                  have W3 := iw_gt Z2.2.1 b2.1 (show g 11 0 < s 11 0 by omega) bcy.1 (show n < s 4 0 by omega) (fgG g p 0) p
                  have W4 := iw_kn W3 b2.1 (show g 11 0 < gtG s n (g 11 0) (fgG g p 0) p 11 0 by rw [gt_ne _ _ _ _ _ (by decide)]; omega) bcy.1 (show n < gtG s n (g 11 0) (fgG g p 0) p 4 0 by rw [gt_ne _ _ _ _ _ (by decide)]; omega) (fun z => hkn ((KN.c (fun j => gt_ne _ _ _ _ _ (by decide) j) (fun j => gt_ne _ _ _ _ _ (by decide) j) _ _).mp z)) (by rw [gt_18, if_pos rfl, gt_ne _ _ _ _ _ (by decide)])
                  have e9 : ptF p (fgG g p 0) (g 11 0) i s = knG (gtG s n (g 11 0) (fgG g p 0) p) (g 11 0) n := by
                    unfold ptF
                    rw [s17, ← en]
                    exact if_pos ⟨hgd, by omega⟩
                  refine r_aload C dX4_partPiece_123 rfl ?_
                  refine r_aload C dX4_partPiece_125 rfl ?_
                  refine r_aload C dX4_partPiece_127 rfl ?_
                  refine c_S3 C dX4_partPiece_129 sX4_313 rfl rfl rfl (Nat.le_of_ble_eq_true rfl) 1 10 (by omega) (by omega) (C_X4_addCopyM Z2 bcy.1 (show n < s 4 0 by omega) b2.1 (show g 11 0 < s 11 0 by omega) (by omega) (P3.2 n bcy.1 (by omega) hkn) hkn fgr.1 (show fgG g p 0 < s 4 0 by omega) l0 (show i2 < s 6 (fgG g p 0) by have := SS 6 (by decide) (fgG g p 0); omega) H2 po.1 (fun u3 h3 R3 C3 S3a H3a => ?_))
                  have Z3 : Rw gx x A' u3 (g 11 0 + 1) (knG (gtG s n (g 11 0) (fgG g p 0) p) (g 11 0) n) h3 := ⟨R3, W4, C3⟩
                  have S3 := S2.trans S3a
                  have H3 : u3 0 (12 * fgG g p 0 + i2) = p := by rw [H3a _ (by omega)]; exact H2
                  refine r_iinc C dX4_partPiece_132 rfl ?_
                  dsimp only [List.set]
                  refine r_goto C dX4_partPiece_135 (t := 80) (by decide) ?_
                  exact ih9 _ _ _ _ _ _ (by omega) (by omega) (by omega) (by rw [sn, e9]; exact Z3) S3 H3 (by omega) (by omega)
        · skip
          have hnc := hb.f c37
          refine r_thr C tX4_partPiece_40 rfl (by omega) (Nat.le_of_ble_eq_true rfl) (by omega) (by omega) ?_
          first
            | exact kx (fun z => hnc z.1)
            | (refine kx (fun z => ?_)
               obtain ⟨⟨k, k0, k1, k2⟩, -⟩ := z
               rcases pick_d g p (fun n => decide (goodP g p n ∧ ((0 : Int) = 0 ∨ g 21 (60 * n + p) = 0))) with ⟨-, al⟩ | ⟨k', a0, a1, a2, -⟩
               · exact absurd (⟨k2.1, Or.inl rfl⟩ : goodP g p (g 17 (8 * p + k)) ∧ ((0 : Int) = 0 ∨ g 21 (60 * g 17 (8 * p + k) + p) = 0)) (of_decide_eq_false (al k k0 k1))
               · have b := bcc k' a0 a1
                 have a3 : fgG g p 0 = g 17 (8 * p + k') := a2
                 omega)
    · skip
      have z0 := Ci.no W.n fgr.1 fgr.2 po.1 po.2 no
      have z1 := fgg.2
      have z2 := I.2.2.2.2 p po.1 po.2
      omega
  · skip
    have hfg := nq_n c13
    refine r_anull C dX4_partPiece_16 ?_
    refine r_goto C dX4_partPiece_17 (t := 26) (by decide) ?_
    refine r_astore C dX4_partPiece_26 (Nat.le_of_ble_eq_true rfl) ?_
    dsimp only [List.set]
    refine r_aload C dX4_partPiece_28 rfl ?_
    refine r_ifnull C dX4_partPiece_30 (t := 40) (by decide) (fun c30 => ?_) (fun a30 c30 => ?_)
    · skip
      refine r_thr C tX4_partPiece_40 rfl (by omega) (Nat.le_of_ble_eq_true rfl) (by omega) (by omega) ?_
      first
        | exact kx (fun z => hnc z.1)
        | (refine kx (fun z => ?_)
           obtain ⟨⟨k, k0, k1, k2⟩, -⟩ := z
           rcases pick_d g p (fun n => decide (goodP g p n ∧ ((0 : Int) = 0 ∨ g 21 (60 * n + p) = 0))) with ⟨-, al⟩ | ⟨k', a0, a1, a2, -⟩
           · exact absurd (⟨k2.1, Or.inl rfl⟩ : goodP g p (g 17 (8 * p + k)) ∧ ((0 : Int) = 0 ∨ g 21 (60 * g 17 (8 * p + k) + p) = 0)) (of_decide_eq_false (al k k0 k1))
           · have b := bcc k' a0 a1
             have a3 : fgG g p 0 = g 17 (8 * p + k') := a2
             omega)
    · skip
      cases c30

