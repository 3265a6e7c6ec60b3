/-! ===== the law: what stays so from call to call ===== -/
def XG (t : Int) (g : GT) : Prop := RK g ∧ RO g ∧ (0 ≤ g 1 0 ∧ g 1 0 ≤ 3000) ∧ (0 ≤ g 2 0 ∧ g 2 0 ≤ 3) ∧ (g 3 0 = 0 ∨ g 3 0 = 1) ∧ (∀ j, 0 ≤ g 8 j ∧ g 8 j ≤ 3000) ∧ (∀ j, 0 ≤ g 24 j ∧ g 24 j ≤ 3000) ∧ (∀ j, 0 ≤ g 12 j ∧ g 12 j ≤ t + 1)
theorem xg_same {t : Int} {g g' : GT} (X : XG t g) (h : ∀ k, k = 1 ∨ k = 2 ∨ k = 3 ∨ k = 4 ∨ k = 5 ∨ k = 8 ∨ k = 12 ∨ k = 22 ∨ k = 24 ∨ k = 25 ∨ k = 26 → ∀ j, g' k j = g k j) : XG (t + 1) g' := by
  obtain ⟨rk, ro, x1, x2, x3, x8, x24, x12⟩ := X
  refine ⟨rk_c rk (h 4 (by omega) 0) (h 5 (by omega)), ?_, by rw [h 1 (by omega)]; exact x1, by rw [h 2 (by omega)]; exact x2, by rw [h 3 (by omega)]; exact x3, fun j => by rw [h 8 (by omega)]; exact x8 j, fun j => by rw [h 24 (by omega)]; exact x24 j, fun j => by rw [h 12 (by omega)]; have := x12 j; omega⟩
  unfold RO at ro ⊢
  simp only [h 22 (by omega), h 25 (by omega), h 26 (by omega)]
  exact ro
theorem ro_c {g g' : GT} (ro : RO g) (h : ∀ k, k = 22 ∨ k = 25 ∨ k = 26 → ∀ j, g' k j = g k j) : RO g' := by
  unfold RO at ro ⊢
  simp only [h 22 (by omega), h 25 (by omega), h 26 (by omega)]
  exact ro
theorem xg_nd {t : Int} {g : GT} (X : XG t g) {a : Int} (b : Int) (ha : 0 ≤ a) : XG (t + 1) (ndG g a b) := by
  obtain ⟨rk, ro, x1, x2, x3, x8, x24, x12⟩ := X
  have e : ∀ k, k ≠ 4 ∧ k ≠ 5 ∧ k ≠ 6 ∧ k ≠ 7 ∧ k ≠ 9 ∧ k ≠ 10 → ∀ j, ndG g a b k j = g k j := fun k hk j => nd_e g a b (by omega) (by omega)
  refine ⟨fun n n0 n1 => ?_, ro_c ro (fun k hk j => e k (by omega) j), by rw [e 1 (by decide)]; exact x1, by rw [e 2 (by decide)]; exact x2, by rw [e 3 (by decide)]; exact x3, fun j => by rw [e 8 (by decide)]; exact x8 j, fun j => by rw [e 24 (by decide)]; exact x24 j, fun j => by rw [e 12 (by decide)]; have := x12 j; omega⟩
  rw [nd_4] at n1
  rw [nd_5]
  split
  · exact ha
  · exact rk n n0 (by omega)
theorem xg_up {t : Int} {g : GT} (X : XG t g) (n b : Int) : XG (t + 1) (upG g n b) := by
  obtain ⟨rk, ro, x1, x2, x3, x8, x24, x12⟩ := X
  have e : ∀ k, k ≠ 7 ∧ k ≠ 8 → ∀ j, upG g n b k j = g k j := fun k hk j => by unfold upG; rw [up_ne hk.1, up_ne hk.2]
  refine ⟨rk_c rk (e 4 (by decide) 0) (e 5 (by decide)), ro_c ro (fun k hk j => e k (by omega) j), by rw [e 1 (by decide)]; exact x1, by rw [e 2 (by decide)]; exact x2, by rw [e 3 (by decide)]; exact x3, fun j => ?_, fun j => by rw [e 24 (by decide)]; exact x24 j, fun j => by rw [e 12 (by decide)]; have := x12 j; omega⟩
  unfold upG
  rw [up_ne (by decide), up_at]
  split
  · split
    · exact x1
    · exact x8 n
  · exact x8 j
theorem xg_li {t : Int} {g : GT} (X : XG t g) {a : Int} (ha : 0 ≤ a ∧ a ≤ 3) : XG (t + 1) (up g 2 0 a) := by
  obtain ⟨rk, ro, x1, x2, x3, x8, x24, x12⟩ := X
  have e : ∀ k, k ≠ 2 → ∀ j, up g 2 0 a k j = g k j := fun k hk j => up_ne hk
  exact ⟨rk_c rk (e 4 (by decide) 0) (e 5 (by decide)), ro_c ro (fun k hk j => e k (by omega) j), by rw [e 1 (by decide)]; exact x1, by rw [up_self]; exact ha, by rw [e 3 (by decide)]; exact x3, fun j => by rw [e 8 (by decide)]; exact x8 j, fun j => by rw [e 24 (by decide)]; exact x24 j, fun j => by rw [e 12 (by decide)]; have := x12 j; omega⟩
theorem xg_ba {t : Int} {g : GT} (X : XG t g) {a : Int} (ha : a = 0 ∨ a = 1) : XG (t + 1) (up g 3 0 a) := by
  obtain ⟨rk, ro, x1, x2, x3, x8, x24, x12⟩ := X
  have e : ∀ k, k ≠ 3 → ∀ j, up g 3 0 a k j = g k j := fun k hk j => up_ne hk
  exact ⟨rk_c rk (e 4 (by decide) 0) (e 5 (by decide)), ro_c ro (fun k hk j => e k (by omega) j), by rw [e 1 (by decide)]; exact x1, by rw [e 2 (by decide)]; exact x2, by rw [up_self]; exact ha, fun j => by rw [e 8 (by decide)]; exact x8 j, fun j => by rw [e 24 (by decide)]; exact x24 j, fun j => by rw [e 12 (by decide)]; have := x12 j; omega⟩
theorem xg_ps {t : Int} {g : GT} (X : XG t g) (I : IV1 g) {n : Int} (hn : 1 ≤ n) (h : g 1 0 + n ≤ 3000) : XG (t + 1) (psG g n) := by
  obtain ⟨rk, ro, x1, x2, x3, x8, x24, x12⟩ := X
  have P := ps_f I (i := n) (by omega)
  have e : ∀ k, SK k → ∀ j, psG g n k j = g k j := P.2.1
  exact ⟨rk_c rk (e 4 (by omega) 0) (e 5 (by omega)), ro_c ro (fun k hk j => e k (by omega) j), by rw [P.2.2]; omega, by rw [e 2 (by omega)]; exact x2, by rw [e 3 (by omega)]; exact x3, fun j => by rw [e 8 (by omega)]; exact x8 j, fun j => by rw [e 24 (by omega)]; exact x24 j, fun j => by rw [e 12 (by omega)]; have := x12 j; omega⟩
theorem xg_fl {t : Int} {g : GT} (X : XG t g) : XG (t + 1) (flG g) := by
  obtain ⟨rk, ro, x1, x2, x3, x8, x24, x12⟩ := X
  have e : ∀ k, k ≠ 22 ∧ k ≠ 23 ∧ k ≠ 25 → ∀ j, flG g k j = g k j := fun k hk j => fl_e g (by omega) (by omega)
  refine ⟨rk_c rk (e 4 (by decide) 0) (e 5 (by decide)), fun f i j f0 f1 i0 ij j1 => ?_, by rw [e 1 (by decide)]; exact x1, by rw [e 2 (by decide)]; exact x2, by rw [e 3 (by decide)]; exact x3, fun j => by rw [e 8 (by decide)]; exact x8 j, fun j => by rw [e 24 (by decide)]; exact x24 j, fun j => by rw [e 12 (by decide)]; have := x12 j; omega⟩
  rw [fl_22] at f1
  rw [fl_25] at j1
  rw [e 26 (by decide), e 26 (by decide)]
  split at j1
  · omega
  · exact ro f i j f0 (by omega) i0 ij j1
theorem xg_sn {t : Int} {g : GT} (X : XG t g) (B : BD g) {f : Int} (f0 : 0 ≤ f) (f1 : f < g 22 0) : XG (t + 1) (snG g f) := by
  obtain ⟨rk, ro, x1, x2, x3, x8, x24, x12⟩ := X
  have b25 := B.rw f f0 f1
  have e : ∀ k, k ≠ 22 ∧ k ≠ 23 ∧ k ≠ 25 ∧ k ≠ 26 → ∀ j, snG g f k j = g k j := fun k hk j => by rw [sg_e g f (by omega), if_neg (by omega), if_neg (by omega)]
  have e25 : ∀ j, snG g f 25 j = if j = g 22 0 then g 25 f else g 25 j := fun j => by
    rw [sg_e g f (by decide), if_neg (by omega)]
    by_cases c : j = g 22 0
    · rw [if_pos ⟨rfl, c⟩, if_pos c]
    · rw [if_neg (fun z => c z.2), if_neg c]
  refine ⟨rk_c rk (e 4 (by decide) 0) (e 5 (by decide)), fun q i j q0 q1 i0 ij j1 => ?_, by rw [e 1 (by decide)]; exact x1, by rw [e 2 (by decide)]; exact x2, by rw [e 3 (by decide)]; exact x3, fun j => by rw [e 8 (by decide)]; exact x8 j, fun j => by rw [e 24 (by decide)]; exact x24 j, fun j => by rw [e 12 (by decide)]; have := x12 j; omega⟩
  rw [sg_22] at q1
  rw [e25] at j1
  rw [sg_26 f0 f1 b25, sg_26 f0 f1 b25]
  by_cases c : q = g 22 0
  · rw [if_pos c] at j1
    rw [if_pos (by omega), if_pos (by omega), show 6 * f + (6 * q + i - 6 * g 22 0) = 6 * f + i by omega, show 6 * f + (6 * q + j - 6 * g 22 0) = 6 * f + j by omega]
    exact ro f i j f0 f1 i0 ij j1
  · rw [if_neg c] at j1
    have bq := B.rw q q0 (by omega)
    rw [if_neg (by omega), if_neg (by omega)]
    exact ro q i j q0 (by omega) i0 ij j1
theorem xg_rm {t : Int} {g : GT} (X : XG t g) (f : Int) : XG (t + 1) (rmG g f) := by
  obtain ⟨rk, ro, x1, x2, x3, x8, x24, x12⟩ := X
  have e : ∀ k, k ≠ 23 ∧ k ≠ 24 → ∀ j, rmG g f k j = g k j := fun k hk j => by unfold rmG; rw [up_ne hk.2, up_ne hk.1]
  refine ⟨rk_c rk (e 4 (by decide) 0) (e 5 (by decide)), ro_c ro (fun k hk j => e k (by omega) j), by rw [e 1 (by decide)]; exact x1, by rw [e 2 (by decide)]; exact x2, by rw [e 3 (by decide)]; exact x3, fun j => by rw [e 8 (by decide)]; exact x8 j, fun j => ?_, fun j => by rw [e 12 (by decide)]; have := x12 j; omega⟩
  unfold rmG
  rw [up_at]
  split
  · exact x1
  · rw [up_ne (by decide)]; exact x24 j
theorem xg_rs {t : Int} {g : GT} (X : XG t g) (f : Int) : XG (t + 1) (rsG g f) := xg_same X (fun k hk j => by unfold rsG; rw [up_ne (by omega)])
theorem xg_sp {t : Int} {g : GT} (X : XG t g) (n p c : Int) : XG (t + 1) (spG g n p c) := xg_same X (fun k hk j => by unfold spG; rw [up_ne (by omega)])
theorem xg_rf {t : Int} {g : GT} (X : XG t g) (p c r : Int) : XG (t + 1) (rfG g p c r) := xg_same X (fun k hk j => by
  unfold rfG
  refine itrI_ind (P := fun s => ∀ j, s k j = g k j) (reF p c r) (fun _ => rfl) (fun i s _ _ S j => ?_) j
  unfold reF
  split
  · rw [dr_ne _ _ _ (by omega)]; exact S j
  · exact S j)
theorem xg_up0 {t : Int} {g : GT} (X : XG t g) (y : Int) : XG (t + 1) (up g 0 0 y) := xg_same X (fun k hk j => up_ne (by omega))
/-! writing -/
theorem ptF_e (o l i : Int) {k : Nat} (h : k ≠ 16 ∧ k ≠ 17 ∧ k ≠ 18 ∧ k ≠ 19 ∧ k ≠ 20 ∧ k ≠ 21) (z : Int) (s : GT) (j : Int) : ptF o l i z s k j = s k j := by
  unfold ptF
  split
  · rw [kn_ne _ _ _ (by omega) (by omega), gt_ne _ _ _ _ _ (by omega)]
  · rfl
theorem pt_e (g : GT) (f w : Int) {k : Nat} (h : k ≠ 16 ∧ k ≠ 17 ∧ k ≠ 18 ∧ k ≠ 19 ∧ k ≠ 20 ∧ k ≠ 21 ∧ k ≠ 26) (j : Int) : ptG g f w k j = npG g k j := by
  unfold ptG
  rw [up_ne (by omega)]
  exact itrI_ind (P := fun s => ∀ j, s k j = npG g k j) _ (fun _ => rfl) (fun i s _ _ S j => (ptF_e _ _ _ (by omega) i s j).trans (S j)) j
theorem pt_26 (g : GT) (f w j : Int) : ptG g f w 26 j = if j = 6 * f + w then g 11 0 else g 26 j := by
  unfold ptG
  rw [up_at]
  split
  · rfl
  · have := itrI_ind (P := fun s => ∀ j, s 26 j = npG g 26 j) (g := npG g) (n := g 16 (g 26 (6 * f + w))) (ptF (g 26 (6 * f + w)) (fgG g (g 26 (6 * f + w)) 0) (g 11 0)) (fun _ => rfl) (fun i s _ _ S j => (ptF_e _ _ _ (by decide) i s j).trans (S j)) j
    rw [this, np_ne g (by decide)]
theorem ls_e (g : GT) (p : Int) {k : Nat} (h : k ≠ 12 ∧ k ≠ 13 ∧ k ≠ 14 ∧ k ≠ 16 ∧ k ≠ 17 ∧ k ≠ 18) (j : Int) : lsG g p k j = g k j := by
  unfold lsG
  rw [up_ne (by omega), up_ne (by omega)]
  unfold ls3
  rw [lh_ne _ _ _ k (by omega)]
  unfold ls2
  rw [up_ne (by omega), ls1_ne g p (by omega)]
theorem ls_12 (g : GT) (p j : Int) : lsG g p 12 j = if j = p then g 12 p + 1 else g 12 j := by
  unfold lsG
  rw [up_ne (by decide), up_ne (by decide)]
  unfold ls3
  rw [lh_ne _ _ _ 12 (by decide)]
  unfold ls2
  rw [up_at, ls1_ne g p (by decide), ls1_ne g p (by decide)]
/-- the same, one version later -/
theorem xg_ls {t : Int} {g : GT} (X : XG t g) (p : Int) : XG (t + 1) (lsG g p) := by
  obtain ⟨rk, ro, x1, x2, x3, x8, x24, x12⟩ := X
  have e : ∀ k, k ≠ 12 ∧ k ≠ 13 ∧ k ≠ 14 ∧ k ≠ 16 ∧ k ≠ 17 ∧ k ≠ 18 → ∀ j, lsG g p k j = g k j := fun k hk j => ls_e g p hk j
  refine ⟨rk_c rk (e 4 (by decide) 0) (e 5 (by decide)), ro_c ro (fun k hk j => e k (by omega) j), by rw [e 1 (by decide)]; exact x1, by rw [e 2 (by decide)]; exact x2, by rw [e 3 (by decide)]; exact x3, fun j => by rw [e 8 (by decide)]; exact x8 j, fun j => by rw [e 24 (by decide)]; exact x24 j, fun j => ?_⟩
  rw [ls_12]
  have a := x12 j
  have b := x12 p
  split <;> omega
theorem xg_pt {t : Int} {g : GT} (X : XG t g) (t0 : 0 ≤ t) (B : BD g) {f w : Int} (f0 : 0 ≤ f) (f1 : f < g 22 0) (w0 : 0 ≤ w) (w1 : w < g 25 f) : XG t (ptG g f w) := by
  obtain ⟨rk, ro, x1, x2, x3, x8, x24, x12⟩ := X
  have e : ∀ k, k ≠ 11 ∧ k ≠ 12 ∧ k ≠ 13 ∧ k ≠ 14 ∧ k ≠ 16 ∧ k ≠ 17 ∧ k ≠ 18 ∧ k ≠ 19 ∧ k ≠ 20 ∧ k ≠ 21 ∧ k ≠ 26 → ∀ j, ptG g f w k j = g k j := fun k hk j => (pt_e g f w (by omega) j).trans (np_ne g (by omega) j)
  refine ⟨rk_c rk (e 4 (by decide) 0) (e 5 (by decide)), fun q i j q0 q1 i0 ij j1 => ?_, by rw [e 1 (by decide)]; exact x1, by rw [e 2 (by decide)]; exact x2, by rw [e 3 (by decide)]; exact x3, fun j => by rw [e 8 (by decide)]; exact x8 j, fun j => by rw [e 24 (by decide)]; exact x24 j, fun j => ?_⟩
  · rw [e 22 (by decide)] at q1
    rw [e 25 (by decide)] at j1
    have bi := B.re q i q0 q1 i0 (by omega)
    have bj := B.re q j q0 q1 (by omega) j1
    rw [pt_26, pt_26]
    by_cases c : 6 * q + i = 6 * f + w
    · rw [if_pos c, if_neg (by omega)]; omega
    · rw [if_neg c]
      split
      · omega
      · exact ro q i j q0 q1 i0 ij j1
  · rw [pt_e g f w (by decide), np_12]
    have := x12 j
    split <;> omega
theorem xg_ad {t : Int} {g : GT} (X : XG t g) (t0 : 0 ≤ t) (B : BD g) (D : DC g) (h60 : g 11 0 < 60) {f : Int} (f0 : 0 ≤ f) (f1 : f < g 22 0) (hr : g 25 f < 6) : XG t (adG g f) := by
  obtain ⟨rk, ro, x1, x2, x3, x8, x24, x12⟩ := X
  have e : ∀ k, k ≠ 11 ∧ k ≠ 12 ∧ k ≠ 13 ∧ k ≠ 14 ∧ k ≠ 16 ∧ k ≠ 17 ∧ k ≠ 18 ∧ k ≠ 19 ∧ k ≠ 21 ∧ k ≠ 25 ∧ k ≠ 26 → ∀ j, adG g f k j = g k j := fun k hk j => ad_ne f hk j
  refine ⟨rk_c rk (e 4 (by decide) 0) (e 5 (by decide)), ro_ad B ro f0 f1 hr (e 22 (by decide) 0) (ad_25 f) (ad_26 f), by rw [e 1 (by decide)]; exact x1, by rw [e 2 (by decide)]; exact x2, by rw [e 3 (by decide)]; exact x3, fun j => by rw [e 8 (by decide)]; exact x8 j, fun j => by rw [e 24 (by decide)]; exact x24 j, fun j => ?_⟩
  rw [ad_12 B D h60, np_12]
  have := x12 j
  split <;> omega
theorem xg_le {t : Int} {g : GT} (X : XG t g) : XG (t + 1) g := xg_same X (fun _ _ _ => rfl)
theorem xg_ww {t : Int} {g : GT} (X : XG t g) (K : CL g) (p x y : Int) {c : Int} (c0 : 0 ≤ c) (c1 : c < 4) : XG t (wwG g p c x y) := by
  have e : ∀ k, k ≠ 13 ∧ k ≠ 14 ∧ k ≠ 19 ∧ k ≠ 20 ∧ k ≠ 21 → ∀ j, wwG g p c x y k j = g k j := fun k hk j => by
    have a := (wa_i K p x (g 16 p) c0 c1).2 k (by omega) j
    unfold wwG
    split
    · unfold elG
      rw [up_ne (by omega), up_ne (by omega)]; exact a
    · exact a
  obtain ⟨rk, ro, x1, x2, x3, x8, x24, x12⟩ := X
  exact ⟨rk_c rk (e 4 (by decide) 0) (e 5 (by decide)), ro_c ro (fun k hk j => e k (by omega) j), by rw [e 1 (by decide)]; exact x1, by rw [e 2 (by decide)]; exact x2, by rw [e 3 (by decide)]; exact x3, fun j => by rw [e 8 (by decide)]; exact x8 j, fun j => by rw [e 24 (by decide)]; exact x24 j, fun j => by rw [e 12 (by decide)]; exact x12 j⟩
theorem xg_rd {t : Int} {g : GT} (X : XG t g) (t0 : 0 ≤ t) (B : BD g) {f w : Int} (f0 : 0 ≤ f) (f1 : f < g 22 0) (w0 : 0 ≤ w) (w1 : w < g 25 f) : XG (t + 1) (rdG g f w) := by
  have X1 : XG t (rd1 g f w) := by
    unfold rd1
    split
    · exact xg_pt X t0 B f0 f1 w0 w1
    · exact X
  unfold rdG
  split
  · exact xg_le X1
  · exact xg_ls X1 _
theorem xg_pu {t : Int} {g : GT} (X : XG t g) (t0 : 0 ≤ t) (W : IW g) {f w c y z : Int} {g1 : GT} (f0 : 0 ≤ f) (f1 : f < g 22 0) (w0 : 0 ≤ w) (w1 : w < g 25 f) (c0 : 0 ≤ c) (c1 : c < 4) (hp : puP g f w c) (Q : puQ g f w c y z g1) : XG (t + 1) g1 := by
  obtain ⟨u, p, eu, ep, bv, e⟩ := Q
  have RF := rd_f W.i (z := w) (fun _ => W.z) f0 f1 w0 w1 hp.2.1
  rw [e]
  refine xg_ww ?_ ?_ p y z c0 c1
  · rw [eu]; exact xg_rd X t0 W.b f0 f1 w0 w1
  · rw [eu]; exact RF.1.2.2.1
theorem xg_ap {t : Int} {g : GT} (X : XG t g) (t0 : 0 ≤ t) (ht : t ≤ 9999) (W : IW g) {f y z : Int} {g1 : GT} (f0 : 0 ≤ f) (f1 : f < g 22 0) (hc : caP g f) (Q : apQ g f y z g1) : XG (t + 1) g1 := by
  obtain ⟨s, u, p, pl, c, b, es, epl, eu, ep, ec, bv, ez, e⟩ := Q
  have hv : ∀ j, 0 ≤ g 12 j ∧ g 12 j < 1000000 := fun j => by have := X.2.2.2.2.2.2.2 j; omega
  have AF := ap_f W.i W.z f0 f1 hc hv
  rw [← es] at AF
  obtain ⟨TI, t22, t25, tcw, tc4, tz, thv, t1⟩ := AF
  have RF := rd_f TI (z := s 25 f - 1) tz f0 (show f < s 22 0 by omega) (by omega) (by omega) tcw
  rw [epl] at eu ep
  rw [← eu, ← ep] at RF
  have X1 : XG t s := by
    rw [es]
    by_cases h : fuP g f
    · rw [ap1_y h]
      rcases hc.2 with q | q
      · exact xg_ad X t0 W.b W.i.2.1 q.2.2.2 f0 f1 q.2.1
      · exact absurd h q.1
    · rw [ap1_n h]; exact X
  have X2 : XG (t + 1) u := by rw [eu]; exact xg_rd X1 t0 TI.1 f0 (by omega) (by omega) (by omega)
  rw [e]
  exact xg_ww X2 RF.1.2.2.1 p y b (by rw [ec, RF.2.2.2]; exact tc4.1) (by rw [ec, RF.2.2.2]; exact tc4.2)
/-! what is told once is told twice -/
theorem bv_eq {a b : Int} {P Q : Prop} (h : BV a P) (h2 : BV b Q) (e : P ↔ Q) : a = b := by
  rcases h with ⟨rfl, p⟩ | ⟨rfl, p⟩ <;> rcases h2 with ⟨rfl, q⟩ | ⟨rfl, q⟩
  · rfl
  · exact absurd (e.mp p) q
  · exact absurd (e.mpr q) p
  · rfl
theorem c1_eq {a b : Int} {P P' : Prop} (h : C1 P a) (h2 : C1 P' b) (e : P ↔ P') : a = b := by
  rcases h with ⟨p, rfl⟩ | ⟨p, rfl⟩ <;> rcases h2 with ⟨q, rfl⟩ | ⟨q, rfl⟩
  · rfl
  · exact absurd (e.mpr q) p
  · exact absurd (e.mp p) q
  · rfl
theorem c2_eq {a b : Int} {P P' Q Q' : Prop} (h : C2 P Q a) (h2 : C2 P' Q' b) (e : P ↔ P') (e2 : P → (Q ↔ Q')) : a = b := by
  rcases h with ⟨p, rfl⟩ | ⟨p, p2, rfl⟩ | ⟨p, p2, rfl⟩ <;> rcases h2 with ⟨q, rfl⟩ | ⟨q, q2, rfl⟩ | ⟨q, q2, rfl⟩ <;> first | rfl | exact absurd (e.mpr q) p | exact absurd (e.mp p) q | exact absurd ((e2 p).mp p2) q2 | exact absurd ((e2 p).mpr q2) p2
theorem c3_eq {a b : Int} {P P' Q Q' S S' : Prop} (h : C3 P Q S a) (h2 : C3 P' Q' S' b) (e : P ↔ P') (e2 : P → (Q ↔ Q')) (e3 : P → (S ↔ S')) : a = b := by
  rcases h with ⟨p, rfl⟩ | ⟨p, p2, rfl⟩ | ⟨p, p2, p3, rfl⟩ | ⟨p, p2, p3, rfl⟩ <;> rcases h2 with ⟨q, rfl⟩ | ⟨q, q2, rfl⟩ | ⟨q, q2, q3, rfl⟩ | ⟨q, q2, q3, rfl⟩ <;> first | rfl | exact absurd (e.mpr q) p | exact absurd (e.mp p) q | exact absurd ((e2 p).mp p2) q2 | exact absurd ((e2 p).mpr q2) p2 | exact absurd ((e3 p).mp p3) q3 | exact absurd ((e3 p).mpr q3) p3
theorem c1_r {a : Int} {P : Prop} (h : C1 P a) : 0 ≤ a ∧ a ≤ 3 := by rcases h with ⟨-, e⟩ | ⟨-, e⟩ <;> omega
theorem c2_r {a : Int} {P Q : Prop} (h : C2 P Q a) : 0 ≤ a ∧ a ≤ 3 := by rcases h with ⟨-, e⟩ | ⟨-, -, e⟩ | ⟨-, -, e⟩ <;> omega
theorem c3_r {a : Int} {P Q S : Prop} (h : C3 P Q S a) : 0 ≤ a ∧ a ≤ 3 := by rcases h with ⟨-, e⟩ | ⟨-, -, e⟩ | ⟨-, -, -, e⟩ | ⟨-, -, -, e⟩ <;> omega
theorem pa_r {g : GT} {n a : Int} (h : PAC g n a) : 0 ≤ a ∧ a ≤ 3 := by rcases h with ⟨-, e⟩ | ⟨-, -, e⟩ | ⟨-, -, e⟩ <;> omega
theorem pa_eq {g s : GT} (e : s 1 0 = g 1 0) {n a b : Int} (h : PAC s n a) (h2 : PAC g n b) : a = b := by
  unfold PAC at h h2
  rw [e] at h
  omega
theorem ap_det {g : GT} {f y z z' : Int} {g1 g2 : GT} (h : apQ g f y z g1) (h2 : apQ g f y z' g2) : z = z' ∧ g1 = g2 := by
  obtain ⟨s, u, p, pl, c, b, es, epl, eu, ep, ec, bv, ez, e⟩ := h
  obtain ⟨s', u', p', pl', c', b', es', epl', eu', ep', ec', bv', ez', e'⟩ := h2
  subst es es'
  subst epl epl'
  subst eu eu' ep ep'
  subst ec ec'
  have eb := bv_eq bv bv' Iff.rfl
  subst eb
  exact ⟨ez.trans ez'.symm, e.trans e'.symm⟩
theorem pu_det {g : GT} {f w c y z z' : Int} {g1 g2 : GT} (h : puQ g f w c y z g1) (h2 : puQ g f w c y z' g2) : z = z' ∧ g1 = g2 := by
  obtain ⟨u, p, eu, ep, bv, e⟩ := h
  obtain ⟨u', p', eu', ep', bv', e'⟩ := h2
  subst eu eu' ep ep'
  have eb := bv_eq bv bv' Iff.rfl
  subst eb
  exact ⟨rfl, e.trans e'.symm⟩
/-! column 0 is not asked for -/
section CCs
variable {s g : GT}
theorem lo_c (h : ∀ k, k ≠ 0 → ∀ j, s k j = g k j) (n : Int) : loadG s n = loadG g n := by
  unfold loadG
  simp only [h 11 (by decide), h 18 (by decide)]
theorem gm_c (h : ∀ k, k ≠ 0 → ∀ j, s k j = g k j) (p : Int) : gmG s p = gmG g p := by
  unfold gmG goodP
  simp only [h 7 (by decide), h 12 (by decide), h 16 (by decide), h 17 (by decide), h 18 (by decide)]
theorem fwc (h : ∀ k, k ≠ 0 → ∀ j, s k j = g k j) (p b : Int) : fwG s p b = fwG g p b := fw_cg (fun k hk j => h k (by omega) j) p b
theorem ir_c (h : ∀ k, k ≠ 0 → ∀ j, s k j = g k j) (p r : Int) : irG s p r = irG g p r := by
  unfold irG
  simp only [h 5 (by decide), h 16 (by decide), h 17 (by decide)]
theorem rwc (h : ∀ k, k ≠ 0 → ∀ j, s k j = g k j) (f : Int) : rwG s f = rwG g f := rw_c (h 23 (by decide)) (h 25 (by decide)) f
theorem pu_c (h : ∀ k, k ≠ 0 → ∀ j, s k j = g k j) (f w c : Int) : puP s f w c ↔ puP g f w c := by
  unfold puP
  rw [h 23 (by decide), h 26 (by decide), cw_c h, ff_c h, h 19 (by decide)]
end CCs
theorem up_up {g : GT} {k : Nat} {i x y : Int} : up (up g k i x) k i y = up g k i y := by
  funext k' j
  unfold up
  split
  · rfl
  · rfl
