/-! ===== what the reference keeps, all of it ===== -/
/-- a primary is the head of its piece's copies -/
def PH (g : GT) : Prop := ∀ p, 0 ≤ p → p < g 11 0 → g 13 p ≠ -1 → 0 < g 16 p ∧ g 17 (8 * p) = g 13 p
def pw (c : Int) : Int := if c ≤ 0 then 1 else if c = 1 then 2 else if c = 2 then 4 else if c = 3 then 8 else 16
/-- only cells that there are can be wrong -/
def WR (g : GT) : Prop := ∀ j, 0 ≤ g 21 j ∧ g 21 j < pw (g 19 j)
def IW (g : GT) : Prop := IV1 g ∧ HZ g ∧ PH g ∧ WR g ∧ NN g
theorem IW.i {g : GT} (W : IW g) : IV1 g := W.1
theorem IW.b {g : GT} (W : IW g) : BD g := W.1.1
theorem IW.z {g : GT} (W : IW g) : HZ g := W.2.1
theorem IW.p {g : GT} (W : IW g) : PH g := W.2.2.1
theorem IW.w {g : GT} (W : IW g) : WR g := W.2.2.2.1
theorem IW.n {g : GT} (W : IW g) : NN g := W.2.2.2.2
theorem PH.b {g : GT} (P : PH g) (B : BD g) {p : Int} (p0 : 0 ≤ p) (p1 : p < g 11 0) : g 13 p ≠ -1 → 0 ≤ g 13 p ∧ g 13 p < g 4 0 := fun h => by
  obtain ⟨a, b⟩ := P p p0 p1 h
  have := B.cy p 0 p0 p1 (Int.le_refl 0) a
  rw [show 8 * p + 0 = 8 * p by omega, b] at this
  exact this
theorem PH.kn {g : GT} (P : PH g) {p : Int} (p0 : 0 ≤ p) (p1 : p < g 11 0) (h : g 13 p ≠ -1) : KN g p (g 13 p) := by
  obtain ⟨a, b⟩ := P p p0 p1 h
  exact ⟨0, Int.le_refl 0, a, by rw [show 8 * p + 0 = 8 * p by omega]; exact b⟩
theorem PH.c {g g' : GT} (P : PH g) (h : ∀ k, k = 11 ∨ k = 13 ∨ k = 16 ∨ k = 17 → ∀ j, g' k j = g k j) : PH g' := by
  unfold PH at P ⊢
  simp only [h 11 (by omega), h 13 (by omega), h 16 (by omega), h 17 (by omega)]
  exact P
theorem HZ.c {g g' : GT} (Z : HZ g) (h : ∀ k, k = 4 ∨ k = 11 ∨ k = 18 → ∀ j, g' k j = g k j) : HZ g' := by
  unfold HZ at Z ⊢
  simp only [h 4 (by omega), h 11 (by omega), h 18 (by omega)]
  exact Z
theorem WR.c {g g' : GT} (W : WR g) (h : ∀ k, k = 19 ∨ k = 21 → ∀ j, g' k j = g k j) : WR g' := fun j => by rw [h 21 (by omega), h 19 (by omega)]; exact W j
theorem NN.c {g g' : GT} (N : NN g) (h : ∀ j, g' 18 j = g 18 j) : NN g' := fun j => by rw [h]; exact N j
theorem iw_same {g g' : GT} (W : IW g) (h : ∀ k, k = 4 ∨ k = 11 ∨ k = 22 ∨ k = 7 ∨ k = 9 ∨ k = 15 ∨ k = 16 ∨ k = 17 ∨ k = 25 ∨ k = 26 ∨ k = 13 ∨ k = 12 ∨ k = 18 ∨ k = 19 ∨ k = 21 → ∀ j, g' k j = g k j) : IW g' :=
  ⟨iv1_same W.i (fun k hk => h k (by omega)), W.z.c (fun k hk => h k (by omega)), W.p.c (fun k hk => h k (by omega)), W.w.c (fun k hk => h k (by omega)), W.n.c (h 18 (by omega))⟩
/-- columns that only bounds speak of -/
theorem iw_iv {g g' : GT} (W : IW g) (I : IV1 g') (h : ∀ k, k = 4 ∨ k = 11 ∨ k = 13 ∨ k = 16 ∨ k = 17 ∨ k = 18 ∨ k = 19 ∨ k = 21 → ∀ j, g' k j = g k j) : IW g' :=
  ⟨I, W.z.c (fun k hk => h k (by omega)), W.p.c (fun k hk => h k (by omega)), W.w.c (fun k hk => h k (by omega)), W.n.c (h 18 (by omega))⟩
theorem ph_el {g : GT} (P : PH g) (p : Int) : PH (elG g p) := by
  intro q q0 q1 hq
  unfold elG at hq q1 ⊢
  rw [up_ne (by decide), up_ne (by decide)] at q1
  rw [up_ne (by decide), up_at] at hq
  rw [up_ne (by decide), up_ne (by decide), up_ne (by decide), up_ne (by decide), up_ne (by decide), up_at]
  by_cases c : q = p
  · rw [if_pos c] at hq; exact absurd rfl hq
  · rw [if_neg c] at hq ⊢
    exact P q q0 q1 hq
theorem ph_fgt {g : GT} (P : PH g) (B : BD g) {p : Int} (p0 : 0 ≤ p) (p1 : p < g 11 0) {n : Int} (q : PH g → ∀ h : g 13 p ≠ -1, g 13 p = n → False) : PH (fgtG g p n) := by
  unfold fgtG
  split
  · exact P
  · rename_i hk
    have hz := (plG_b (g := g) (p := p) (n := n)).resolve_left hk
    obtain ⟨z, hz9⟩ : ∃ z, z = plG g p n := ⟨_, rfl⟩
    rw [← hz9] at hz ⊢
    intro r r0 r1 hr
    rw [shf_ne _ _ _ _ (by decide) (by decide)] at r1 hr
    rw [shf_ne _ _ _ _ (k := 13) (by decide) (by decide)]
    have bp := B.cp p p0 p1
    have br := B.cp r r0 r1
    have a := P r r0 r1 hr
    by_cases c : r = p
    · subst c
      have z0 : z ≠ 0 := fun e => by
        rw [e, show 8 * r + 0 = 8 * r by omega, a.2] at hz
        exact q P hr hz.2.2
      rw [shf_16, shf_17, if_neg (by omega)]
      exact ⟨by omega, a.2⟩
    · rw [shf_16n _ _ _ _ c, shf_17, if_neg (by omega)]
      exact a
theorem ph_fe {g : GT} (P : PH g) (B : BD g) {p : Int} (p0 : 0 ≤ p) (p1 : p < g 11 0) (n : Int) : PH (elG (fgtG g p n) p) := by
  intro r r0 r1 hr
  have e13 : ∀ j, elG (fgtG g p n) p 13 j = if j = p then -1 else g 13 j := fun j => by
    unfold elG
    rw [up_ne (by decide), up_at, fgt_ne _ _ _ (by decide) (by decide)]
  have e : ∀ k, k ≠ 13 ∧ k ≠ 14 → ∀ j, elG (fgtG g p n) p k j = fgtG g p n k j := fun k hk j => by unfold elG; rw [up_ne hk.2, up_ne hk.1]
  rw [e 11 (by decide), fgt_ne _ _ _ (by decide) (by decide)] at r1
  rw [e13] at hr ⊢
  rw [e 16 (by decide), e 17 (by decide)]
  by_cases c : r = p
  · rw [if_pos c] at hr; exact absurd rfl hr
  · rw [if_neg c] at hr ⊢
    have a := P r r0 r1 hr
    unfold fgtG
    split
    · exact a
    · rename_i hk
      have hz := (plG_b (g := g) (p := p) (n := n)).resolve_left hk
      have bp := B.cp p p0 p1
      have br := B.cp r r0 r1
      rw [shf_16n _ _ _ _ c, shf_17, if_neg (by omega)]
      exact a
theorem ph_kn {g : GT} (P : PH g) (B : BD g) {p : Int} (p0 : 0 ≤ p) (p1 : p < g 11 0) (n : Int) (h8 : g 16 p < 8) : PH (knG g p n) := by
  intro r r0 r1 hr
  rw [kn_ne _ _ _ (by decide) (by decide)] at r1 hr
  rw [kn_ne _ _ _ (k := 13) (by decide) (by decide)]
  have bp := B.cp p p0 p1
  have br := B.cp r r0 r1
  have a := P r r0 r1 hr
  by_cases c : r = p
  · subst c
    rw [kn_16, kn_17, if_neg (by omega)]
    exact ⟨by omega, a.2⟩
  · rw [kn_16n _ _ _ c, kn_17]
    rw [if_neg (by omega)]
    exact a
/-! dropping -/
theorem dr_18 (g : GT) (n p j : Int) : drG g n p 18 j = if j = 60 * n + p then 0 else g 18 j := by
  unfold drG
  split
  · unfold elG
    rw [up_ne (by decide), up_ne (by decide), fgt_ne _ _ _ (by decide) (by decide), dr1_18]
  · rw [fgt_ne _ _ _ (by decide) (by decide), dr1_18]
theorem dr1_19 (g : GT) (n p j : Int) : dr1 g n p 19 j = if j = 60 * n + p then 0 else g 19 j := by
  unfold dr1
  rw [up_ne (by decide), up_at, up_ne (by decide)]
theorem dr1_21 (g : GT) (n p j : Int) : dr1 g n p 21 j = if j = 60 * n + p then 0 else g 21 j := by
  unfold dr1
  rw [up_at, up_ne (by decide), up_ne (by decide)]
theorem dr_19 (g : GT) (n p j : Int) : drG g n p 19 j = if j = 60 * n + p then 0 else g 19 j := by
  unfold drG
  split
  · unfold elG
    rw [up_ne (by decide), up_ne (by decide), fgt_ne _ _ _ (by decide) (by decide), dr1_19]
  · rw [fgt_ne _ _ _ (by decide) (by decide), dr1_19]
theorem dr_21 (g : GT) (n p j : Int) : drG g n p 21 j = if j = 60 * n + p then 0 else g 21 j := by
  unfold drG
  split
  · unfold elG
    rw [up_ne (by decide), up_ne (by decide), fgt_ne _ _ _ (by decide) (by decide), dr1_21]
  · rw [fgt_ne _ _ _ (by decide) (by decide), dr1_21]
theorem iw_dr {g : GT} (W : IW g) {p : Int} (p0 : 0 ≤ p) (p1 : p < g 11 0) (n : Int) : IW (drG g n p) := by
  refine ⟨iv1_dr W.i p0 p1 n, fun n' q a b c d e => ?_, ?_, fun j => ?_, fun j => ?_⟩
  · rw [dr_ne _ _ _ (by decide), dr_ne _ _ _ (by decide)] at e
    rw [dr_18]
    split
    · rfl
    · exact W.z n' q a b c d e
  · have P1 : PH (dr1 g n p) := W.p.c (fun k hk j => dr1_ne g n p (by omega) j)
    have B1 := bd_dr1 W.b n p
    have p1' : p < dr1 g n p 11 0 := by rw [dr1_11]; exact p1
    unfold drG
    split
    · exact ph_fe P1 B1 p0 p1' n
    · rename_i h
      refine ph_fgt P1 B1 p0 p1' (fun Q hne he => h ⟨?_, ?_⟩)
      · rw [dr1_ne _ _ _ (by decide)] at hne he
        rw [← he]
        exact kn_pl.mpr (W.p.kn p0 p1 hne)
      · rw [dr1_ne _ _ _ (by decide)] at he
        exact he
  · rw [dr_19, dr_21]
    split
    · exact ⟨by decide, by decide⟩
    · exact W.w j
  · rw [dr_18]
    split
    · exact Int.le_refl 0
    · exact W.n j
theorem iw_kn {g : GT} (W : IW g) {p n : Int} (hp0 : 0 ≤ p) (hp1 : p < g 11 0) (hn0 : 0 ≤ n) (hn1 : n < g 4 0) (hk : ¬ KN g p n) (hh : g 18 (60 * n + p) = g 12 p) : IW (knG g p n) :=
  ⟨iv1_kn W.i hp0 hp1 hn0 hn1 hk hh, W.z.c (fun k hk j => kn_ne g p n (by omega) (by omega) j), ph_kn W.p W.b hp0 hp1 n (by have := dc_lt W.b W.i.2.1 hp0 hp1 hn0 hn1 (pl_none.mpr hk); have := W.b.nn; omega), W.w.c (fun k hk j => kn_ne g p n (by omega) (by omega) j), W.n.c (fun j => kn_ne g p n (by decide) (by decide) j)⟩
theorem iw_fe {g : GT} (W : IW g) {p : Int} (p0 : 0 ≤ p) (p1 : p < g 11 0) (n : Int) : IW (elG (fgtG g p n) p) := by
  have e : ∀ k, k ≠ 13 ∧ k ≠ 14 ∧ k ≠ 16 ∧ k ≠ 17 → ∀ j, elG (fgtG g p n) p k j = g k j := fun k hk j => by unfold elG; rw [up_ne hk.2.1, up_ne hk.1, fgt_ne _ _ _ hk.2.2.1 hk.2.2.2]
  exact ⟨iv1_el (iv1_fgt W.i p0 p1 n) p, W.z.c (fun k hk => e k (by omega)), ph_fe W.p W.b p0 p1 n, W.w.c (fun k hk => e k (by omega)), W.n.c (e 18 (by decide))⟩
theorem iw_el {g : GT} (W : IW g) (p : Int) : IW (elG g p) := by
  have e : ∀ k, k ≠ 13 ∧ k ≠ 14 → ∀ j, elG g p k j = g k j := fun k hk j => by unfold elG; rw [up_ne hk.2, up_ne hk.1]
  exact ⟨iv1_el W.i p, W.z.c (fun k hk => e k (by omega)), ph_el W.p p, W.w.c (fun k hk => e k (by omega)), W.n.c (e 18 (by decide))⟩
theorem iw_gt {g : GT} (W : IW g) {p n : Int} (p0 : 0 ≤ p) (p1 : p < g 11 0) (n0 : 0 ≤ n) (n1 : n < g 4 0) (n2 p2 : Int) : IW (gtG g n p n2 p2) := by
  have b2 := W.b.np
  refine ⟨iv1_gt W.i p0 p1 n n2 p2, fun n' q a b c d e => ?_, W.p.c (fun k hk j => gt_ne _ _ _ _ _ (by omega) j), fun j => ?_, fun j => ?_⟩
  · rw [gt_ne _ _ _ _ _ (by decide), gt_ne _ _ _ _ _ (by decide)] at e
    rw [gt_18, if_neg (by omega)]
    exact W.z n' q a b c d e
  · rw [gt_19, gt_21]
    split
    · exact W.w _
    · exact W.w j
  · rw [gt_18]
    split
    · have := W.i.2.2.2.2 p p0 p1; omega
    · exact W.n j
theorem ad3_21 (s : GT) (b i j : Int) : ad3 s b i 21 j = if j = 60 * b + i then 0 else s 21 j := by
  unfold ad3
  rw [up_at, up_ne (by decide), up_ne (by decide)]
theorem iw_ad3 {s : GT} (W : IW s) {p b : Int} (p0 : 0 ≤ p) (p1 : p < s 11 0) (n0 : 0 ≤ b) (n1 : b < s 4 0) (hv : s 12 p = 1) : IW (ad3 s b p) := by
  have b2 := W.b.np
  refine ⟨iv1_ad3 W.i p0 p1 hv b, fun n' q a c d e f => ?_, W.p.c (fun k hk j => ad3_ne _ _ _ (by omega) j), fun j => ?_, fun j => ?_⟩
  · rw [ad3_ne _ _ _ (by decide), ad3_ne _ _ _ (by decide)] at f
    rw [ad3_18, if_neg (by omega)]
    exact W.z n' q a c d e f
  · rw [ad3_19, ad3_21]
    split
    · exact ⟨by decide, by decide⟩
    · exact W.w j
  · rw [ad3_18]
    split
    · decide
    · exact W.n j
/-! bits -/
theorem bit_cl : ∀ l : Fin 5, ∀ w : Fin 16, ∀ c : Fin 4, ((w : Nat) : Int) < pw ((l : Nat) : Int) → 0 ≤ clrB ((w : Nat) : Int) ((c : Nat) : Int) ∧ clrB ((w : Nat) : Int) ((c : Nat) : Int) < pw (if ((c : Nat) : Int) < ((l : Nat) : Int) then ((l : Nat) : Int) else ((c : Nat) : Int) + 1) := by decide +kernel
theorem bit_se : ∀ l : Fin 5, ∀ w : Fin 16, ∀ c : Fin 4, ((w : Nat) : Int) < pw ((l : Nat) : Int) → ((c : Nat) : Int) < ((l : Nat) : Int) → 0 ≤ seB ((w : Nat) : Int) ((c : Nat) : Int) ∧ seB ((w : Nat) : Int) ((c : Nat) : Int) < pw ((l : Nat) : Int) := by decide +kernel
theorem bit_sh : ∀ l : Fin 5, ∀ w : Fin 16, ∀ c : Fin 4, ((w : Nat) : Int) < pw ((l : Nat) : Int) → shB ((w : Nat) : Int) ((c : Nat) : Int) = 1 → ((c : Nat) : Int) < ((l : Nat) : Int) := by decide +kernel
theorem pw_le (c : Int) : pw c ≤ 16 := by
  unfold pw
  split
  · decide
  · split
    · decide
    · split
      · decide
      · split <;> decide
theorem bit_in {l w c : Int} (l0 : 0 ≤ l) (l1 : l ≤ 4) (w0 : 0 ≤ w) (w1 : w < pw l) (c0 : 0 ≤ c) (c1 : c < 4) : ∃ (l' : Fin 5) (w' : Fin 16) (c' : Fin 4), ((l' : Nat) : Int) = l ∧ ((w' : Nat) : Int) = w ∧ ((c' : Nat) : Int) = c := by
  have := pw_le l
  exact ⟨⟨l.toNat, by omega⟩, ⟨w.toNat, by omega⟩, ⟨c.toNat, by omega⟩, by show ((l.toNat : Nat) : Int) = l; omega, by show ((w.toNat : Nat) : Int) = w; omega, by show ((c.toNat : Nat) : Int) = c; omega⟩
theorem wr_cl {l w c : Int} (l0 : 0 ≤ l) (l1 : l ≤ 4) (w0 : 0 ≤ w) (w1 : w < pw l) (c0 : 0 ≤ c) (c1 : c < 4) : 0 ≤ clrB w c ∧ clrB w c < pw (if c < l then l else c + 1) := by
  obtain ⟨l', w', c', rfl, rfl, rfl⟩ := bit_in l0 l1 w0 w1 c0 c1
  exact bit_cl l' w' c' w1
theorem wr_se {l w c : Int} (l0 : 0 ≤ l) (l1 : l ≤ 4) (w0 : 0 ≤ w) (w1 : w < pw l) (c0 : 0 ≤ c) (c1 : c < l) : 0 ≤ seB w c ∧ seB w c < pw l := by
  obtain ⟨l', w', c', rfl, rfl, rfl⟩ := bit_in l0 l1 w0 w1 c0 (by omega)
  exact bit_se l' w' c' w1 c1
theorem wr_sh {l w c : Int} (l0 : 0 ≤ l) (l1 : l ≤ 4) (w0 : 0 ≤ w) (w1 : w < pw l) (c0 : 0 ≤ c) (c1 : c < 4) (h : shB w c = 1) : c < l := by
  obtain ⟨l', w', c', rfl, rfl, rfl⟩ := bit_in l0 l1 w0 w1 c0 c1
  exact bit_sh l' w' c' w1 h
theorem wr_19 (g : GT) (n p c x j : Int) : wrG g n p c x 19 j = if j = 60 * n + p then (if c < g 19 (60 * n + p) then g 19 (60 * n + p) else c + 1) else g 19 j := by
  unfold wrG
  rw [up_ne (by decide), up_ne (by decide), up_at]
  by_cases q : j = 60 * n + p
  · rw [if_pos q, if_pos q]
  · rw [if_neg q, if_neg q]
    unfold filG
    rw [if_neg (by omega)]
theorem wr_21 (g : GT) (n p c x j : Int) : wrG g n p c x 21 j = if j = 60 * n + p then clrB (g 21 (60 * n + p)) c else g 21 j := by
  unfold wrG
  rw [up_at]
  by_cases q : j = 60 * n + p
  · rw [if_pos q, if_pos q]
  · rw [if_neg q, if_neg q, up_ne (by decide), up_ne (by decide)]
    unfold filG
    rw [if_neg (by omega)]
theorem iw_wr {g : GT} (W : IW g) (n p x : Int) {c : Int} (c0 : 0 ≤ c) (c1 : c < 4) : IW (wrG g n p c x) := by
  have e : ∀ k, k ≠ 19 ∧ k ≠ 20 ∧ k ≠ 21 → ∀ j, wrG g n p c x k j = g k j := fun k hk j => wr_ne g n p c x hk j
  refine ⟨⟨bd_same W.b (fun k hk j => e k (by omega) j), dc_same W.i.2.1 (fun k hk j => e k (by omega) j), cl_wr W.i.2.2.1 n p x c0 c1, fun q m h0 h1 h2 => ?_, fun q h0 h1 => ?_⟩, W.z.c (fun k hk => e k (by omega)), W.p.c (fun k hk => e k (by omega)), fun j => ?_, W.n.c (e 18 (by decide))⟩
  · rw [e 11 (by decide)] at h1
    rw [e 18 (by decide), e 12 (by decide)]
    exact W.i.2.2.2.1 q m h0 h1 ((KN.c (e 16 (by decide)) (e 17 (by decide)) q m).mp h2)
  · rw [e 11 (by decide)] at h1
    rw [e 12 (by decide)]
    exact W.i.2.2.2.2 q h0 h1
  · rw [wr_19, wr_21]
    split
    · have a := W.i.2.2.1 (60 * n + p)
      have b := W.w (60 * n + p)
      exact wr_cl a.1 a.2 b.1 b.2 c0 c1
    · exact W.w j
theorem iw_sp {g : GT} (W : IW g) {t c : Int} (c0 : 0 ≤ c) (c1 : c < g 19 t) : IW (up g 21 t (seB (g 21 t) c)) := by
  have a := W.i.2.2.1 t
  have b := W.w t
  refine ⟨iv1_up0 W.i (by decide), W.z.c (fun k hk j => up_ne (by omega)), W.p.c (fun k hk j => up_ne (by omega)), fun j => ?_, W.n.c (fun j => up_ne (by decide))⟩
  rw [up_at, up_ne (by decide)]
  split
  · rename_i e
    subst e
    exact wr_se a.1 a.2 b.1 b.2 c0 c1
  · exact W.w j
/-- the class holds the table, with all that the reference keeps -/
def Rw (gx : GX) (x : Nat) (A : Nat → Int → Nat) (u : GT) (m : Int) (g : GT) (h : Hp) : Prop := Rp gx x A u m g h ∧ IW g ∧ CI u g
theorem Rw.z {gx : GX} {x : Nat} {A : Nat → Int → Nat} {u : GT} {m : Int} {g : GT} {h : Hp} (Z : Rw gx x A u m g h) : Rd gx x A u m g h := ⟨Z.1, Z.2.1.i, Z.2.2, Z.2.1.n⟩
