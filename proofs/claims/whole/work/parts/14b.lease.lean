/-! ===== leases: who is left, in order ===== -/
theorem cnt_mono (f : Int → Bool) {a b : Int} (a0 : 0 ≤ a) (h : a ≤ b) : cnt f a ≤ cnt f b := by
  have key : ∀ m : Nat, cnt f a ≤ cnt f (a + m) := by
    intro m
    induction m with
    | zero => rw [show a + ((0 : Nat) : Int) = a by omega]; exact Int.le_refl _
    | succ m ih =>
      rw [show a + ((m + 1 : Nat) : Int) = (a + m) + 1 by omega, cnt_s _ (by omega)]
      split <;> omega
  have := key (b - a).toNat
  rwa [show a + ((b - a).toNat : Int) = b by omega] at this
theorem cnt_lt (f : Int → Bool) {a b : Int} (a0 : 0 ≤ a) (h : a < b) (hf : f a = true) : cnt f a < cnt f b := by
  have := cnt_mono f (a := a + 1) (b := b) (by omega) (by omega)
  rw [cnt_s _ a0, if_pos hf] at this
  omega
theorem cnt_surj (f : Int → Bool) {N : Int} (N0 : 0 ≤ N) : ∀ j, 0 ≤ j → j < cnt f N → ∃ k, 0 ≤ k ∧ k < N ∧ f k = true ∧ cnt f k = j := by
  have key : ∀ m : Nat, ∀ j, 0 ≤ j → j < cnt f (m : Int) → ∃ k, 0 ≤ k ∧ k < (m : Int) ∧ f k = true ∧ cnt f k = j := by
    intro m
    induction m with
    | zero => intro j a b; rw [show ((0 : Nat) : Int) = 0 from rfl, cnt_0] at b; omega
    | succ m ih =>
      intro j a b
      rw [show ((m + 1 : Nat) : Int) = (m : Int) + 1 by omega, cnt_s _ (by omega)] at b
      by_cases c : j < cnt f m
      · obtain ⟨k, k0, k1, k2, k3⟩ := ih j a c
        exact ⟨k, k0, by omega, k2, k3⟩
      · by_cases q : f m = true
        · rw [if_pos q] at b
          exact ⟨m, by omega, by omega, q, by omega⟩
        · rw [if_neg q] at b; omega
  have := key N.toNat
  rwa [Int.toNat_of_nonneg N0] at this
theorem cnt_pre {f f' : Int → Bool} {N : Int} (e : ∀ k, 0 ≤ k → k < N → f' k = f k) {k : Int} (h : k ≤ N) : cnt f' k = cnt f k := cnt_c (fun i i0 i1 => e i i0 (by omega))
/-- of the first c0 copies of p in g, those that f keeps are the copies in s, in their order -/
def PB (g : GT) (p c0 : Int) (f : Int → Bool) (s : GT) : Prop := s 16 p = cnt f c0 ∧ ∀ k, 0 ≤ k → k < c0 → f k = true → s 17 (8 * p + cnt f k) = g 17 (8 * p + k)
theorem PB.rm {g s : GT} {p c0 z : Int} {f f' : Int → Bool} (P : PB g p c0 f s) (z0 : 0 ≤ z) (z1 : z < c0) (hz : f z = true) (hz' : f' z = false) (e : ∀ k, 0 ≤ k → k < c0 → k ≠ z → f' k = f k) : PB g p c0 f' (shf s p (cnt f z) (s 16 p - 1)) := by
  obtain ⟨P1, P2⟩ := P
  have d1 := cnt_off z0 z1 hz hz' e
  refine ⟨by rw [shf_16, d1, P1], fun k k0 k1 hk => ?_⟩
  have kz : k ≠ z := fun q => by rw [q, hz'] at hk; cases hk
  have hk2 : f k = true := (e k k0 k1 kz).symm.trans hk
  rw [shf_17]
  by_cases c : k < z
  · have e1 : cnt f' k = cnt f k := cnt_c (fun i i0 i1 => e i i0 (by omega) (by omega))
    have := cnt_lt f k0 c hk2
    rw [e1, if_neg (by omega)]
    exact P2 k k0 k1 hk2
  · have e1 : cnt f' k = cnt f k - 1 := cnt_off z0 (by omega) hz hz' (fun i i0 i1 => e i i0 (by omega))
    have := cnt_lt f z0 (show z < k by omega) hz
    have := cnt_lt f k0 k1 hk2
    rw [e1, if_pos (by omega), show 8 * p + (cnt f k - 1) + 1 = 8 * p + cnt f k by omega]
    exact P2 k k0 k1 hk2
theorem PB.eq {g s t : GT} {p c0 : Int} {f : Int → Bool} (P : PB g p c0 f s) (Q : PB g p c0 f t) (c : 0 ≤ c0) : s 16 p = t 16 p ∧ ∀ j, 0 ≤ j → j < s 16 p → s 17 (8 * p + j) = t 17 (8 * p + j) := by
  refine ⟨P.1.trans Q.1.symm, fun j j0 j1 => ?_⟩
  rw [P.1] at j1
  obtain ⟨k, k0, k1, k2, k3⟩ := cnt_surj f c j j0 j1
  rw [← k3, P.2 k k0 k1 k2, Q.2 k k0 k1 k2]
theorem PB.c {g s : GT} {p c0 : Int} {f f' : Int → Bool} (P : PB g p c0 f s) (e : ∀ k, 0 ≤ k → k < c0 → f' k = f k) : PB g p c0 f' s :=
  ⟨by rw [P.1]; exact (cnt_c e).symm, fun k k0 k1 hk => by rw [cnt_pre e (by omega)]; exact P.2 k k0 k1 ((e k k0 k1).symm.trans hk)⟩
theorem PB.z {g : GT} {p c0 : Int} (hc : g 16 p = c0) (c : 0 ≤ c0) : PB g p c0 (fun _ => true) g := by
  have e : ∀ n : Int, 0 ≤ n → cnt (fun _ => true) n = n := by
    intro n n0
    have key : ∀ m : Nat, cnt (fun _ => true) (m : Int) = m := by
      intro m
      induction m with
      | zero => rfl
      | succ m ih => rw [show ((m + 1 : Nat) : Int) = (m : Int) + 1 by omega, cnt_s _ (by omega), ih, if_pos rfl]
    have := key n.toNat
    rwa [Int.toNat_of_nonneg n0] at this
  exact ⟨by rw [e c0 c, hc], fun k k0 k1 _ => by rw [e k k0]⟩
/-- the reference's way -/
theorem ls1_PB {g : GT} (W : IW g) {p : Int} (p0 : 0 ≤ p) (p1 : p < g 11 0) : PB g p (g 16 p) (fun k => decide (g 7 (g 17 (8 * p + k)) ≠ 0)) (ls1 g p) := by
  have B := W.b
  have b1 := B.nn
  have bc := B.cp p p0 p1
  have key : ∀ m : Nat, (m : Int) ≤ g 4 0 → PB g p (g 16 p) (fun k => decide (g 7 (g 17 (8 * p + k)) ≠ 0 ∨ (m : Int) ≤ g 17 (8 * p + k))) (itrI (lsF p) m g) := by
    intro m
    induction m with
    | zero =>
      intro _
      refine (PB.z rfl bc.1).c (fun k k0 k1 => ?_)
      have := B.cy p k p0 p1 k0 k1
      exact decide_eq_true (Or.inr (by omega))
    | succ m ih =>
      intro hm
      have P := ih (by omega)
      have S := (lsi_f W.i p0 p1 (i := (m : Int)) (by omega))
      rw [show ((m + 1 : Nat) : Int) = (m : Int) + 1 by omega, itrI_s _ _ (by omega)]
      obtain ⟨s, hs⟩ : ∃ s, s = itrI (lsF p) m g := ⟨_, rfl⟩
      rw [← hs] at P S ⊢
      have e7 : s 7 m = g 7 m := S.2.1 7 (by decide) m
      have e11 : s 11 0 = g 11 0 := S.2.1 11 (by decide) 0
      unfold lsF
      by_cases c : s 7 m = 0
      · rw [if_pos c]
        unfold fgtG
        by_cases q : plG s p m = -1
        · rw [if_pos q]
          refine P.c (fun k k0 k1 => ?_)
          have nk := pl_none.mp q
          by_cases e : g 17 (8 * p + k) = m
          · exfalso
            refine nk (((S.2.2.2.1 m).mpr ⟨⟨k, k0, k1, e⟩, Or.inr (Int.le_refl _)⟩))
          · by_cases d : g 7 (g 17 (8 * p + k)) ≠ 0 ∨ (m : Int) ≤ g 17 (8 * p + k)
            · rw [decide_eq_true d, decide_eq_true (show g 7 (g 17 (8 * p + k)) ≠ 0 ∨ (m : Int) + 1 ≤ g 17 (8 * p + k) by omega)]
            · rw [decide_eq_false d, decide_eq_false (show ¬ (g 7 (g 17 (8 * p + k)) ≠ 0 ∨ (m : Int) + 1 ≤ g 17 (8 * p + k)) by omega)]
        · rw [if_neg q]
          have kn := kn_pl.mp q
          obtain ⟨⟨z, z0, z1, ez⟩, -⟩ := (S.2.2.2.1 m).mp kn
          have fz : (fun k => decide (g 7 (g 17 (8 * p + k)) ≠ 0 ∨ (m : Int) ≤ g 17 (8 * p + k))) z = true := decide_eq_true (Or.inr (by rw [ez]; exact Int.le_refl _))
          have epl : plG s p m = cnt (fun k => decide (g 7 (g 17 (8 * p + k)) ≠ 0 ∨ (m : Int) ≤ g 17 (8 * p + k))) z := by
            have hb := cnt_b (fun k => decide (g 7 (g 17 (8 * p + k)) ≠ 0 ∨ (m : Int) ≤ g 17 (8 * p + k))) z
            have hl := cnt_lt (fun k => decide (g 7 (g 17 (8 * p + k)) ≠ 0 ∨ (m : Int) ≤ g 17 (8 * p + k))) z0 z1 fz
            refine findI_hit hb.1 (by rw [P.1]; exact hl) (decide_eq_true ((P.2 z z0 z1 fz).trans ez)) (fun j j0 j1 => decide_eq_false (fun e => ?_))
            have bc2 := S.1.1.cp p p0 (by omega)
            refine S.1.2.1 p p0 (by omega) j _ j0 j1 (by rw [P.1]; exact hl) ?_
            rw [e, P.2 z z0 z1 fz, ez]
          rw [epl]
          refine P.rm z0 z1 fz (decide_eq_false ?_) (fun k k0 k1 kz => ?_)
          · rw [ez]; omega
          · have dd : g 17 (8 * p + k) ≠ m := fun e => by
              have D := W.i.2.1 p p0 p1
              rcases Int.lt_trichotomy k z with y | y | y
              · exact D k z k0 y z1 (e.trans ez.symm)
              · exact kz y
              · exact D z k z0 y k1 (ez.trans e.symm)
            by_cases d : g 7 (g 17 (8 * p + k)) ≠ 0 ∨ (m : Int) ≤ g 17 (8 * p + k)
            · rw [decide_eq_true d, decide_eq_true (show g 7 (g 17 (8 * p + k)) ≠ 0 ∨ (m : Int) + 1 ≤ g 17 (8 * p + k) by omega)]
            · rw [decide_eq_false d, decide_eq_false (show ¬ (g 7 (g 17 (8 * p + k)) ≠ 0 ∨ (m : Int) + 1 ≤ g 17 (8 * p + k)) by omega)]
      · rw [if_neg c]
        refine P.c (fun k k0 k1 => ?_)
        by_cases d : g 7 (g 17 (8 * p + k)) ≠ 0 ∨ (m : Int) ≤ g 17 (8 * p + k)
        · refine (decide_eq_true ?_).trans (decide_eq_true d).symm
          by_cases e : g 17 (8 * p + k) = m
          · left; rw [e]; omega
          · omega
        · rw [decide_eq_false d, decide_eq_false (show ¬ (g 7 (g 17 (8 * p + k)) ≠ 0 ∨ (m : Int) + 1 ≤ g 17 (8 * p + k)) by omega)]
  have := key (g 4 0).toNat (by omega)
  rw [Int.toNat_of_nonneg b1.1] at this
  refine this.c (fun k k0 k1 => ?_)
  have r := B.cy p k p0 p1 k0 k1
  by_cases d : g 7 (g 17 (8 * p + k)) ≠ 0
  · rw [decide_eq_true d, decide_eq_true (Or.inl d)]
  · rw [decide_eq_false d, decide_eq_false (show ¬ (g 7 (g 17 (8 * p + k)) ≠ 0 ∨ g 4 0 ≤ g 17 (8 * p + k)) by omega)]
theorem ls1_ne (g : GT) (p : Int) {k : Nat} (h : k ≠ 16 ∧ k ≠ 17) (j : Int) : ls1 g p k j = g k j :=
  itrI_ind (P := fun s => ∀ j, s k j = g k j) (lsF p) (fun _ => rfl) (fun n s _ _ S j => by
    unfold lsF
    split
    · rw [fgt_ne _ _ _ h.1 h.2]; exact S j
    · exact S j) j
/-- other pieces' copies stay where they are -/
theorem ls1_ot {g : GT} (B : BD g) {p : Int} (p0 : 0 ≤ p) (p1 : p < g 11 0) : (∀ j, j ≠ p → ls1 g p 16 j = g 16 j) ∧ (∀ j, ¬ (8 * p ≤ j ∧ j < 8 * p + 8) → ls1 g p 17 j = g 17 j) := by
  have bc := B.cp p p0 p1
  have := itrI_ind (P := fun s => s 16 p ≤ 8 ∧ (∀ j, j ≠ p → s 16 j = g 16 j) ∧ (∀ j, ¬ (8 * p ≤ j ∧ j < 8 * p + 8) → s 17 j = g 17 j)) (lsF p) (g := g) (n := g 4 0) ⟨bc.2, fun _ _ => rfl, fun _ _ => rfl⟩ (fun n s _ _ S => by
    unfold lsF
    split
    · have pb := plG_b (g := s) (p := p) (n := n)
      refine ⟨?_, fun j hj => ?_, fun j hj => ?_⟩
      · rw [fq_16]; split <;> omega
      · rw [fq_16, if_neg (fun z => hj z.1)]; exact S.2.1 j hj
      · rw [fq_17, if_neg (fun z => by have := z.1; omega)]; exact S.2.2 j hj
    · exact S)
  exact this.2
theorem iw_ls {g : GT} (W : IW g) {p : Int} (p0 : 0 ≤ p) (p1 : p < g 11 0) (hu : fuG g p ≠ -1) : IW (lsG g p) := by
  have B := W.b
  have b1 := B.nn
  have b2 := B.np
  obtain ⟨I, S, s13, s17, s16, s12, s14, skn⟩ := ls_f W.i p0 p1 hu
  have B2 := I.1
  have e18 : ∀ j, lsG g p 18 j = ls3 g p 18 j := fun j => by unfold lsG; rw [up_ne (by decide), up_ne (by decide)]
  have l2 : ∀ k, k ≠ 12 → ∀ j, ls2 g p k j = ls1 g p k j := fun k hk j => up_ne hk
  have H := lh_18 (ls2 g p) p (i := ls2 g p 16 p) (by
    have P := (ls1_PB W p0 p1).1
    rw [l2 16 (by decide), P]
    exact (cnt_b _ _).1)
  have g18 : ∀ j, ls2 g p 18 j = g 18 j := fun j => (l2 18 (by decide) j).trans (ls1_ne g p (by decide) j)
  have g12 : ls2 g p 12 p = g 12 p + 1 := by
    unfold ls2
    rw [up_self, ls1_ne g p (by decide)]
  have l3 : ∀ k, k ≠ 18 → ∀ j, ls3 g p k j = ls2 g p k j := fun k hk j => lh_ne _ _ _ k hk j
  have ot := ls1_ot B p0 p1
  have e13 : ∀ j, lsG g p 13 j = if j = p then fuG g p else g 13 j := fun j => by
    by_cases c : j = p
    · rw [if_pos c, c]; exact s13
    · rw [if_neg c]
      unfold lsG
      rw [up_ne (by decide), up_off c, l3 13 (by decide), l2 13 (by decide), ls1_ne g p (by decide)]
  have e16 : ∀ j, j ≠ p → lsG g p 16 j = g 16 j := fun j hj => by
    unfold lsG
    rw [up_ne (by decide), up_ne (by decide), l3 16 (by decide), l2 16 (by decide)]
    exact ot.1 j hj
  have e17 : ∀ j, ¬ (8 * p ≤ j ∧ j < 8 * p + 8) → lsG g p 17 j = g 17 j := fun j hj => by
    unfold lsG
    rw [up_ne (by decide), up_ne (by decide), l3 17 (by decide), l2 17 (by decide)]
    exact ot.2 j hj
  have c18 : ∀ j, lsG g p 18 j = g 18 j ∨ (lsG g p 18 j = g 12 p + 1 ∧ ∃ n, 0 ≤ n ∧ n < g 4 0 ∧ j = 60 * n + p) := fun j => by
    rw [e18]
    by_cases q : ∃ k, 0 ≤ k ∧ k < ls2 g p 16 p ∧ j = 60 * ls2 g p 17 (8 * p + k) + p
    · obtain ⟨k, k0, k1, e⟩ := q
      right
      refine ⟨by rw [e]; exact (H.1 k k0 k1).trans g12, ls2 g p 17 (8 * p + k), ?_⟩
      have lsx : ∀ k, k = 16 ∨ k = 17 → ∀ j, lsG g p k j = ls2 g p k j := fun k hk j => by
        unfold lsG
        rw [up_ne (by omega), up_ne (by omega), l3 k (by omega)]
      have := B2.cy p k p0 (by rw [S 11 (by decide)]; exact p1) k0 (by rw [lsx 16 (by omega)]; exact k1)
      rw [lsx 17 (by omega), S 4 (by decide)] at this
      exact ⟨this.1, this.2, e⟩
    · left
      refine (H.2 j (fun k k0 k1 e => q ⟨k, k0, k1, e⟩)).trans (g18 j)
  refine ⟨I, fun n q a b c d z => ?_, fun q q0 q1 hq => ?_, W.w.c (fun k hk j => S k (by omega) j), fun j => ?_⟩
  · rw [S 4 (by decide), S 11 (by decide)] at z
    rcases c18 (60 * n + q) with e | ⟨-, n', n0, n1, e⟩
    · rw [e]; exact W.z n q a b c d z
    · omega
  · rw [S 11 (by decide)] at q1
    rw [e13] at hq ⊢
    by_cases c : q = p
    · rw [if_pos c, c]; exact ⟨s16, s17⟩
    · rw [if_neg c] at hq ⊢
      rw [e16 q c, e17 (8 * q) (by omega)]
      exact W.p q q0 q1 hq
  · rcases c18 j with e | ⟨e, -⟩
    · rw [e]; exact W.n j
    · have := W.i.2.2.2.2 p p0 p1
      omega
/-- who is good is who is up -/
theorem fg_fu {g : GT} (W : IW g) {p : Int} (p0 : 0 ≤ p) (p1 : p < g 11 0) : fgG g p 0 = fuG g p := by
  have e : ∀ j, 0 ≤ j → j < g 16 p → decide (goodP g p (g 17 (8 * p + j)) ∧ ((0 : Int) = 0 ∨ g 21 (60 * g 17 (8 * p + j) + p) = 0)) = decide (g 7 (g 17 (8 * p + j)) ≠ 0) := fun j j0 j1 => by
    have k := W.i.2.2.2.1 p _ p0 p1 ⟨j, j0, j1, rfl⟩
    by_cases c : g 7 (g 17 (8 * p + j)) ≠ 0
    · rw [decide_eq_true c]; exact decide_eq_true ⟨⟨c, k⟩, Or.inl rfl⟩
    · rw [decide_eq_false c]; exact decide_eq_false (fun z => c z.1.1)
  unfold fgG fuG pick
  rw [findI_cg e]
theorem pr_fu {g : GT} (W : IW g) {p : Int} (p0 : 0 ≤ p) (p1 : p < g 11 0) (h : leaseP g p ∧ g 7 (g 13 p) ≠ 0) : g 13 p = fuG g p := by
  obtain ⟨a, b⟩ := W.p p p0 p1 h.1.1
  refine Eq.symm ((pick_hit (f := fun n => decide (g 7 n ≠ 0)) (Int.le_refl 0) a (decide_eq_true ?_) (fun j j0 j1 => by omega)).trans ?_)
  · rw [show 8 * p + 0 = 8 * p by omega, b]; exact h.2
  · rw [show 8 * p + 0 = 8 * p by omega, b]
theorem ff_fu {g : GT} (W : IW g) (f : Int) {p : Int} (p0 : 0 ≤ p) (p1 : p < g 11 0) : ffG g f p = fuG g p := by
  unfold ffG
  split
  · exact fg_fu W p0 p1
  · split
    · rename_i h; exact pr_fu W p0 p1 h
    · rfl
section LGs
variable {gx : GX} {x : Nat} {A : Nat → Int → Nat} {u : GT} {m : Int} {g g' : GT} {h h' : Hp}
/-- a copy less, by its place -/
theorem Rp.rm (R : Rp gx x A u m g h) (B : BD g) {p i : Int} (p0 : 0 ≤ p) (p1 : p < g 11 0) (i0 : 0 ≤ i) (i1 : i < g 16 p) (L : LC gx h h' (A 5 p) (g 16 p - 1) (fun j => if j < i then some (A 0 (g 17 (8 * p + j))) else some (A 0 (g 17 (8 * p + (j + 1)))))) (hg : gx.1 ∉ hD h') : Rp gx x A u m (shf g p i (g 16 p - 1)) h' := by
  have bcp := B.cp p p0 p1
  refine R.wH p0 p1 L hg (fun p' a b => (B.cp p' a b).2) (shf_16 _ _ _ _) (fun k k0 k1 => ?_) (fun k j hk => ?_) (fun k j => ?_)
  · rw [shf_17]
    by_cases c : k < i
    · rw [if_pos c, if_neg (by omega)]
    · rw [if_neg c, if_pos (by omega), show 8 * p + (k + 1) = 8 * p + k + 1 by omega]
  · unfold shf
    rw [if_neg (by omega), if_neg (by omega)]
  · unfold shf
    split
    · exact ⟨by omega, by omega⟩
    · split <;> exact R.rg _ _
/-- entries behind a piece's copies don't matter -/
theorem Rp.c17 (R : Rp gx x A u m g h) {p : Int} (e : ∀ k j, ¬ (k = 17 ∧ 8 * p ≤ j ∧ j < 8 * p + 8) → g' k j = g k j) (hc : ∀ q, 0 ≤ q → q < g 11 0 → g 16 q ≤ 8) (e17 : ∀ k, 0 ≤ k → k < g 16 p → g' 17 (8 * p + k) = g 17 (8 * p + k)) (rg : ∀ k j, inR (g' k j)) : Rp gx x A u m g' h := by
  refine ⟨R.gxn, R.xx.c (fun k hk => e k 0 (by omega)), fun n h0 h1 => ?_, fun n i h0 h1 h2 h3 => ?_, fun q h0 h1 => ?_, fun f h0 h1 => ?_, R.ap.c (fun k j hk => e k j (by omega)), R.bk.c (fun k j hk => e k j (by omega)), rg, R.ru, fun n h0 h1 => ?_⟩
  · rw [e 4 0 (by omega)] at h1
    exact (R.n h0 h1).c (fun k hk => e k n (by omega)) rfl
  · rw [e 4 0 (by omega)] at h1
    rw [e 6 n (by omega)] at h3
    exact (R.s h0 h1 h2 h3).c rfl (by rw [e 11 0 (by omega)]; exact Int.le_refl _) (fun t _ _ _ => ⟨e 18 t (by omega), e 19 t (by omega), e 21 t (by omega), fun c _ _ => e 20 _ (by omega)⟩)
  · rw [e 11 0 (by omega)] at h1
    refine (R.q h0 h1).c (fun k hk => e k q (by omega)) (fun k k0 k1 => ?_) rfl rfl rfl
    have := hc q h0 h1
    by_cases c : q = p
    · rw [c] at k1 ⊢; exact e17 k k0 k1
    · exact e 17 _ (by omega)
  · rw [e 22 0 (by omega)] at h1
    exact (R.f h0 h1).c rfl rfl (fun z => ⟨(e 23 f (by omega)).symm.trans z, e 24 f (by omega)⟩) (fun k _ _ => e 26 _ (by omega))
  · rw [e 4 0 (by omega)] at h1
    rw [e 6 n (by omega)]
    exact R.room h0 h1
end LGs
