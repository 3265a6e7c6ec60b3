/-! ===== the class: files that end, mending, copies too many ===== -/
/-- a piece's address, or nothing -/
def pq (A : Nat → Int → Nat) (p : Int) : Option Nat := if p = -1 then none else some (A 4 p)
theorem pq_0 {A : Nat → Int → Nat} : pq A (-1) = none := if_pos rfl
theorem pq_1 {A : Nat → Int → Nat} {p : Int} (h : p ≠ -1) : pq A p = some (A 4 p) := if_neg h
theorem pq_n {A : Nat → Int → Nat} {p : Int} (h : pq A p = none) : p = -1 := by
  by_cases c : p = -1
  · exact c
  · rw [pq_1 c] at h; cases h
theorem pq_s {A : Nat → Int → Nat} {p : Int} {a : Nat} (h : pq A p = some a) : p ≠ -1 ∧ a = A 4 p := by
  by_cases c : p = -1
  · rw [c, pq_0] at h; cases h
  · rw [pq_1 c] at h; exact ⟨c, (Option.some.inj h).symm⟩
/-- files as the class keeps them -/
def CF (u g : GT) : Prop := (∀ p, 0 ≤ p → p < g 11 0 → u 2 p = fwG g p (-1)) ∧ (∀ f, 0 ≤ f → f < g 22 0 → u 4 f = g 23 f ∧ u 5 f = rwG g f)
theorem CF.c {u u' g g' : GT} (C : CF u g) (e2 : ∀ p, u' 2 p = u 2 p) (e4 : ∀ f, u' 4 f = u 4 f) (e5 : ∀ f, u' 5 f = u 5 f) (e : ∀ k, k = 11 ∨ k = 22 ∨ k = 23 ∨ k = 25 ∨ k = 26 → ∀ j, g' k j = g k j) : CF u' g' := by
  refine ⟨fun p a b => ?_, fun f a b => ?_⟩
  · rw [e 11 (by omega)] at b
    rw [e2, fw_cg (fun k hk j => e k (by omega) j), C.1 p a b]
  · rw [e 22 (by omega)] at b
    rw [e4, e5, e 23 (by omega), show rwG g' f = rwG g f by unfold rwG; rw [e 23 (by omega), e 25 (by omega)]]
    exact C.2 f a b
theorem fc_b {g : GT} (B : BD g) {f : Int} (f0 : 0 ≤ f) (f1 : f < g 22 0) (p : Int) : 0 ≤ fcG g p f ∧ fcG g p f ≤ 6 := by
  have := B.rw f f0 f1
  have := cnt_in (fun k => decide (g 26 (6 * f + k) = p)) (n := g 25 f) (by omega)
  unfold fcG
  omega
theorem fwb {g : GT} (B : BD g) (p b : Int) : 0 ≤ fwG g p b ∧ fwG g p b ≤ 120 := by
  have b3 := B.nf
  have := sumI_b (f := fun f => if g 23 f ≠ 2 ∧ f ≠ b then fcG g p f else 0) (c := 6) (by decide) (n := g 22 0) (fun i i0 i1 => by
    have := fc_b B i0 i1 p
    split <;> omega)
  unfold fwG
  omega
theorem sum_off {f f' : Int → Int} {N p : Int} (h0 : 0 ≤ p) (h1 : p < N) (e : ∀ k, 0 ≤ k → k < N → k ≠ p → f' k = f k) : sumI f' N = sumI f N - f p + f' p := by
  have key : ∀ m : Nat, (m : Int) ≤ N → (p < m → sumN f' m = sumN f m - f p + f' p) ∧ ((m : Int) ≤ p → sumN f' m = sumN f m) := by
    intro m
    induction m with
    | zero => exact fun _ => ⟨fun a => by omega, fun _ => rfl⟩
    | succ m ih =>
      intro hm
      obtain ⟨i1, i2⟩ := ih (by omega)
      refine ⟨fun a => ?_, fun a => ?_⟩
      · show sumN f' m + f' m = sumN f m + f m - f p + f' p
        by_cases q : (m : Int) = p
        · rw [i2 (by omega), q]; omega
        · rw [i1 (by omega), e m (by omega) (by omega) q]; omega
      · show sumN f' m + f' m = sumN f m + f m
        rw [i2 (by omega), e m (by omega) (by omega) (by omega)]
  unfold sumI
  exact (key N.toNat (by omega)).1 (by omega)
theorem fw_go {g : GT} {f : Int} (f0 : 0 ≤ f) (f1 : f < g 22 0) (h : g 23 f ≠ 2) (p : Int) : fwG (up g 23 f 2) p (-1) = fwG g p (-1) - fcG g p f := by
  have ef : ∀ q, fcG (up g 23 f 2) p q = fcG g p q := fun q => by unfold fcG; rw [up_ne (by decide)]; simp only [up_ne (show (26 : Nat) ≠ 23 by decide)]
  unfold fwG
  rw [up_ne (by decide), sum_off (f := fun q => if g 23 q ≠ 2 ∧ q ≠ -1 then fcG g p q else 0) f0 f1 (fun k k0 k1 ne => by rw [ef, up_off ne])]
  rw [if_pos ⟨h, by omega⟩, up_self, if_neg (fun z => z.1 rfl)]
  omega
theorem rw_go (g : GT) (f q : Int) : rwG (up g 23 f 2) q = if q = f then 0 else rwG g q := by
  unfold rwG
  rw [up_at, up_ne (by decide)]
  by_cases c : q = f
  · rw [if_pos c, if_pos rfl, if_pos c]
  · rw [if_neg c, if_neg c]
theorem up_sm (g : GT) (k : Nat) (i : Int) : up g k i (g k i) = g := by
  funext k' j
  unfold up
  split
  · rename_i h; rw [h.1, h.2]
  · rfl
def SU2 (u u' : GT) : Prop := ∀ k j, k ≠ 2 → k ≠ 4 → k ≠ 5 → u' k j = u k j
theorem Rp.up15 {gx : GX} {x : Nat} {A : Nat → Int → Nat} {u : GT} {m : Int} {g : GT} {h : Hp} (R : Rp gx x A u m g h) (i y : Int) (hy : inR y) : Rp gx x A u m (up g 15 i y) h := by
  have e : ∀ k j, k ≠ 15 → up g 15 i y k j = g k j := fun k j hk => up_ne hk
  refine ⟨R.gxn, R.xx.c (fun k hk => e k 0 (by omega)), fun n h0 h1 => ?_, fun n i h0 h1 h2 h3 => ?_, fun p h0 h1 => ?_, fun f h0 h1 => ?_, R.ap.c (fun k j hk => e k j (by omega)), R.bk.c (fun k j hk => e k j (by omega)), rgu R.rg hy, R.ru, fun n h0 h1 => ?_⟩
  · rw [e 4 0 (by decide)] at h1
    exact (R.n h0 h1).c (fun k hk => e k n (by omega)) rfl
  · rw [e 4 0 (by decide)] at h1
    rw [e 6 n (by decide)] at h3
    exact (R.s h0 h1 h2 h3).c rfl (by rw [e 11 0 (by decide)]; exact Int.le_refl _) (fun t _ _ _ => ⟨e 18 t (by decide), e 19 t (by decide), e 21 t (by decide), fun c _ _ => e 20 _ (by decide)⟩)
  · rw [e 11 0 (by decide)] at h1
    exact (R.q h0 h1).c (fun k hk => e k p (by omega)) (fun k _ _ => e 17 _ (by decide)) rfl rfl rfl
  · rw [e 22 0 (by decide)] at h1
    exact (R.f h0 h1).c rfl rfl (fun z => ⟨(e 23 f (by decide)).symm.trans z, e 24 f (by decide)⟩) (fun k _ _ => e 26 _ (by decide))
  · rw [e 4 0 (by decide)] at h1
    rw [e 6 n (by decide)]
    exact R.room h0 h1

set_option maxRecDepth 100000 in
set_option maxHeartbeats 4000000 in
theorem C_X1_end {gx : GX} {d : Nat} {Qr : Option AV → Hp → Prop} {Qx : String → Hp → Prop} {x : Nat} {A : Nat → Int → Nat} {u : GT} {m : Int} {g : GT} {h : Hp} {f : Int} (Z : Rw gx x A u m g h) (F : CF u g) (f0 : 0 ≤ f) (f1 : f < g 22 0) (h23 : g 23 f = 1) (K : ∀ u' h1, Rw gx x A u' m (up g 23 f 2) h1 → CF u' (up g 23 f 2) → SU2 u u' → Qr none h1) : aM gx (d + 4) mX1_end [vr (A 6 f)] h 0 0 Qr Qx := by
  intro J C
  show J 0 [some (vr (A 6 f)), none] [] h 0 0
  have R := Z.1; have W := Z.2.1; have Ci := Z.2.2; have B := W.b; have b1 := B.nn; have b2 := B.np; have b3 := B.nf; have rl := R.rvl b2.1
  have er : rwG g f = g 25 f := if_neg (by omega)
  have bf := B.rw f f0 f1
  have u5 : u 5 f = g 25 f := (F.2 f f0 f1).2.trans er
  have e23 : ∀ k, k ≠ 23 → ∀ j, up g 23 f 2 k j = g k j := fun k hk j => up_ne hk
  have W2 : IW (up g 23 f 2) := iw_same W (fun k hk j => e23 k (by omega) j)
  have B2 := W2.b
  refine r_aload_n C dX1_end_0 (i := 0) rfl rfl ?_
  refine r_iconst C dX1_end_1 ?_
  refine r_putI C dX1_end_2 fX1_9 (Or.inl rfl) (Or.inl rfl) (R.f f0 f1).1.1 (R.f f0 f1).1.2 ?_
  have R0 := R.fi_st (v := 2) f0 f1 ⟨by decide, by decide⟩ (fun z => absurd z (by decide))
  refine r_iconst C dX1_end_5 ?_
  refine r_istore_n C dX1_end_6 (i := 1) rfl (Nat.le_of_ble_eq_true rfl) ?_
  dsimp only [List.set]
  suffices LOOP : ∀ (m9 : Nat) (i : Int) (u2 : GT) (h2 : Hp), g 25 f - i < (m9 : Int) → 0 ≤ i → i ≤ g 25 f → Rp gx x A u2 m (up g 23 f 2) h2 → (∀ p, u2 2 p = u 2 p - cnt (fun k => decide (g 26 (6 * f + k) = p)) i) → (∀ k j, k ≠ 2 → u2 k j = up u 4 f 2 k j) → J 7 [some (vr (A 6 f)), some (vi i)] [] h2 0 0 by
    exact LOOP ((g 25 f).toNat + 1) 0 _ _ (by omega) (by omega) (by omega) R0 (fun p => by rw [up_ne (by decide), cnt_0]; omega) (fun _ _ _ => rfl)
  intro m9
  induction m9 with
  | zero => intro i u2 h2 hm9 i0 i1 R U2 U3; exact absurd hm9 (by omega)
  | succ m9 ih9 =>
    intro i u2 h2 hm9 i0 i1 R U2 U3
    have s11 := e23 11 (by decide) 0
    have s22 := e23 22 (by decide) 0
    have s26 := e23 26 (by decide)
    have u25 : u2 5 f = g 25 f := by rw [U3 5 f (by decide), up_ne (by decide)]; exact u5
    refine r_iload_n C dX1_end_7 (i := 1) rfl rfl ?_
    refine r_aload_n C dX1_end_8 (i := 0) rfl rfl ?_
    refine c_2_3 C dX1_end_9 fX1_21 R (by omega) (by omega) ?_
    refine c_szR C dX1_end_12 sX1_28 R (by omega) (by omega) (Nat.le_of_ble_eq_true rfl) ?_
    refine r_ic_ge C dX1_end_15 (t := 44) (by decide) (by first | assumption | exact R.rg _ _ | exact R.ru _ _ | (unfold inR; omega)) (by first | assumption | exact R.rg _ _ | exact R.ru _ _ | (unfold inR; omega)) (fun c15 => ?_) (fun c15 => ?_)
    · skip
      refine r_aload_n C dX1_end_44 (i := 0) rfl rfl ?_
      refine c_2_3 C dX1_end_45 fX1_21 R (by omega) (by omega) ?_
      have L := (R.f f0 (show f < up g 23 f 2 22 0 by omega)).2.2.2
      refine r_callV C (As := []) dX1_end_48 sX1_41 (fun v hv => by cases hv) (ci := 0) (by decide) rfl L.1.1 L.1.2 (Nat.le_of_ble_eq_true rfl) (Nat.zero_le _) (Nat.zero_le _) (C_AL_clear L (fun h3 L3 => ?_))
      refine r_gxn C (fun hg => ?_)
      have R4 : Rp gx x A (up u2 5 f 0) m (up g 23 f 2) h3 := by
        refine R.wR f0 (show f < up g 23 f 2 22 0 by omega) L3 hg (fun q a b => ?_) up_self (fun k k0 k1 => by omega) (fun _ _ _ => rfl) (fun k j hk => ?_) R.rg (rgu R.ru inR0)
        · rw [s22] at b
          have br := B.rw q a b
          rw [U3 5 q (by decide), up_ne (by decide), (F.2 q a b).2]
          unfold rwG
          split <;> omega
        · unfold up; rw [if_neg (by omega)]
      refine r_ret C dX1_end_51 rfl ?_
      have ei : i = g 25 f := by omega
      rw [ei] at U2
      refine K _ _ ⟨R4, W2, ?_⟩ ⟨fun p a b => ?_, fun q a b => ?_⟩ (fun k j k2 k4 k5 => by rw [up_ne k5, U3 k j k2, up_ne k4])
      · exact Ci.same (fun j => by rw [up_ne (by decide), U3 0 j (by decide), up_ne (by decide)]) (fun j => by rw [up_ne (by decide), U3 3 j (by decide), up_ne (by decide)]) (fun n p _ _ => by rw [e23 18 (by decide)]) (e23 4 (by decide) 0) (e23 6 (by decide)) (e23 11 (by decide) 0) rl
      · rw [s11] at b
        rw [up_ne (by decide), U2 p, fw_go f0 f1 (by omega), F.1 p a b]
        rfl
      · rw [s22] at b
        have x4 : up u2 5 f 0 4 q = if q = f then 2 else u 4 q := by rw [up_ne (by decide), U3 4 q (by decide), up_at]
        have x5 : up u2 5 f 0 5 q = if q = f then 0 else u 5 q := by
          rw [up_at]
          split
          · rfl
          · rw [U3 5 q (by decide), up_ne (by decide)]
        rw [x4, x5, up_at, rw_go]
        have c := F.2 q a b
        by_cases e : q = f
        · rw [if_pos e, if_pos e, if_pos e, if_pos e]; exact ⟨rfl, rfl⟩
        · rw [if_neg e, if_neg e, if_neg e, if_neg e]; exact c
    · skip
      refine r_aload_n C dX1_end_18 (i := 0) rfl rfl ?_
      refine c_2_3 C dX1_end_19 fX1_21 R (by omega) (by omega) ?_
      refine r_iload_n C dX1_end_22 (i := 1) rfl rfl ?_
      refine c_gtR C dX1_end_23 sX1_32 R (by omega) (by omega) (by omega) (by omega) (Nat.le_of_ble_eq_true rfl) ?_
      have bre := B.re f i f0 f1 i0 (by omega)
      rw [s26]
      obtain ⟨p, ep⟩ : ∃ p, p = g 26 (6 * f + i) := ⟨_, rfl⟩
      rw [← ep] at bre ⊢
      have ub := F.1 p bre.1 bre.2
      have fb := fwb B p (-1)
      have cb := cnt_in (fun k => decide (g 26 (6 * f + k) = p)) i0
      have u2b := U2 p
      refine c_castQ C dX1_end_26 kX1_36 R (by omega) (by omega) ?_
      refine r_dup C dX1_end_29 rfl ?_
      refine c_4_2 C dX1_end_30 fX1_38 R (by omega) (by omega) ?_
      refine r_iconst C dX1_end_33 ?_
      refine r_isub C dX1_end_34 ?_
      refine r_putI C dX1_end_35 fX1_38 (Or.inl rfl) (Or.inl rfl) (R.q bre.1 (by omega)).1.1 (R.q bre.1 (by omega)).1.2 ?_
      have R3 := R.pc_inf (v := u2 2 p - 1) bre.1 (by omega) ⟨by omega, by omega⟩
      refine r_iinc C dX1_end_38 rfl ?_
      dsimp only [List.set]
      refine r_goto C dX1_end_41 (t := 7) (by decide) ?_
      refine ih9 _ _ _ (by omega) (by omega) (by omega) R3 (fun q => ?_) (fun k j hk => by rw [up_ne hk]; exact U3 k j hk)
      rw [up_at, cnt_s _ i0]
      by_cases c : q = p
      · rw [if_pos c, if_pos (decide_eq_true (by rw [c, ep])), c]
        have := U2 p
        omega
      · rw [if_neg c, if_neg (by rw [decide_eq_true_iff, ← ep]; exact fun z => c z.symm), U2 q]
        omega

set_option maxRecDepth 100000 in
set_option maxHeartbeats 4000000 in
theorem C_X4_endFiles {gx : GX} {d : Nat} {Qr : Option AV → Hp → Prop} {Qx : String → Hp → Prop} {x : Nat} {A : Nat → Int → Nat} {u : GT} {m : Int} {g : GT} {h : Hp} (Z : Rw gx x A u m g h) (F : CF u g) (ht : 0 ≤ g 1 0 ∧ g 1 0 ≤ 3001) (hS : ∀ f, 0 ≤ g 24 f ∧ g 24 f ≤ 3001) (K : ∀ u' h1, Rw gx x A u' m (itrI goF (g 22 0) g) h1 → CF u' (itrI goF (g 22 0) g) → SU2 u u' → Qr none h1) : aM gx (d + 5) mX4_endFiles [vr x] h 0 0 Qr Qx := by
  intro J C
  show J 0 [some (vr x), none, none] [] h 0 0
  have R := Z.1; have W := Z.2.1; have Ci := Z.2.2; have B := W.b; have b1 := B.nn; have b2 := B.np; have b3 := B.nf; have rl := R.rvl b2.1
  refine r_iconst C dX4_endFiles_0 ?_
  refine r_istore_n C dX4_endFiles_1 (i := 1) rfl (Nat.le_of_ble_eq_true rfl) ?_
  dsimp only [List.set]
  suffices LOOP : ∀ (m9 : Nat) (i : Int) (u2 : GT) (h2 : Hp) (y : Option AV), g 22 0 - i < (m9 : Int) → 0 ≤ i → i ≤ g 22 0 → Rw gx x A u2 m (itrI goF i g) h2 → CF u2 (itrI goF i g) → SU2 u u2 → J 2 [some (vr x), some (vi i), y] [] h2 0 0 by
    exact LOOP ((g 22 0).toNat + 1) 0 _ _ _ (by omega) (by omega) (by omega) Z F (fun _ _ _ _ _ => rfl)
  intro m9
  induction m9 with
  | zero => intro i u2 h2 y hm9 i0 i1 Z2 F2 S2; exact absurd hm9 (by omega)
  | succ m9 ih9 =>
    intro i u2 h2 y hm9 i0 i1 Z2 F2 S2
    have T : ∀ k, k ≠ 23 → ∀ j, itrI goF i g k j = g k j := itrI_ind (P := fun s => ∀ k, k ≠ 23 → ∀ j, s k j = g k j) goF (fun _ _ _ => rfl) (fun f s _ _ S k hk j => by unfold goF; rw [up_ne hk]; exact S k hk j)
    obtain ⟨s, hs⟩ : ∃ s, s = itrI goF i g := ⟨_, rfl⟩
    rw [← hs] at T Z2 F2
    have R := Z2.1
    have s22 := T 22 (by decide) 0
    have s24 := T 24 (by decide) i
    have s1 := T 1 (by decide) 0
    have h24 := hS i
    refine r_iload_n C dX4_endFiles_2 (i := 1) rfl rfl ?_
    refine r_aload_n C dX4_endFiles_3 (i := 0) rfl rfl ?_
    refine c_5_2 C dX4_endFiles_4 fX4_19 R  ?_
    refine c_szF C dX4_endFiles_7 sX4_44 R  (Nat.le_of_ble_eq_true rfl) ?_
    refine r_ic_ge C dX4_endFiles_10 (t := 57) (by decide) (by first | assumption | exact R.rg _ _ | exact R.ru _ _ | (unfold inR; omega)) (by first | assumption | exact R.rg _ _ | exact R.ru _ _ | (unfold inR; omega)) (fun c10 => ?_) (fun c10 => ?_)
    · skip
      refine r_ret C dX4_endFiles_57 rfl ?_
      rw [hs, show i = g 22 0 by omega] at Z2 F2
      exact K _ _ Z2 F2 S2
    · skip
      have f4 := (F2.2 i i0 (by omega)).1
      refine r_aload_n C dX4_endFiles_13 (i := 0) rfl rfl ?_
      refine c_5_2 C dX4_endFiles_14 fX4_19 R  ?_
      refine r_iload_n C dX4_endFiles_17 (i := 1) rfl rfl ?_
      refine c_gtF C dX4_endFiles_18 sX4_127 R  (by omega) (by omega) (Nat.le_of_ble_eq_true rfl) ?_
      refine c_castF C dX4_endFiles_21 kX4_114 R (by omega) (by omega) ?_
      refine r_astore_n C dX4_endFiles_24 (i := 2) rfl (Nat.le_of_ble_eq_true rfl) ?_
      dsimp only [List.set]
      refine r_aload_n C dX4_endFiles_25 (i := 2) rfl rfl ?_
      refine c_2_1 C dX4_endFiles_26 fX4_136 R (by omega) (by omega) ?_
      refine r_iconst C dX4_endFiles_29 ?_
      refine r_ic_ne C dX4_endFiles_30 (t := 51) (by decide) (by first | assumption | exact R.rg _ _ | exact R.ru _ _ | (unfold inR; omega)) (by first | assumption | exact R.rg _ _ | exact R.ru _ _ | (unfold inR; omega)) (fun c30 => ?_) (fun c30 => ?_)
      · skip
        refine r_iinc C dX4_endFiles_51 rfl ?_
        dsimp only [List.set]
        refine r_goto C dX4_endFiles_54 (t := 2) (by decide) ?_
        first
          | exact ih9 _ _ _ _ (by omega) (by omega) (by omega) (by rw [itrI_s _ _ i0, ← hs]; unfold goF; rw [if_neg (by omega), up_sm]; exact Z2) (by rw [itrI_s _ _ i0, ← hs]; unfold goF; rw [if_neg (by omega), up_sm]; exact F2) S2
          | exact ih9 _ _ _ _ (by omega) (by omega) (by omega) (by rw [itrI_s _ _ i0, ← hs]; unfold goF; rw [if_pos (by omega)]; exact Z3) (by rw [itrI_s _ _ i0, ← hs]; unfold goF; rw [if_pos (by omega)]; exact F3) (fun k j a b c => (S3 k j a b c).trans (S2 k j a b c))
      · skip
        have h23 : s 23 i = 1 := by omega
        refine r_aload_n C dX4_endFiles_33 (i := 0) rfl rfl ?_
        refine c_5_3 C dX4_endFiles_34 fX4_22 R  ?_
        refine r_aload_n C dX4_endFiles_37 (i := 2) rfl rfl ?_
        refine c_2_2 C dX4_endFiles_38 fX4_139 R (by omega) (by omega) (by assumption) ?_
        refine r_isub C dX4_endFiles_41 ?_
        refine r_bipush C dX4_endFiles_42 (by decide) ?_
        refine r_ic_lt C dX4_endFiles_44 (t := 51) (by decide) (by first | assumption | exact R.rg _ _ | exact R.ru _ _ | (unfold inR; omega)) (by first | assumption | exact R.rg _ _ | exact R.ru _ _ | (unfold inR; omega)) (fun c44 => ?_) (fun c44 => ?_)
        · skip
          refine r_iinc C dX4_endFiles_51 rfl ?_
          dsimp only [List.set]
          refine r_goto C dX4_endFiles_54 (t := 2) (by decide) ?_
          first
            | exact ih9 _ _ _ _ (by omega) (by omega) (by omega) (by rw [itrI_s _ _ i0, ← hs]; unfold goF; rw [if_neg (by omega), up_sm]; exact Z2) (by rw [itrI_s _ _ i0, ← hs]; unfold goF; rw [if_neg (by omega), up_sm]; exact F2) S2
            | exact ih9 _ _ _ _ (by omega) (by omega) (by omega) (by rw [itrI_s _ _ i0, ← hs]; unfold goF; rw [if_pos (by omega)]; exact Z3) (by rw [itrI_s _ _ i0, ← hs]; unfold goF; rw [if_pos (by omega)]; exact F3) (fun k j a b c => (S3 k j a b c).trans (S2 k j a b c))
        · skip
          refine r_aload_n C dX4_endFiles_47 (i := 2) rfl rfl ?_
          refine c_VF0 C dX4_endFiles_48 sX4_371 rfl R (by omega) (by omega)  (Nat.le_of_ble_eq_true rfl) 0 0 (Nat.zero_le _) (Nat.zero_le _) (C_X1_end Z2 F2 i0 (by omega) h23 (fun u3 h3 Z3 F3 S3 => ?_))
          refine r_iinc C dX4_endFiles_51 rfl ?_
          dsimp only [List.set]
          refine r_goto C dX4_endFiles_54 (t := 2) (by decide) ?_
          first
            | exact ih9 _ _ _ _ (by omega) (by omega) (by omega) (by rw [itrI_s _ _ i0, ← hs]; unfold goF; rw [if_neg (by omega), up_sm]; exact Z2) (by rw [itrI_s _ _ i0, ← hs]; unfold goF; rw [if_neg (by omega), up_sm]; exact F2) S2
            | exact ih9 _ _ _ _ (by omega) (by omega) (by omega) (by rw [itrI_s _ _ i0, ← hs]; unfold goF; rw [if_pos (by omega)]; exact Z3) (by rw [itrI_s _ _ i0, ← hs]; unfold goF; rw [if_pos (by omega)]; exact F3) (fun k j a b c => (S3 k j a b c).trans (S2 k j a b c))

set_option maxRecDepth 100000 in
set_option maxHeartbeats 4000000 in
theorem C_X4_canBeMended {gx : GX} {d : Nat} {Qr : Option AV → Hp → Prop} {Qx : String → Hp → Prop} {x : Nat} {A : Nat → Int → Nat} {u : GT} {m : Int} {g : GT} {h : Hp} {p : Int} (Z : Rd gx x A u m g h) (p0 : 0 ≤ p) (p1 : p < g 11 0) (K : ∀ z, inR z → BV z (¬ u 2 p = 0 ∧ g 16 p < 3 ∧ ¬ u 1 p = g 1 0 ∧ fgG g p 1 ≠ -1 ∧ bestG g p ≠ -1) → Qr (some (vi z)) h) : aM gx (d + 7) mX4_canBeMended [vr x, vr (A 4 p)] h 0 0 Qr Qx := by
  intro J C
  show J 0 [some (vr x), some (vr (A 4 p))] [] h 0 0
  have R := Z.1; have I := Z.2.1; have Ci := Z.2.2.1; have Nn := Z.2.2.2; have B := I.1; have b1 := B.nn; have b2 := B.np
  refine r_aload_n C dX4_canBeMended_0 (i := 1) rfl rfl ?_
  refine c_VQ0 C dX4_canBeMended_1 sX4_225 rfl R (by omega) (by omega)  (Nat.le_of_ble_eq_true rfl) 0 0 (Nat.zero_le _) (Nat.zero_le _) (C_X3_isGone R p0 p1 (fun z hz hb => ?_))
  have hb01 := hb.b
  refine r_if_ne C dX4_canBeMended_4 (t := 48) (by decide) (by first | assumption | exact R.rg _ _ | exact R.ru _ _ | (unfold inR; omega)) (fun c4 => ?_) (fun c4 => ?_)
  · skip
    have hg := hb.t c4
    refine r_iconst C dX4_canBeMended_48 ?_
    refine r_iret C dX4_canBeMended_49 (Or.inr ⟨rfl, (by first | assumption | omega | decide)⟩) ?_
    first | exact K _ inR1 (.y ⟨hg, by omega, by omega, hfg, hbs⟩) | exact K _ inR0 (.n (fun z => by have z1 := z.1; have z2 := z.2.1; have z3 := z.2.2.1; have z4 := z.2.2.2.1; have z5 := z.2.2.2.2; omega))
  · skip
    have hg := hb.f c4
    refine r_aload_n C dX4_canBeMended_7 (i := 1) rfl rfl ?_
    refine c_4_6 C dX4_canBeMended_8 fX4_184 R (by omega) (by omega) ?_
    refine c_szH C dX4_canBeMended_11 sX4_44 R (by omega) (by omega) (Nat.le_of_ble_eq_true rfl) ?_
    refine r_iconst C dX4_canBeMended_14 ?_
    refine r_ic_ge C dX4_canBeMended_15 (t := 48) (by decide) (by first | assumption | exact R.rg _ _ | exact R.ru _ _ | (unfold inR; omega)) (by first | assumption | exact R.rg _ _ | exact R.ru _ _ | (unfold inR; omega)) (fun c15 => ?_) (fun c15 => ?_)
    · skip
      refine r_iconst C dX4_canBeMended_48 ?_
      refine r_iret C dX4_canBeMended_49 (Or.inr ⟨rfl, (by first | assumption | omega | decide)⟩) ?_
      first | exact K _ inR1 (.y ⟨hg, by omega, by omega, hfg, hbs⟩) | exact K _ inR0 (.n (fun z => by have z1 := z.1; have z2 := z.2.1; have z3 := z.2.2.1; have z4 := z.2.2.2.1; have z5 := z.2.2.2.2; omega))
    · skip
      refine r_aload_n C dX4_canBeMended_18 (i := 1) rfl rfl ?_
      refine c_4_5 C dX4_canBeMended_19 fX4_387 R (by omega) (by omega) ?_
      refine r_aload_n C dX4_canBeMended_22 (i := 0) rfl rfl ?_
      refine c_5_3 C dX4_canBeMended_23 fX4_22 R  ?_
      refine r_ic_eq C dX4_canBeMended_26 (t := 48) (by decide) (by first | assumption | exact R.rg _ _ | exact R.ru _ _ | (unfold inR; omega)) (by first | assumption | exact R.rg _ _ | exact R.ru _ _ | (unfold inR; omega)) (fun c26 => ?_) (fun c26 => ?_)
      · skip
        refine r_iconst C dX4_canBeMended_48 ?_
        refine r_iret C dX4_canBeMended_49 (Or.inr ⟨rfl, (by first | assumption | omega | decide)⟩) ?_
        first | exact K _ inR1 (.y ⟨hg, by omega, by omega, hfg, hbs⟩) | exact K _ inR0 (.n (fun z => by have z1 := z.1; have z2 := z.2.1; have z3 := z.2.2.1; have z4 := z.2.2.2.1; have z5 := z.2.2.2.2; omega))
      · skip
        refine r_aload_n C dX4_canBeMended_29 (i := 1) rfl rfl ?_
        refine c_S1 C dX4_canBeMended_30 sX4_384 rfl (Nat.le_of_ble_eq_true rfl) 0 0 (Nat.zero_le _) (Nat.zero_le _) (C_X4_firstSoundCopy Z p0 p1 (fun n i en n0 n1 i0 i1 hu => ?_) (fun hn => ?_))
        · skip
          have hfg : fgG g p 1 ≠ -1 := by omega
          refine r_ifnull C dX4_canBeMended_33 (t := 48) (by decide) (fun c33 => ?_) (fun a33 c33 => ?_)
          · skip
            cases c33
          · skip
            refine r_aload_n C dX4_canBeMended_36 (i := 0) rfl rfl ?_
            refine r_aload_n C dX4_canBeMended_37 (i := 1) rfl rfl ?_
            refine c_VX1 C dX4_canBeMended_38 sX4_308 rfl R  rfl (Nat.le_of_ble_eq_true rfl) 0 0 (Nat.zero_le _) (Nat.zero_le _) (C_X4_bestPlace Z p0 p1 ?_)
            refine r_ifnull C dX4_canBeMended_41 (t := 48) (by decide) (fun c41 => ?_) (fun a41 c41 => ?_)
            · skip
              have hbs := nq_n c41
              refine r_iconst C dX4_canBeMended_48 ?_
              refine r_iret C dX4_canBeMended_49 (Or.inr ⟨rfl, (by first | assumption | omega | decide)⟩) ?_
              first | exact K _ inR1 (.y ⟨hg, by omega, by omega, hfg, hbs⟩) | exact K _ inR0 (.n (fun z => by have z1 := z.1; have z2 := z.2.1; have z3 := z.2.2.1; have z4 := z.2.2.2.1; have z5 := z.2.2.2.2; omega))
            · skip
              have hbs := (nq_s c41).1
              refine r_iconst C dX4_canBeMended_44 ?_
              refine r_goto C dX4_canBeMended_45 (t := 49) (by decide) ?_
              refine r_iret C dX4_canBeMended_49 (Or.inr ⟨rfl, (by first | assumption | omega | decide)⟩) ?_
              first | exact K _ inR1 (.y ⟨hg, by omega, by omega, hfg, hbs⟩) | exact K _ inR0 (.n (fun z => by have z1 := z.1; have z2 := z.2.1; have z3 := z.2.2.1; have z4 := z.2.2.2.1; have z5 := z.2.2.2.2; omega))
        · skip
          refine r_ifnull C dX4_canBeMended_33 (t := 48) (by decide) (fun c33 => ?_) (fun a33 c33 => ?_)
          · skip
            refine r_iconst C dX4_canBeMended_48 ?_
            refine r_iret C dX4_canBeMended_49 (Or.inr ⟨rfl, (by first | assumption | omega | decide)⟩) ?_
            first | exact K _ inR1 (.y ⟨hg, by omega, by omega, hfg, hbs⟩) | exact K _ inR0 (.n (fun z => by have z1 := z.1; have z2 := z.2.1; have z3 := z.2.2.1; have z4 := z.2.2.2.1; have z5 := z.2.2.2.2; omega))
          · skip
            cases c33

set_option maxRecDepth 100000 in
set_option maxHeartbeats 4000000 in
theorem C_X4_mendNeediestPiece {gx : GX} {d : Nat} {Qr : Option AV → Hp → Prop} {Qx : String → Hp → Prop} {x : Nat} {A : Nat → Int → Nat} {u : GT} {m : Int} {g : GT} {h : Hp} (Z : Rw gx x A u m g h) (F : ∀ p, 0 ≤ p → p < g 11 0 → u 2 p = fwG g p (-1)) (hm : m = g 11 0) (M : ∀ p, 0 ≤ p → p < g 11 0 → (u 1 p = g 1 0 ↔ g 15 p ≠ 0)) (K : ∀ u' h1, Rw gx x A u' m (meF 0 g) h1 → (∀ p, 0 ≤ p → p < g 11 0 → (u' 1 p = g 1 0 ↔ meF 0 g 15 p ≠ 0)) → (∀ p, u' 1 p = u 1 p ∨ u' 1 p = g 1 0) → (∀ k j, k ≠ 0 → k ≠ 1 → k ≠ 3 → u' k j = u k j) → Qr none h1) : aM gx (d + 8) mX4_mendNeediestPiece [vr x] h 1 10 Qr Qx := by
  intro J C
  show J 0 [some (vr x), none, none, none, none] [] h 1 10
  have R := Z.1; have W := Z.2.1; have Ci := Z.2.2; have B := W.b; have b1 := B.nn; have b2 := B.np; have b3 := B.nf; have Zd := Z.z; have rl := R.rvl b2.1
  refine r_anull C dX4_mendNeediestPiece_0 ?_
  refine r_astore_n C dX4_mendNeediestPiece_1 (i := 1) rfl (Nat.le_of_ble_eq_true rfl) ?_
  dsimp only [List.set]
  refine r_iconst C dX4_mendNeediestPiece_2 ?_
  refine r_istore_n C dX4_mendNeediestPiece_3 (i := 2) rfl (Nat.le_of_ble_eq_true rfl) ?_
  dsimp only [List.set]
  suffices LOOP : ∀ (m9 : Nat) (f i : Int) (rr : Option Nat) (y z : Option AV), g 11 0 - i < (m9 : Int) → 0 ≤ i → i ≤ g 11 0 → rr = pq A f → f = meI g i → J 4 [some (vr x), some (vq rr), some (vi i), y, z] [] h 1 10 by
    exact LOOP ((g 11 0).toNat + 1) (-1) 0 _ _ _ (by omega) (by omega) (by omega) pq_0.symm rfl
  intro m9
  induction m9 with
  | zero => intro f i rr y z hm9 i0 i1 hr9 hf; exact absurd hm9 (by omega)
  | succ m9 ih9 =>
    intro f i rr y z hm9 i0 i1 hr9 hf
    refine r_iload_n C dX4_mendNeediestPiece_4 (i := 2) rfl rfl ?_
    refine r_aload_n C dX4_mendNeediestPiece_5 (i := 0) rfl rfl ?_
    refine c_5_1 C dX4_mendNeediestPiece_6 fX4_16 R  ?_
    refine c_szA C dX4_mendNeediestPiece_9 sX4_44 R  (Nat.le_of_ble_eq_true rfl) ?_
    refine r_ic_ge C dX4_mendNeediestPiece_12 (t := 76) (by decide) (by first | assumption | exact R.rg _ _ | exact R.ru _ _ | (unfold inR; omega)) (by first | assumption | exact R.rg _ _ | exact R.ru _ _ | (unfold inR; omega)) (fun c12 => ?_) (fun c12 => ?_)
    · skip
      refine r_aload_n C dX4_mendNeediestPiece_76 (i := 1) rfl rfl ?_
      refine r_ifnonnull C dX4_mendNeediestPiece_77 (t := 81) (by decide) (fun a77 c77 => ?_) (fun c77 => ?_)
      · skip
        obtain ⟨hfn, ha⟩ := pq_s (hr9.symm.trans c77)
        rw [ha] at c77
        subst c77
        have ei : i = g 11 0 := by omega
        rw [ei] at hf
        have fb := (meI_b g (i := g 11 0) b2.1).resolve_left (by omega)
        rw [← hf] at fb
        have f0 := fb.1
        have f1 := fb.2.1
        have fm := fb.2.2
        have bb := (bestG_b g f b1.1).resolve_left fm.2.2.2.2
        refine r_aload_n C dX4_mendNeediestPiece_81 (i := 0) rfl rfl ?_
        refine r_aload_n C dX4_mendNeediestPiece_82 (i := 1) rfl rfl ?_
        refine c_VX1 C dX4_mendNeediestPiece_83 sX4_308 rfl R  rfl (Nat.le_of_ble_eq_true rfl) 0 0 (Nat.zero_le _) (Nat.zero_le _) (C_X4_bestPlace Zd f0 f1 ?_)
        rw [nq_1 fm.2.2.2.2]
        refine r_astore_n C dX4_mendNeediestPiece_86 (i := 2) rfl (Nat.le_of_ble_eq_true rfl) ?_
        dsimp only [List.set]
        refine r_aload_n C dX4_mendNeediestPiece_87 (i := 1) rfl rfl ?_
        refine c_S1 C dX4_mendNeediestPiece_88 sX4_384 rfl (Nat.le_of_ble_eq_true rfl) 0 0 (Nat.zero_le _) (Nat.zero_le _) (C_X4_firstSoundCopy Zd f0 f1 (fun n2 i2 en m0 m1 l0 l1 hu2 => ?_) (fun hn => ?_))
        · skip
          refine r_astore_n C dX4_mendNeediestPiece_91 (i := 3) rfl (Nat.le_of_ble_eq_true rfl) ?_
          dsimp only [List.set]
          refine r_aload_n C dX4_mendNeediestPiece_92 (i := 2) rfl rfl ?_
          refine r_ifnull C dX4_mendNeediestPiece_93 (t := 114) (by decide) (fun c93 => ?_) (fun a93 c93 => ?_)
          · skip
            cases c93
          · skip
            refine r_aload_n C dX4_mendNeediestPiece_96 (i := 3) rfl rfl ?_
            refine r_ifnull C dX4_mendNeediestPiece_97 (t := 114) (by decide) (fun c97 => ?_) (fun a97 c97 => ?_)
            · skip
              cases c97
            · skip
              refine r_aload_n C dX4_mendNeediestPiece_100 (i := 2) rfl rfl ?_
              refine r_aload_n C dX4_mendNeediestPiece_101 (i := 1) rfl rfl ?_
              refine r_aload_n C dX4_mendNeediestPiece_102 (i := 3) rfl rfl ?_
              refine c_S3 C dX4_mendNeediestPiece_103 sX4_313 rfl rfl rfl (Nat.le_of_ble_eq_true rfl) 1 10 (Nat.le_refl _) (Nat.le_refl _) (C_X4_addCopyM Z bb.1 bb.2.1 f0 f1 bb.2.2.1.2.2 bb.2.2.2 (W.i.nk f0 f1 bb.2.2.2) m0 m1 l0 l1 hu2 f0 (fun u3 h3 R3 C3 S3 _ => ?_))
              have e4 : meF 0 g = up (knG (gtG g (bestG g f) f n2 f) f (bestG g f)) 15 f 1 := by
                have e5 : meI g (g 11 0) = f := hf.symm
                unfold meF
                rw [e5, if_neg hfn, en]
                rfl
              have W3 := iw_kn (iw_gt W f0 f1 bb.1 bb.2.1 n2 f) (n := bestG g f) (p := f) f0 (by rw [gt_ne _ _ _ _ _ (by decide)]; exact f1) bb.1 (by rw [gt_ne _ _ _ _ _ (by decide)]; exact bb.2.1) (by rw [KN.c (fun j => gt_ne _ _ _ _ _ (by decide) j) (fun j => gt_ne _ _ _ _ _ (by decide) j)]; exact W.i.nk f0 f1 bb.2.2.2) (by rw [gt_18, if_pos rfl, gt_ne _ _ _ _ _ (by decide)])
              have e6 : ∀ k, k ≠ 16 ∧ k ≠ 17 ∧ k ≠ 18 ∧ k ≠ 19 ∧ k ≠ 20 ∧ k ≠ 21 → ∀ j, knG (gtG g (bestG g f) f n2 f) f (bestG g f) k j = g k j := fun k hk j => by rw [kn_ne _ _ _ hk.1 hk.2.1, gt_ne _ _ _ _ _ hk.2.2]
              obtain ⟨s, hs⟩ : ∃ s, s = knG (gtG g (bestG g f) f n2 f) f (bestG g f) := ⟨_, rfl⟩
              rw [← hs] at e4 W3 R3 C3 e6
              have s11 := e6 11 (by decide) 0
              refine r_aload_n C dX4_mendNeediestPiece_106 (i := 1) rfl rfl ?_
              refine r_aload_n C dX4_mendNeediestPiece_107 (i := 0) rfl rfl ?_
              refine c_5_3 C dX4_mendNeediestPiece_108 fX4_22 R3  ?_
              rw [e6 1 (by decide)]
              refine r_putI C dX4_mendNeediestPiece_111 fX4_387 (Or.inl rfl) (Or.inl rfl) (R3.q f0 (by omega)).1.1 (R3.q f0 (by omega)).1.2 ?_
              have R4 := R3.pc_md (v := g 1 0) f0 (by omega) (R.rg _ _)
              have R5 := R4.up15 f 1 inR1
              refine r_ret C dX4_mendNeediestPiece_114 rfl ?_
              rw [e4] at K
              have e7 : ∀ k, k ≠ 15 → ∀ j, up s 15 f 1 k j = s k j := fun k hk j => up_ne hk
              refine K _ _ ⟨R5, iw_iv W3 (iv1_bool W3.i (by decide) (Or.inr rfl)) (fun k hk j => e7 k (by omega) j), C3.same (fun j => up_ne (by decide)) (fun j => up_ne (by decide)) (fun n p _ _ => by rw [e7 18 (by decide)]) (e7 4 (by decide) 0) (e7 6 (by decide)) (e7 11 (by decide) 0) (R3.rvl (by omega))⟩ (fun p a b => ?_) (fun p => ?_) (fun k j a b c => by rw [up_ne b]; exact S3 k j a c)
              · rw [up_at, up_at]
                by_cases c : p = f
                · rw [if_pos c, if_pos c]; exact ⟨fun _ => by decide, fun _ => rfl⟩
                · rw [if_neg c, if_neg c, S3 1 p (by decide) (by decide), e6 15 (by decide)]
                  exact M p a b
              · rw [up_at]
                split
                · exact Or.inr rfl
                · exact Or.inl (S3 1 p (by decide) (by decide))
        · skip
          exact absurd hn fm.2.2.2.1
      · skip
        have hfn := pq_n (hr9.symm.trans c77)
        refine r_ret C dX4_mendNeediestPiece_80 rfl ?_
        have e4 : meF 0 g = g := if_pos (by rw [← show i = g 11 0 by omega, ← hf]; exact hfn)
        rw [e4] at K
        exact K _ _ Z M (fun _ => Or.inl rfl) (fun _ _ _ _ _ => rfl)
    · skip
      have bfi := meI_b g i0
      rw [← hf] at bfi
      have hcp := B.cp i i0 (by omega)
      have hme : meP g i ↔ (¬ u 2 i = 0 ∧ g 16 i < 3 ∧ ¬ u 1 i = g 1 0 ∧ fgG g i 1 ≠ -1 ∧ bestG g i ≠ -1) := by
        have a := F i i0 (by omega)
        have b := M i i0 (by omega)
        exact ⟨fun z => ⟨by have := z.2.2.1; omega, z.1, fun q => (b.mp q) z.2.1, z.2.2.2.1, z.2.2.2.2⟩, fun z => ⟨z.2.1, Decidable.not_not.mp (fun q => z.2.2.1 (b.mpr q)), by have := z.1; omega, z.2.2.2.1, z.2.2.2.2⟩⟩
      refine r_aload_n C dX4_mendNeediestPiece_15 (i := 0) rfl rfl ?_
      refine c_5_1 C dX4_mendNeediestPiece_16 fX4_16 R  ?_
      refine r_iload_n C dX4_mendNeediestPiece_19 (i := 2) rfl rfl ?_
      refine c_gtA C dX4_mendNeediestPiece_20 sX4_127 R  (by omega) (by omega) (Nat.le_of_ble_eq_true rfl) ?_
      refine c_castQ C dX4_mendNeediestPiece_23 kX4_131 R (by omega) (by omega) ?_
      refine r_astore_n C dX4_mendNeediestPiece_26 (i := 3) rfl (Nat.le_of_ble_eq_true rfl) ?_
      dsimp only [List.set]
      refine r_aload_n C dX4_mendNeediestPiece_27 (i := 1) rfl rfl ?_
      refine r_ifnull C dX4_mendNeediestPiece_28 (t := 48) (by decide) (fun c28 => ?_) (fun a28 c28 => ?_)
      · skip
        have hfn := pq_n (hr9.symm.trans c28)
        refine r_iconst C dX4_mendNeediestPiece_48 ?_
        refine r_goto C dX4_mendNeediestPiece_49 (t := 53) (by decide) ?_
        refine r_istore C dX4_mendNeediestPiece_53 (Nat.le_of_ble_eq_true rfl) ?_
        dsimp only [List.set]
        refine r_iload C dX4_mendNeediestPiece_55 rfl ?_
        refine r_if_eq C dX4_mendNeediestPiece_57 (t := 70) (by decide) (by first | assumption | exact R.rg _ _ | exact R.ru _ _ | (unfold inR; omega)) (fun c57 => ?_) (fun c57 => ?_)
        · skip
          exact absurd c57 (by decide)
        · skip
          refine r_aload_n C dX4_mendNeediestPiece_60 (i := 0) rfl rfl ?_
          refine r_aload_n C dX4_mendNeediestPiece_61 (i := 3) rfl rfl ?_
          refine c_VX1 C dX4_mendNeediestPiece_62 sX4_381 rfl R  rfl (Nat.le_of_ble_eq_true rfl) 0 0 (Nat.zero_le _) (Nat.zero_le _) (C_X4_canBeMended Zd i0 (by omega) (fun z2 hz2 hb2 => ?_))
          have hb201 := hb2.b
          refine r_if_eq C dX4_mendNeediestPiece_65 (t := 70) (by decide) (by first | assumption | exact R.rg _ _ | exact R.ru _ _ | (unfold inR; omega)) (fun c65 => ?_) (fun c65 => ?_)
          · skip
            have hca := hb2.f c65
            refine r_iinc C dX4_mendNeediestPiece_70 rfl ?_
            dsimp only [List.set]
            refine r_goto C dX4_mendNeediestPiece_73 (t := 4) (by decide) ?_
            first
              | exact ih9 f _ _ _ _ (by omega) (by omega) (by omega) hr9 (by rw [meI_s _ i0, if_neg (fun z => hca ((hme).mp z.1))]; exact hf)
              | exact ih9 f _ _ _ _ (by omega) (by omega) (by omega) hr9 (by rw [meI_s _ i0, if_neg (fun z => by have y := z.2; rw [← hf] at y; omega)]; exact hf)
              | exact ih9 i _ _ _ _ (by omega) (by omega) (by omega) (pq_1 (by omega)).symm (by rw [meI_s _ i0, if_pos ⟨hme.mpr hca, by rw [← hf]; omega⟩])
          · skip
            have hca := hb2.t c65
            refine r_aload_n C dX4_mendNeediestPiece_68 (i := 3) rfl rfl ?_
            refine r_astore_n C dX4_mendNeediestPiece_69 (i := 1) rfl (Nat.le_of_ble_eq_true rfl) ?_
            dsimp only [List.set]
            refine r_iinc C dX4_mendNeediestPiece_70 rfl ?_
            dsimp only [List.set]
            refine r_goto C dX4_mendNeediestPiece_73 (t := 4) (by decide) ?_
            first
              | exact ih9 f _ _ _ _ (by omega) (by omega) (by omega) hr9 (by rw [meI_s _ i0, if_neg (fun z => hca ((hme).mp z.1))]; exact hf)
              | exact ih9 f _ _ _ _ (by omega) (by omega) (by omega) hr9 (by rw [meI_s _ i0, if_neg (fun z => by have y := z.2; rw [← hf] at y; omega)]; exact hf)
              | exact ih9 i _ _ _ _ (by omega) (by omega) (by omega) (pq_1 (by omega)).symm (by rw [meI_s _ i0, if_pos ⟨hme.mpr hca, by rw [← hf]; omega⟩])
      · skip
        obtain ⟨hfn, ha⟩ := pq_s (hr9.symm.trans c28)
        rw [ha] at c28
        subst c28
        have hcf := B.cp f (by omega) (by omega)
        refine r_aload_n C dX4_mendNeediestPiece_31 (i := 3) rfl rfl ?_
        refine c_4_6 C dX4_mendNeediestPiece_32 fX4_184 R (by omega) (by omega) ?_
        refine c_szH C dX4_mendNeediestPiece_35 sX4_44 R (by omega) (by omega) (Nat.le_of_ble_eq_true rfl) ?_
        refine r_aload_n C dX4_mendNeediestPiece_38 (i := 1) rfl rfl ?_
        refine c_4_6 C dX4_mendNeediestPiece_39 fX4_184 R (by omega) (by omega) ?_
        refine c_szH C dX4_mendNeediestPiece_42 sX4_44 R (by omega) (by omega) (Nat.le_of_ble_eq_true rfl) ?_
        refine r_ic_ge C dX4_mendNeediestPiece_45 (t := 52) (by decide) (by first | assumption | exact R.rg _ _ | exact R.ru _ _ | (unfold inR; omega)) (by first | assumption | exact R.rg _ _ | exact R.ru _ _ | (unfold inR; omega)) (fun c45 => ?_) (fun c45 => ?_)
        · skip
          refine r_iconst C dX4_mendNeediestPiece_52 ?_
          refine r_istore C dX4_mendNeediestPiece_53 (Nat.le_of_ble_eq_true rfl) ?_
          dsimp only [List.set]
          refine r_iload C dX4_mendNeediestPiece_55 rfl ?_
          refine r_if_eq C dX4_mendNeediestPiece_57 (t := 70) (by decide) (by first | assumption | exact R.rg _ _ | exact R.ru _ _ | (unfold inR; omega)) (fun c57 => ?_) (fun c57 => ?_)
          · skip
            refine r_iinc C dX4_mendNeediestPiece_70 rfl ?_
            dsimp only [List.set]
            refine r_goto C dX4_mendNeediestPiece_73 (t := 4) (by decide) ?_
            first
              | exact ih9 f _ _ _ _ (by omega) (by omega) (by omega) hr9 (by rw [meI_s _ i0, if_neg (fun z => hca ((hme).mp z.1))]; exact hf)
              | exact ih9 f _ _ _ _ (by omega) (by omega) (by omega) hr9 (by rw [meI_s _ i0, if_neg (fun z => by have y := z.2; rw [← hf] at y; omega)]; exact hf)
              | exact ih9 i _ _ _ _ (by omega) (by omega) (by omega) (pq_1 (by omega)).symm (by rw [meI_s _ i0, if_pos ⟨hme.mpr hca, by rw [← hf]; omega⟩])
          · skip
            exact absurd c57 (by decide)
        · skip
          refine r_iconst C dX4_mendNeediestPiece_48 ?_
          refine r_goto C dX4_mendNeediestPiece_49 (t := 53) (by decide) ?_
          refine r_istore C dX4_mendNeediestPiece_53 (Nat.le_of_ble_eq_true rfl) ?_
          dsimp only [List.set]
          refine r_iload C dX4_mendNeediestPiece_55 rfl ?_
          refine r_if_eq C dX4_mendNeediestPiece_57 (t := 70) (by decide) (by first | assumption | exact R.rg _ _ | exact R.ru _ _ | (unfold inR; omega)) (fun c57 => ?_) (fun c57 => ?_)
          · skip
            exact absurd c57 (by decide)
          · skip
            refine r_aload_n C dX4_mendNeediestPiece_60 (i := 0) rfl rfl ?_
            refine r_aload_n C dX4_mendNeediestPiece_61 (i := 3) rfl rfl ?_
            refine c_VX1 C dX4_mendNeediestPiece_62 sX4_381 rfl R  rfl (Nat.le_of_ble_eq_true rfl) 0 0 (Nat.zero_le _) (Nat.zero_le _) (C_X4_canBeMended Zd i0 (by omega) (fun z2 hz2 hb2 => ?_))
            have hb201 := hb2.b
            refine r_if_eq C dX4_mendNeediestPiece_65 (t := 70) (by decide) (by first | assumption | exact R.rg _ _ | exact R.ru _ _ | (unfold inR; omega)) (fun c65 => ?_) (fun c65 => ?_)
            · skip
              have hca := hb2.f c65
              refine r_iinc C dX4_mendNeediestPiece_70 rfl ?_
              dsimp only [List.set]
              refine r_goto C dX4_mendNeediestPiece_73 (t := 4) (by decide) ?_
              first
                | exact ih9 f _ _ _ _ (by omega) (by omega) (by omega) hr9 (by rw [meI_s _ i0, if_neg (fun z => hca ((hme).mp z.1))]; exact hf)
                | exact ih9 f _ _ _ _ (by omega) (by omega) (by omega) hr9 (by rw [meI_s _ i0, if_neg (fun z => by have y := z.2; rw [← hf] at y; omega)]; exact hf)
                | exact ih9 i _ _ _ _ (by omega) (by omega) (by omega) (pq_1 (by omega)).symm (by rw [meI_s _ i0, if_pos ⟨hme.mpr hca, by rw [← hf]; omega⟩])
            · skip
              have hca := hb2.t c65
              refine r_aload_n C dX4_mendNeediestPiece_68 (i := 3) rfl rfl ?_
              refine r_astore_n C dX4_mendNeediestPiece_69 (i := 1) rfl (Nat.le_of_ble_eq_true rfl) ?_
              dsimp only [List.set]
              refine r_iinc C dX4_mendNeediestPiece_70 rfl ?_
              dsimp only [List.set]
              refine r_goto C dX4_mendNeediestPiece_73 (t := 4) (by decide) ?_
              first
                | exact ih9 f _ _ _ _ (by omega) (by omega) (by omega) hr9 (by rw [meI_s _ i0, if_neg (fun z => hca ((hme).mp z.1))]; exact hf)
                | exact ih9 f _ _ _ _ (by omega) (by omega) (by omega) hr9 (by rw [meI_s _ i0, if_neg (fun z => by have y := z.2; rw [← hf] at y; omega)]; exact hf)
                | exact ih9 i _ _ _ _ (by omega) (by omega) (by omega) (pq_1 (by omega)).symm (by rw [meI_s _ i0, if_pos ⟨hme.mpr hca, by rw [← hf]; omega⟩])

set_option maxRecDepth 100000 in
set_option maxHeartbeats 4000000 in
theorem C_X4_takeAwayOneTooMany {gx : GX} {d : Nat} {Qr : Option AV → Hp → Prop} {Qx : String → Hp → Prop} {x : Nat} {A : Nat → Int → Nat} {u : GT} {m : Int} {g : GT} {h : Hp} {p : Int} (Z : Rw gx x A u m g h) (p0 : 0 ≤ p) (p1 : p < g 11 0) (F : u 2 p = fwG g p (-1)) (K : ∀ u' h1, Rw gx x A u' m (tmF p g) h1 → SU u u' → Qr none h1) : aM gx (d + 7) mX4_takeAwayOneTooMany [vr (A 4 p)] h 0 0 Qr Qx := by
  intro J C
  show J 0 [some (vr (A 4 p)), none, none, none] [] h 0 0
  have R := Z.1; have W := Z.2.1; have Ci := Z.2.2; have B := W.b; have b1 := B.nn; have b2 := B.np; have b3 := B.nf; have Zd := Z.z; have bcp := B.cp p p0 p1
  refine r_aload_n C dX4_takeAwayOneTooMany_0 (i := 0) rfl rfl ?_
  refine c_VQ0 C dX4_takeAwayOneTooMany_1 sX4_225 rfl R (by omega) (by omega)  (Nat.le_of_ble_eq_true rfl) 0 0 (Nat.zero_le _) (Nat.zero_le _) (C_X3_isGone R p0 p1 (fun z hz hb => ?_))
  have hb01 := hb.b
  refine r_if_ne C dX4_takeAwayOneTooMany_4 (t := 18) (by decide) (by first | assumption | exact R.rg _ _ | exact R.ru _ _ | (unfold inR; omega)) (fun c4 => ?_) (fun c4 => ?_)
  · skip
    have hg := hb.t c4
    have e0 : tmF p g = g := if_neg (fun z => z.2 (by omega))
    rw [e0] at K
    refine r_ret C dX4_takeAwayOneTooMany_18 rfl ?_
    first | exact K _ _ Z (SU.refl _) | exact K _ _ ⟨R3, iw_dr W p0 p1 f, C3⟩ (su_dp _ _ _)
  · skip
    have hg := hb.f c4
    refine r_aload_n C dX4_takeAwayOneTooMany_7 (i := 0) rfl rfl ?_
    refine c_4_6 C dX4_takeAwayOneTooMany_8 fX4_184 R (by omega) (by omega) ?_
    refine c_szH C dX4_takeAwayOneTooMany_11 sX4_44 R (by omega) (by omega) (Nat.le_of_ble_eq_true rfl) ?_
    refine r_iconst C dX4_takeAwayOneTooMany_14 ?_
    refine r_ic_gt C dX4_takeAwayOneTooMany_15 (t := 19) (by decide) (by first | assumption | exact R.rg _ _ | exact R.ru _ _ | (unfold inR; omega)) (by first | assumption | exact R.rg _ _ | exact R.ru _ _ | (unfold inR; omega)) (fun c15 => ?_) (fun c15 => ?_)
    · skip
      have e0 : tmF p g = trG g p := if_pos ⟨by omega, by omega⟩
      rw [e0] at K
      refine r_anull C dX4_takeAwayOneTooMany_19 ?_
      refine r_astore_n C dX4_takeAwayOneTooMany_20 (i := 1) rfl (Nat.le_of_ble_eq_true rfl) ?_
      dsimp only [List.set]
      refine r_iconst C dX4_takeAwayOneTooMany_21 ?_
      refine r_istore_n C dX4_takeAwayOneTooMany_22 (i := 2) rfl (Nat.le_of_ble_eq_true rfl) ?_
      dsimp only [List.set]
      suffices LOOP : ∀ (m9 : Nat) (f i : Int) (rr : Option Nat) (y : Option AV), g 16 p - i < (m9 : Int) → 0 ≤ i → i ≤ g 16 p → rr = nq A f → f = trI g p i → J 23 [some (vr (A 4 p)), some (vq rr), some (vi i), y] [] h 0 0 by
        exact LOOP ((g 16 p).toNat + 1) (-1) 0 _ _ (by omega) (by omega) (by omega) nq_0.symm rfl
      intro m9
      induction m9 with
      | zero => intro f i rr y hm9 i0 i1 hr9 hf; exact absurd hm9 (by omega)
      | succ m9 ih9 =>
        intro f i rr y hm9 i0 i1 hr9 hf
        have fr := trI_r B p0 p1 i0 i1
        rw [← hf] at fr
        refine r_iload_n C dX4_takeAwayOneTooMany_23 (i := 2) rfl rfl ?_
        refine r_aload_n C dX4_takeAwayOneTooMany_24 (i := 0) rfl rfl ?_
        refine c_4_6 C dX4_takeAwayOneTooMany_25 fX4_184 R (by omega) (by omega) ?_
        refine c_szH C dX4_takeAwayOneTooMany_28 sX4_44 R (by omega) (by omega) (Nat.le_of_ble_eq_true rfl) ?_
        refine r_ic_ge C dX4_takeAwayOneTooMany_31 (t := 74) (by decide) (by first | assumption | exact R.rg _ _ | exact R.ru _ _ | (unfold inR; omega)) (by first | assumption | exact R.rg _ _ | exact R.ru _ _ | (unfold inR; omega)) (fun c31 => ?_) (fun c31 => ?_)
        · skip
          refine r_aload_n C dX4_takeAwayOneTooMany_74 (i := 1) rfl rfl ?_
          refine r_ifnonnull C dX4_takeAwayOneTooMany_75 (t := 82) (by decide) (fun a75 c75 => ?_) (fun c75 => ?_)
          · skip
            obtain ⟨hfn, ha⟩ := nq_s (hr9.symm.trans c75)
            rw [ha] at c75
            subst c75
            have ei : i = g 16 p := by omega
            rw [ei] at hf
            have fr := fr.resolve_left hfn
            have e1 : trG g p = drG g f p := by
              have e9 : trI g p (g 16 p) = f := hf.symm
              unfold trG
              rw [e9, if_neg hfn]
            rw [e1] at K
            refine r_aload_n C dX4_takeAwayOneTooMany_82 (i := 1) rfl rfl ?_
            refine r_aload_n C dX4_takeAwayOneTooMany_83 (i := 0) rfl rfl ?_
            refine c_VN1 C dX4_takeAwayOneTooMany_84 sX4_82 rfl R (by omega) (by omega) rfl (Nat.le_of_ble_eq_true rfl) 0 0 (Nat.zero_le _) (Nat.zero_le _) (C_X2_copyOfP R fr.1 fr.2 p0 p1 (fun j j0 j1 hu => ?_) (fun no => ?_))
            · skip
              refine r_astore_n C dX4_takeAwayOneTooMany_87 (i := 2) rfl (Nat.le_of_ble_eq_true rfl) ?_
              dsimp only [List.set]
              refine r_aload_n C dX4_takeAwayOneTooMany_88 (i := 2) rfl rfl ?_
              refine r_ifnull C dX4_takeAwayOneTooMany_89 (t := 97) (by decide) (fun c89 => ?_) (fun a89 c89 => ?_)
              · skip
                cases c89
              · skip
                refine r_aload_n C dX4_takeAwayOneTooMany_92 (i := 1) rfl rfl ?_
                refine r_aload_n C dX4_takeAwayOneTooMany_93 (i := 2) rfl rfl ?_
                refine c_S2 C dX4_takeAwayOneTooMany_94 sX4_176 rfl rfl (Nat.le_of_ble_eq_true rfl) 0 0 (Nat.zero_le _) (Nat.zero_le _) (C_X4_drop Z fr.1 fr.2 j0 j1 hu p0 (fun h3 R3 C3 => ?_))
                refine r_ret C dX4_takeAwayOneTooMany_97 rfl ?_
                first | exact K _ _ Z (SU.refl _) | exact K _ _ ⟨R3, iw_dr W p0 p1 f, C3⟩ (su_dp _ _ _)
            · skip
              exfalso
              have hz0 := Ci.no W.n fr.1 fr.2 p0 p1 no
              rcases trI_b g p (i := g 16 p) (by omega) with z | ⟨k, k0, k1, k2, -⟩
              · omega
              · have kh := W.i.2.2.2.1 p f p0 p1 ⟨k, k0, k1, by rw [← k2]; exact hf.symm⟩
                have vp := W.i.2.2.2.2 p p0 p1
                omega
          · skip
            have hfn := nq_n (hr9.symm.trans c75)
            have e1 : trG g p = g := if_pos (by rw [← show i = g 16 p by omega, ← hf]; exact hfn)
            rw [e1] at K
            refine r_anull C dX4_takeAwayOneTooMany_78 ?_
            refine r_goto C dX4_takeAwayOneTooMany_79 (t := 87) (by decide) ?_
            refine r_astore_n C dX4_takeAwayOneTooMany_87 (i := 2) rfl (Nat.le_of_ble_eq_true rfl) ?_
            dsimp only [List.set]
            refine r_aload_n C dX4_takeAwayOneTooMany_88 (i := 2) rfl rfl ?_
            refine r_ifnull C dX4_takeAwayOneTooMany_89 (t := 97) (by decide) (fun c89 => ?_) (fun a89 c89 => ?_)
            · skip
              refine r_ret C dX4_takeAwayOneTooMany_97 rfl ?_
              first | exact K _ _ Z (SU.refl _) | exact K _ _ ⟨R3, iw_dr W p0 p1 f, C3⟩ (su_dp _ _ _)
            · skip
              cases c89
        · skip
          have bcy := B.cy p i p0 p1 i0 c31
          refine r_aload_n C dX4_takeAwayOneTooMany_34 (i := 0) rfl rfl ?_
          refine c_4_6 C dX4_takeAwayOneTooMany_35 fX4_184 R (by omega) (by omega) ?_
          refine r_iload_n C dX4_takeAwayOneTooMany_38 (i := 2) rfl rfl ?_
          refine c_gtH C dX4_takeAwayOneTooMany_39 sX4_127 R (by omega) (by omega) (by omega) (by omega) (Nat.le_of_ble_eq_true rfl) ?_
          obtain ⟨n, en⟩ : ∃ n, n = g 17 (8 * p + i) := ⟨_, rfl⟩
          rw [← en] at bcy ⊢
          refine c_castN C dX4_takeAwayOneTooMany_42 kX4_53 R (by omega) (by omega) ?_
          refine r_astore_n C dX4_takeAwayOneTooMany_45 (i := 3) rfl (Nat.le_of_ble_eq_true rfl) ?_
          dsimp only [List.set]
          refine r_aload_n C dX4_takeAwayOneTooMany_46 (i := 3) rfl rfl ?_
          refine c_3_4 C dX4_takeAwayOneTooMany_47 fX4_69 R (by omega) (by omega) ?_
          refine r_if_eq C dX4_takeAwayOneTooMany_50 (t := 68) (by decide) (by first | assumption | exact R.rg _ _ | exact R.ru _ _ | (unfold inR; omega)) (fun c50 => ?_) (fun c50 => ?_)
          · skip
            refine r_iinc C dX4_takeAwayOneTooMany_68 rfl ?_
            dsimp only [List.set]
            refine r_goto C dX4_takeAwayOneTooMany_71 (t := 23) (by decide) ?_
            first
              | exact ih9 f _ _ _ (by omega) (by omega) (by omega) hr9 (by rw [trI_s _ _ i0, ← en, if_neg (fun z => z.1 (by omega))]; exact hf)
              | exact ih9 n _ _ _ (by omega) (by omega) (by omega) (nq_1 (by omega)).symm (by rw [trI_s _ _ i0, ← en, if_pos ⟨by omega, Or.inl (by omega)⟩])
              | exact ih9 n _ _ _ (by omega) (by omega) (by omega) (nq_1 (by omega)).symm (by rw [trI_s _ _ i0, ← en, if_pos ⟨by omega, Or.inr (by rw [← hf]; assumption)⟩])
              | exact ih9 f _ _ _ (by omega) (by omega) (by omega) (nq_1 (by omega)).symm (by rw [trI_s _ _ i0, ← en, if_neg (fun z => by have y := z.2; rw [← hf] at y; rcases y with y | y <;> first | omega | contradiction)]; exact hf)
          · skip
            refine r_aload_n C dX4_takeAwayOneTooMany_53 (i := 1) rfl rfl ?_
            refine r_ifnull C dX4_takeAwayOneTooMany_54 (t := 66) (by decide) (fun c54 => ?_) (fun a54 c54 => ?_)
            · skip
              have hfn := nq_n (hr9.symm.trans c54)
              refine r_aload_n C dX4_takeAwayOneTooMany_66 (i := 3) rfl rfl ?_
              refine r_astore_n C dX4_takeAwayOneTooMany_67 (i := 1) rfl (Nat.le_of_ble_eq_true rfl) ?_
              dsimp only [List.set]
              refine r_iinc C dX4_takeAwayOneTooMany_68 rfl ?_
              dsimp only [List.set]
              refine r_goto C dX4_takeAwayOneTooMany_71 (t := 23) (by decide) ?_
              first
                | exact ih9 f _ _ _ (by omega) (by omega) (by omega) hr9 (by rw [trI_s _ _ i0, ← en, if_neg (fun z => z.1 (by omega))]; exact hf)
                | exact ih9 n _ _ _ (by omega) (by omega) (by omega) (nq_1 (by omega)).symm (by rw [trI_s _ _ i0, ← en, if_pos ⟨by omega, Or.inl (by omega)⟩])
                | exact ih9 n _ _ _ (by omega) (by omega) (by omega) (nq_1 (by omega)).symm (by rw [trI_s _ _ i0, ← en, if_pos ⟨by omega, Or.inr (by rw [← hf]; assumption)⟩])
                | exact ih9 f _ _ _ (by omega) (by omega) (by omega) (nq_1 (by omega)).symm (by rw [trI_s _ _ i0, ← en, if_neg (fun z => by have y := z.2; rw [← hf] at y; rcases y with y | y <;> first | omega | contradiction)]; exact hf)
            · skip
              obtain ⟨hfn, ha⟩ := nq_s (hr9.symm.trans c54)
              rw [ha] at c54
              subst c54
              refine r_aload_n C dX4_takeAwayOneTooMany_57 (i := 0) rfl rfl ?_
              refine r_aload_n C dX4_takeAwayOneTooMany_58 (i := 3) rfl rfl ?_
              refine r_aload_n C dX4_takeAwayOneTooMany_59 (i := 1) rfl rfl ?_
              refine c_S3 C dX4_takeAwayOneTooMany_60 sX4_390 rfl rfl rfl (Nat.le_of_ble_eq_true rfl) 0 0 (Nat.zero_le _) (Nat.zero_le _) (C_X4_isWorsePlace Zd p0 p1 bcy.1 bcy.2 (by omega) (by omega) (fun z2 hz2 hb2 => ?_))
              have hb201 := hb2.b
              refine r_if_eq C dX4_takeAwayOneTooMany_63 (t := 68) (by decide) (by first | assumption | exact R.rg _ _ | exact R.ru _ _ | (unfold inR; omega)) (fun c63 => ?_) (fun c63 => ?_)
              · skip
                have hwp := hb2.f c63
                refine r_iinc C dX4_takeAwayOneTooMany_68 rfl ?_
                dsimp only [List.set]
                refine r_goto C dX4_takeAwayOneTooMany_71 (t := 23) (by decide) ?_
                first
                  | exact ih9 f _ _ _ (by omega) (by omega) (by omega) hr9 (by rw [trI_s _ _ i0, ← en, if_neg (fun z => z.1 (by omega))]; exact hf)
                  | exact ih9 n _ _ _ (by omega) (by omega) (by omega) (nq_1 (by omega)).symm (by rw [trI_s _ _ i0, ← en, if_pos ⟨by omega, Or.inl (by omega)⟩])
                  | exact ih9 n _ _ _ (by omega) (by omega) (by omega) (nq_1 (by omega)).symm (by rw [trI_s _ _ i0, ← en, if_pos ⟨by omega, Or.inr (by rw [← hf]; assumption)⟩])
                  | exact ih9 f _ _ _ (by omega) (by omega) (by omega) (nq_1 (by omega)).symm (by rw [trI_s _ _ i0, ← en, if_neg (fun z => by have y := z.2; rw [← hf] at y; rcases y with y | y <;> first | omega | contradiction)]; exact hf)
              · skip
                have hwp := hb2.t c63
                refine r_aload_n C dX4_takeAwayOneTooMany_66 (i := 3) rfl rfl ?_
                refine r_astore_n C dX4_takeAwayOneTooMany_67 (i := 1) rfl (Nat.le_of_ble_eq_true rfl) ?_
                dsimp only [List.set]
                refine r_iinc C dX4_takeAwayOneTooMany_68 rfl ?_
                dsimp only [List.set]
                refine r_goto C dX4_takeAwayOneTooMany_71 (t := 23) (by decide) ?_
                first
                  | exact ih9 f _ _ _ (by omega) (by omega) (by omega) hr9 (by rw [trI_s _ _ i0, ← en, if_neg (fun z => z.1 (by omega))]; exact hf)
                  | exact ih9 n _ _ _ (by omega) (by omega) (by omega) (nq_1 (by omega)).symm (by rw [trI_s _ _ i0, ← en, if_pos ⟨by omega, Or.inl (by omega)⟩])
                  | exact ih9 n _ _ _ (by omega) (by omega) (by omega) (nq_1 (by omega)).symm (by rw [trI_s _ _ i0, ← en, if_pos ⟨by omega, Or.inr (by rw [← hf]; assumption)⟩])
                  | exact ih9 f _ _ _ (by omega) (by omega) (by omega) (nq_1 (by omega)).symm (by rw [trI_s _ _ i0, ← en, if_neg (fun z => by have y := z.2; rw [← hf] at y; rcases y with y | y <;> first | omega | contradiction)]; exact hf)
    · skip
      have e0 : tmF p g = g := if_neg (fun z => by have := z.1; omega)
      rw [e0] at K
      refine r_ret C dX4_takeAwayOneTooMany_18 rfl ?_
      first | exact K _ _ Z (SU.refl _) | exact K _ _ ⟨R3, iw_dr W p0 p1 f, C3⟩ (su_dp _ _ _)

