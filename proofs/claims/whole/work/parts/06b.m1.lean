/-! ===== the reference's small methods ===== -/
/-- a flag that tells P -/
def BV (b : Int) (P : Prop) : Prop := (b = 1 ∧ P) ∨ (b = 0 ∧ ¬ P)
theorem BV.t {b : Int} {P : Prop} (h : BV b P) (c : ¬ b = 0) : P := by
  rcases h with h | h
  · exact h.2
  · exact absurd h.1 c
theorem BV.f {b : Int} {P : Prop} (h : BV b P) (c : b = 0) : ¬ P := by
  rcases h with h | h
  · omega
  · exact h.2
theorem BV.b {b : Int} {P : Prop} (h : BV b P) : b = 0 ∨ b = 1 := by
  rcases h with h | h
  · exact Or.inr h.1
  · exact Or.inl h.1
theorem BV.y {P : Prop} (h : P) : BV 1 P := Or.inl ⟨rfl, h⟩
theorem BV.n {P : Prop} (h : ¬ P) : BV 0 P := Or.inr ⟨rfl, h⟩
theorem BV.iff {b : Int} {P Q : Prop} (h : BV b P) (e : P ↔ Q) : BV b Q := h.imp (fun a => ⟨a.1, e.mp a.2⟩) (fun a => ⟨a.1, fun z => a.2 (e.mpr z)⟩)
theorem inR1 : inR 1 := ⟨by decide, by decide⟩
/-- the bounds that the reference keeps -/
def BD (g : GT) : Prop :=
  (0 ≤ g 4 0 ∧ g 4 0 ≤ 8) ∧ (0 ≤ g 11 0 ∧ g 11 0 ≤ 60) ∧ (0 ≤ g 22 0 ∧ g 22 0 ≤ 20) ∧
  (∀ n, g 7 n = 0 ∨ g 7 n = 1) ∧ (∀ n, g 9 n = 0 ∨ g 9 n = 1) ∧ (∀ p, g 15 p = 0 ∨ g 15 p = 1) ∧
  (∀ p, 0 ≤ p → p < g 11 0 → 0 ≤ g 16 p ∧ g 16 p ≤ 8) ∧
  (∀ p k, 0 ≤ p → p < g 11 0 → 0 ≤ k → k < g 16 p → 0 ≤ g 17 (8 * p + k) ∧ g 17 (8 * p + k) < g 4 0) ∧
  (∀ f, 0 ≤ f → f < g 22 0 → 0 ≤ g 25 f ∧ g 25 f ≤ 6) ∧
  (∀ f k, 0 ≤ f → f < g 22 0 → 0 ≤ k → k < g 25 f → 0 ≤ g 26 (6 * f + k) ∧ g 26 (6 * f + k) < g 11 0) ∧
  (∀ p, 0 ≤ p → p < g 11 0 → g 13 p = -1 ∨ (0 ≤ g 13 p ∧ g 13 p < 8))
theorem BD.nn {g : GT} (B : BD g) : 0 ≤ g 4 0 ∧ g 4 0 ≤ 8 := B.1
theorem BD.np {g : GT} (B : BD g) : 0 ≤ g 11 0 ∧ g 11 0 ≤ 60 := B.2.1
theorem BD.nf {g : GT} (B : BD g) : 0 ≤ g 22 0 ∧ g 22 0 ≤ 20 := B.2.2.1
theorem BD.isup {g : GT} (B : BD g) (n : Int) : g 7 n = 0 ∨ g 7 n = 1 := B.2.2.2.1 n
theorem BD.ct {g : GT} (B : BD g) (n : Int) : g 9 n = 0 ∨ g 9 n = 1 := B.2.2.2.2.1 n
theorem BD.cp {g : GT} (B : BD g) (p : Int) (h0 : 0 ≤ p) (h1 : p < g 11 0) : 0 ≤ g 16 p ∧ g 16 p ≤ 8 := B.2.2.2.2.2.2.1 p h0 h1
theorem BD.cy {g : GT} (B : BD g) (p k : Int) (h0 : 0 ≤ p) (h1 : p < g 11 0) (h2 : 0 ≤ k) (h3 : k < g 16 p) : 0 ≤ g 17 (8 * p + k) ∧ g 17 (8 * p + k) < g 4 0 := B.2.2.2.2.2.2.2.1 p k h0 h1 h2 h3
theorem BD.rw {g : GT} (B : BD g) (f : Int) (h0 : 0 ≤ f) (h1 : f < g 22 0) : 0 ≤ g 25 f ∧ g 25 f ≤ 6 := B.2.2.2.2.2.2.2.2.1 f h0 h1
theorem BD.re {g : GT} (B : BD g) (f k : Int) (h0 : 0 ≤ f) (h1 : f < g 22 0) (h2 : 0 ≤ k) (h3 : k < g 25 f) : 0 ≤ g 26 (6 * f + k) ∧ g 26 (6 * f + k) < g 11 0 := B.2.2.2.2.2.2.2.2.2.1 f k h0 h1 h2 h3
theorem BD.pr {g : GT} (B : BD g) (p : Int) (h0 : 0 ≤ p) (h1 : p < g 11 0) : g 13 p = -1 ∨ (0 ≤ g 13 p ∧ g 13 p < 8) := B.2.2.2.2.2.2.2.2.2.2 p h0 h1
/-- the load of a node -/
def loadG (g : GT) (n : Int) : Int := cnt (fun p => decide (0 < g 18 (60 * n + p))) (g 11 0)

set_option maxRecDepth 100000 in
set_option maxHeartbeats 4000000 in
theorem C_X5_isIn {gx : GX} {d : Nat} {Qr : Option AV → Hp → Prop} {Qx : String → Hp → Prop} {h : Hp} {v a b : Int} (hv : inR v) (ha : inR a) (hb : inR b) (k : ∀ z, inR z → BV z (a ≤ v ∧ v ≤ b) → Qr (some (vi z)) h) : aM gx (d + 1) mX5_isIn [vi v, vi a, vi b] h 0 0 Qr Qx := by
  intro J C
  show J 0 [some (vi v), some (vi a), some (vi b)] [] h 0 0
  refine r_iload_n C dX5_isIn_0 (i := 0) rfl rfl ?_
  refine r_iload_n C dX5_isIn_1 (i := 1) rfl rfl ?_
  refine r_ic_lt C dX5_isIn_2 (t := 14) (by decide) (by first | assumption | exact R.rg _ _ | exact rg _ _ | (unfold inR; omega)) (by first | assumption | exact R.rg _ _ | exact rg _ _ | (unfold inR; omega)) (fun c2 => ?_) (fun c2 => ?_)
  · skip
    refine r_iconst C dX5_isIn_14 ?_
    refine r_iret C dX5_isIn_15 (Or.inr ⟨rfl, (by first | assumption | omega | decide)⟩) ?_
    first | exact k _ inR1 (.y (by omega)) | exact k _ inR0 (.n (by omega))
  · skip
    refine r_iload_n C dX5_isIn_5 (i := 0) rfl rfl ?_
    refine r_iload_n C dX5_isIn_6 (i := 2) rfl rfl ?_
    refine r_ic_gt C dX5_isIn_7 (t := 14) (by decide) (by first | assumption | exact R.rg _ _ | exact rg _ _ | (unfold inR; omega)) (by first | assumption | exact R.rg _ _ | exact rg _ _ | (unfold inR; omega)) (fun c7 => ?_) (fun c7 => ?_)
    · skip
      refine r_iconst C dX5_isIn_14 ?_
      refine r_iret C dX5_isIn_15 (Or.inr ⟨rfl, (by first | assumption | omega | decide)⟩) ?_
      first | exact k _ inR1 (.y (by omega)) | exact k _ inR0 (.n (by omega))
    · skip
      refine r_iconst C dX5_isIn_10 ?_
      refine r_goto C dX5_isIn_11 (t := 15) (by decide) ?_
      refine r_iret C dX5_isIn_15 (Or.inr ⟨rfl, (by first | assumption | omega | decide)⟩) ?_
      first | exact k _ inR1 (.y (by omega)) | exact k _ inR0 (.n (by omega))

set_option maxRecDepth 100000 in
set_option maxHeartbeats 4000000 in
theorem C_X5_at {gx : GX} {d : Nat} {Qr : Option AV → Hp → Prop} {Qx : String → Hp → Prop} {h : Hp} {n p : Int} (k : Qr (some (vi (60 * n + p))) h) : aM gx (d + 1) mX5_at [vi n, vi p] h 0 0 Qr Qx := by
  intro J C
  show J 0 [some (vi n), some (vi p)] [] h 0 0
  refine r_bipush C dX5_at_0 (by decide) ?_
  refine r_iload_n C dX5_at_2 (i := 0) rfl rfl ?_
  refine r_imul C dX5_at_3 ?_
  refine r_iload_n C dX5_at_4 (i := 1) rfl rfl ?_
  refine r_iadd C dX5_at_5 ?_
  refine r_iret C dX5_at_6 (Or.inl rfl) ?_
  exact k

set_option maxRecDepth 100000 in
set_option maxHeartbeats 4000000 in
theorem C_X5_thrown {gx : GX} {d : Nat} {Qr : Option AV → Hp → Prop} {Qx : String → Hp → Prop} {q : Nat} {ar : Nat → Nat} {g : GT} {h : Hp} (R : RM q ar g h) (k : Qr (some (vi (g 0 0))) h) : aM gx (d + 1) mX5_thrown [vr q] h 0 0 Qr Qx := by
  intro J C
  show J 0 [some (vr q)] [] h 0 0
  refine r_aload_n C dX5_thrown_0 (i := 0) rfl rfl ?_
  refine m_get0 C dX5_thrown_1 fX5_75 R rfl rfl ?_
  refine r_iret C dX5_thrown_4 (Or.inl rfl) ?_
  exact k

set_option maxRecDepth 100000 in
set_option maxHeartbeats 4000000 in
theorem C_X5_holds {gx : GX} {d : Nat} {Qr : Option AV → Hp → Prop} {Qx : String → Hp → Prop} {q : Nat} {ar : Nat → Nat} {g : GT} {h : Hp} {x : Int} (R : RM q ar g h) (hx : inR x) (k : ∀ z h1, inR z → BV z (x = 0) → RM q ar (up g 0 0 x) h1 → Qr (some (vi z)) h1) : aM gx (d + 1) mX5_holds [vr q, vi x] h 0 0 Qr Qx := by
  intro J C
  show J 0 [some (vr q), some (vi x)] [] h 0 0
  refine r_aload_n C dX5_holds_0 (i := 0) rfl rfl ?_
  refine r_iload_n C dX5_holds_1 (i := 1) rfl rfl ?_
  refine m_put C dX5_holds_2 fX5_75 R rfl rfl (Or.inl rfl) (by first | assumption | exact R.rg _ _ | exact rg _ _ | (unfold inR; omega)) (fun h R => ?_)
  refine r_iload_n C dX5_holds_5 (i := 1) rfl rfl ?_
  refine r_if_ne C dX5_holds_6 (t := 13) (by decide) (by first | assumption | exact R.rg _ _ | exact rg _ _ | (unfold inR; omega)) (fun c6 => ?_) (fun c6 => ?_)
  · skip
    refine r_iconst C dX5_holds_13 ?_
    refine r_iret C dX5_holds_14 (Or.inr ⟨rfl, (by first | assumption | omega | decide)⟩) ?_
    first | exact k _ _ inR1 (.y (by omega)) R | exact k _ _ inR0 (.n (by omega)) R
  · skip
    refine r_iconst C dX5_holds_9 ?_
    refine r_goto C dX5_holds_10 (t := 14) (by decide) ?_
    refine r_iret C dX5_holds_14 (Or.inr ⟨rfl, (by first | assumption | omega | decide)⟩) ?_
    first | exact k _ _ inR1 (.y (by omega)) R | exact k _ _ inR0 (.n (by omega)) R

set_option maxRecDepth 100000 in
set_option maxHeartbeats 4000000 in
theorem C_X5_isNode {gx : GX} {d : Nat} {Qr : Option AV → Hp → Prop} {Qx : String → Hp → Prop} {q : Nat} {ar : Nat → Nat} {g : GT} {h : Hp} {v : Int} (R : RM q ar g h) (B : BD g) (hv : inR v) (k : ∀ z, inR z → BV z (0 ≤ v ∧ v < g 4 0) → Qr (some (vi z)) h) : aM gx (d + 2) mX5_isNode [vr q, vi v] h 0 0 Qr Qx := by
  intro J C
  show J 0 [some (vr q), some (vi v)] [] h 0 0
  have b1 := B.nn; have b2 := B.np; have b3 := B.nf
  refine r_iload_n C dX5_isNode_0 (i := 1) rfl rfl ?_
  refine r_iconst C dX5_isNode_1 ?_
  refine r_aload_n C dX5_isNode_2 (i := 0) rfl rfl ?_
  refine m_get0 C dX5_isNode_3 fX5_78 R rfl rfl ?_
  refine r_iconst C dX5_isNode_6 ?_
  refine r_isub C dX5_isNode_7 ?_
  refine r_S3 C dX5_isNode_8 sX5_81 (Nat.le_of_ble_eq_true rfl) (C_X5_isIn hv (by unfold inR; omega) (by unfold inR; omega) (fun z hz hb => ?_))
  have hz01 := hb.b
  refine r_iret C dX5_isNode_11 (Or.inr ⟨rfl, (by first | assumption | omega | decide)⟩) ?_
  exact k _ hz (hb.iff (by omega))

set_option maxRecDepth 100000 in
set_option maxHeartbeats 4000000 in
theorem C_X5_isPiece {gx : GX} {d : Nat} {Qr : Option AV → Hp → Prop} {Qx : String → Hp → Prop} {q : Nat} {ar : Nat → Nat} {g : GT} {h : Hp} {v : Int} (R : RM q ar g h) (B : BD g) (hv : inR v) (k : ∀ z, inR z → BV z (0 ≤ v ∧ v < g 11 0) → Qr (some (vi z)) h) : aM gx (d + 2) mX5_isPiece [vr q, vi v] h 0 0 Qr Qx := by
  intro J C
  show J 0 [some (vr q), some (vi v)] [] h 0 0
  have b1 := B.nn; have b2 := B.np; have b3 := B.nf
  refine r_iload_n C dX5_isPiece_0 (i := 1) rfl rfl ?_
  refine r_iconst C dX5_isPiece_1 ?_
  refine r_aload_n C dX5_isPiece_2 (i := 0) rfl rfl ?_
  refine m_get0 C dX5_isPiece_3 fX5_85 R rfl rfl ?_
  refine r_iconst C dX5_isPiece_6 ?_
  refine r_isub C dX5_isPiece_7 ?_
  refine r_S3 C dX5_isPiece_8 sX5_81 (Nat.le_of_ble_eq_true rfl) (C_X5_isIn hv (by unfold inR; omega) (by unfold inR; omega) (fun z hz hb => ?_))
  have hz01 := hb.b
  refine r_iret C dX5_isPiece_11 (Or.inr ⟨rfl, (by first | assumption | omega | decide)⟩) ?_
  exact k _ hz (hb.iff (by omega))

set_option maxRecDepth 100000 in
set_option maxHeartbeats 4000000 in
theorem C_X5_isFile {gx : GX} {d : Nat} {Qr : Option AV → Hp → Prop} {Qx : String → Hp → Prop} {q : Nat} {ar : Nat → Nat} {g : GT} {h : Hp} {v : Int} (R : RM q ar g h) (B : BD g) (hv : inR v) (k : ∀ z, inR z → BV z (0 ≤ v ∧ v < g 22 0) → Qr (some (vi z)) h) : aM gx (d + 2) mX5_isFile [vr q, vi v] h 0 0 Qr Qx := by
  intro J C
  show J 0 [some (vr q), some (vi v)] [] h 0 0
  have b1 := B.nn; have b2 := B.np; have b3 := B.nf
  refine r_iload_n C dX5_isFile_0 (i := 1) rfl rfl ?_
  refine r_iconst C dX5_isFile_1 ?_
  refine r_aload_n C dX5_isFile_2 (i := 0) rfl rfl ?_
  refine m_get0 C dX5_isFile_3 fX5_88 R rfl rfl ?_
  refine r_iconst C dX5_isFile_6 ?_
  refine r_isub C dX5_isFile_7 ?_
  refine r_S3 C dX5_isFile_8 sX5_81 (Nat.le_of_ble_eq_true rfl) (C_X5_isIn hv (by unfold inR; omega) (by unfold inR; omega) (fun z hz hb => ?_))
  have hz01 := hb.b
  refine r_iret C dX5_isFile_11 (Or.inr ⟨rfl, (by first | assumption | omega | decide)⟩) ?_
  exact k _ hz (hb.iff (by omega))

set_option maxRecDepth 100000 in
set_option maxHeartbeats 4000000 in
theorem C_X5_loadOf {gx : GX} {d : Nat} {Qr : Option AV → Hp → Prop} {Qx : String → Hp → Prop} {q : Nat} {ar : Nat → Nat} {g : GT} {h : Hp} {n : Int} (R : RM q ar g h) (B : BD g) (h0 : 0 ≤ n) (h1 : n < 8) (k : Qr (some (vi (loadG g n))) h) : aM gx (d + 2) mX5_loadOf [vr q, vi n] h 0 0 Qr Qx := by
  intro J C
  show J 0 [some (vr q), some (vi n), none, none] [] h 0 0
  have b2 := B.np
  refine r_iconst C dX5_loadOf_0 ?_
  refine r_istore_n C dX5_loadOf_1 (i := 2) rfl (Nat.le_of_ble_eq_true rfl) ?_
  dsimp only [List.set]
  refine r_iconst C dX5_loadOf_2 ?_
  refine r_istore_n C dX5_loadOf_3 (i := 3) rfl (Nat.le_of_ble_eq_true rfl) ?_
  dsimp only [List.set]
  suffices LOOP : ∀ (m : Nat) (x p : Int), g 11 0 - p < (m : Int) → 0 ≤ p → p ≤ g 11 0 → 0 ≤ x → x ≤ p → x = cnt (fun p => decide (0 < g 18 (60 * n + p))) p → J 4 [some (vr q), some (vi n), some (vi x), some (vi p)] [] h 0 0 by
    exact LOOP ((g 11 0).toNat + 1) 0 0 (by omega) (by omega) (by omega) (by omega) (by omega) rfl
  intro m
  induction m with
  | zero => intro x p hm hp0 hp1 hx0 hx1 hx; exact absurd hm (by omega)
  | succ m ih =>
    intro x p hm hp0 hp1 hx0 hx1 hx
    refine r_iload_n C dX5_loadOf_4 (i := 3) rfl rfl ?_
    refine r_aload_n C dX5_loadOf_5 (i := 0) rfl rfl ?_
    refine m_get0 C dX5_loadOf_6 fX5_85 R rfl rfl ?_
    refine r_ic_ge C dX5_loadOf_9 (t := 39) (by decide) (by first | assumption | exact R.rg _ _ | exact rg _ _ | (unfold inR; omega)) (by first | assumption | exact R.rg _ _ | exact rg _ _ | (unfold inR; omega)) (fun c9 => ?_) (fun c9 => ?_)
    · skip
      refine r_iload_n C dX5_loadOf_39 (i := 2) rfl rfl ?_
      refine r_iret C dX5_loadOf_40 (Or.inl rfl) ?_
      rw [hx, show p = g 11 0 by omega]; exact k
    · skip
      refine r_iload_n C dX5_loadOf_12 (i := 2) rfl rfl ?_
      refine r_aload_n C dX5_loadOf_13 (i := 0) rfl rfl ?_
      refine m_getA C dX5_loadOf_14 fX5_51 R (by decide) rfl ?_
      refine r_iload_n C dX5_loadOf_17 (i := 1) rfl rfl ?_
      refine r_iload_n C dX5_loadOf_18 (i := 3) rfl rfl ?_
      refine r_S2 C dX5_loadOf_19 sX5_104 (Nat.le_of_ble_eq_true rfl) (C_X5_at ?_)
      refine m_iald C dX5_loadOf_22 R (N := 480) rfl (by decide) rfl (by omega) (by omega) (by omega) ?_
      refine r_if_le C dX5_loadOf_23 (t := 30) (by decide) (by first | assumption | exact R.rg _ _ | exact rg _ _ | (unfold inR; omega)) (fun c23 => ?_) (fun c23 => ?_)
      · skip
        refine r_iconst C dX5_loadOf_30 ?_
        refine r_iadd C dX5_loadOf_31 ?_
        refine r_istore_n C dX5_loadOf_32 (i := 2) rfl (Nat.le_of_ble_eq_true rfl) ?_
        dsimp only [List.set]
        refine r_iinc C dX5_loadOf_33 rfl ?_
        dsimp only [List.set]
        refine r_goto C dX5_loadOf_36 (t := 4) (by decide) ?_
        exact ih _ _ (by omega) (by omega) (by omega) (by omega) (by omega) (by rw [cnt_s _ hp0, hx]; simp; omega)
      · skip
        refine r_iconst C dX5_loadOf_26 ?_
        refine r_goto C dX5_loadOf_27 (t := 31) (by decide) ?_
        refine r_iadd C dX5_loadOf_31 ?_
        refine r_istore_n C dX5_loadOf_32 (i := 2) rfl (Nat.le_of_ble_eq_true rfl) ?_
        dsimp only [List.set]
        refine r_iinc C dX5_loadOf_33 rfl ?_
        dsimp only [List.set]
        refine r_goto C dX5_loadOf_36 (t := 4) (by decide) ?_
        exact ih _ _ (by omega) (by omega) (by omega) (by omega) (by omega) (by rw [cnt_s _ hp0, hx]; simp; omega)

