/-! ===== the class: looking ===== -/
/-- a node's address, or nothing -/
def nq (A : Nat → Int → Nat) (n : Int) : Option Nat := if n = -1 then none else some (A 0 n)
theorem nq_0 {A : Nat → Int → Nat} : nq A (-1) = none := if_pos rfl
theorem nq_1 {A : Nat → Int → Nat} {n : Int} (h : n ≠ -1) : nq A n = some (A 0 n) := if_neg h
theorem nq_n {A : Nat → Int → Nat} {n : Int} (h : nq A n = none) : n = -1 := by
  by_cases c : n = -1
  · exact c
  · rw [nq_1 c] at h; cases h
theorem nq_s {A : Nat → Int → Nat} {n : Int} {a : Nat} (h : nq A n = some a) : n ≠ -1 ∧ a = A 0 n := by
  by_cases c : n = -1
  · rw [c, nq_0] at h; cases h
  · rw [nq_1 c] at h; exact ⟨c, (Option.some.inj h).symm⟩
/-- the places for copies and the table agree -/
def CI (u g : GT) : Prop :=
  (∀ n i, 0 ≤ n → n < g 4 0 → 0 ≤ i → i < g 6 n → 0 ≤ u 0 (12 * n + i) → 0 < g 18 (60 * n + u 0 (12 * n + i))) ∧
  (∀ n p, 0 ≤ n → n < g 4 0 → 0 ≤ p → p < g 11 0 → 0 < g 18 (60 * n + p) → ∃ i, 0 ≤ i ∧ i < g 6 n ∧ u 0 (12 * n + i) = p) ∧
  (∀ n i j, 0 ≤ n → n < g 4 0 → 0 ≤ i → i < g 6 n → 0 ≤ j → j < g 6 n → 0 ≤ u 0 (12 * n + i) → u 0 (12 * n + i) = u 0 (12 * n + j) → i = j) ∧
  (∀ n, 0 ≤ n → n < g 4 0 → u 3 n = loadG g n)
def NN (g : GT) : Prop := ∀ j, 0 ≤ g 18 j
theorem CI.occ {u g : GT} (C : CI u g) {n i p : Int} (n0 : 0 ≤ n) (n1 : n < g 4 0) (i0 : 0 ≤ i) (i1 : i < g 6 n) (hu : u 0 (12 * n + i) = p) (hp : 0 ≤ p) : 0 < g 18 (60 * n + p) := by
  have := C.1 n i n0 n1 i0 i1 (by omega)
  rwa [hu] at this
theorem CI.cov {u g : GT} (C : CI u g) {n p : Int} (n0 : 0 ≤ n) (n1 : n < g 4 0) (p0 : 0 ≤ p) (p1 : p < g 11 0) (hh : 0 < g 18 (60 * n + p)) : ∃ i, 0 ≤ i ∧ i < g 6 n ∧ u 0 (12 * n + i) = p := C.2.1 n p n0 n1 p0 p1 hh
theorem CI.inj {u g : GT} (C : CI u g) {n i p : Int} (n0 : 0 ≤ n) (n1 : n < g 4 0) (i0 : 0 ≤ i) (i1 : i < g 6 n) (hu : u 0 (12 * n + i) = p) (hp : 0 ≤ p) : ∀ j, 0 ≤ j → j < g 6 n → u 0 (12 * n + j) = p → j = i := fun j j0 j1 e => C.2.2.1 n j i n0 n1 j0 j1 i0 i1 (by omega) (by omega)
theorem CI.tk {u g : GT} (C : CI u g) {n : Int} (n0 : 0 ≤ n) (n1 : n < g 4 0) : u 3 n = loadG g n := C.2.2.2 n n0 n1
theorem CI.no {u g : GT} (C : CI u g) (N : NN g) {n p : Int} (n0 : 0 ≤ n) (n1 : n < g 4 0) (p0 : 0 ≤ p) (p1 : p < g 11 0) (no : ∀ i, 0 ≤ i → i < g 6 n → u 0 (12 * n + i) ≠ p) : g 18 (60 * n + p) = 0 := by
  have h := N (60 * n + p)
  by_cases c : 0 < g 18 (60 * n + p)
  · obtain ⟨i, i0, i1, hu⟩ := C.cov n0 n1 p0 p1 c
    exact absurd hu (no i i0 i1)
  · omega
/-- the class holds the table, and what it needs of that -/
def Rd (gx : GX) (x : Nat) (A : Nat → Int → Nat) (u : GT) (m : Int) (g : GT) (h : Hp) : Prop := Rp gx x A u m g h ∧ IV1 g ∧ CI u g ∧ NN g

set_option maxRecDepth 100000 in
set_option maxHeartbeats 4000000 in
theorem C_X3_placeOfHolder {gx : GX} {d : Nat} {Qr : Option AV → Hp → Prop} {Qx : String → Hp → Prop} {x : Nat} {A : Nat → Int → Nat} {u : GT} {m : Int} {g : GT} {h : Hp} {p n : Int} (R : Rp gx x A u m g h) (B : BD g) (p0 : 0 ≤ p) (p1 : p < g 11 0) (n0 : 0 ≤ n) (n1 : n < g 4 0) (K : Qr (some (vi (plG g p n))) h) : aM gx (d + 4) mX3_placeOfHolder [vr (A 4 p), vr (A 0 n)] h 0 0 Qr Qx := by
  intro J C
  show J 0 [some (vr (A 4 p)), some (vr (A 0 n)), none] [] h 0 0
  have b1 := B.nn; have b2 := B.np; have bcp := B.cp p p0 p1
  refine r_iconst C dX3_placeOfHolder_0 ?_
  refine r_istore_n C dX3_placeOfHolder_1 (i := 2) rfl (Nat.le_of_ble_eq_true rfl) ?_
  dsimp only [List.set]
  suffices LOOP : ∀ (m9 : Nat) (i : Int), g 16 p - i < (m9 : Int) → 0 ≤ i → i ≤ g 16 p → (∀ j, 0 ≤ j → j < i → decide (g 17 (8 * p + j) = n) = false) → J 2 [some (vr (A 4 p)), some (vr (A 0 n)), some (vi i)] [] h 0 0 by
    exact LOOP ((g 16 p).toNat + 1) 0 (by omega) (by omega) (by omega) all_0
  intro m9
  induction m9 with
  | zero => intro i hm9 i0 i1 al; exact absurd hm9 (by omega)
  | succ m9 ih9 =>
    intro i hm9 i0 i1 al
    refine r_iload_n C dX3_placeOfHolder_2 (i := 2) rfl rfl ?_
    refine r_aload_n C dX3_placeOfHolder_3 (i := 0) rfl rfl ?_
    refine c_4_6 C dX3_placeOfHolder_4 fX3_31 R (by omega) (by omega) ?_
    refine c_szH C dX3_placeOfHolder_7 sX3_38 R (by omega) (by omega) (Nat.le_of_ble_eq_true rfl) ?_
    refine r_ic_ge C dX3_placeOfHolder_10 (t := 33) (by decide) (by first | assumption | exact R.rg _ _ | exact R.ru _ _ | (unfold inR; omega)) (by first | assumption | exact R.rg _ _ | exact R.ru _ _ | (unfold inR; omega)) (fun c10 => ?_) (fun c10 => ?_)
    · skip
      refine r_iconst C dX3_placeOfHolder_33 ?_
      refine r_iret C dX3_placeOfHolder_34 (Or.inl rfl) ?_
      rw [show plG g p n = -1 from findI_none (fun j a b => al j a (by omega))] at K; exact K
    · skip
      have bcy := B.cy p i p0 p1 i0 c10
      refine r_aload_n C dX3_placeOfHolder_13 (i := 0) rfl rfl ?_
      refine c_4_6 C dX3_placeOfHolder_14 fX3_31 R (by omega) (by omega) ?_
      refine r_iload_n C dX3_placeOfHolder_17 (i := 2) rfl rfl ?_
      refine c_gtH C dX3_placeOfHolder_18 sX3_42 R (by omega) (by omega) (by omega) (by omega) (Nat.le_of_ble_eq_true rfl) ?_
      refine r_aload_n C dX3_placeOfHolder_21 (i := 1) rfl rfl ?_
      refine r_ac_ne C dX3_placeOfHolder_22 (t := 27) (by decide) (fun c22 => ?_) (fun c22 => ?_)
      · skip
        have hne : g 17 (8 * p + i) ≠ n := fun e => c22 (by rw [e])
        refine r_iinc C dX3_placeOfHolder_27 rfl ?_
        dsimp only [List.set]
        refine r_goto C dX3_placeOfHolder_30 (t := 2) (by decide) ?_
        exact ih9 _ (by omega) (by omega) (by omega) (all_s al (decide_eq_false hne))
      · skip
        have he : g 17 (8 * p + i) = n := (R.ap 0 _ 0 _ bcy ⟨n0, n1⟩ (Option.some.inj c22)).2
        refine r_iload_n C dX3_placeOfHolder_25 (i := 2) rfl rfl ?_
        refine r_iret C dX3_placeOfHolder_26 (Or.inl rfl) ?_
        rw [show plG g p n = i from findI_hit i0 c10 (decide_eq_true he) al] at K; exact K

set_option maxRecDepth 100000 in
set_option maxHeartbeats 4000000 in
theorem C_X3_isHeldBy {gx : GX} {d : Nat} {Qr : Option AV → Hp → Prop} {Qx : String → Hp → Prop} {x : Nat} {A : Nat → Int → Nat} {u : GT} {m : Int} {g : GT} {h : Hp} {p n : Int} (R : Rp gx x A u m g h) (B : BD g) (p0 : 0 ≤ p) (p1 : p < g 11 0) (n0 : 0 ≤ n) (n1 : n < g 4 0) (K : ∀ z, inR z → BV z (plG g p n ≠ -1) → Qr (some (vi z)) h) : aM gx (d + 5) mX3_isHeldBy [vr (A 4 p), vr (A 0 n)] h 0 0 Qr Qx := by
  intro J C
  show J 0 [some (vr (A 4 p)), some (vr (A 0 n))] [] h 0 0
  have b1 := B.nn; have b2 := B.np; have bcp := B.cp p p0 p1; have bpl := plG_b (g := g) (p := p) (n := n)
  refine r_aload_n C dX3_isHeldBy_0 (i := 0) rfl rfl ?_
  refine r_aload_n C dX3_isHeldBy_1 (i := 1) rfl rfl ?_
  refine c_VQ1 C dX3_isHeldBy_2 sX3_46 rfl R (by omega) (by omega) rfl (Nat.le_of_ble_eq_true rfl) 0 0 (Nat.zero_le _) (Nat.zero_le _) (C_X3_placeOfHolder R B p0 p1 n0 n1 ?_)
  refine r_iconst C dX3_isHeldBy_5 ?_
  refine r_ic_eq C dX3_isHeldBy_6 (t := 13) (by decide) (by first | assumption | exact R.rg _ _ | exact R.ru _ _ | (unfold inR; omega)) (by first | assumption | exact R.rg _ _ | exact R.ru _ _ | (unfold inR; omega)) (fun c6 => ?_) (fun c6 => ?_)
  · skip
    refine r_iconst C dX3_isHeldBy_13 ?_
    refine r_iret C dX3_isHeldBy_14 (Or.inr ⟨rfl, (by first | assumption | omega | decide)⟩) ?_
    first | exact K _ inR1 (.y (by omega)) | exact K _ inR0 (.n (by omega))
  · skip
    refine r_iconst C dX3_isHeldBy_9 ?_
    refine r_goto C dX3_isHeldBy_10 (t := 14) (by decide) ?_
    refine r_iret C dX3_isHeldBy_14 (Or.inr ⟨rfl, (by first | assumption | omega | decide)⟩) ?_
    first | exact K _ inR1 (.y (by omega)) | exact K _ inR0 (.n (by omega))

set_option maxRecDepth 100000 in
set_option maxHeartbeats 4000000 in
theorem C_X3_copiesInRack {gx : GX} {d : Nat} {Qr : Option AV → Hp → Prop} {Qx : String → Hp → Prop} {x : Nat} {A : Nat → Int → Nat} {u : GT} {m : Int} {g : GT} {h : Hp} {p r : Int} (Z : Rd gx x A u m g h) (p0 : 0 ≤ p) (p1 : p < g 11 0) (hr : inR r) (K : Qr (some (vi (irG g p r))) h) : aM gx (d + 4) mX3_copiesInRack [vr (A 4 p), vi r] h 0 0 Qr Qx := by
  intro J C
  show J 0 [some (vr (A 4 p)), some (vi r), none, none] [] h 0 0
  have R := Z.1; have I := Z.2.1; have Ci := Z.2.2.1; have Nn := Z.2.2.2; have B := I.1; have b1 := B.nn; have b2 := B.np; have bcp := B.cp p p0 p1
  refine r_iconst C dX3_copiesInRack_0 ?_
  refine r_istore_n C dX3_copiesInRack_1 (i := 2) rfl (Nat.le_of_ble_eq_true rfl) ?_
  dsimp only [List.set]
  refine r_iconst C dX3_copiesInRack_2 ?_
  refine r_istore_n C dX3_copiesInRack_3 (i := 3) rfl (Nat.le_of_ble_eq_true rfl) ?_
  dsimp only [List.set]
  suffices LOOP : ∀ (m9 : Nat) (y i : Int), g 16 p - i < (m9 : Int) → 0 ≤ i → i ≤ g 16 p → 0 ≤ y → y ≤ i → y = cnt (fun k => decide (g 5 (g 17 (8 * p + k)) = r)) i → J 4 [some (vr (A 4 p)), some (vi r), some (vi y), some (vi i)] [] h 0 0 by
    exact LOOP ((g 16 p).toNat + 1) 0 0 (by omega) (by omega) (by omega) (by omega) (by omega) rfl
  intro m9
  induction m9 with
  | zero => intro y i hm9 i0 i1 y0 y1 hy; exact absurd hm9 (by omega)
  | succ m9 ih9 =>
    intro y i hm9 i0 i1 y0 y1 hy
    refine r_iload_n C dX3_copiesInRack_4 (i := 3) rfl rfl ?_
    refine r_aload_n C dX3_copiesInRack_5 (i := 0) rfl rfl ?_
    refine c_4_6 C dX3_copiesInRack_6 fX3_31 R (by omega) (by omega) ?_
    refine c_szH C dX3_copiesInRack_9 sX3_38 R (by omega) (by omega) (Nat.le_of_ble_eq_true rfl) ?_
    refine r_ic_ge C dX3_copiesInRack_12 (t := 42) (by decide) (by first | assumption | exact R.rg _ _ | exact R.ru _ _ | (unfold inR; omega)) (by first | assumption | exact R.rg _ _ | exact R.ru _ _ | (unfold inR; omega)) (fun c12 => ?_) (fun c12 => ?_)
    · skip
      refine r_iload_n C dX3_copiesInRack_42 (i := 2) rfl rfl ?_
      refine r_iret C dX3_copiesInRack_43 (Or.inl rfl) ?_
      rw [show irG g p r = y by rw [hy, show i = g 16 p by omega]; rfl] at K; exact K
    · skip
      have bcy := B.cy p i p0 p1 i0 c12
      refine r_aload_n C dX3_copiesInRack_15 (i := 0) rfl rfl ?_
      refine c_4_6 C dX3_copiesInRack_16 fX3_31 R (by omega) (by omega) ?_
      refine r_iload_n C dX3_copiesInRack_19 (i := 3) rfl rfl ?_
      refine c_gtH C dX3_copiesInRack_20 sX3_42 R (by omega) (by omega) (by omega) (by omega) (Nat.le_of_ble_eq_true rfl) ?_
      refine c_castN C dX3_copiesInRack_23 kX3_60 R (by omega) (by omega) ?_
      refine c_3_1 C dX3_copiesInRack_26 fX3_62 R (by omega) (by omega) ?_
      refine r_iload_n C dX3_copiesInRack_29 (i := 1) rfl rfl ?_
      refine r_ic_ne C dX3_copiesInRack_30 (t := 36) (by decide) (by first | assumption | exact R.rg _ _ | exact R.ru _ _ | (unfold inR; omega)) (by first | assumption | exact R.rg _ _ | exact R.ru _ _ | (unfold inR; omega)) (fun c30 => ?_) (fun c30 => ?_)
      · skip
        refine r_iinc C dX3_copiesInRack_36 rfl ?_
        dsimp only [List.set]
        refine r_goto C dX3_copiesInRack_39 (t := 4) (by decide) ?_
        exact ih9 _ _ (by omega) (by omega) (by omega) (by omega) (by omega) (by rw [cnt_s _ i0, hy]; simp [c30])
      · skip
        refine r_iinc C dX3_copiesInRack_33 rfl ?_
        dsimp only [List.set]
        refine r_iinc C dX3_copiesInRack_36 rfl ?_
        dsimp only [List.set]
        refine r_goto C dX3_copiesInRack_39 (t := 4) (by decide) ?_
        exact ih9 _ _ (by omega) (by omega) (by omega) (by omega) (by omega) (by rw [cnt_s _ i0, hy]; simp [c30])

set_option maxRecDepth 100000 in
set_option maxHeartbeats 4000000 in
theorem C_X3_isGone {gx : GX} {d : Nat} {Qr : Option AV → Hp → Prop} {Qx : String → Hp → Prop} {x : Nat} {A : Nat → Int → Nat} {u : GT} {m : Int} {g : GT} {h : Hp} {p : Int} (R : Rp gx x A u m g h) (p0 : 0 ≤ p) (p1 : p < g 11 0) (K : ∀ z, inR z → BV z (u 2 p = 0) → Qr (some (vi z)) h) : aM gx (d + 1) mX3_isGone [vr (A 4 p)] h 0 0 Qr Qx := by
  intro J C
  show J 0 [some (vr (A 4 p))] [] h 0 0
  refine r_aload_n C dX3_isGone_0 (i := 0) rfl rfl ?_
  refine c_4_2 C dX3_isGone_1 fX3_15 R (by omega) (by omega) ?_
  refine r_if_ne C dX3_isGone_4 (t := 11) (by decide) (by first | assumption | exact R.rg _ _ | exact R.ru _ _ | (unfold inR; omega)) (fun c4 => ?_) (fun c4 => ?_)
  · skip
    refine r_iconst C dX3_isGone_11 ?_
    refine r_iret C dX3_isGone_12 (Or.inr ⟨rfl, (by first | assumption | omega | decide)⟩) ?_
    first | exact K _ inR1 (.y (by omega)) | exact K _ inR0 (.n (by omega))
  · skip
    refine r_iconst C dX3_isGone_7 ?_
    refine r_goto C dX3_isGone_8 (t := 12) (by decide) ?_
    refine r_iret C dX3_isGone_12 (Or.inr ⟨rfl, (by first | assumption | omega | decide)⟩) ?_
    first | exact K _ inR1 (.y (by omega)) | exact K _ inR0 (.n (by omega))

set_option maxRecDepth 100000 in
set_option maxHeartbeats 4000000 in
theorem C_X4_isGood {gx : GX} {d : Nat} {Qr : Option AV → Hp → Prop} {Qx : String → Hp → Prop} {x : Nat} {A : Nat → Int → Nat} {u : GT} {m : Int} {g : GT} {h : Hp} {n p : Int} (Z : Rd gx x A u m g h) (n0 : 0 ≤ n) (n1 : n < g 4 0) (p0 : 0 ≤ p) (p1 : p < g 11 0) (K : ∀ z, inR z → BV z (goodP g p n) → Qr (some (vi z)) h) : aM gx (d + 2) mX4_isGood [vr (A 0 n), vr (A 4 p)] h 0 0 Qr Qx := by
  intro J C
  show J 0 [some (vr (A 0 n)), some (vr (A 4 p)), none] [] h 0 0
  have R := Z.1; have I := Z.2.1; have Ci := Z.2.2.1; have Nn := Z.2.2.2; have B := I.1; have b1 := B.nn; have b2 := B.np; have vp := I.2.2.2.2 p p0 p1
  refine r_aload_n C dX4_isGood_0 (i := 0) rfl rfl ?_
  refine r_aload_n C dX4_isGood_1 (i := 1) rfl rfl ?_
  refine c_VN1 C dX4_isGood_2 sX4_82 rfl R (by omega) (by omega) rfl (Nat.le_of_ble_eq_true rfl) 0 0 (Nat.zero_le _) (Nat.zero_le _) (C_X2_copyOfP R n0 n1 p0 p1 (fun i i0 i1 hu => ?_) (fun no => ?_))
  · skip
    refine r_astore_n C dX4_isGood_5 (i := 2) rfl (Nat.le_of_ble_eq_true rfl) ?_
    dsimp only [List.set]
    refine r_aload_n C dX4_isGood_6 (i := 0) rfl rfl ?_
    refine c_3_4 C dX4_isGood_7 fX4_69 R (by omega) (by omega) ?_
    refine r_if_eq C dX4_isGood_10 (t := 32) (by decide) (by first | assumption | exact R.rg _ _ | exact R.ru _ _ | (unfold inR; omega)) (fun c10 => ?_) (fun c10 => ?_)
    · skip
      refine r_iconst C dX4_isGood_32 ?_
      refine r_iret C dX4_isGood_33 (Or.inr ⟨rfl, (by first | assumption | omega | decide)⟩) ?_
      first | exact K _ inR1 (.y ⟨by omega, by omega⟩) | exact K _ inR0 (.n (fun z => by have z1 := z.1; have z2 := z.2; omega))
    · skip
      refine r_aload_n C dX4_isGood_13 (i := 2) rfl rfl ?_
      refine r_ifnull C dX4_isGood_14 (t := 32) (by decide) (fun c14 => ?_) (fun a14 c14 => ?_)
      · skip
        cases c14
      · skip
        refine r_aload_n C dX4_isGood_17 (i := 2) rfl rfl ?_
        refine c_1_1 C dX4_isGood_18 fX4_210 R (by omega) (by omega) (by omega) (by omega) hu (by omega) ?_
        refine r_aload_n C dX4_isGood_21 (i := 1) rfl rfl ?_
        refine c_4_1 C dX4_isGood_22 fX4_181 R (by omega) (by omega) ?_
        refine r_ic_ne C dX4_isGood_25 (t := 32) (by decide) (by first | assumption | exact R.rg _ _ | exact R.ru _ _ | (unfold inR; omega)) (by first | assumption | exact R.rg _ _ | exact R.ru _ _ | (unfold inR; omega)) (fun c25 => ?_) (fun c25 => ?_)
        · skip
          refine r_iconst C dX4_isGood_32 ?_
          refine r_iret C dX4_isGood_33 (Or.inr ⟨rfl, (by first | assumption | omega | decide)⟩) ?_
          first | exact K _ inR1 (.y ⟨by omega, by omega⟩) | exact K _ inR0 (.n (fun z => by have z1 := z.1; have z2 := z.2; omega))
        · skip
          refine r_iconst C dX4_isGood_28 ?_
          refine r_goto C dX4_isGood_29 (t := 33) (by decide) ?_
          refine r_iret C dX4_isGood_33 (Or.inr ⟨rfl, (by first | assumption | omega | decide)⟩) ?_
          first | exact K _ inR1 (.y ⟨by omega, by omega⟩) | exact K _ inR0 (.n (fun z => by have z1 := z.1; have z2 := z.2; omega))
  · skip
    have hz0 := Ci.no Nn n0 n1 p0 p1 no
    refine r_astore_n C dX4_isGood_5 (i := 2) rfl (Nat.le_of_ble_eq_true rfl) ?_
    dsimp only [List.set]
    refine r_aload_n C dX4_isGood_6 (i := 0) rfl rfl ?_
    refine c_3_4 C dX4_isGood_7 fX4_69 R (by omega) (by omega) ?_
    refine r_if_eq C dX4_isGood_10 (t := 32) (by decide) (by first | assumption | exact R.rg _ _ | exact R.ru _ _ | (unfold inR; omega)) (fun c10 => ?_) (fun c10 => ?_)
    · skip
      refine r_iconst C dX4_isGood_32 ?_
      refine r_iret C dX4_isGood_33 (Or.inr ⟨rfl, (by first | assumption | omega | decide)⟩) ?_
      first | exact K _ inR1 (.y ⟨by omega, by omega⟩) | exact K _ inR0 (.n (fun z => by have z1 := z.1; have z2 := z.2; omega))
    · skip
      refine r_aload_n C dX4_isGood_13 (i := 2) rfl rfl ?_
      refine r_ifnull C dX4_isGood_14 (t := 32) (by decide) (fun c14 => ?_) (fun a14 c14 => ?_)
      · skip
        refine r_iconst C dX4_isGood_32 ?_
        refine r_iret C dX4_isGood_33 (Or.inr ⟨rfl, (by first | assumption | omega | decide)⟩) ?_
        first | exact K _ inR1 (.y ⟨by omega, by omega⟩) | exact K _ inR0 (.n (fun z => by have z1 := z.1; have z2 := z.2; omega))
      · skip
        cases c14

set_option maxRecDepth 100000 in
set_option maxHeartbeats 4000000 in
theorem C_X4_countGood {gx : GX} {d : Nat} {Qr : Option AV → Hp → Prop} {Qx : String → Hp → Prop} {x : Nat} {A : Nat → Int → Nat} {u : GT} {m : Int} {g : GT} {h : Hp} {p : Int} (Z : Rd gx x A u m g h) (p0 : 0 ≤ p) (p1 : p < g 11 0) (K : Qr (some (vi (gmG g p))) h) : aM gx (d + 4) mX4_countGood [vr (A 4 p)] h 0 0 Qr Qx := by
  intro J C
  show J 0 [some (vr (A 4 p)), none, none] [] h 0 0
  have R := Z.1; have I := Z.2.1; have Ci := Z.2.2.1; have Nn := Z.2.2.2; have B := I.1; have b1 := B.nn; have b2 := B.np; have bcp := B.cp p p0 p1
  refine r_iconst C dX4_countGood_0 ?_
  refine r_istore_n C dX4_countGood_1 (i := 1) rfl (Nat.le_of_ble_eq_true rfl) ?_
  dsimp only [List.set]
  refine r_iconst C dX4_countGood_2 ?_
  refine r_istore_n C dX4_countGood_3 (i := 2) rfl (Nat.le_of_ble_eq_true rfl) ?_
  dsimp only [List.set]
  suffices LOOP : ∀ (m9 : Nat) (y i : Int), g 16 p - i < (m9 : Int) → 0 ≤ i → i ≤ g 16 p → 0 ≤ y → y ≤ i → y = cnt (fun k => decide (goodP g p (g 17 (8 * p + k)))) i → J 4 [some (vr (A 4 p)), some (vi y), some (vi i)] [] h 0 0 by
    exact LOOP ((g 16 p).toNat + 1) 0 0 (by omega) (by omega) (by omega) (by omega) (by omega) rfl
  intro m9
  induction m9 with
  | zero => intro y i hm9 i0 i1 y0 y1 hy; exact absurd hm9 (by omega)
  | succ m9 ih9 =>
    intro y i hm9 i0 i1 y0 y1 hy
    refine r_iload_n C dX4_countGood_4 (i := 2) rfl rfl ?_
    refine r_aload_n C dX4_countGood_5 (i := 0) rfl rfl ?_
    refine c_4_6 C dX4_countGood_6 fX4_184 R (by omega) (by omega) ?_
    refine c_szH C dX4_countGood_9 sX4_44 R (by omega) (by omega) (Nat.le_of_ble_eq_true rfl) ?_
    refine r_ic_ge C dX4_countGood_12 (t := 42) (by decide) (by first | assumption | exact R.rg _ _ | exact R.ru _ _ | (unfold inR; omega)) (by first | assumption | exact R.rg _ _ | exact R.ru _ _ | (unfold inR; omega)) (fun c12 => ?_) (fun c12 => ?_)
    · skip
      refine r_iload_n C dX4_countGood_42 (i := 1) rfl rfl ?_
      refine r_iret C dX4_countGood_43 (Or.inl rfl) ?_
      rw [show gmG g p = y by rw [hy, show i = g 16 p by omega]; rfl] at K; exact K
    · skip
      have bcy := B.cy p i p0 p1 i0 c12
      refine r_aload_n C dX4_countGood_15 (i := 0) rfl rfl ?_
      refine c_4_6 C dX4_countGood_16 fX4_184 R (by omega) (by omega) ?_
      refine r_iload_n C dX4_countGood_19 (i := 2) rfl rfl ?_
      refine c_gtH C dX4_countGood_20 sX4_127 R (by omega) (by omega) (by omega) (by omega) (Nat.le_of_ble_eq_true rfl) ?_
      refine c_castN C dX4_countGood_23 kX4_53 R (by omega) (by omega) ?_
      refine r_aload_n C dX4_countGood_26 (i := 0) rfl rfl ?_
      refine c_S2 C dX4_countGood_27 sX4_257 rfl rfl (Nat.le_of_ble_eq_true rfl) 0 0 (Nat.zero_le _) (Nat.zero_le _) (C_X4_isGood Z (by omega) (by omega) p0 p1 (fun z hz hb => ?_))
      refine r_if_eq C dX4_countGood_30 (t := 36) (by decide) (by first | assumption | exact R.rg _ _ | exact R.ru _ _ | (unfold inR; omega)) (fun c30 => ?_) (fun c30 => ?_)
      · skip
        have hgd := hb.f c30
        refine r_iinc C dX4_countGood_36 rfl ?_
        dsimp only [List.set]
        refine r_goto C dX4_countGood_39 (t := 4) (by decide) ?_
        exact ih9 _ _ (by omega) (by omega) (by omega) (by omega) (by omega) (by rw [cnt_s _ i0, hy]; simp [hgd])
      · skip
        have hgd := hb.t c30
        refine r_iinc C dX4_countGood_33 rfl ?_
        dsimp only [List.set]
        refine r_iinc C dX4_countGood_36 rfl ?_
        dsimp only [List.set]
        refine r_goto C dX4_countGood_39 (t := 4) (by decide) ?_
        exact ih9 _ _ (by omega) (by omega) (by omega) (by omega) (by omega) (by rw [cnt_s _ i0, hy]; simp [hgd])

set_option maxRecDepth 100000 in
set_option maxHeartbeats 4000000 in
theorem C_X4_nearestGoodHolder {gx : GX} {d : Nat} {Qr : Option AV → Hp → Prop} {Qx : String → Hp → Prop} {x : Nat} {A : Nat → Int → Nat} {u : GT} {m : Int} {g : GT} {h : Hp} {p r : Int} (Z : Rd gx x A u m g h) (p0 : 0 ≤ p) (p1 : p < g 11 0) (hr : inR r) (K : Qr (some (vq (nq A (nrG g p r)))) h) : aM gx (d + 4) mX4_nearestGoodHolder [vr (A 4 p), vi r] h 0 0 Qr Qx := by
  intro J C
  show J 0 [some (vr (A 4 p)), some (vi r), none, none, none] [] h 0 0
  have R := Z.1; have I := Z.2.1; have Ci := Z.2.2.1; have Nn := Z.2.2.2; have B := I.1; have b1 := B.nn; have b2 := B.np; have bcp := B.cp p p0 p1
  refine r_anull C dX4_nearestGoodHolder_0 ?_
  refine r_astore_n C dX4_nearestGoodHolder_1 (i := 2) rfl (Nat.le_of_ble_eq_true rfl) ?_
  dsimp only [List.set]
  refine r_iconst C dX4_nearestGoodHolder_2 ?_
  refine r_istore_n C dX4_nearestGoodHolder_3 (i := 3) rfl (Nat.le_of_ble_eq_true rfl) ?_
  dsimp only [List.set]
  suffices LOOP : ∀ (m9 : Nat) (f i : Int) (rr : Option Nat) (y : Option AV), g 16 p - i < (m9 : Int) → 0 ≤ i → i ≤ g 16 p → rr = nq A f → (∀ j, 0 ≤ j → j < i → decide (goodP g p (g 17 (8 * p + j)) ∧ g 5 (g 17 (8 * p + j)) = r) = false) → ((f = -1 ∧ ∀ j, 0 ≤ j → j < i → decide (goodP g p (g 17 (8 * p + j)) ∧ ((0 : Int) = 0 ∨ g 21 (60 * g 17 (8 * p + j) + p) = 0)) = false) ∨ (f ≠ -1 ∧ f = fgG g p 0)) → J 4 [some (vr (A 4 p)), some (vi r), some (vq rr), some (vi i), y] [] h 0 0 by
    exact LOOP ((g 16 p).toNat + 1) (-1) 0 _ _ (by omega) (by omega) (by omega) nq_0.symm all_0 (Or.inl ⟨rfl, all_0⟩)
  intro m9
  induction m9 with
  | zero => intro f i rr y hm9 i0 i1 hr9 al fl; exact absurd hm9 (by omega)
  | succ m9 ih9 =>
    intro f i rr y hm9 i0 i1 hr9 al fl
    refine r_iload_n C dX4_nearestGoodHolder_4 (i := 3) rfl rfl ?_
    refine r_aload_n C dX4_nearestGoodHolder_5 (i := 0) rfl rfl ?_
    refine c_4_6 C dX4_nearestGoodHolder_6 fX4_184 R (by omega) (by omega) ?_
    refine c_szH C dX4_nearestGoodHolder_9 sX4_44 R (by omega) (by omega) (Nat.le_of_ble_eq_true rfl) ?_
    refine r_ic_ge C dX4_nearestGoodHolder_12 (t := 65) (by decide) (by first | assumption | exact R.rg _ _ | exact R.ru _ _ | (unfold inR; omega)) (by first | assumption | exact R.rg _ _ | exact R.ru _ _ | (unfold inR; omega)) (fun c12 => ?_) (fun c12 => ?_)
    · skip
      refine r_aload_n C dX4_nearestGoodHolder_65 (i := 2) rfl rfl ?_
      refine r_aret C dX4_nearestGoodHolder_66 rfl rfl ?_
      rw [show nrG g p r = fgG g p 0 from if_pos (pick_none (fun j a b => al j a (by omega))), show fgG g p 0 = f from fl.elim (fun q => (show fgG g p 0 = -1 from pick_none (fun j a b => q.2 j a (by omega))).trans q.1.symm) (fun q => q.2.symm), ← hr9] at K
      exact K
    · skip
      have bcy := B.cy p i p0 p1 i0 c12
      refine r_aload_n C dX4_nearestGoodHolder_15 (i := 0) rfl rfl ?_
      refine c_4_6 C dX4_nearestGoodHolder_16 fX4_184 R (by omega) (by omega) ?_
      refine r_iload_n C dX4_nearestGoodHolder_19 (i := 3) rfl rfl ?_
      refine c_gtH C dX4_nearestGoodHolder_20 sX4_127 R (by omega) (by omega) (by omega) (by omega) (Nat.le_of_ble_eq_true rfl) ?_
      refine c_castN C dX4_nearestGoodHolder_23 kX4_53 R (by omega) (by omega) ?_
      refine r_astore C dX4_nearestGoodHolder_26 (Nat.le_of_ble_eq_true rfl) ?_
      dsimp only [List.set]
      refine r_aload C dX4_nearestGoodHolder_28 rfl ?_
      refine r_aload_n C dX4_nearestGoodHolder_30 (i := 0) rfl rfl ?_
      refine c_S2 C dX4_nearestGoodHolder_31 sX4_257 rfl rfl (Nat.le_of_ble_eq_true rfl) 0 0 (Nat.zero_le _) (Nat.zero_le _) (C_X4_isGood Z (by omega) (by omega) p0 p1 (fun z hz hb => ?_))
      refine r_if_ne C dX4_nearestGoodHolder_34 (t := 40) (by decide) (by first | assumption | exact R.rg _ _ | exact R.ru _ _ | (unfold inR; omega)) (fun c34 => ?_) (fun c34 => ?_)
      · skip
        have hgd := hb.t c34
        refine r_aload C dX4_nearestGoodHolder_40 rfl ?_
        refine c_3_1 C dX4_nearestGoodHolder_42 fX4_233 R (by omega) (by omega) ?_
        refine r_iload_n C dX4_nearestGoodHolder_45 (i := 1) rfl rfl ?_
        refine r_ic_ne C dX4_nearestGoodHolder_46 (t := 52) (by decide) (by first | assumption | exact R.rg _ _ | exact R.ru _ _ | (unfold inR; omega)) (by first | assumption | exact R.rg _ _ | exact R.ru _ _ | (unfold inR; omega)) (fun c46 => ?_) (fun c46 => ?_)
        · skip
          refine r_aload_n C dX4_nearestGoodHolder_52 (i := 2) rfl rfl ?_
          refine r_ifnonnull C dX4_nearestGoodHolder_53 (t := 59) (by decide) (fun a53 c53 => ?_) (fun c53 => ?_)
          · skip
            have hf := (nq_s (hr9.symm.trans c53)).1
            refine r_iinc C dX4_nearestGoodHolder_59 rfl ?_
            dsimp only [List.set]
            refine r_goto C dX4_nearestGoodHolder_62 (t := 4) (by decide) ?_
            first
              | exact ih9 f _ _ _ (by omega) (by omega) (by omega) hr9 (all_s al (decide_eq_false (fun z => hgd z.1))) (fl.imp (fun q => ⟨q.1, all_s q.2 (decide_eq_false (fun z => hgd z.1))⟩) id)
              | exact ih9 (g 17 (8 * p + i)) _ _ _ (by omega) (by omega) (by omega) (nq_1 (by omega)).symm (all_s al (decide_eq_false (fun z => c46 z.2))) (Or.inr ⟨by omega, (show fgG g p 0 = _ from pick_hit i0 c12 (decide_eq_true ⟨hgd, Or.inl rfl⟩) (fl.resolve_right (fun q => q.1 hf)).2).symm⟩)
              | exact ih9 f _ _ _ (by omega) (by omega) (by omega) hr9 (all_s al (decide_eq_false (fun z => c46 z.2))) (Or.inr (fl.resolve_left (fun q => hf q.1)))
          · skip
            have hf := nq_n (hr9.symm.trans c53)
            refine r_aload C dX4_nearestGoodHolder_56 rfl ?_
            refine r_astore_n C dX4_nearestGoodHolder_58 (i := 2) rfl (Nat.le_of_ble_eq_true rfl) ?_
            dsimp only [List.set]
            refine r_iinc C dX4_nearestGoodHolder_59 rfl ?_
            dsimp only [List.set]
            refine r_goto C dX4_nearestGoodHolder_62 (t := 4) (by decide) ?_
            first
              | exact ih9 f _ _ _ (by omega) (by omega) (by omega) hr9 (all_s al (decide_eq_false (fun z => hgd z.1))) (fl.imp (fun q => ⟨q.1, all_s q.2 (decide_eq_false (fun z => hgd z.1))⟩) id)
              | exact ih9 (g 17 (8 * p + i)) _ _ _ (by omega) (by omega) (by omega) (nq_1 (by omega)).symm (all_s al (decide_eq_false (fun z => c46 z.2))) (Or.inr ⟨by omega, (show fgG g p 0 = _ from pick_hit i0 c12 (decide_eq_true ⟨hgd, Or.inl rfl⟩) (fl.resolve_right (fun q => q.1 hf)).2).symm⟩)
              | exact ih9 f _ _ _ (by omega) (by omega) (by omega) hr9 (all_s al (decide_eq_false (fun z => c46 z.2))) (Or.inr (fl.resolve_left (fun q => hf q.1)))
        · skip
          refine r_aload C dX4_nearestGoodHolder_49 rfl ?_
          refine r_aret C dX4_nearestGoodHolder_51 rfl rfl ?_
          rw [show nrG g p r = g 17 (8 * p + i) from (if_neg (by rw [pick_hit i0 c12 (decide_eq_true ⟨hgd, c46⟩) al]; omega)).trans (pick_hit i0 c12 (decide_eq_true ⟨hgd, c46⟩) al), nq_1 (by omega)] at K; exact K
      · skip
        have hgd := hb.f c34
        refine r_goto C dX4_nearestGoodHolder_37 (t := 59) (by decide) ?_
        refine r_iinc C dX4_nearestGoodHolder_59 rfl ?_
        dsimp only [List.set]
        refine r_goto C dX4_nearestGoodHolder_62 (t := 4) (by decide) ?_
        first
          | exact ih9 f _ _ _ (by omega) (by omega) (by omega) hr9 (all_s al (decide_eq_false (fun z => hgd z.1))) (fl.imp (fun q => ⟨q.1, all_s q.2 (decide_eq_false (fun z => hgd z.1))⟩) id)
          | exact ih9 (g 17 (8 * p + i)) _ _ _ (by omega) (by omega) (by omega) (nq_1 (by omega)).symm (all_s al (decide_eq_false (fun z => c46 z.2))) (Or.inr ⟨by omega, (show fgG g p 0 = _ from pick_hit i0 c12 (decide_eq_true ⟨hgd, Or.inl rfl⟩) (fl.resolve_right (fun q => q.1 hf)).2).symm⟩)
          | exact ih9 f _ _ _ (by omega) (by omega) (by omega) hr9 (all_s al (decide_eq_false (fun z => c46 z.2))) (Or.inr (fl.resolve_left (fun q => hf q.1)))

set_option maxRecDepth 100000 in
set_option maxHeartbeats 4000000 in
theorem C_X4_firstUpHolder {gx : GX} {d : Nat} {Qr : Option AV → Hp → Prop} {Qx : String → Hp → Prop} {x : Nat} {A : Nat → Int → Nat} {u : GT} {m : Int} {g : GT} {h : Hp} {p : Int} (Z : Rd gx x A u m g h) (p0 : 0 ≤ p) (p1 : p < g 11 0) (K : Qr (some (vq (nq A (fuG g p)))) h) : aM gx (d + 4) mX4_firstUpHolder [vr (A 4 p)] h 0 0 Qr Qx := by
  intro J C
  show J 0 [some (vr (A 4 p)), none] [] h 0 0
  have R := Z.1; have I := Z.2.1; have Ci := Z.2.2.1; have Nn := Z.2.2.2; have B := I.1; have b1 := B.nn; have b2 := B.np; have bcp := B.cp p p0 p1
  refine r_iconst C dX4_firstUpHolder_0 ?_
  refine r_istore_n C dX4_firstUpHolder_1 (i := 1) rfl (Nat.le_of_ble_eq_true rfl) ?_
  dsimp only [List.set]
  suffices LOOP : ∀ (m9 : Nat) (i : Int), g 16 p - i < (m9 : Int) → 0 ≤ i → i ≤ g 16 p → (∀ j, 0 ≤ j → j < i → decide (g 7 (g 17 (8 * p + j)) ≠ 0) = false) → J 2 [some (vr (A 4 p)), some (vi i)] [] h 0 0 by
    exact LOOP ((g 16 p).toNat + 1) 0 (by omega) (by omega) (by omega) all_0
  intro m9
  induction m9 with
  | zero => intro i hm9 i0 i1 al; exact absurd hm9 (by omega)
  | succ m9 ih9 =>
    intro i hm9 i0 i1 al
    refine r_iload_n C dX4_firstUpHolder_2 (i := 1) rfl rfl ?_
    refine r_aload_n C dX4_firstUpHolder_3 (i := 0) rfl rfl ?_
    refine c_4_6 C dX4_firstUpHolder_4 fX4_184 R (by omega) (by omega) ?_
    refine c_szH C dX4_firstUpHolder_7 sX4_44 R (by omega) (by omega) (Nat.le_of_ble_eq_true rfl) ?_
    refine r_ic_ge C dX4_firstUpHolder_10 (t := 48) (by decide) (by first | assumption | exact R.rg _ _ | exact R.ru _ _ | (unfold inR; omega)) (by first | assumption | exact R.rg _ _ | exact R.ru _ _ | (unfold inR; omega)) (fun c10 => ?_) (fun c10 => ?_)
    · skip
      refine r_anull C dX4_firstUpHolder_48 ?_
      refine r_aret C dX4_firstUpHolder_49 rfl rfl ?_
      rw [show fuG g p = -1 from pick_none (fun j a b => al j a (by omega)), nq_0] at K; exact K
    · skip
      have bcy := B.cy p i p0 p1 i0 c10
      refine r_aload_n C dX4_firstUpHolder_13 (i := 0) rfl rfl ?_
      refine c_4_6 C dX4_firstUpHolder_14 fX4_184 R (by omega) (by omega) ?_
      refine r_iload_n C dX4_firstUpHolder_17 (i := 1) rfl rfl ?_
      refine c_gtH C dX4_firstUpHolder_18 sX4_127 R (by omega) (by omega) (by omega) (by omega) (Nat.le_of_ble_eq_true rfl) ?_
      refine c_castN C dX4_firstUpHolder_21 kX4_53 R (by omega) (by omega) ?_
      refine c_3_4 C dX4_firstUpHolder_24 fX4_69 R (by omega) (by omega) ?_
      refine r_if_eq C dX4_firstUpHolder_27 (t := 42) (by decide) (by first | assumption | exact R.rg _ _ | exact R.ru _ _ | (unfold inR; omega)) (fun c27 => ?_) (fun c27 => ?_)
      · skip
        refine r_iinc C dX4_firstUpHolder_42 rfl ?_
        dsimp only [List.set]
        refine r_goto C dX4_firstUpHolder_45 (t := 2) (by decide) ?_
        exact ih9 _ (by omega) (by omega) (by omega) (all_s al (decide_eq_false (fun z => z c27)))
      · skip
        refine r_aload_n C dX4_firstUpHolder_30 (i := 0) rfl rfl ?_
        refine c_4_6 C dX4_firstUpHolder_31 fX4_184 R (by omega) (by omega) ?_
        refine r_iload_n C dX4_firstUpHolder_34 (i := 1) rfl rfl ?_
        refine c_gtH C dX4_firstUpHolder_35 sX4_127 R (by omega) (by omega) (by omega) (by omega) (Nat.le_of_ble_eq_true rfl) ?_
        refine c_castN C dX4_firstUpHolder_38 kX4_53 R (by omega) (by omega) ?_
        refine r_aret C dX4_firstUpHolder_41 rfl rfl ?_
        rw [show fuG g p = _ from pick_hit i0 c10 (decide_eq_true c27) al, nq_1 (by omega)] at K; exact K

