/-! ===== the class: small changes ===== -/
/-- the copy of q on n begins -/
def bgG (g : GT) (n q : Int) : GT := up (up (up g 18 (60 * n + q) (g 12 q)) 19 (60 * n + q) 0) 21 (60 * n + q) 0
/-- cells taken from one copy, t2, to another, t -/
def tcG (g : GT) (t t2 : Int) : GT := nuG (up (up g 19 t (g 19 t2)) 21 t (g 21 t2)) t t2 4
/-- another node in a node's place -/
def rpG (g : GT) (p n f : Int) : GT := if plG g p n = -1 then g else up g 17 (8 * p + plG g p n) f
theorem rp_ne (g : GT) (p n f : Int) {k : Nat} (h : k ≠ 17) (j : Int) : rpG g p n f k j = g k j := by
  unfold rpG
  split
  · rfl
  · exact up_ne h

set_option maxRecDepth 100000 in
set_option maxHeartbeats 4000000 in
theorem C_X3_endLease {gx : GX} {d : Nat} {Qr : Option AV → Hp → Prop} {Qx : String → Hp → Prop} {x : Nat} {A : Nat → Int → Nat} {u : GT} {m : Int} {g : GT} {h : Hp} {p : Int} (R : Rp gx x A u m g h) (p0 : 0 ≤ p) (p1 : p < g 11 0) (K : ∀ h1, Rp gx x A u m (elG g p) h1 → Qr none h1) : aM gx (d + 1) mX3_endLease [vr (A 4 p)] h 0 0 Qr Qx := by
  intro J C
  show J 0 [some (vr (A 4 p))] [] h 0 0
  refine r_aload_n C dX3_endLease_0 (i := 0) rfl rfl ?_
  refine r_anull C dX3_endLease_1 ?_
  refine r_putP C dX3_endLease_2 fX3_18 (Or.inl rfl) rfl (R.q p0 p1).1.1 (R.q p0 p1).1.2 ?_
  refine r_aload_n C dX3_endLease_5 (i := 0) rfl rfl ?_
  refine r_iconst C dX3_endLease_6 ?_
  refine r_putI C dX3_endLease_7 fX3_22 (Or.inl rfl) (Or.inl rfl) (R.q p0 p1).1.1 (R.q p0 p1).1.2 ?_
  refine r_ret C dX3_endLease_10 rfl ?_
  exact K _ (R.pc_ls p0 p1 inRn1 inRn1 (if_pos rfl).symm)

set_option maxRecDepth 100000 in
set_option maxHeartbeats 4000000 in
theorem C_X3_forget {gx : GX} {d : Nat} {Qr : Option AV → Hp → Prop} {Qx : String → Hp → Prop} {x : Nat} {A : Nat → Int → Nat} {u : GT} {m : Int} {g : GT} {h : Hp} {p n : Int} (R : Rp gx x A u m g h) (B : BD g) (p0 : 0 ≤ p) (p1 : p < g 11 0) (n0 : 0 ≤ n) (n1 : n < g 4 0) (ph : g 13 p ≠ -1 → 0 ≤ g 13 p ∧ g 13 p < g 4 0) (K : ∀ h1, Rp gx x A u m (if g 13 p = n then elG (fgtG g p n) p else fgtG g p n) h1 → Qr none h1) : aM gx (d + 5) mX3_forget [vr (A 4 p), vr (A 0 n)] h 0 0 Qr Qx := by
  intro J C
  show J 0 [some (vr (A 4 p)), some (vr (A 0 n)), none] [] h 0 0
  have b1 := B.nn; have b2 := B.np; have bcp := B.cp p p0 p1; have bpl := plG_b (g := g) (p := p) (n := n)
  refine r_aload_n C dX3_forget_0 (i := 0) rfl rfl ?_
  refine r_aload_n C dX3_forget_1 (i := 1) rfl rfl ?_
  refine c_VQ1 C dX3_forget_2 sX3_46 rfl R (by omega) (by omega) rfl (Nat.le_of_ble_eq_true rfl) 0 0 (Nat.zero_le _) (Nat.zero_le _) (C_X3_placeOfHolder R B p0 p1 n0 n1 ?_)
  refine r_istore_n C dX3_forget_5 (i := 2) rfl (Nat.le_of_ble_eq_true rfl) ?_
  dsimp only [List.set]
  refine r_iload_n C dX3_forget_6 (i := 2) rfl rfl ?_
  refine r_if_lt C dX3_forget_7 (t := 19) (by decide) (by first | assumption | exact R.rg _ _ | exact R.ru _ _ | (unfold inR; omega)) (fun c7 => ?_) (fun c7 => ?_)
  · skip
    have R1 : Rp gx x A u m (fgtG g p n) h := by rw [show fgtG g p n = g from if_pos (by omega)]; exact R
    refine r_aload_n C dX3_forget_19 (i := 0) rfl rfl ?_
    refine c_4_3 C dX3_forget_20 fX3_18 R1 p0 (by rw [fgt_ne _ _ _ (by decide) (by decide)]; exact p1) ?_
    rw [fgt_ne _ _ _ (by decide) (by decide)]
    refine r_aload_n C dX3_forget_23 (i := 1) rfl rfl ?_
    refine r_ac_ne C dX3_forget_24 (t := 31) (by decide) (fun c24 => ?_) (fun c24 => ?_)
    · skip
      have hne : g 13 p ≠ n := fun e => c24 (by rw [if_neg (by omega), e])
      rw [if_neg hne] at K
      refine r_ret C dX3_forget_31 rfl ?_
      first | exact K _ R2 | exact K _ R1
    · skip
      have he : g 13 p = n := by
        by_cases e : g 13 p = -1
        · rw [if_pos e] at c24; cases c24
        · rw [if_neg e] at c24
          exact (R.ap 0 _ 0 _ (ph e) ⟨n0, n1⟩ (Option.some.inj c24)).2
      rw [if_pos he] at K
      have p1' : p < fgtG g p n 11 0 := by rw [fgt_ne _ _ _ (by decide) (by decide)]; exact p1
      refine r_aload_n C dX3_forget_27 (i := 0) rfl rfl ?_
      refine c_VQ0 C dX3_forget_28 sX3_53 rfl R1 p0 p1' (Nat.le_of_ble_eq_true rfl) 0 0 (Nat.zero_le _) (Nat.zero_le _) (C_X3_endLease R1 p0 p1' (fun h2 R2 => ?_))
      refine r_ret C dX3_forget_31 rfl ?_
      first | exact K _ R2 | exact K _ R1
  · skip
    refine r_aload_n C dX3_forget_10 (i := 0) rfl rfl ?_
    refine c_4_6 C dX3_forget_11 fX3_31 R (by omega) (by omega) ?_
    refine r_iload_n C dX3_forget_14 (i := 2) rfl rfl ?_
    have L := (R.q p0 p1).2.2.2.2
    have hE : ∀ j, 0 ≤ j → j < g 16 p → ∀ y, (fun k => some (A 0 (g 17 (8 * p + k)))) j = some y → y ∈ hD h ∧ ∃ ci, ci < 7 ∧ hK h y = ci + 1 ∧ Cond.castable (cNm ci) "java/lang/Object" ∈ tb := fun j j0 j1 y hy => by
      have bj := B.cy p j p0 p1 j0 j1
      have n := (R.n bj.1 bj.2).1
      have e : A 0 (g 17 (8 * p + j)) = y := Option.some.inj hy
      rw [← e]
      exact ⟨n.1, 3, by decide, n.2, castO_3⟩
    refine r_callV C (As := [vi (plG g p n)]) dX3_forget_15 sX3_50 (fun v hv => by rw [List.mem_singleton.mp hv]; rfl) (ci := 0) (by decide) rfl L.1.1 L.1.2 (Nat.le_of_ble_eq_true rfl) (Nat.zero_le _) (Nat.zero_le _) (C_AL_remove L (by omega) (by omega) hE (fun h1 L1 => ?_))
    refine r_gxn C (fun hg => ?_)
    have R1 : Rp gx x A u m (fgtG g p n) h1 := by
      rw [show fgtG g p n = shf g p (plG g p n) (g 16 p - 1) from if_neg (by omega)]
      refine R.wH p0 p1 L1 hg (fun p' a b => (B.cp p' a b).2) (shf_16 _ _ _ _) (fun k k0 k1 => ?_) (fun k j hk => ?_) (fun k j => ?_)
      · rw [shf_17]
        by_cases c : k < plG g p n
        · rw [if_pos c, if_neg (by omega)]
        · rw [if_neg c, if_pos (by omega), show 8 * p + (k + 1) = 8 * p + k + 1 by omega]
      · unfold shf
        rw [if_neg (by omega), if_neg (by omega)]
      · unfold shf
        split
        · exact ⟨by omega, by omega⟩
        · split <;> exact R.rg _ _
    refine r_pop C dX3_forget_18 rfl ?_
    refine r_aload_n C dX3_forget_19 (i := 0) rfl rfl ?_
    refine c_4_3 C dX3_forget_20 fX3_18 R1 p0 (by rw [fgt_ne _ _ _ (by decide) (by decide)]; exact p1) ?_
    rw [fgt_ne _ _ _ (by decide) (by decide)]
    refine r_aload_n C dX3_forget_23 (i := 1) rfl rfl ?_
    refine r_ac_ne C dX3_forget_24 (t := 31) (by decide) (fun c24 => ?_) (fun c24 => ?_)
    · skip
      have hne : g 13 p ≠ n := fun e => c24 (by rw [if_neg (by omega), e])
      rw [if_neg hne] at K
      refine r_ret C dX3_forget_31 rfl ?_
      first | exact K _ R2 | exact K _ R1
    · skip
      have he : g 13 p = n := by
        by_cases e : g 13 p = -1
        · rw [if_pos e] at c24; cases c24
        · rw [if_neg e] at c24
          exact (R.ap 0 _ 0 _ (ph e) ⟨n0, n1⟩ (Option.some.inj c24)).2
      rw [if_pos he] at K
      have p1' : p < fgtG g p n 11 0 := by rw [fgt_ne _ _ _ (by decide) (by decide)]; exact p1
      refine r_aload_n C dX3_forget_27 (i := 0) rfl rfl ?_
      refine c_VQ0 C dX3_forget_28 sX3_53 rfl R1 p0 p1' (Nat.le_of_ble_eq_true rfl) 0 0 (Nat.zero_le _) (Nat.zero_le _) (C_X3_endLease R1 p0 p1' (fun h2 R2 => ?_))
      refine r_ret C dX3_forget_31 rfl ?_
      first | exact K _ R2 | exact K _ R1

set_option maxRecDepth 100000 in
set_option maxHeartbeats 4000000 in
theorem C_X3_replaceHolder {gx : GX} {d : Nat} {Qr : Option AV → Hp → Prop} {Qx : String → Hp → Prop} {x : Nat} {A : Nat → Int → Nat} {u : GT} {m : Int} {g : GT} {h : Hp} {p n f : Int} (R : Rp gx x A u m g h) (B : BD g) (p0 : 0 ≤ p) (p1 : p < g 11 0) (n0 : 0 ≤ n) (n1 : n < g 4 0) (m0 : 0 ≤ f) (m1 : f < g 4 0) (ph : g 13 p ≠ -1 → 0 ≤ g 13 p ∧ g 13 p < g 4 0) (K : ∀ h1, Rp gx x A u m (if g 13 p = n then elG (rpG g p n f) p else rpG g p n f) h1 → Qr none h1) : aM gx (d + 5) mX3_replaceHolder [vr (A 4 p), vr (A 0 n), vr (A 0 f)] h 0 0 Qr Qx := by
  intro J C
  show J 0 [some (vr (A 4 p)), some (vr (A 0 n)), some (vr (A 0 f)), none] [] h 0 0
  have b1 := B.nn; have b2 := B.np; have bcp := B.cp p p0 p1; have bpl := plG_b (g := g) (p := p) (n := n)
  have rne : ∀ k j, k ≠ 17 → rpG g p n f k j = g k j := fun k j hk => rp_ne _ _ _ _ hk _
  refine r_aload_n C dX3_replaceHolder_0 (i := 0) rfl rfl ?_
  refine r_aload_n C dX3_replaceHolder_1 (i := 1) rfl rfl ?_
  refine c_VQ1 C dX3_replaceHolder_2 sX3_46 rfl R (by omega) (by omega) rfl (Nat.le_of_ble_eq_true rfl) 0 0 (Nat.zero_le _) (Nat.zero_le _) (C_X3_placeOfHolder R B p0 p1 n0 n1 ?_)
  refine r_istore_n C dX3_replaceHolder_5 (i := 3) rfl (Nat.le_of_ble_eq_true rfl) ?_
  dsimp only [List.set]
  refine r_iload_n C dX3_replaceHolder_6 (i := 3) rfl rfl ?_
  refine r_if_lt C dX3_replaceHolder_7 (t := 20) (by decide) (by first | assumption | exact R.rg _ _ | exact R.ru _ _ | (unfold inR; omega)) (fun c7 => ?_) (fun c7 => ?_)
  · skip
    have R1 : Rp gx x A u m (rpG g p n f) h := by rw [show rpG g p n f = g from if_pos (by omega)]; exact R
    refine r_aload_n C dX3_replaceHolder_20 (i := 0) rfl rfl ?_
    refine c_4_3 C dX3_replaceHolder_21 fX3_18 R1 p0 (by rw [rne _ _ (by decide)]; exact p1) ?_
    rw [rne _ _ (by decide)]
    refine r_aload_n C dX3_replaceHolder_24 (i := 1) rfl rfl ?_
    refine r_ac_ne C dX3_replaceHolder_25 (t := 32) (by decide) (fun c25 => ?_) (fun c25 => ?_)
    · skip
      have hne : g 13 p ≠ n := fun e => c25 (by rw [if_neg (by omega), e])
      rw [if_neg hne] at K
      refine r_ret C dX3_replaceHolder_32 rfl ?_
      first | exact K _ R2 | exact K _ R1
    · skip
      have he : g 13 p = n := by
        by_cases e : g 13 p = -1
        · rw [if_pos e] at c25; cases c25
        · rw [if_neg e] at c25
          exact (R.ap 0 _ 0 _ (ph e) ⟨n0, n1⟩ (Option.some.inj c25)).2
      rw [if_pos he] at K
      have p1' : p < rpG g p n f 11 0 := by rw [rne _ _ (by decide)]; exact p1
      refine r_aload_n C dX3_replaceHolder_28 (i := 0) rfl rfl ?_
      refine c_VQ0 C dX3_replaceHolder_29 sX3_53 rfl R1 p0 p1' (Nat.le_of_ble_eq_true rfl) 0 0 (Nat.zero_le _) (Nat.zero_le _) (C_X3_endLease R1 p0 p1' (fun h2 R2 => ?_))
      refine r_ret C dX3_replaceHolder_32 rfl ?_
      first | exact K _ R2 | exact K _ R1
  · skip
    refine r_aload_n C dX3_replaceHolder_10 (i := 0) rfl rfl ?_
    refine c_4_6 C dX3_replaceHolder_11 fX3_31 R (by omega) (by omega) ?_
    refine r_iload_n C dX3_replaceHolder_14 (i := 3) rfl rfl ?_
    refine r_aload_n C dX3_replaceHolder_15 (i := 2) rfl rfl ?_
    have L := (R.q p0 p1).2.2.2.2
    have nf := (R.n m0 m1).1
    refine r_callV C (As := [vi (plG g p n), vr (A 0 f)]) dX3_replaceHolder_16 sX3_56 (fun v hv => by simp only [List.mem_cons, List.mem_nil_iff, or_false] at hv; rcases hv with hv | hv <;> subst hv <;> rfl) (ci := 0) (by decide) rfl L.1.1 L.1.2 (Nat.le_of_ble_eq_true rfl) (Nat.zero_le _) (Nat.zero_le _) (C_AL_set L (by omega) (by omega) nf.1 nf.2 (by decide) castO_3 (fun h1 L1 => ?_))
    refine r_gxn C (fun hg => ?_)
    have R1 : Rp gx x A u m (rpG g p n f) h1 := by
      rw [show rpG g p n f = up g 17 (8 * p + plG g p n) f from if_neg (by omega)]
      refine R.wH p0 p1 L1 hg (fun p' a b => (B.cp p' a b).2) (up_ne (by decide)) (fun k k0 k1 => ?_) (fun k j hk => ?_) (rgu R.rg ⟨by omega, by omega⟩)
      · rw [up_at]
        by_cases c : k = plG g p n
        · rw [if_pos c, if_pos (by omega)]
        · rw [if_neg c, if_neg (by omega)]
      · unfold up; rw [if_neg (by omega)]
    refine r_pop C dX3_replaceHolder_19 rfl ?_
    refine r_aload_n C dX3_replaceHolder_20 (i := 0) rfl rfl ?_
    refine c_4_3 C dX3_replaceHolder_21 fX3_18 R1 p0 (by rw [rne _ _ (by decide)]; exact p1) ?_
    rw [rne _ _ (by decide)]
    refine r_aload_n C dX3_replaceHolder_24 (i := 1) rfl rfl ?_
    refine r_ac_ne C dX3_replaceHolder_25 (t := 32) (by decide) (fun c25 => ?_) (fun c25 => ?_)
    · skip
      have hne : g 13 p ≠ n := fun e => c25 (by rw [if_neg (by omega), e])
      rw [if_neg hne] at K
      refine r_ret C dX3_replaceHolder_32 rfl ?_
      first | exact K _ R2 | exact K _ R1
    · skip
      have he : g 13 p = n := by
        by_cases e : g 13 p = -1
        · rw [if_pos e] at c25; cases c25
        · rw [if_neg e] at c25
          exact (R.ap 0 _ 0 _ (ph e) ⟨n0, n1⟩ (Option.some.inj c25)).2
      rw [if_pos he] at K
      have p1' : p < rpG g p n f 11 0 := by rw [rne _ _ (by decide)]; exact p1
      refine r_aload_n C dX3_replaceHolder_28 (i := 0) rfl rfl ?_
      refine c_VQ0 C dX3_replaceHolder_29 sX3_53 rfl R1 p0 p1' (Nat.le_of_ble_eq_true rfl) 0 0 (Nat.zero_le _) (Nat.zero_le _) (C_X3_endLease R1 p0 p1' (fun h2 R2 => ?_))
      refine r_ret C dX3_replaceHolder_32 rfl ?_
      first | exact K _ R2 | exact K _ R1

set_option maxRecDepth 100000 in
set_option maxHeartbeats 4000000 in
theorem C_X2_freePlace {gx : GX} {d : Nat} {Qr : Option AV → Hp → Prop} {Qx : String → Hp → Prop} {x : Nat} {A : Nat → Int → Nat} {u : GT} {m : Int} {g : GT} {h : Hp} {n i : Int} (R : Rp gx x A u m g h) (n0 : 0 ≤ n) (n1 : n < g 4 0) (i0 : 0 ≤ i) (i1 : i < g 6 n) (ht : inR (u 3 n - 1)) (K : ∀ h1, Rp gx x A (up (up u 0 (12 * n + i) (-1)) 3 n (u 3 n - 1)) m g h1 → Qr none h1) : aM gx (d + 1) mX2_freePlace [vr (A 0 n), vr (A 2 (12 * n + i))] h 0 0 Qr Qx := by
  intro J C
  show J 0 [some (vr (A 0 n)), some (vr (A 2 (12 * n + i)))] [] h 0 0
  refine r_aload_n C dX2_freePlace_0 (i := 1) rfl rfl ?_
  refine r_anull C dX2_freePlace_1 ?_
  refine r_putP C dX2_freePlace_2 fX2_47 (Or.inl rfl) rfl (R.s n0 n1 i0 i1).2.1.1 (R.s n0 n1 i0 i1).2.1.2 ?_
  have R1 := R.slotF n0 n1 i0 i1
  have e3 : up u 0 (12 * n + i) (-1) 3 n = u 3 n := up_ne (by decide)
  refine r_aload_n C dX2_freePlace_5 (i := 0) rfl rfl ?_
  refine r_dup C dX2_freePlace_6 rfl ?_
  refine c_3_3 C dX2_freePlace_7 fX2_9 R1 n0 n1 ?_
  rw [e3]
  refine r_iconst C dX2_freePlace_10 ?_
  refine r_isub C dX2_freePlace_11 ?_
  refine r_putI C dX2_freePlace_12 fX2_9 (Or.inl rfl) (Or.inl rfl) (R1.n n0 n1).1.1 (R1.n n0 n1).1.2 ?_
  refine r_ret C dX2_freePlace_15 rfl ?_
  exact K _ (R1.node_tk n0 n1 ht)

set_option maxRecDepth 100000 in
set_option maxHeartbeats 4000000 in
theorem C_X0_begin {gx : GX} {d : Nat} {Qr : Option AV → Hp → Prop} {Qx : String → Hp → Prop} {x : Nat} {A : Nat → Int → Nat} {u : GT} {m : Int} {g : GT} {h : Hp} {n i q : Int} (R : Rp gx x A u m g h) (n0 : 0 ≤ n) (n1 : n < g 4 0) (i0 : 0 ≤ i) (i1 : i < g 6 n) (q0 : 0 ≤ q) (q1 : q < g 11 0) (no : ∀ j, 0 ≤ j → j < g 6 n → u 0 (12 * n + j) ≠ q) (cl : ∀ j, g 19 j ≤ 4) (np : g 11 0 ≤ 60) (K : ∀ h1, Rp gx x A (up u 0 (12 * n + i) q) m (bgG g n q) h1 → Qr none h1) : aM gx (d + 1) mX0_begin [vr (A 2 (12 * n + i)), vr (A 4 q)] h 0 0 Qr Qx := by
  intro J C
  show J 0 [some (vr (A 2 (12 * n + i))), some (vr (A 4 q))] [] h 0 0
  have s := R.s n0 n1 i0 i1; have r := R.q q0 q1
  refine r_aload_n C dX0_begin_0 (i := 0) rfl rfl ?_
  refine r_aload_n C dX0_begin_1 (i := 1) rfl rfl ?_
  refine r_putP C dX0_begin_2 fX0_9 (Or.inl rfl) rfl s.2.1.1 s.2.1.2 ?_
  refine r_aload_n C dX0_begin_5 (i := 0) rfl rfl ?_
  refine r_aload_n C dX0_begin_6 (i := 1) rfl rfl ?_
  refine r_getI C dX0_begin_7 fX0_29 rfl r.1.1 r.1.2 ?_
  rw [show hI (wP h (A 2 (12 * n + i)) (0 : Nat) (some (A 4 q))) (A 4 q) (1 : Nat) = g 12 q from r.2.1.2.1]
  refine r_putI C dX0_begin_10 fX0_15 (Or.inl rfl) (Or.inl rfl) s.2.1.1 s.2.1.2 ?_
  refine r_aload_n C dX0_begin_13 (i := 0) rfl rfl ?_
  refine r_iconst C dX0_begin_14 ?_
  refine r_putI C dX0_begin_15 fX0_19 (Or.inl rfl) (Or.inl rfl) s.2.1.1 s.2.1.2 ?_
  refine r_aload_n C dX0_begin_18 (i := 0) rfl rfl ?_
  refine r_iconst C dX0_begin_19 ?_
  refine r_putI C dX0_begin_20 fX0_22 (Or.inl rfl) (Or.inl rfl) s.2.1.1 s.2.1.2 ?_
  refine r_ret C dX0_begin_23 rfl ?_
  exact K _ (R.slotB n0 n1 i0 i1 q0 q1 np no cl)

set_option maxRecDepth 100000 in
set_option maxHeartbeats 4000000 in
theorem C_X2_takePlace {gx : GX} {d : Nat} {Qr : Option AV → Hp → Prop} {Qx : String → Hp → Prop} {x : Nat} {A : Nat → Int → Nat} {u : GT} {m : Int} {g : GT} {h : Hp} {n q : Int} (R : Rp gx x A u m g h) (n0 : 0 ≤ n) (n1 : n < g 4 0) (q0 : 0 ≤ q) (q1 : q < g 11 0) (no : ∀ j, 0 ≤ j → j < g 6 n → u 0 (12 * n + j) ≠ q) (cl : ∀ j, g 19 j ≤ 4) (np : g 11 0 ≤ 60) (ht : inR (u 3 n + 1)) (nq0 : 0 ≤ g 11 0) (KS : ∀ i h1, 0 ≤ i → i < g 6 n → u 0 (12 * n + i) = -1 → Rp gx x A (up (up u 0 (12 * n + i) q) 3 n (u 3 n + 1)) m (bgG g n q) h1 → Qr (some (vr (A 2 (12 * n + i)))) h1) (KN : (∀ i, 0 ≤ i → i < g 6 n → u 0 (12 * n + i) ≠ -1) → Qr (some vn) h) : aM gx (d + 2) mX2_takePlace [vr (A 0 n), vr (A 4 q)] h 0 0 Qr Qx := by
  intro J C
  show J 0 [some (vr (A 0 n)), some (vr (A 4 q)), none] [] h 0 0
  refine r_aload_n C dX2_takePlace_0 (i := 0) rfl rfl ?_
  refine r_anull C dX2_takePlace_1 ?_
  refine c_VN1 C dX2_takePlace_2 sX2_51 rfl R (by omega) (by omega) rfl (Nat.le_of_ble_eq_true rfl) 0 0 (Nat.zero_le _) (Nat.zero_le _) (C_X2_copyOf0 R nq0 n0 n1 (fun i i0 i1 hu => ?_) (fun nf => ?_))
  · skip
    refine r_astore_n C dX2_takePlace_5 (i := 2) rfl (Nat.le_of_ble_eq_true rfl) ?_
    dsimp only [List.set]
    refine r_aload_n C dX2_takePlace_6 (i := 2) rfl rfl ?_
    refine r_ifnull C dX2_takePlace_7 (t := 25) (by decide) (fun c7 => ?_) (fun a7 c7 => ?_)
    · skip
      cases c7
    · skip
      refine r_aload_n C dX2_takePlace_10 (i := 2) rfl rfl ?_
      refine r_aload_n C dX2_takePlace_11 (i := 1) rfl rfl ?_
      refine c_VS1 C dX2_takePlace_12 sX2_55 rfl R (by omega) (by omega) (by omega) (by omega) rfl (Nat.le_of_ble_eq_true rfl) 0 0 (Nat.zero_le _) (Nat.zero_le _) (C_X0_begin R n0 n1 i0 i1 q0 q1 no cl np (fun h1 R1 => ?_))
      have e3 : up u 0 (12 * n + i) q 3 n = u 3 n := up_ne (by decide)
      have n1' : n < bgG g n q 4 0 := n1
      refine r_aload_n C dX2_takePlace_15 (i := 0) rfl rfl ?_
      refine r_dup C dX2_takePlace_16 rfl ?_
      refine c_3_3 C dX2_takePlace_17 fX2_9 R1 n0 n1' ?_
      rw [e3]
      refine r_iconst C dX2_takePlace_20 ?_
      refine r_iadd C dX2_takePlace_21 ?_
      refine r_putI C dX2_takePlace_22 fX2_9 (Or.inl rfl) (Or.inl rfl) (R1.n n0 n1').1.1 (R1.n n0 n1').1.2 ?_
      refine r_aload_n C dX2_takePlace_25 (i := 2) rfl rfl ?_
      refine r_aret C dX2_takePlace_26 rfl rfl ?_
      first | exact KS i _ i0 i1 hu (R1.node_tk n0 n1' ht) | exact KN nf
  · skip
    refine r_astore_n C dX2_takePlace_5 (i := 2) rfl (Nat.le_of_ble_eq_true rfl) ?_
    dsimp only [List.set]
    refine r_aload_n C dX2_takePlace_6 (i := 2) rfl rfl ?_
    refine r_ifnull C dX2_takePlace_7 (t := 25) (by decide) (fun c7 => ?_) (fun a7 c7 => ?_)
    · skip
      refine r_aload_n C dX2_takePlace_25 (i := 2) rfl rfl ?_
      refine r_aret C dX2_takePlace_26 rfl rfl ?_
      first | exact KS i _ i0 i1 hu (R1.node_tk n0 n1' ht) | exact KN nf
    · skip
      cases c7

