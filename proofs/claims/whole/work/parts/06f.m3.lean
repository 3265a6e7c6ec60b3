/-! ===== the reference: changing what is known ===== -/
theorem plG_c {g g' : GT} (h16 : ∀ j, g' 16 j = g 16 j) (h17 : ∀ j, g' 17 j = g 17 j) (p n : Int) : plG g' p n = plG g p n := by
  unfold plG
  simp only [h16, h17]
def dr1 (g : GT) (n p : Int) : GT := up (up (up g 18 (60 * n + p) 0) 19 (60 * n + p) 0) 21 (60 * n + p) 0
theorem dr1_ne (g : GT) (n p : Int) {k : Nat} (h : k ≠ 18 ∧ k ≠ 19 ∧ k ≠ 21) (j : Int) : dr1 g n p k j = g k j := by
  unfold dr1
  rw [up_ne h.2.2, up_ne h.2.1, up_ne h.1]
theorem dr1_pl (g : GT) (n p : Int) : plG (dr1 g n p) p n = plG g p n := plG_c (fun j => dr1_ne g n p (by decide) j) (fun j => dr1_ne g n p (by decide) j) p n
def drG (g : GT) (n p : Int) : GT := if plG g p n ≠ -1 ∧ g 13 p = n then elG (fgtG (dr1 g n p) p n) p else fgtG (dr1 g n p) p n
theorem fgt_ne (g : GT) (p n : Int) {k : Nat} (h1 : k ≠ 16) (h2 : k ≠ 17) (j : Int) : fgtG g p n k j = g k j := by
  unfold fgtG
  split
  · rfl
  · exact shf_ne g p _ _ h1 h2 j
theorem bd_dr1 {g : GT} (B : BD g) (n p : Int) : BD (dr1 g n p) := bd_same B (fun k h j => dr1_ne g n p (by omega) j)
theorem dc_dr1 {g : GT} (D : DC g) (n p : Int) : DC (dr1 g n p) := dc_same D (fun k h j => dr1_ne g n p (by omega) j)
theorem dr1_11 (g : GT) (n p : Int) : dr1 g n p 11 0 = g 11 0 := dr1_ne g n p (by decide) 0
theorem fgt_11 (g : GT) (p n : Int) : fgtG g p n 11 0 = g 11 0 := fgt_ne g p n (by decide) (by decide) 0
theorem bd_dr {g : GT} (B : BD g) {p : Int} (hp0 : 0 ≤ p) (hp1 : p < g 11 0) (n : Int) : BD (drG g n p) := by
  have h1 := bd_fgt (bd_dr1 B n p) hp0 (by rw [dr1_11]; exact hp1) n
  unfold drG
  split
  · exact bd_el h1 p
  · exact h1
theorem dc_el {g : GT} (D : DC g) (p : Int) : DC (elG g p) := dc_up0 (dc_up0 D (by decide)) (by decide)
theorem dc_dr {g : GT} (B : BD g) (D : DC g) {p : Int} (hp0 : 0 ≤ p) (hp1 : p < g 11 0) (n : Int) : DC (drG g n p) := by
  have h1 := dc_fgt (bd_dr1 B n p) (dc_dr1 D n p) hp0 (by rw [dr1_11]; exact hp1) n
  unfold drG
  split
  · exact dc_el h1 p
  · exact h1

set_option maxRecDepth 100000 in
set_option maxHeartbeats 4000000 in
theorem C_X5_knows {gx : GX} {d : Nat} {Qr : Option AV → Hp → Prop} {Qx : String → Hp → Prop} {q : Nat} {ar : Nat → Nat} {g : GT} {h : Hp} {p n : Int} (R : RM q ar g h) (hp0 : 0 ≤ p) (hp1 : p < 60) (hn : inR n) (hc0 : 0 ≤ g 16 p) (hc : g 16 p < 8) (k : ∀ h1, RM q ar (knG g p n) h1 → Qr none h1) : aM gx (d + 1) mX5_knows [vr q, vi p, vi n] h 0 0 Qr Qx := by
  intro J C
  show J 0 [some (vr q), some (vi p), some (vi n)] [] h 0 0
  have rg := R.rg
  refine r_aload_n C dX5_knows_0 (i := 0) rfl rfl ?_
  refine m_getA C dX5_knows_1 fX5_48 R (by decide) rfl ?_
  refine r_bipush C dX5_knows_4 (by decide) ?_
  refine r_iload_n C dX5_knows_6 (i := 1) rfl rfl ?_
  refine r_imul C dX5_knows_7 ?_
  refine r_aload_n C dX5_knows_8 (i := 0) rfl rfl ?_
  refine m_getA C dX5_knows_9 fX5_45 R (by decide) rfl ?_
  refine r_iload_n C dX5_knows_12 (i := 1) rfl rfl ?_
  refine m_iald C dX5_knows_13 R (N := 60) rfl (by decide) rfl (by omega) (by omega) (by omega) ?_
  refine r_iadd C dX5_knows_14 ?_
  refine r_iload_n C dX5_knows_15 (i := 2) rfl rfl ?_
  refine m_iast C dX5_knows_16 R (N := 480) rfl (by decide) rfl (by omega) (by omega) (by omega) (by first | assumption | exact R.rg _ _ | exact rg _ _ | (unfold inR; omega)) (fun h R => ?_)
  refine r_aload_n C dX5_knows_17 (i := 0) rfl rfl ?_
  refine m_getA C dX5_knows_18 fX5_45 R (by decide) rfl ?_
  refine r_iload_n C dX5_knows_21 (i := 1) rfl rfl ?_
  refine r_dup2 C dX5_knows_22 rfl rfl ?_
  refine m_iald C dX5_knows_23 R (N := 60) rfl (by decide) rfl (by omega) (by omega) (by omega) ?_
  rw [up_ne (by decide)]
  refine r_iconst C dX5_knows_24 ?_
  refine r_iadd C dX5_knows_25 ?_
  refine m_iast C dX5_knows_26 R (N := 60) rfl (by decide) rfl (by omega) (by omega) (by omega) (by first | assumption | exact R.rg _ _ | exact rg _ _ | (unfold inR; omega)) (fun h R => ?_)
  refine r_ret C dX5_knows_27 rfl ?_
  exact k _ R

set_option maxRecDepth 100000 in
set_option maxHeartbeats 4000000 in
theorem C_X5_forgets {gx : GX} {d : Nat} {Qr : Option AV → Hp → Prop} {Qx : String → Hp → Prop} {q : Nat} {ar : Nat → Nat} {g : GT} {h : Hp} {p n : Int} (R : RM q ar g h) (B : BD g) (hp0 : 0 ≤ p) (hp1 : p < g 11 0) (hn : inR n) (k : ∀ h1, RM q ar (fgtG g p n) h1 → Qr none h1) : aM gx (d + 2) mX5_forgets [vr q, vi p, vi n] h 0 0 Qr Qx := by
  intro J C
  show J 0 [some (vr q), some (vi p), some (vi n), none, none] [] h 0 0
  have b2 := B.np; have b1 := B.nn; have bcp := B.cp p hp0 hp1; have rg := R.rg; have bpl := plG_b (g := g) (p := p) (n := n)
  refine r_aload_n C dX5_forgets_0 (i := 0) rfl rfl ?_
  refine r_iload_n C dX5_forgets_1 (i := 1) rfl rfl ?_
  refine r_iload_n C dX5_forgets_2 (i := 2) rfl rfl ?_
  refine m_V2 C dX5_forgets_3 sX5_112 rfl R (Nat.le_of_ble_eq_true rfl) (C_X5_placeOf R B hp0 hp1 hn ?_)
  refine r_istore_n C dX5_forgets_6 (i := 3) rfl (Nat.le_of_ble_eq_true rfl) ?_
  dsimp only [List.set]
  refine r_iload_n C dX5_forgets_7 (i := 3) rfl rfl ?_
  refine r_iconst C dX5_forgets_8 ?_
  refine r_ic_ne C dX5_forgets_9 (t := 13) (by decide) (by first | assumption | exact R.rg _ _ | exact rg _ _ | (unfold inR; omega)) (by first | assumption | exact R.rg _ _ | exact rg _ _ | (unfold inR; omega)) (fun c9 => ?_) (fun c9 => ?_)
  · skip
    refine r_aload_n C dX5_forgets_13 (i := 0) rfl rfl ?_
    refine m_getA C dX5_forgets_14 fX5_45 R (by decide) rfl ?_
    refine r_iload_n C dX5_forgets_17 (i := 1) rfl rfl ?_
    refine r_dup2 C dX5_forgets_18 rfl rfl ?_
    refine m_iald C dX5_forgets_19 R (N := 60) rfl (by decide) rfl (by omega) (by omega) (by omega) ?_
    refine r_iconst C dX5_forgets_20 ?_
    refine r_isub C dX5_forgets_21 ?_
    refine m_iast C dX5_forgets_22 R (N := 60) rfl (by decide) rfl (by omega) (by omega) (by omega) (by first | assumption | exact R.rg _ _ | exact rg _ _ | (unfold inR; omega)) (fun h R => ?_)
    refine r_iload_n C dX5_forgets_23 (i := 3) rfl rfl ?_
    refine r_istore C dX5_forgets_24 (Nat.le_of_ble_eq_true rfl) ?_
    dsimp only [List.set]
    suffices LOOP : ∀ (m : Nat) (i : Int) (h : Hp), g 16 p - i < (m : Int) → plG g p n ≤ i → i ≤ g 16 p - 1 → RM q ar (shf g p (plG g p n) i) h → J 26 [some (vr q), some (vi p), some (vi n), some (vi (plG g p n)), some (vi i)] [] h 0 0 by
      exact LOOP ((g 16 p).toNat + 1) (plG g p n) _ (by omega) (by omega) (by omega) (by rw [← shf_0]; exact R)
    intro m
    induction m with
    | zero => intro i h hm hi0 hi1 R; exact absurd hm (by omega)
    | succ m ih =>
      intro i h hm hi0 hi1 R
      refine r_iload C dX5_forgets_26 rfl ?_
      refine r_aload_n C dX5_forgets_28 (i := 0) rfl rfl ?_
      refine m_getA C dX5_forgets_29 fX5_45 R (by decide) rfl ?_
      refine r_iload_n C dX5_forgets_32 (i := 1) rfl rfl ?_
      refine m_iald C dX5_forgets_33 R (N := 60) rfl (by decide) rfl (by omega) (by omega) (by omega) ?_
      rw [shf_16]
      refine r_ic_ge C dX5_forgets_34 (t := 69) (by decide) (by first | assumption | exact R.rg _ _ | exact rg _ _ | (unfold inR; omega)) (by first | assumption | exact R.rg _ _ | exact rg _ _ | (unfold inR; omega)) (fun c34 => ?_) (fun c34 => ?_)
      · skip
        refine r_ret C dX5_forgets_69 rfl ?_
        exact k _ (by unfold fgtG; rw [if_neg (by omega)]; rw [show i = g 16 p - 1 by omega] at R; exact R)
      · skip
        refine r_aload_n C dX5_forgets_37 (i := 0) rfl rfl ?_
        refine m_getA C dX5_forgets_38 fX5_48 R (by decide) rfl ?_
        refine r_bipush C dX5_forgets_41 (by decide) ?_
        refine r_iload_n C dX5_forgets_43 (i := 1) rfl rfl ?_
        refine r_imul C dX5_forgets_44 ?_
        refine r_iload C dX5_forgets_45 rfl ?_
        refine r_iadd C dX5_forgets_47 ?_
        refine r_aload_n C dX5_forgets_48 (i := 0) rfl rfl ?_
        refine m_getA C dX5_forgets_49 fX5_48 R (by decide) rfl ?_
        refine r_bipush C dX5_forgets_52 (by decide) ?_
        refine r_iload_n C dX5_forgets_54 (i := 1) rfl rfl ?_
        refine r_imul C dX5_forgets_55 ?_
        refine r_iload C dX5_forgets_56 rfl ?_
        refine r_iadd C dX5_forgets_58 ?_
        refine r_iconst C dX5_forgets_59 ?_
        refine r_iadd C dX5_forgets_60 ?_
        refine m_iald C dX5_forgets_61 R (N := 480) rfl (by decide) rfl (by omega) (by omega) (by omega) ?_
        rw [shf_17, if_neg (by omega)]
        refine m_iast C dX5_forgets_62 R (N := 480) rfl (by decide) rfl (by omega) (by omega) (by omega) (by first | assumption | exact R.rg _ _ | exact rg _ _ | (unfold inR; omega)) (fun h R => ?_)
        rw [shf_s g p _ hi0] at R
        refine r_iinc C dX5_forgets_63 rfl ?_
        dsimp only [List.set]
        refine r_goto C dX5_forgets_66 (t := 26) (by decide) ?_
        exact ih _ _ (by omega) (by omega) (by omega) R
  · skip
    refine r_ret C dX5_forgets_12 rfl ?_
    exact k _ (by unfold fgtG; rw [if_pos (by omega)]; exact R)

set_option maxRecDepth 100000 in
set_option maxHeartbeats 4000000 in
theorem C_X5_endsLease {gx : GX} {d : Nat} {Qr : Option AV → Hp → Prop} {Qx : String → Hp → Prop} {q : Nat} {ar : Nat → Nat} {g : GT} {h : Hp} {p : Int} (R : RM q ar g h) (hp0 : 0 ≤ p) (hp1 : p < 60) (k : ∀ h1, RM q ar (elG g p) h1 → Qr none h1) : aM gx (d + 1) mX5_endsLease [vr q, vi p] h 0 0 Qr Qx := by
  intro J C
  show J 0 [some (vr q), some (vi p)] [] h 0 0
  refine r_aload_n C dX5_endsLease_0 (i := 0) rfl rfl ?_
  refine m_getA C dX5_endsLease_1 fX5_36 R (by decide) rfl ?_
  refine r_iload_n C dX5_endsLease_4 (i := 1) rfl rfl ?_
  refine r_iconst C dX5_endsLease_5 ?_
  refine m_iast C dX5_endsLease_6 R (N := 60) rfl (by decide) rfl (by omega) (by omega) (by omega) (by first | assumption | exact R.rg _ _ | exact rg _ _ | (unfold inR; omega)) (fun h R => ?_)
  refine r_aload_n C dX5_endsLease_7 (i := 0) rfl rfl ?_
  refine m_getA C dX5_endsLease_8 fX5_39 R (by decide) rfl ?_
  refine r_iload_n C dX5_endsLease_11 (i := 1) rfl rfl ?_
  refine r_iconst C dX5_endsLease_12 ?_
  refine m_iast C dX5_endsLease_13 R (N := 60) rfl (by decide) rfl (by omega) (by omega) (by omega) (by first | assumption | exact R.rg _ _ | exact rg _ _ | (unfold inR; omega)) (fun h R => ?_)
  refine r_ret C dX5_endsLease_14 rfl ?_
  exact k _ R

set_option maxRecDepth 100000 in
set_option maxHeartbeats 4000000 in
theorem C_X5_drops {gx : GX} {d : Nat} {Qr : Option AV → Hp → Prop} {Qx : String → Hp → Prop} {q : Nat} {ar : Nat → Nat} {g : GT} {h : Hp} {n p : Int} (R : RM q ar g h) (B : BD g) (hn0 : 0 ≤ n) (hn1 : n < 8) (hp0 : 0 ≤ p) (hp1 : p < g 11 0) (k : ∀ h1, RM q ar (drG g n p) h1 → Qr none h1) : aM gx (d + 3) mX5_drops [vr q, vi n, vi p] h 0 0 Qr Qx := by
  intro J C
  show J 0 [some (vr q), some (vi n), some (vi p), none] [] h 0 0
  have b2 := B.np; have b1 := B.nn; have bcp := B.cp p hp0 hp1; have rg := R.rg; have bpl := plG_b (g := g) (p := p) (n := n)
  refine r_aload_n C dX5_drops_0 (i := 0) rfl rfl ?_
  refine m_getA C dX5_drops_1 fX5_51 R (by decide) rfl ?_
  refine r_iload_n C dX5_drops_4 (i := 1) rfl rfl ?_
  refine r_iload_n C dX5_drops_5 (i := 2) rfl rfl ?_
  refine r_S2 C dX5_drops_6 sX5_104 (Nat.le_of_ble_eq_true rfl) (C_X5_at ?_)
  refine r_iconst C dX5_drops_9 ?_
  refine m_iast C dX5_drops_10 R (N := 480) rfl (by decide) rfl (by omega) (by omega) (by omega) (by first | assumption | exact R.rg _ _ | exact rg _ _ | (unfold inR; omega)) (fun h R => ?_)
  refine r_aload_n C dX5_drops_11 (i := 0) rfl rfl ?_
  refine m_getA C dX5_drops_12 fX5_54 R (by decide) rfl ?_
  refine r_iload_n C dX5_drops_15 (i := 1) rfl rfl ?_
  refine r_iload_n C dX5_drops_16 (i := 2) rfl rfl ?_
  refine r_S2 C dX5_drops_17 sX5_104 (Nat.le_of_ble_eq_true rfl) (C_X5_at ?_)
  refine r_iconst C dX5_drops_20 ?_
  refine m_iast C dX5_drops_21 R (N := 480) rfl (by decide) rfl (by omega) (by omega) (by omega) (by first | assumption | exact R.rg _ _ | exact rg _ _ | (unfold inR; omega)) (fun h R => ?_)
  refine r_aload_n C dX5_drops_22 (i := 0) rfl rfl ?_
  refine m_getA C dX5_drops_23 fX5_60 R (by decide) rfl ?_
  refine r_iload_n C dX5_drops_26 (i := 1) rfl rfl ?_
  refine r_iload_n C dX5_drops_27 (i := 2) rfl rfl ?_
  refine r_S2 C dX5_drops_28 sX5_104 (Nat.le_of_ble_eq_true rfl) (C_X5_at ?_)
  refine r_iconst C dX5_drops_31 ?_
  refine m_iast C dX5_drops_32 R (N := 480) rfl (by decide) rfl (by omega) (by omega) (by omega) (by first | assumption | exact R.rg _ _ | exact rg _ _ | (unfold inR; omega)) (fun h R => ?_)
  replace R : RM q ar (dr1 g n p) h := R; have B1 := bd_dr1 B n p
  refine r_aload_n C dX5_drops_33 (i := 0) rfl rfl ?_
  refine r_iload_n C dX5_drops_34 (i := 2) rfl rfl ?_
  refine r_iload_n C dX5_drops_35 (i := 1) rfl rfl ?_
  refine m_V2 C dX5_drops_36 sX5_112 rfl R (Nat.le_of_ble_eq_true rfl) (C_X5_placeOf R B1 hp0 (by rw [dr1_11]; exact hp1) (by unfold inR; omega) ?_)
  rw [dr1_pl]
  refine r_iconst C dX5_drops_39 ?_
  refine r_ic_eq C dX5_drops_40 (t := 47) (by decide) (by first | assumption | exact R.rg _ _ | exact rg _ _ | (unfold inR; omega)) (by first | assumption | exact R.rg _ _ | exact rg _ _ | (unfold inR; omega)) (fun c40 => ?_) (fun c40 => ?_)
  · skip
    refine r_iconst C dX5_drops_47 ?_
    refine r_istore_n C dX5_drops_48 (i := 3) rfl (Nat.le_of_ble_eq_true rfl) ?_
    dsimp only [List.set]
    refine r_aload_n C dX5_drops_49 (i := 0) rfl rfl ?_
    refine r_iload_n C dX5_drops_50 (i := 2) rfl rfl ?_
    refine r_iload_n C dX5_drops_51 (i := 1) rfl rfl ?_
    refine m_V2 C dX5_drops_52 sX5_115 rfl R (Nat.le_of_ble_eq_true rfl) (C_X5_forgets R B1 hp0 (by rw [dr1_11]; exact hp1) (by unfold inR; omega) (fun h R => ?_))
    have b13 : fgtG (dr1 g n p) p n 13 p = g 13 p := by rw [fgt_ne _ _ _ (by decide) (by decide), dr1_ne _ _ _ (by decide)]
    refine r_iload_n C dX5_drops_55 (i := 3) rfl rfl ?_
    refine r_if_eq C dX5_drops_56 (t := 74) (by decide) (by first | assumption | exact R.rg _ _ | exact rg _ _ | (unfold inR; omega)) (fun c56 => ?_) (fun c56 => ?_)
    · skip
      refine r_ret C dX5_drops_74 rfl ?_
      first
        | exact k _ (by unfold drG; rw [if_pos ⟨by omega, by omega⟩]; exact R)
        | exact k _ (by unfold drG; rw [if_neg (by intro z; have z1 := z.1; have z2 := z.2; omega)]; exact R)
    · skip
      exact absurd c56 (by decide)
  · skip
    refine r_iconst C dX5_drops_43 ?_
    refine r_goto C dX5_drops_44 (t := 48) (by decide) ?_
    refine r_istore_n C dX5_drops_48 (i := 3) rfl (Nat.le_of_ble_eq_true rfl) ?_
    dsimp only [List.set]
    refine r_aload_n C dX5_drops_49 (i := 0) rfl rfl ?_
    refine r_iload_n C dX5_drops_50 (i := 2) rfl rfl ?_
    refine r_iload_n C dX5_drops_51 (i := 1) rfl rfl ?_
    refine m_V2 C dX5_drops_52 sX5_115 rfl R (Nat.le_of_ble_eq_true rfl) (C_X5_forgets R B1 hp0 (by rw [dr1_11]; exact hp1) (by unfold inR; omega) (fun h R => ?_))
    have b13 : fgtG (dr1 g n p) p n 13 p = g 13 p := by rw [fgt_ne _ _ _ (by decide) (by decide), dr1_ne _ _ _ (by decide)]
    refine r_iload_n C dX5_drops_55 (i := 3) rfl rfl ?_
    refine r_if_eq C dX5_drops_56 (t := 74) (by decide) (by first | assumption | exact R.rg _ _ | exact rg _ _ | (unfold inR; omega)) (fun c56 => ?_) (fun c56 => ?_)
    · skip
      exact absurd c56 (by decide)
    · skip
      refine r_aload_n C dX5_drops_59 (i := 0) rfl rfl ?_
      refine m_getA C dX5_drops_60 fX5_36 R (by decide) rfl ?_
      refine r_iload_n C dX5_drops_63 (i := 2) rfl rfl ?_
      refine m_iald C dX5_drops_64 R (N := 60) rfl (by decide) rfl (by omega) (by omega) (by omega) ?_
      rw [b13]
      refine r_iload_n C dX5_drops_65 (i := 1) rfl rfl ?_
      refine r_ic_ne C dX5_drops_66 (t := 74) (by decide) (by first | assumption | exact R.rg _ _ | exact rg _ _ | (unfold inR; omega)) (by first | assumption | exact R.rg _ _ | exact rg _ _ | (unfold inR; omega)) (fun c66 => ?_) (fun c66 => ?_)
      · skip
        refine r_ret C dX5_drops_74 rfl ?_
        first
          | exact k _ (by unfold drG; rw [if_pos ⟨by omega, by omega⟩]; exact R)
          | exact k _ (by unfold drG; rw [if_neg (by intro z; have z1 := z.1; have z2 := z.2; omega)]; exact R)
      · skip
        refine r_aload_n C dX5_drops_69 (i := 0) rfl rfl ?_
        refine r_iload_n C dX5_drops_70 (i := 2) rfl rfl ?_
        refine m_V1 C dX5_drops_71 sX5_119 rfl R (Nat.le_of_ble_eq_true rfl) (C_X5_endsLease R hp0 (by omega) (fun h R => ?_))
        refine r_ret C dX5_drops_74 rfl ?_
        first
          | exact k _ (by unfold drG; rw [if_pos ⟨by omega, by omega⟩]; exact R)
          | exact k _ (by unfold drG; rw [if_neg (by intro z; have z1 := z.1; have z2 := z.2; omega)]; exact R)

set_option maxRecDepth 100000 in
set_option maxHeartbeats 4000000 in
theorem C_X5_gets {gx : GX} {d : Nat} {Qr : Option AV → Hp → Prop} {Qx : String → Hp → Prop} {q : Nat} {ar : Nat → Nat} {g : GT} {h : Hp} {n p n2 p2 : Int} (R : RM q ar g h) (B : BD g) (hn0 : 0 ≤ n) (hn1 : n < 8) (hp0 : 0 ≤ p) (hp1 : p < g 11 0) (hm0 : 0 ≤ n2) (hm1 : n2 < 8) (hq0 : 0 ≤ p2) (hq1 : p2 < 60) (k : ∀ h1, RM q ar (gtG g n p n2 p2) h1 → Qr none h1) : aM gx (d + 2) mX5_gets [vr q, vi n, vi p, vi n2, vi p2] h 0 0 Qr Qx := by
  intro J C
  show J 0 [some (vr q), some (vi n), some (vi p), some (vi n2), some (vi p2), none, none, none] [] h 0 0
  have b2 := B.np; have b1 := B.nn; have bcp := B.cp p hp0 hp1; have rg := R.rg
  refine r_iload_n C dX5_gets_0 (i := 1) rfl rfl ?_
  refine r_iload_n C dX5_gets_1 (i := 2) rfl rfl ?_
  refine r_S2 C dX5_gets_2 sX5_104 (Nat.le_of_ble_eq_true rfl) (C_X5_at ?_)
  refine r_istore C dX5_gets_5 (Nat.le_of_ble_eq_true rfl) ?_
  dsimp only [List.set]
  refine r_iload_n C dX5_gets_7 (i := 3) rfl rfl ?_
  refine r_iload C dX5_gets_8 rfl ?_
  refine r_S2 C dX5_gets_10 sX5_104 (Nat.le_of_ble_eq_true rfl) (C_X5_at ?_)
  refine r_istore C dX5_gets_13 (Nat.le_of_ble_eq_true rfl) ?_
  dsimp only [List.set]
  refine r_aload_n C dX5_gets_15 (i := 0) rfl rfl ?_
  refine m_getA C dX5_gets_16 fX5_51 R (by decide) rfl ?_
  refine r_iload C dX5_gets_19 rfl ?_
  refine r_aload_n C dX5_gets_21 (i := 0) rfl rfl ?_
  refine m_getA C dX5_gets_22 fX5_33 R (by decide) rfl ?_
  refine r_iload_n C dX5_gets_25 (i := 2) rfl rfl ?_
  refine m_iald C dX5_gets_26 R (N := 60) rfl (by decide) rfl (by omega) (by omega) (by omega) ?_
  refine m_iast C dX5_gets_27 R (N := 480) rfl (by decide) rfl (by omega) (by omega) (by omega) (by first | assumption | exact R.rg _ _ | exact rg _ _ | (unfold inR; omega)) (fun h R => ?_)
  refine r_aload_n C dX5_gets_28 (i := 0) rfl rfl ?_
  refine m_getA C dX5_gets_29 fX5_54 R (by decide) rfl ?_
  refine r_iload C dX5_gets_32 rfl ?_
  refine r_aload_n C dX5_gets_34 (i := 0) rfl rfl ?_
  refine m_getA C dX5_gets_35 fX5_54 R (by decide) rfl ?_
  refine r_iload C dX5_gets_38 rfl ?_
  refine m_iald C dX5_gets_40 R (N := 480) rfl (by decide) rfl (by omega) (by omega) (by omega) ?_
  try simp (decide := true) only [up_ne]
  refine m_iast C dX5_gets_41 R (N := 480) rfl (by decide) rfl (by omega) (by omega) (by omega) (by first | assumption | exact R.rg _ _ | exact rg _ _ | (unfold inR; omega)) (fun h R => ?_)
  refine r_aload_n C dX5_gets_42 (i := 0) rfl rfl ?_
  refine m_getA C dX5_gets_43 fX5_60 R (by decide) rfl ?_
  refine r_iload C dX5_gets_46 rfl ?_
  refine r_aload_n C dX5_gets_48 (i := 0) rfl rfl ?_
  refine m_getA C dX5_gets_49 fX5_60 R (by decide) rfl ?_
  refine r_iload C dX5_gets_52 rfl ?_
  refine m_iald C dX5_gets_54 R (N := 480) rfl (by decide) rfl (by omega) (by omega) (by omega) ?_
  try simp (decide := true) only [up_ne]
  refine m_iast C dX5_gets_55 R (N := 480) rfl (by decide) rfl (by omega) (by omega) (by omega) (by first | assumption | exact R.rg _ _ | exact rg _ _ | (unfold inR; omega)) (fun h R => ?_)
  refine r_iconst C dX5_gets_56 ?_
  refine r_istore C dX5_gets_57 (Nat.le_of_ble_eq_true rfl) ?_
  dsimp only [List.set]
  suffices LOOP : ∀ (m : Nat) (i : Int) (h : Hp), 4 - i < (m : Int) → 0 ≤ i → i ≤ 4 → RM q ar (nuG (up (up (up g 18 (60 * n + p) (g 12 p)) 19 (60 * n + p) (g 19 (60 * n2 + p2))) 21 (60 * n + p) (g 21 (60 * n2 + p2))) (60 * n + p) (60 * n2 + p2) i) h → J 59 [some (vr q), some (vi n), some (vi p), some (vi n2), some (vi p2), some (vi (60 * n + p)), some (vi (60 * n2 + p2)), some (vi i)] [] h 0 0 by
    exact LOOP 5 0 _ (by omega) (by omega) (by omega) (by rw [nuG_0]; exact R)
  intro m
  induction m with
  | zero => intro i h hm hi0 hi1 R; exact absurd hm (by omega)
  | succ m ih =>
    intro i h hm hi0 hi1 R
    refine r_iload C dX5_gets_59 rfl ?_
    refine r_iconst C dX5_gets_61 ?_
    refine r_ic_ge C dX5_gets_62 (t := 95) (by decide) (by first | assumption | exact R.rg _ _ | exact rg _ _ | (unfold inR; omega)) (by first | assumption | exact R.rg _ _ | exact rg _ _ | (unfold inR; omega)) (fun c62 => ?_) (fun c62 => ?_)
    · skip
      refine r_ret C dX5_gets_95 rfl ?_
      exact k _ (by rw [show i = 4 by omega] at R; exact R)
    · skip
      refine r_aload_n C dX5_gets_65 (i := 0) rfl rfl ?_
      refine m_getA C dX5_gets_66 fX5_57 R (by decide) rfl ?_
      refine r_iconst C dX5_gets_69 ?_
      refine r_iload C dX5_gets_70 rfl ?_
      refine r_imul C dX5_gets_72 ?_
      refine r_iload C dX5_gets_73 rfl ?_
      refine r_iadd C dX5_gets_75 ?_
      refine r_aload_n C dX5_gets_76 (i := 0) rfl rfl ?_
      refine m_getA C dX5_gets_77 fX5_57 R (by decide) rfl ?_
      refine r_iconst C dX5_gets_80 ?_
      refine r_iload C dX5_gets_81 rfl ?_
      refine r_imul C dX5_gets_83 ?_
      refine r_iload C dX5_gets_84 rfl ?_
      refine r_iadd C dX5_gets_86 ?_
      refine m_iald C dX5_gets_87 R (N := 1920) rfl (by decide) rfl (by omega) (by omega) (by omega) ?_
      rw [show ∀ G : GT, nuG G (60 * n + p) (60 * n2 + p2) i 20 (4 * (60 * n2 + p2) + i) = G 20 (4 * (60 * n2 + p2) + i) from fun G => by unfold nuG; rw [if_neg (by omega)]]
      refine m_iast C dX5_gets_88 R (N := 1920) rfl (by decide) rfl (by omega) (by omega) (by omega) (by first | assumption | exact R.rg _ _ | exact rg _ _ | (unfold inR; omega)) (fun h R => ?_)
      rw [nuG_s _ _ _ hi0] at R
      refine r_iinc C dX5_gets_89 rfl ?_
      dsimp only [List.set]
      refine r_goto C dX5_gets_92 (t := 59) (by decide) ?_
      exact ih _ _ (by omega) (by omega) (by omega) R

theorem fw_b {g : GT} (B : BD g) (p b : Int) {f : Int} (h0 : 0 ≤ f) (h1 : f ≤ g 22 0) : 0 ≤ sumI (fun f => if g 23 f ≠ 2 ∧ f ≠ b then fcG g p f else 0) f ∧ sumI (fun f => if g 23 f ≠ 2 ∧ f ≠ b then fcG g p f else 0) f ≤ 6 * f := by
  have := sumI_b (f := fun f => if g 23 f ≠ 2 ∧ f ≠ b then fcG g p f else 0) (c := 6) (by omega) (n := f) (fun i hi0 hi1 => by
    have br := B.rw i hi0 (by omega)
    have := cnt_in (fun k => decide (g 26 (6 * i + k) = p)) br.1
    unfold fcG
    split <;> omega)
  omega

set_option maxRecDepth 100000 in
set_option maxHeartbeats 4000000 in
theorem C_X5_filesWith {gx : GX} {d : Nat} {Qr : Option AV → Hp → Prop} {Qx : String → Hp → Prop} {q : Nat} {ar : Nat → Nat} {g : GT} {h : Hp} {p b : Int} (R : RM q ar g h) (B : BD g) (hp : inR p) (hb : inR b) (k : inR (fwG g p b) → Qr (some (vi (fwG g p b))) h) : aM gx (d + 1) mX5_filesWith [vr q, vi p, vi b] h 0 0 Qr Qx := by
  intro J C
  show J 0 [some (vr q), some (vi p), some (vi b), none, none, none] [] h 0 0
  have b3 := B.nf; have rg := R.rg
  refine r_iconst C dX5_filesWith_0 ?_
  refine r_istore_n C dX5_filesWith_1 (i := 3) rfl (Nat.le_of_ble_eq_true rfl) ?_
  dsimp only [List.set]
  refine r_iconst C dX5_filesWith_2 ?_
  refine r_istore C dX5_filesWith_3 (Nat.le_of_ble_eq_true rfl) ?_
  dsimp only [List.set]
  suffices LOOP : ∀ (m : Nat) (x f : Int) (o5 : Option AV), g 22 0 - f < (m : Int) → 0 ≤ f → f ≤ g 22 0 → x = sumI (fun f => if g 23 f ≠ 2 ∧ f ≠ b then fcG g p f else 0) f → J 5 [some (vr q), some (vi p), some (vi b), some (vi x), some (vi f), o5] [] h 0 0 by
    exact LOOP ((g 22 0).toNat + 1) 0 0 _ (by omega) (by omega) (by omega) rfl
  intro m
  induction m with
  | zero => intro x f o5 hm hf0 hf1 hx; exact absurd hm (by omega)
  | succ m ih =>
    intro x f o5 hm hf0 hf1 hx
    refine r_iload C dX5_filesWith_5 rfl ?_
    refine r_aload_n C dX5_filesWith_7 (i := 0) rfl rfl ?_
    refine m_get0 C dX5_filesWith_8 fX5_88 R rfl rfl ?_
    refine r_ic_ge C dX5_filesWith_11 (t := 83) (by decide) (by first | assumption | exact R.rg _ _ | exact rg _ _ | (unfold inR; omega)) (by first | assumption | exact R.rg _ _ | exact rg _ _ | (unfold inR; omega)) (fun c11 => ?_) (fun c11 => ?_)
    · skip
      refine r_iload_n C dX5_filesWith_83 (i := 3) rfl rfl ?_
      refine r_iret C dX5_filesWith_84 (Or.inl rfl) ?_
      rw [show fwG g p b = x by rw [hx, show f = g 22 0 by omega]; rfl] at k; have bfw := fw_b B p b hf0 hf1; exact k (by unfold inR; omega)
    · skip
      have brw := B.rw f hf0 c11; have bfw := fw_b B p b hf0 hf1
      refine r_iconst C dX5_filesWith_14 ?_
      refine r_istore C dX5_filesWith_15 (Nat.le_of_ble_eq_true rfl) ?_
      dsimp only [List.set]
      suffices LOOP : ∀ (m2 : Nat) (x i : Int), g 25 f - i < (m2 : Int) → 0 ≤ i → i ≤ g 25 f → x = sumI (fun f => if g 23 f ≠ 2 ∧ f ≠ b then fcG g p f else 0) f + cnt (fun k => decide (g 26 (6 * f + k) = p)) i → (0 < i → g 23 f ≠ 2 ∧ f ≠ b) → J 17 [some (vr q), some (vi p), some (vi b), some (vi x), some (vi f), some (vi i)] [] h 0 0 by
        exact LOOP ((g 25 f).toNat + 1) x 0 (by omega) (by omega) (by omega) (by rw [cnt_0]; omega) (fun z => absurd z (by omega))
      intro m2
      induction m2 with
      | zero => intro x i hm2 hi0 hi1 hx2 hc; exact absurd hm2 (by omega)
      | succ m2 ih2 =>
        intro x i hm2 hi0 hi1 hx2 hc
        refine r_iload C dX5_filesWith_17 rfl ?_
        refine r_aload_n C dX5_filesWith_19 (i := 0) rfl rfl ?_
        refine m_getA C dX5_filesWith_20 fX5_69 R (by decide) rfl ?_
        refine r_iload C dX5_filesWith_23 rfl ?_
        refine m_iald C dX5_filesWith_25 R (N := 20) rfl (by decide) rfl (by omega) (by omega) (by omega) ?_
        refine r_ic_ge C dX5_filesWith_26 (t := 77) (by decide) (by first | assumption | exact R.rg _ _ | exact rg _ _ | (unfold inR; omega)) (by first | assumption | exact R.rg _ _ | exact rg _ _ | (unfold inR; omega)) (fun c26 => ?_) (fun c26 => ?_)
        · skip
          refine r_iinc C dX5_filesWith_77 rfl ?_
          dsimp only [List.set]
          refine r_goto C dX5_filesWith_80 (t := 5) (by decide) ?_
          first
            | exact ih _ _ _ (by omega) (by omega) (by omega) (by rw [sumI_s _ hf0, if_neg (fun z => z.1 c37)]; rw [show i = 0 from by by_cases z : 0 < i; exact absurd c37 (hc z).1; omega, cnt_0] at hx2; exact hx2)
            | exact ih _ _ _ (by omega) (by omega) (by omega) (by rw [sumI_s _ hf0, if_neg (fun z => z.2 c43)]; rw [show i = 0 from by by_cases z : 0 < i; exact absurd c43 (hc z).2; omega, cnt_0] at hx2; exact hx2)
            | exact ih _ _ _ (by omega) (by omega) (by omega) (by
                rw [sumI_s _ hf0]
                by_cases z : 0 < i
                case pos => rw [if_pos (hc z), hx2]; unfold fcG; rw [show g 25 f = i by omega]
                case neg => rw [show i = 0 by omega, cnt_0] at hx2; rw [hx2]; unfold fcG; rw [show g 25 f = 0 by omega, cnt_0]; simp)
        · skip
          have bcn := cnt_in (fun k => decide (g 26 (6 * f + k) = p)) hi0
          refine r_aload_n C dX5_filesWith_29 (i := 0) rfl rfl ?_
          refine m_getA C dX5_filesWith_30 fX5_63 R (by decide) rfl ?_
          refine r_iload C dX5_filesWith_33 rfl ?_
          refine m_iald C dX5_filesWith_35 R (N := 20) rfl (by decide) rfl (by omega) (by omega) (by omega) ?_
          refine r_iconst C dX5_filesWith_36 ?_
          refine r_ic_eq C dX5_filesWith_37 (t := 77) (by decide) (by first | assumption | exact R.rg _ _ | exact rg _ _ | (unfold inR; omega)) (by first | assumption | exact R.rg _ _ | exact rg _ _ | (unfold inR; omega)) (fun c37 => ?_) (fun c37 => ?_)
          · skip
            refine r_iinc C dX5_filesWith_77 rfl ?_
            dsimp only [List.set]
            refine r_goto C dX5_filesWith_80 (t := 5) (by decide) ?_
            first
              | exact ih _ _ _ (by omega) (by omega) (by omega) (by rw [sumI_s _ hf0, if_neg (fun z => z.1 c37)]; rw [show i = 0 from by by_cases z : 0 < i; exact absurd c37 (hc z).1; omega, cnt_0] at hx2; exact hx2)
              | exact ih _ _ _ (by omega) (by omega) (by omega) (by rw [sumI_s _ hf0, if_neg (fun z => z.2 c43)]; rw [show i = 0 from by by_cases z : 0 < i; exact absurd c43 (hc z).2; omega, cnt_0] at hx2; exact hx2)
              | exact ih _ _ _ (by omega) (by omega) (by omega) (by
                  rw [sumI_s _ hf0]
                  by_cases z : 0 < i
                  case pos => rw [if_pos (hc z), hx2]; unfold fcG; rw [show g 25 f = i by omega]
                  case neg => rw [show i = 0 by omega, cnt_0] at hx2; rw [hx2]; unfold fcG; rw [show g 25 f = 0 by omega, cnt_0]; simp)
          · skip
            refine r_iload C dX5_filesWith_40 rfl ?_
            refine r_iload_n C dX5_filesWith_42 (i := 2) rfl rfl ?_
            refine r_ic_eq C dX5_filesWith_43 (t := 77) (by decide) (by first | assumption | exact R.rg _ _ | exact rg _ _ | (unfold inR; omega)) (by first | assumption | exact R.rg _ _ | exact rg _ _ | (unfold inR; omega)) (fun c43 => ?_) (fun c43 => ?_)
            · skip
              refine r_iinc C dX5_filesWith_77 rfl ?_
              dsimp only [List.set]
              refine r_goto C dX5_filesWith_80 (t := 5) (by decide) ?_
              first
                | exact ih _ _ _ (by omega) (by omega) (by omega) (by rw [sumI_s _ hf0, if_neg (fun z => z.1 c37)]; rw [show i = 0 from by by_cases z : 0 < i; exact absurd c37 (hc z).1; omega, cnt_0] at hx2; exact hx2)
                | exact ih _ _ _ (by omega) (by omega) (by omega) (by rw [sumI_s _ hf0, if_neg (fun z => z.2 c43)]; rw [show i = 0 from by by_cases z : 0 < i; exact absurd c43 (hc z).2; omega, cnt_0] at hx2; exact hx2)
                | exact ih _ _ _ (by omega) (by omega) (by omega) (by
                    rw [sumI_s _ hf0]
                    by_cases z : 0 < i
                    case pos => rw [if_pos (hc z), hx2]; unfold fcG; rw [show g 25 f = i by omega]
                    case neg => rw [show i = 0 by omega, cnt_0] at hx2; rw [hx2]; unfold fcG; rw [show g 25 f = 0 by omega, cnt_0]; simp)
            · skip
              refine r_iload_n C dX5_filesWith_46 (i := 3) rfl rfl ?_
              refine r_aload_n C dX5_filesWith_47 (i := 0) rfl rfl ?_
              refine m_getA C dX5_filesWith_48 fX5_72 R (by decide) rfl ?_
              refine r_bipush C dX5_filesWith_51 (by decide) ?_
              refine r_iload C dX5_filesWith_53 rfl ?_
              refine r_imul C dX5_filesWith_55 ?_
              refine r_iload C dX5_filesWith_56 rfl ?_
              refine r_iadd C dX5_filesWith_58 ?_
              refine m_iald C dX5_filesWith_59 R (N := 120) rfl (by decide) rfl (by omega) (by omega) (by omega) ?_
              refine r_iload_n C dX5_filesWith_60 (i := 1) rfl rfl ?_
              refine r_ic_ne C dX5_filesWith_61 (t := 68) (by decide) (by first | assumption | exact R.rg _ _ | exact rg _ _ | (unfold inR; omega)) (by first | assumption | exact R.rg _ _ | exact rg _ _ | (unfold inR; omega)) (fun c61 => ?_) (fun c61 => ?_)
              · skip
                refine r_iconst C dX5_filesWith_68 ?_
                refine r_iadd C dX5_filesWith_69 ?_
                refine r_istore_n C dX5_filesWith_70 (i := 3) rfl (Nat.le_of_ble_eq_true rfl) ?_
                dsimp only [List.set]
                refine r_iinc C dX5_filesWith_71 rfl ?_
                dsimp only [List.set]
                refine r_goto C dX5_filesWith_74 (t := 17) (by decide) ?_
                first
                  | exact ih2 _ _ (by omega) (by omega) (by omega) (by rw [cnt_s _ hi0, if_pos (decide_eq_true c61)]; omega) (fun _ => ⟨c37, c43⟩)
                  | exact ih2 _ _ (by omega) (by omega) (by omega) (by rw [cnt_s _ hi0, if_neg (fun z => c61 (of_decide_eq_true z))]; omega) (fun _ => ⟨c37, c43⟩)
              · skip
                refine r_iconst C dX5_filesWith_64 ?_
                refine r_goto C dX5_filesWith_65 (t := 69) (by decide) ?_
                refine r_iadd C dX5_filesWith_69 ?_
                refine r_istore_n C dX5_filesWith_70 (i := 3) rfl (Nat.le_of_ble_eq_true rfl) ?_
                dsimp only [List.set]
                refine r_iinc C dX5_filesWith_71 rfl ?_
                dsimp only [List.set]
                refine r_goto C dX5_filesWith_74 (t := 17) (by decide) ?_
                first
                  | exact ih2 _ _ (by omega) (by omega) (by omega) (by rw [cnt_s _ hi0, if_pos (decide_eq_true c61)]; omega) (fun _ => ⟨c37, c43⟩)
                  | exact ih2 _ _ (by omega) (by omega) (by omega) (by rw [cnt_s _ hi0, if_neg (fun z => c61 (of_decide_eq_true z))]; omega) (fun _ => ⟨c37, c43⟩)

