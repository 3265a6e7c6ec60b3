/-! ===== the class: copies come and go ===== -/
def dpU (u : GT) (n i : Int) : GT := up (up u 0 (12 * n + i) (-1)) 3 n (u 3 n - 1)
theorem su_dp (u : GT) (n i : Int) : SU u (dpU u n i) := fun k j k0 k3 => by unfold dpU; rw [up_ne k3, up_ne k0]
theorem up_cm {g : GT} {k1 k2 : Nat} {i1 i2 x1 x2 : Int} (h : k1 ≠ k2 ∨ i1 ≠ i2) : up (up g k1 i1 x1) k2 i2 x2 = up (up g k2 i2 x2) k1 i1 x1 := by
  funext k j
  unfold up
  by_cases a : k = k1 ∧ j = i1
  · rw [if_pos a]
    by_cases b : k = k2 ∧ j = i2
    · exfalso; obtain ⟨a1, a2⟩ := a; obtain ⟨b1, b2⟩ := b; rcases h with h | h
      · exact h (a1.symm.trans b1)
      · exact h (a2.symm.trans b2)
    · rw [if_neg b, if_pos a]
  · rw [if_neg a, if_neg a]
theorem dr1_el (g : GT) (n p q : Int) : dr1 (elG g q) n p = elG (dr1 g n p) q := by
  funext k j
  unfold dr1 elG
  by_cases h : k = 13 ∨ k = 14
  · rcases h with rfl | rfl
    · rw [up_ne (by decide), up_ne (by decide), up_ne (by decide), up_ne (by decide), up_ne (k := 14) (by decide), up_at, up_at, up_ne (by decide), up_ne (by decide), up_ne (by decide)]
    · rw [up_ne (by decide), up_ne (by decide), up_ne (by decide), up_at, up_at, up_ne (by decide), up_ne (by decide), up_ne (by decide), up_ne (by decide), up_ne (by decide)]
  · unfold up
    by_cases a : k = 21 ∧ j = 60 * n + p
    · rw [if_pos a, if_neg (by omega), if_neg (by omega), if_pos a]
    · rw [if_neg a]
      by_cases b : k = 19 ∧ j = 60 * n + p
      · rw [if_pos b, if_neg (by omega), if_neg (by omega), if_neg a, if_pos b]
      · rw [if_neg b]
        by_cases c : k = 18 ∧ j = 60 * n + p
        · rw [if_pos c, if_neg (by omega), if_neg (by omega), if_neg a, if_neg b, if_pos c]
        · rw [if_neg c, if_neg (by omega), if_neg (by omega), if_neg (by omega), if_neg (by omega), if_neg a, if_neg b, if_neg c]
theorem dr1_fg (g : GT) (n p : Int) : dr1 (fgtG g p n) n p = fgtG (dr1 g n p) p n := by
  have e16 : dr1 g n p 16 p = g 16 p := dr1_ne g n p (by decide) p
  unfold fgtG
  rw [dr1_pl]
  split
  · rfl
  · rw [e16]
    funext k j
    by_cases h : k = 16 ∨ k = 17
    · rw [dr1_ne _ _ _ (by omega)]
      unfold shf
      rw [e16, dr1_ne _ _ _ (k := 17) (by decide), dr1_ne _ _ _ (k := k) (by omega)]
    · have a : ∀ s : GT, shf s p (plG g p n) (g 16 p - 1) k j = s k j := fun s => by unfold shf; rw [if_neg (by omega), if_neg (by omega)]
      rw [a]
      unfold dr1 up
      rw [a]
/-- dropping is forgetting, and then having nothing -/
theorem dr_T {g : GT} (P : PH g) {p n : Int} (p0 : 0 ≤ p) (p1 : p < g 11 0) (n0 : n ≠ -1) : drG g n p = dr1 (if g 13 p = n then elG (fgtG g p n) p else fgtG g p n) n p := by
  unfold drG
  by_cases h : g 13 p = n
  · rw [if_pos h, if_pos ⟨by rw [← h]; exact kn_pl.mpr (P.kn p0 p1 (by omega)), h⟩, dr1_el, dr1_fg]
  · rw [if_neg h, if_neg (fun z => h z.2), dr1_fg]
section GHs
variable {gx : GX} {x : Nat} {A : Nat → Int → Nat} {u : GT} {m : Int} {g g' : GT} {h h' : Hp}
/-- what no place holds, nothing shows -/
theorem Rp.ghost (R : Rp gx x A u m g h) {n p : Int} (np : g 11 0 ≤ 60) (hp : 0 ≤ p) (hp1 : p < 60) (cl : ∀ j, g 19 j ≤ 4) (no : ∀ i, 0 ≤ i → i < g 6 n → u 0 (12 * n + i) ≠ p)
    (eg : ∀ k j, ¬ ((k = 18 ∨ k = 19 ∨ k = 21) ∧ j = 60 * n + p) → ¬ (k = 20 ∧ 4 * (60 * n + p) ≤ j ∧ j < 4 * (60 * n + p) + 4) → g' k j = g k j) (rg : ∀ k j, inR (g' k j)) : Rp gx x A u m g' h := by
  have e : ∀ k j, ¬ (18 ≤ k ∧ k ≤ 21) → g' k j = g k j := fun k j hk => eg k j (by omega) (by omega)
  refine ⟨R.gxn, R.xx.c (fun k hk => e k 0 (by omega)), fun n' a0 a1 => ?_, fun n' i a0 a1 a2 a3 => ?_, fun q a0 a1 => ?_, fun f a0 a1 => ?_, R.ap.c (fun k j hk => e k j (by omega)), R.bk.c (fun k j hk => e k j (by omega)), rg, R.ru, fun n' a0 a1 => ?_⟩
  · rw [e 4 0 (by omega)] at a1
    exact (R.n a0 a1).c (fun k hk => e k n' (by omega)) rfl
  · rw [e 4 0 (by omega)] at a1
    rw [e 6 n' (by omega)] at a3
    refine (R.s a0 a1 a2 a3).c rfl (by rw [e 11 0 (by omega)]; exact Int.le_refl _) (fun t et t0 t1 => ?_)
    have tt : t ≠ 60 * n + p := by
      intro z
      have q1 : n' = n := by omega
      subst q1
      exact no i a2 a3 (by omega)
    have c := cl t
    exact ⟨eg 18 t (by omega) (by omega), eg 19 t (by omega) (by omega), eg 21 t (by omega) (by omega), fun c c0 c1 => eg 20 _ (by omega) (by omega)⟩
  · rw [e 11 0 (by omega)] at a1
    exact (R.q a0 a1).c (fun k hk => e k q (by omega)) (fun k _ _ => e 17 _ (by omega)) rfl rfl rfl
  · rw [e 22 0 (by omega)] at a1
    exact (R.f a0 a1).c rfl rfl (fun z => ⟨(e 23 f (by omega)).symm.trans z, e 24 f (by omega)⟩) (fun k _ _ => e 26 _ (by omega))
  · rw [e 4 0 (by omega)] at a1
    rw [e 6 n' (by omega)]
    exact R.room a0 a1
theorem Rp.nil1 (R : Rp gx x A u m g h) {n p : Int} (np : g 11 0 ≤ 60) (hp : 0 ≤ p) (hp1 : p < 60) (cl : ∀ j, g 19 j ≤ 4) (no : ∀ i, 0 ≤ i → i < g 6 n → u 0 (12 * n + i) ≠ p) : Rp gx x A u m (dr1 g n p) h := by
  refine R.ghost np hp hp1 cl no (fun k j a b => ?_) (fun k j => ?_)
  · unfold dr1 up
    rw [if_neg (by omega), if_neg (by omega), if_neg (by omega)]
  · unfold dr1
    exact rgu (rgu (rgu R.rg inR0) inR0) inR0 k j
/-- a node is known of a piece -/
theorem Rp.kn (R : Rp gx x A u m g h) (B : BD g) {q n : Int} (q0 : 0 ≤ q) (q1 : q < g 11 0) (n0 : 0 ≤ n) (n1 : n < g 4 0) (h8 : g 16 q < 8) (L : LC gx h h' (A 5 q) (g 16 q + 1) (fun j => if j = g 16 q then some (A 0 n) else some (A 0 (g 17 (8 * q + j))))) (hg : gx.1 ∉ hD h') : Rp gx x A u m (knG g q n) h' := by
  have b1 := B.nn
  have b2 := B.np
  have bq := B.cp q q0 q1
  refine R.wH q0 q1 L hg (fun p' a b => (B.cp p' a b).2) (kn_16 _ _ _) (fun k k0 k1 => ?_) (fun k j hk => ?_) (fun k j => ?_)
  · rw [kn_17]
    by_cases c : k = g 16 q
    · rw [if_pos c, if_pos (by omega)]
    · rw [if_neg c, if_neg (by omega)]
  · unfold knG up
    rw [if_neg (by omega), if_neg (by omega)]
  · unfold knG
    exact rgu (rgu R.rg ⟨by omega, by omega⟩) ⟨by omega, by omega⟩ k j
end GHs
theorem tc_bg (g : GT) {n q n2 p2 : Int} (h : 60 * n2 + p2 ≠ 60 * n + q) : tcG (bgG g n q) (60 * n + q) (60 * n2 + p2) = gtG g n q n2 p2 := by
  have e19 : bgG g n q 19 (60 * n2 + p2) = g 19 (60 * n2 + p2) := by
    unfold bgG
    rw [up_ne (by decide), up_off h, up_ne (by decide)]
  have e21 : bgG g n q 21 (60 * n2 + p2) = g 21 (60 * n2 + p2) := by
    unfold bgG
    rw [up_off h, up_ne (by decide), up_ne (by decide)]
  unfold tcG gtG
  rw [e19, e21]
  congr 1
  funext k j
  unfold bgG up
  by_cases a : k = 21 ∧ j = 60 * n + q
  · rw [if_pos a, if_pos a]
  · rw [if_neg a, if_neg a]
    by_cases b : k = 19 ∧ j = 60 * n + q
    · rw [if_pos b, if_pos b, if_neg a]
    · rw [if_neg b, if_neg b, if_neg a, if_neg b]

set_option maxRecDepth 100000 in
set_option maxHeartbeats 4000000 in
theorem C_X4_drop {gx : GX} {d : Nat} {Qr : Option AV → Hp → Prop} {Qx : String → Hp → Prop} {x : Nat} {A : Nat → Int → Nat} {u : GT} {m : Int} {g : GT} {h : Hp} {n i p : Int} (Z : Rw gx x A u m g h) (n0 : 0 ≤ n) (n1 : n < g 4 0) (i0 : 0 ≤ i) (i1 : i < g 6 n) (hu : u 0 (12 * n + i) = p) (hp : 0 ≤ p) (K : ∀ h1, Rp gx x A (dpU u n i) m (drG g n p) h1 → CI (dpU u n i) (drG g n p) → Qr none h1) : aM gx (d + 6) mX4_drop [vr (A 0 n), vr (A 2 (12 * n + i))] h 0 0 Qr Qx := by
  intro J C
  show J 0 [some (vr (A 0 n)), some (vr (A 2 (12 * n + i))), none] [] h 0 0
  have R := Z.1; have W := Z.2.1; have Ci := Z.2.2; have B := W.b; have b1 := B.nn; have b2 := B.np; have oc := R.oc n0 n1 i0 i1 hu hp; have lo := load_b B n; have tk := Ci.tk n0 n1; have rm := R.room n0 n1
  have ph := W.p.b B hp oc.1
  have C1 : CI (up (up u 0 (12 * n + i) (-1)) 3 n (u 3 n - 1)) (drG g n p) := Ci.off n0 n1 i0 i1 hu hp oc.1 b2.2 R.rml (R.rvl b2.1) (fun j => dr_18 g n p j) (dr_ne _ _ _ (by decide) _) (fun j => dr_ne _ _ _ (by decide) j) (dr_ne _ _ _ (by decide) _)
  have no1 : ∀ j, 0 ≤ j → j < g 6 n → up (up u 0 (12 * n + i) (-1)) 3 n (u 3 n - 1) 0 (12 * n + j) ≠ p := fun j j0 j1 e => by
    rw [up_ne (by decide), up_at] at e
    by_cases c : 12 * n + j = 12 * n + i
    · rw [if_pos c] at e; omega
    · rw [if_neg c] at e
      have := Ci.inj n0 n1 i0 i1 hu hp j j0 j1 e
      omega
  refine r_aload_n C dX4_drop_0 (i := 1) rfl rfl ?_
  refine c_1_0 C dX4_drop_1 fX4_278 R (by omega) (by omega) (by omega) (by omega) hu (by omega) ?_
  refine r_astore_n C dX4_drop_4 (i := 2) rfl (Nat.le_of_ble_eq_true rfl) ?_
  dsimp only [List.set]
  refine r_aload_n C dX4_drop_5 (i := 0) rfl rfl ?_
  refine r_aload_n C dX4_drop_6 (i := 1) rfl rfl ?_
  refine c_VN1 C dX4_drop_7 sX4_282 rfl R (by omega) (by omega) rfl (Nat.le_of_ble_eq_true rfl) 0 0 (Nat.zero_le _) (Nat.zero_le _) (C_X2_freePlace R n0 n1 i0 i1 (by unfold inR; omega) (fun h1 R => ?_))
  refine r_aload_n C dX4_drop_10 (i := 2) rfl rfl ?_
  refine r_ifnull C dX4_drop_11 (t := 19) (by decide) (fun c11 => ?_) (fun a11 c11 => ?_)
  · skip
    cases c11
  · skip
    refine r_aload_n C dX4_drop_14 (i := 2) rfl rfl ?_
    refine r_aload_n C dX4_drop_15 (i := 0) rfl rfl ?_
    refine c_VQ1 C dX4_drop_16 sX4_285 rfl R (by omega) (by omega) rfl (Nat.le_of_ble_eq_true rfl) 0 0 (Nat.zero_le _) (Nat.zero_le _) (C_X3_forget R B hp oc.1 n0 n1 ph (fun h2 R2 => ?_))
    refine r_ret C dX4_drop_19 rfl ?_
    refine K _ ?_ C1
    have e : ∀ k, k ≠ 13 ∧ k ≠ 14 ∧ k ≠ 16 ∧ k ≠ 17 → ∀ j, (if g 13 p = n then elG (fgtG g p n) p else fgtG g p n) k j = g k j := fun k hk j => by
      split
      · unfold elG; rw [up_ne hk.2.1, up_ne hk.1, fgt_ne _ _ _ hk.2.2.1 hk.2.2.2]
      · exact fgt_ne _ _ _ hk.2.2.1 hk.2.2.2 j
    rw [dr_T W.p hp oc.1 (by omega)]
    exact R2.nil1 (by rw [e 11 (by decide)]; exact b2.2) hp (by omega) (fun j => by rw [e 19 (by decide)]; exact (W.i.2.2.1 j).2) (by rw [e 6 (by decide)]; exact no1)

set_option maxRecDepth 100000 in
set_option maxHeartbeats 4000000 in
theorem C_X4_addCopy0 {gx : GX} {d : Nat} {Qr : Option AV → Hp → Prop} {Qx : String → Hp → Prop} {x : Nat} {A : Nat → Int → Nat} {u : GT} {m : Int} {g : GT} {h : Hp} {n q : Int} (Z : Rw gx x A u m g h) (n0 : 0 ≤ n) (n1 : n < g 4 0) (q0 : 0 ≤ q) (q1 : q < g 11 0) (hl : loadG g n < g 6 n) (hz : g 18 (60 * n + q) = 0) (hk : ¬ KN g q n) (hv : g 12 q = 1) (K : ∀ u' h1, Rp gx x A u' m (knG (ad3 g n q) q n) h1 → CI u' (knG (ad3 g n q) q n) → SU u u' → Qr none h1) : aM gx (d + 7) mX4_addCopy [vr (A 0 n), vr (A 4 q), vn] h 1 10 Qr Qx := by
  intro J C
  show J 0 [some (vr (A 0 n)), some (vr (A 4 q)), some vn, none] [] h 1 10
  have R := Z.1; have W := Z.2.1; have Ci := Z.2.2; have B := W.b; have b1 := B.nn; have b2 := B.np; have rm := R.room n0 n1; have tk := Ci.tk n0 n1; have lo := load_b B n; have vq9 := W.i.2.2.2.2 q q0 q1
  have h8 := dc_lt B W.i.2.1 q0 q1 n0 n1 (pl_none.mpr hk)
  obtain ⟨f0, f1, f2, f3⟩ := Ci.free n0 n1 hl (fun i i0 i1 => R.rv n i n0 n1 i0 i1)
  have no : ∀ j, 0 ≤ j → j < g 6 n → u 0 (12 * n + j) ≠ q := fun j j0 j1 e => by
    have := Ci.occ n0 n1 j0 j1 e q0
    omega
  have R0 := R
  refine r_aload_n C dX4_addCopy_0 (i := 0) rfl rfl ?_
  refine r_aload_n C dX4_addCopy_1 (i := 1) rfl rfl ?_
  refine c_VN1 C dX4_addCopy_2 sX4_271 rfl R (by omega) (by omega) rfl (Nat.le_of_ble_eq_true rfl) 0 0 (Nat.zero_le _) (Nat.zero_le _) (C_X2_takePlace R n0 n1 q0 q1 no (fun j => (W.i.2.2.1 j).2) b2.2 (by unfold inR; omega) b2.1 (fun i h1 i0 i1 hu R => ?_) (fun nf => ?_))
  · skip
    have e3 : bgG g n q = ad3 g n q := by unfold bgG ad3; rw [hv]
    rw [e3] at R
    have B' : BD (ad3 g n q) := (iw_ad3 W q0 q1 n0 n1 hv).b
    have q1' : q < ad3 g n q 11 0 := by rw [ad3_ne _ _ _ (by decide)]; exact q1
    have n1' : n < ad3 g n q 4 0 := by rw [ad3_ne _ _ _ (by decide)]; exact n1
    have h8' : ad3 g n q 16 q < 8 := by rw [ad3_ne _ _ _ (by decide)]; omega
    refine r_astore_n C dX4_addCopy_5 (i := 3) rfl (Nat.le_of_ble_eq_true rfl) ?_
    dsimp only [List.set]
    refine r_aload_n C dX4_addCopy_6 (i := 3) rfl rfl ?_
    refine r_ifnonnull C dX4_addCopy_7 (t := 11) (by decide) (fun a7 c7 => ?_) (fun c7 => ?_)
    · skip
      refine r_aload_n C dX4_addCopy_11 (i := 2) rfl rfl ?_
      refine r_ifnull C dX4_addCopy_12 (t := 20) (by decide) (fun c12 => ?_) (fun a12 c12 => ?_)
      · skip
        refine r_aload_n C dX4_addCopy_20 (i := 1) rfl rfl ?_
        refine c_4_6 C dX4_addCopy_21 fX4_184 R (by omega) (by omega) ?_
        refine r_aload_n C dX4_addCopy_24 (i := 0) rfl rfl ?_
        have L := (R.q q0 q1').2.2.2.2
        have nd := (R.n n0 n1').1
        refine r_callV C (As := [vr (A 0 n)]) dX4_addCopy_25 sX4_58 (fun v hv => by rw [List.mem_singleton.mp hv]; rfl) (ci := 0) (by decide) rfl L.1.1 L.1.2 (Nat.le_of_ble_eq_true rfl) (by omega) (by omega) (C_AL_add1 L (by omega) nd.1 nd.2 (by decide) castO_3 (fun h2 L2 => ?_))
        refine r_gxn C (fun hg => ?_)
        have R := R.kn B' q0 q1' n0 n1' h8' L2 hg
        refine r_pop C dX4_addCopy_28 rfl ?_
        refine r_ret C dX4_addCopy_29 rfl ?_
        have C1 : CI (up (up u 0 (12 * n + i) q) 3 n (u 3 n + 1)) (knG (ad3 g n q) q n) := Ci.on (v := g 12 q) n0 n1 i0 i1 hu q0 q1 b2.2 R0.rml (R0.rvl b2.1) hz (by omega) (fun j => by rw [kn_ne _ _ _ (by decide) (by decide), ad3_18, hv]) (by rw [kn_ne _ _ _ (by decide) (by decide), ad3_ne _ _ _ (by decide)]) (fun j => by rw [kn_ne _ _ _ (by decide) (by decide), ad3_ne _ _ _ (by decide)]) (by rw [kn_ne _ _ _ (by decide) (by decide), ad3_ne _ _ _ (by decide)])
        exact K _ _ R C1 (fun k j k0 k3 => by rw [up_ne k3, up_ne k0])
      · skip
        cases c12
    · skip
      cases c7
  · skip
    exact absurd f3 (nf f0 f1 f2)

set_option maxRecDepth 100000 in
set_option maxHeartbeats 4000000 in
theorem C_X4_addCopyM {gx : GX} {d : Nat} {Qr : Option AV → Hp → Prop} {Qx : String → Hp → Prop} {x : Nat} {A : Nat → Int → Nat} {u : GT} {m : Int} {g : GT} {h : Hp} {n q n2 i2 p2 : Int} (Z : Rw gx x A u m g h) (n0 : 0 ≤ n) (n1 : n < g 4 0) (q0 : 0 ≤ q) (q1 : q < g 11 0) (hl : loadG g n < g 6 n) (hz : g 18 (60 * n + q) = 0) (hk : ¬ KN g q n) (m0 : 0 ≤ n2) (m1 : n2 < g 4 0) (l0 : 0 ≤ i2) (l1 : i2 < g 6 n2) (hu2 : u 0 (12 * n2 + i2) = p2) (hp2 : 0 ≤ p2) (K : ∀ u' h1, Rp gx x A u' m (knG (gtG g n q n2 p2) q n) h1 → CI u' (knG (gtG g n q n2 p2) q n) → SU u u' → (∀ j, u 0 j ≠ -1 → u' 0 j = u 0 j) → Qr none h1) : aM gx (d + 7) mX4_addCopy [vr (A 0 n), vr (A 4 q), vr (A 2 (12 * n2 + i2))] h 1 10 Qr Qx := by
  intro J C
  show J 0 [some (vr (A 0 n)), some (vr (A 4 q)), some (vr (A 2 (12 * n2 + i2))), none] [] h 1 10
  have R := Z.1; have W := Z.2.1; have Ci := Z.2.2; have B := W.b; have b1 := B.nn; have b2 := B.np; have rm := R.room n0 n1; have tk := Ci.tk n0 n1; have lo := load_b B n; have vq9 := W.i.2.2.2.2 q q0 q1
  have h8 := dc_lt B W.i.2.1 q0 q1 n0 n1 (pl_none.mpr hk)
  obtain ⟨f0, f1, f2, f3⟩ := Ci.free n0 n1 hl (fun i i0 i1 => R.rv n i n0 n1 i0 i1)
  have no : ∀ j, 0 ≤ j → j < g 6 n → u 0 (12 * n + j) ≠ q := fun j j0 j1 e => by
    have := Ci.occ n0 n1 j0 j1 e q0
    omega
  have R0 := R
  have oc2 := R.oc m0 m1 l0 l1 hu2 hp2
  have rm2 := R.room m0 m1
  have hnn : ¬ (n = n2 ∧ q = p2) := fun z => by
    have := Ci.occ m0 m1 l0 l1 hu2 hp2
    rw [← z.1, ← z.2] at this
    omega
  refine r_aload_n C dX4_addCopy_0 (i := 0) rfl rfl ?_
  refine r_aload_n C dX4_addCopy_1 (i := 1) rfl rfl ?_
  refine c_VN1 C dX4_addCopy_2 sX4_271 rfl R (by omega) (by omega) rfl (Nat.le_of_ble_eq_true rfl) 0 0 (Nat.zero_le _) (Nat.zero_le _) (C_X2_takePlace R n0 n1 q0 q1 no (fun j => (W.i.2.2.1 j).2) b2.2 (by unfold inR; omega) b2.1 (fun i h1 i0 i1 hu R => ?_) (fun nf => ?_))
  · skip
    have nei : ¬ (n = n2 ∧ i = i2) := fun z => by
      obtain ⟨rfl, rfl⟩ := z
      omega
    have hu' : up (up u 0 (12 * n + i) q) 3 n (u 3 n + 1) 0 (12 * n + i) = q := by rw [up_ne (by decide), up_self]
    have hu2' : up (up u 0 (12 * n + i) q) 3 n (u 3 n + 1) 0 (12 * n2 + i2) = p2 := by rw [up_ne (by decide), up_off (by omega)]; exact hu2
    have inj' : ∀ j, 0 ≤ j → j < g 6 n → up (up u 0 (12 * n + i) q) 3 n (u 3 n + 1) 0 (12 * n + j) = q → j = i := fun j j0 j1 e => by
      rw [up_ne (by decide), up_at] at e
      by_cases c : 12 * n + j = 12 * n + i
      · omega
      · rw [if_neg c] at e; exact absurd e (no j j0 j1)
    have cl' : ∀ j, 0 ≤ bgG g n q 19 j ∧ bgG g n q 19 j ≤ 4 := fun j => by
      have := W.i.2.2.1 j
      unfold bgG
      rw [up_ne (by decide), up_at]
      split
      · omega
      · rw [up_ne (by decide)]; exact this
    refine r_astore_n C dX4_addCopy_5 (i := 3) rfl (Nat.le_of_ble_eq_true rfl) ?_
    dsimp only [List.set]
    refine r_aload_n C dX4_addCopy_6 (i := 3) rfl rfl ?_
    refine r_ifnonnull C dX4_addCopy_7 (t := 11) (by decide) (fun a7 c7 => ?_) (fun c7 => ?_)
    · skip
      refine r_aload_n C dX4_addCopy_11 (i := 2) rfl rfl ?_
      refine r_ifnull C dX4_addCopy_12 (t := 20) (by decide) (fun c12 => ?_) (fun a12 c12 => ?_)
      · skip
        cases c12
      · skip
        refine r_aload_n C dX4_addCopy_15 (i := 3) rfl rfl ?_
        refine r_aload_n C dX4_addCopy_16 (i := 2) rfl rfl ?_
        refine c_VS1 (n := n) (i := i) C dX4_addCopy_17 sX4_274 rfl R n0 n1 i0 i1 rfl (Nat.le_of_ble_eq_true rfl) 0 0 (Nat.zero_le _) (Nat.zero_le _) (C_X0_takeCellsOf R n0 n1 i0 i1 hu' q0 inj' cl' b2.2 m0 m1 l0 l1 hu2' hp2 nei (fun h2 R => ?_))
        rw [tc_bg g (by omega)] at R
        have B' : BD (gtG g n q n2 p2) := (iw_gt W q0 q1 n0 n1 n2 p2).b
        have q1' : q < gtG g n q n2 p2 11 0 := by rw [gt_ne _ _ _ _ _ (by decide)]; exact q1
        have n1' : n < gtG g n q n2 p2 4 0 := by rw [gt_ne _ _ _ _ _ (by decide)]; exact n1
        have h8' : gtG g n q n2 p2 16 q < 8 := by rw [gt_ne _ _ _ _ _ (by decide)]; omega
        refine r_aload_n C dX4_addCopy_20 (i := 1) rfl rfl ?_
        refine c_4_6 C dX4_addCopy_21 fX4_184 R (by omega) (by omega) ?_
        refine r_aload_n C dX4_addCopy_24 (i := 0) rfl rfl ?_
        have L := (R.q q0 q1').2.2.2.2
        have nd := (R.n n0 n1').1
        refine r_callV C (As := [vr (A 0 n)]) dX4_addCopy_25 sX4_58 (fun v hv => by rw [List.mem_singleton.mp hv]; rfl) (ci := 0) (by decide) rfl L.1.1 L.1.2 (Nat.le_of_ble_eq_true rfl) (by omega) (by omega) (C_AL_add1 L (by omega) nd.1 nd.2 (by decide) castO_3 (fun h2 L2 => ?_))
        refine r_gxn C (fun hg => ?_)
        have R := R.kn B' q0 q1' n0 n1' h8' L2 hg
        refine r_pop C dX4_addCopy_28 rfl ?_
        refine r_ret C dX4_addCopy_29 rfl ?_
        have C1 : CI (up (up u 0 (12 * n + i) q) 3 n (u 3 n + 1)) (knG (gtG g n q n2 p2) q n) := Ci.on (v := g 12 q) n0 n1 i0 i1 hu q0 q1 b2.2 R0.rml (R0.rvl b2.1) hz (by omega) (fun j => by rw [kn_ne _ _ _ (by decide) (by decide), gt_18]) (by rw [kn_ne _ _ _ (by decide) (by decide), gt_ne _ _ _ _ _ (by decide)]) (fun j => by rw [kn_ne _ _ _ (by decide) (by decide), gt_ne _ _ _ _ _ (by decide)]) (by rw [kn_ne _ _ _ (by decide) (by decide), gt_ne _ _ _ _ _ (by decide)])
        exact K _ _ R C1 (fun k j k0 k3 => by rw [up_ne k3, up_ne k0]) (fun j hj => by rw [up_ne (by decide), up_off (fun z => hj (by rw [z]; exact hu))])
    · skip
      cases c7
  · skip
    exact absurd f3 (nf f0 f1 f2)

