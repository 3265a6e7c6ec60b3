/-! ===== the class: a piece is begun ===== -/
theorem Rs.gar {gx : GX} {x : Nat} {A : Nat → Int → Nat} {u g : GT} {h h' : Hp} (Z : Rs gx x A u g h) (O : OT h h' (fun _ => False)) (hg : gx.1 ∉ hD h') : Rs gx x A u g h' := ⟨⟨Z.1.1.gar O hg, Z.1.2⟩, Z.2⟩
theorem best_cc {g g' : GT} (h : ∀ k, k ≠ 25 ∧ k ≠ 26 → ∀ j, g' k j = g k j) (p : Int) : bestG g' p = bestG g p := by
  have lo : ∀ n, loadG g' n = loadG g n := fun n => by
    unfold loadG
    simp only [h 11 (by decide), h 18 (by decide)]
  have ir : ∀ r, irG g' p r = irG g p r := fun r => by
    unfold irG
    simp only [h 5 (by decide), h 16 (by decide), h 17 (by decide)]
  have key : ∀ m : Nat, bestN g' p m = bestN g p m := by
    intro m
    induction m with
    | zero => rfl
    | succ m ih =>
      show (if openP g' m ∧ g' 18 (60 * m + p) = 0 ∧ (bestN g' p m = -1 ∨ betterP g' p m (bestN g' p m)) then (m : Int) else bestN g' p m) = (if openP g m ∧ g 18 (60 * m + p) = 0 ∧ (bestN g p m = -1 ∨ betterP g p m (bestN g p m)) then (m : Int) else bestN g p m)
      unfold openP betterP
      rw [ih]
      simp only [lo, ir, h 5 (by decide), h 6 (by decide), h 7 (by decide), h 9 (by decide), h 18 (by decide)]
  unfold bestG bestI
  rw [h 4 (by decide), key]
/-- a row gets an entry -/
def rT (a v f w : Int) (s : GT) : GT := up (up s 26 a v) 25 f w
theorem rT_ne (a v f w : Int) (s : GT) {k : Nat} (h : k ≠ 25 ∧ k ≠ 26) (j : Int) : rT a v f w s k j = s k j := by
  unfold rT
  rw [up_ne h.1, up_ne h.2]
theorem rT_25 (a v f w : Int) (s : GT) (j : Int) : rT a v f w s 25 j = if j = f then w else s 25 j := by
  unfold rT
  rw [up_at, up_ne (by decide)]
theorem rT_26 (a v f w : Int) (s : GT) (j : Int) : rT a v f w s 26 j = if j = a then v else s 26 j := by
  unfold rT
  rw [up_ne (by decide), up_at]
theorem adF_ne (q : Int) {k : Nat} (h : k ≠ 16 ∧ k ≠ 17 ∧ k ≠ 18 ∧ k ≠ 19 ∧ k ≠ 21) (i : Int) (s : GT) (j : Int) : adF q i s k j = s k j := by
  unfold adF
  split
  · rfl
  · show knG (ad3 s _ q) q _ k j = _
    rw [kn_ne _ _ _ h.1 h.2.1, ad3_ne _ _ _ h.2.2]
theorem adi_ne (q : Int) {k : Nat} (h : k ≠ 16 ∧ k ≠ 17 ∧ k ≠ 18 ∧ k ≠ 19 ∧ k ≠ 21) (i : Int) (s : GT) (j : Int) : itrI (adF q) i s k j = s k j :=
  itrI_ind (P := fun t => t k j = s k j) (adF q) rfl (fun i t _ _ S => (adF_ne q h i t j).trans S)
theorem adF_T (q a v f w i : Int) (s : GT) : adF q i (rT a v f w s) = rT a v f w (adF q i s) := by
  have eb : bestG (rT a v f w s) q = bestG s q := best_cc (fun k hk j => rT_ne a v f w s hk j) q
  unfold adF
  rw [eb]
  split
  · rfl
  · obtain ⟨b, hb⟩ : ∃ b, b = bestG s q := ⟨_, rfl⟩
    rw [← hb]
    show knG (ad3 (rT a v f w s) b q) q b = rT a v f w (knG (ad3 s b q) q b)
    have e16 : ad3 (rT a v f w s) b q 16 q = ad3 s b q 16 q := by rw [ad3_ne _ _ _ (by decide), ad3_ne _ _ _ (by decide), rT_ne _ _ _ _ _ (by decide)]
    have e3 : ∀ k, k ≠ 25 ∧ k ≠ 26 → ∀ j, ad3 (rT a v f w s) b q k j = ad3 s b q k j := fun k hk j => by
      unfold ad3 up
      rw [rT_ne _ _ _ _ _ hk]
    funext k j
    by_cases c : k = 25 ∨ k = 26
    · rcases c with rfl | rfl
      · rw [rT_25, kn_ne _ _ _ (by decide) (by decide), kn_ne _ _ _ (by decide) (by decide), ad3_ne _ _ _ (by decide), ad3_ne _ _ _ (by decide), rT_25]
      · rw [rT_26, kn_ne _ _ _ (by decide) (by decide), kn_ne _ _ _ (by decide) (by decide), ad3_ne _ _ _ (by decide), ad3_ne _ _ _ (by decide), rT_26]
    · rw [rT_ne _ _ _ _ _ (by omega)]
      unfold knG
      rw [e16]
      unfold up
      rw [e3 k (by omega)]
theorem adi_T (q a v f w : Int) (s : GT) {i : Int} (i0 : 0 ≤ i) : itrI (adF q) i (rT a v f w s) = rT a v f w (itrI (adF q) i s) := by
  have key : ∀ m : Nat, itrI (adF q) m (rT a v f w s) = rT a v f w (itrI (adF q) m s) := by
    intro m
    induction m with
    | zero => rfl
    | succ m ih => rw [show ((m + 1 : Nat) : Int) = (m : Int) + 1 by omega, itrI_s _ _ (by omega), itrI_s _ _ (by omega), ih, adF_T]
  have := key i.toNat
  rwa [Int.toNat_of_nonneg i0] at this
theorem iw_rT {s : GT} (W : IW s) {f v n : Int} (v0 : 0 ≤ v) (v1 : v < s 11 0) (f0 : 0 ≤ f) (f1 : f < s 22 0) (hn : n = s 25 f) (hr : n < 6) : IW (rT (6 * f + n) v f (n + 1) s) := by
  subst hn
  have I := W.i
  have ne : ∀ k, k ≠ 25 ∧ k ≠ 26 → ∀ j, rT (6 * f + s 25 f) v f (s 25 f + 1) s k j = s k j := fun k hk j => rT_ne _ _ _ _ _ hk j
  refine iw_iv W ⟨bd_app W.b v0 v1 f0 f1 hr, dc_same I.2.1 (fun k hk j => ne k (by omega) j), cl_same I.2.2.1 (fun j => ne 19 (by decide) j), fun p n h0 h1 h2 => ?_, fun p h0 h1 => ?_⟩ (fun k hk j => ne k (by omega) j)
  · rw [ne 11 (by decide)] at h1
    rw [ne 18 (by decide), ne 12 (by decide)]
    exact I.2.2.2.1 p n h0 h1 ((KN.c (fun j => ne 16 (by decide) j) (fun j => ne 17 (by decide) j) p n).mp h2)
  · rw [ne 11 (by decide)] at h1
    rw [ne 12 (by decide)]
    exact I.2.2.2.2 p h0 h1

set_option maxRecDepth 100000 in
set_option maxHeartbeats 4000000 in
theorem C_X4_startPiece {gx : GX} {d : Nat} {Qr : Option AV → Hp → Prop} {Qx : String → Hp → Prop} {x : Nat} {A : Nat → Int → Nat} {u g : GT} {h : Hp} {f : Int} (Z : Rs gx x A u g h) (f0 : 0 ≤ f) (f1 : f < g 22 0) (h23 : g 23 f ≠ 2) (ht : 0 ≤ g 1 0) (K : g 25 f < 6 ∧ hpP g → ∀ A' u' h1, Rs gx x A' u' (adG g f) h1 → A' 6 f = A 6 f → Qr none h1) (kx : ¬ (g 25 f < 6 ∧ hpP g) → ∀ h1, Rs gx x A u g h1 → Qx "java/lang/IllegalStateException" h1) : aM gx (d + 8) mX4_startPiece [vr x, vr (A 6 f)] h 10 300 Qr Qx := by
  intro J C
  show J 0 [some (vr x), some (vr (A 6 f)), none, none, none] [] h 10 300
  have R := Z.1.1; have W := Z.1.2.1; have Ci := Z.1.2.2; have F := Z.2.1; have I := W.i; have B := W.b; have b1 := B.nn; have b2 := B.np; have b3 := B.nf; have Zd := Z.1.z
  have b25 := B.rw f f0 f1
  have f5 : u 5 f = g 25 f := (F.2 f f0 f1).2.trans (if_neg h23)
  refine r_aload_n C dX4_startPiece_0 (i := 1) rfl rfl ?_
  refine c_2_3 C dX4_startPiece_1 fX4_124 R (by omega) (by omega) ?_
  refine c_szR C dX4_startPiece_4 sX4_44 R (by omega) (by omega) (Nat.le_of_ble_eq_true rfl) ?_
  rw [f5]
  refine r_bipush C dX4_startPiece_7 (by decide) ?_
  refine r_ic_lt C dX4_startPiece_9 (t := 23) (by decide) (by first | assumption | exact R.rg _ _ | exact R.ru _ _ | (unfold inR; omega)) (by first | assumption | exact R.rg _ _ | exact R.ru _ _ | (unfold inR; omega)) (fun c9 => ?_) (fun c9 => ?_)
  · skip
    refine r_aload_n C dX4_startPiece_23 (i := 0) rfl rfl ?_
    refine c_VX0 C dX4_startPiece_24 sX4_304 rfl R   (Nat.le_of_ble_eq_true rfl) 1 6 (Nat.le_of_ble_eq_true rfl) (Nat.le_of_ble_eq_true rfl) (C_X4_requireRoomForPiece R b2.1 b2.2 (fun h60 => ?_) (fun n60 => kx (fun z => n60 z.2.2) _ Z))
    refine r_new C dX4_startPiece_27 (ci := 4) (by decide) kX4_131 (by omega) (Nat.le_of_ble_eq_true rfl) (fun q hq => ?_)
    refine r_gxn C (fun hgq => ?_)
    have R0 := R
    have OTq : OT h (hNew h q 5 7) (fun _ => False) := OT.nw hq 5 7
    have R := R0.gar OTq hgq
    have hqD : q ∈ hD (hNew h q 5 7) := List.mem_append.mpr (Or.inr (List.mem_singleton.mpr rfl))
    have hqK : hK (hNew h q 5 7) q = 5 := if_pos rfl
    refine r_dup C dX4_startPiece_30 rfl ?_
    refine r_aload_n C dX4_startPiece_31 (i := 0) rfl rfl ?_
    refine c_5_1 C dX4_startPiece_32 fX4_16 R  ?_
    refine c_szA C dX4_startPiece_35 sX4_44 R  (Nat.le_of_ble_eq_true rfl) ?_
    refine r_callI C dX4_startPiece_38 sX4_307 (As := [vi (g 11 0)]) (fun v hv => by rw [List.mem_singleton.mp hv]; rfl) (Nat.le_of_ble_eq_true rfl) (c1 := 1) (s1 := 3) (Nat.le_of_ble_eq_true rfl) (Nat.le_of_ble_eq_true rfl) (C_X3_init hqD hqK (fun l h1 hl O1 qD qI qP ql Ll Lg => ?_))
    refine r_gxn C (fun hg1 => ?_)
    have hlh : l ∉ hD h := fun z => hl (List.mem_append.mpr (Or.inl z))
    have hlq : q ≠ l := fun z => hl (z ▸ hqD)
    have OT1 : OT h h1 (fun _ => False) := OTq.tr2 O1 (fun b hb e => hq (e ▸ hb))
    have hre : ∀ f k, 0 ≤ f → f < g 22 0 → 0 ≤ k → k < u 5 f → g 26 (6 * f + k) < g 11 0 := fun f' k a b c d => by
      rw [(F.2 f' a b).2] at d
      unfold rwG at d
      split at d
      · omega
      · exact (B.re f' k a b c d).2
    have R := R0.extP OT1 hg1 hq hlh hlq (Int.le_refl _) b2.1 h60 hre qD qI qP ql Ll Lg
    obtain ⟨A', hA⟩ : ∃ A', A' = A4 A (g 11 0) q l := ⟨_, rfl⟩
    rw [← hA] at R
    have eA : ∀ k j, ¬ ((k = 4 ∨ k = 5) ∧ j = g 11 0) → A' k j = A k j := fun k j z => by rw [hA]; exact A4_ne z
    have eAq : A' 4 (g 11 0) = q := by rw [hA]; exact A4_4
    have W1 := iw_np W h60
    have C1 : CI (U4 u (g 11 0)) (npG g) := Ci.np W h60 (fun j => U4_ne (by omega)) (fun j => U4_ne (by omega))
    have n4 : npG g 4 0 = g 4 0 := np_ne g (by decide) 0
    have n22 : npG g 22 0 = g 22 0 := np_ne g (by decide) 0
    have n11 : npG g 11 0 = g 11 0 + 1 := np_11 g
    have e6 := eA 6 f (by omega)
    rw [← e6, ← eAq]
    have Zg : Rs gx x A u g h1 := Z.gar OT1 hg1
    have Zd1 : Rd gx x A' (U4 u (g 11 0)) (g 11 0) (npG g) h1 := ⟨R, W1.i, C1, W1.n⟩
    refine r_astore_n C dX4_startPiece_41 (i := 2) rfl (Nat.le_of_ble_eq_true rfl) ?_
    dsimp only [List.set]
    refine r_aload_n C dX4_startPiece_42 (i := 0) rfl rfl ?_
    refine r_aload_n C dX4_startPiece_43 (i := 2) rfl rfl ?_
    refine c_VX1 C dX4_startPiece_44 sX4_308 rfl R  rfl (Nat.le_of_ble_eq_true rfl) 0 0 (Nat.zero_le _) (Nat.zero_le _) (C_X4_bestPlace Zd1 b2.1 (show g 11 0 < npG g 11 0 by omega) ?_)
    refine r_astore_n C dX4_startPiece_47 (i := 3) rfl (Nat.le_of_ble_eq_true rfl) ?_
    dsimp only [List.set]
    refine r_aload_n C dX4_startPiece_48 (i := 3) rfl rfl ?_
    refine r_ifnonnull C dX4_startPiece_49 (t := 63) (by decide) (fun a49 c49 => ?_) (fun c49 => ?_)
    · skip
      have hbn := (nq_s c49).1
      refine r_aload_n C dX4_startPiece_63 (i := 0) rfl rfl ?_
      refine c_5_1 C dX4_startPiece_64 fX4_16 R  ?_
      refine r_aload_n C dX4_startPiece_67 (i := 2) rfl rfl ?_
      have LA := R.xx.2.2.2.2.1
      have qn := (R.q b2.1 (show g 11 0 < npG g 11 0 by omega)).1
      have hE : ∀ j, 0 ≤ j → j < g 11 0 → ∀ y, (fun i => some (A' 4 i)) j = some y → y ∈ hD h1 ∧ ∃ ci, ci < 7 ∧ hK h1 y = ci + 1 ∧ Cond.castable (cNm ci) "java/lang/Object" ∈ tb := fun j j0 j1 y hy => by
        have n := (R.q j0 (show j < npG g 11 0 by omega)).1
        have e : A' 4 j = y := Option.some.inj hy
        rw [← e]
        exact ⟨n.1, 4, by decide, n.2, castO_4⟩
      refine r_callV C (As := [vr (A' 4 (g 11 0))]) dX4_startPiece_68 sX4_58 (fun v hv => by rw [List.mem_singleton.mp hv]; rfl) (ci := 0) (by decide) rfl LA.1.1 LA.1.2 (Nat.le_of_ble_eq_true rfl) (Nat.le_of_ble_eq_true rfl) (Nat.le_of_ble_eq_true rfl) (C_AL_add1g LA (by omega) qn.1 qn.2 (by decide) castO_4 hE (fun h2 L2 => ?_))
      refine r_gxn C (fun hg2 => ?_)
      have R := R.wA L2 hg2 (fun k k0 k1 => by
        show (if k = g 11 0 then some (A' 4 (g 11 0)) else some (A' 4 k)) = _
        split
        · rename_i e; rw [e]
        · rfl)
      refine r_pop C dX4_startPiece_71 rfl ?_
      refine r_aload_n C dX4_startPiece_72 (i := 1) rfl rfl ?_
      refine c_2_3 C dX4_startPiece_73 fX4_124 R (by omega) (by omega) ?_
      refine r_aload_n C dX4_startPiece_76 (i := 2) rfl rfl ?_
      have u5 : ∀ q, U4 u (g 11 0) 5 q = u 5 q := fun q => U4_ne (by omega)
      have LF := (R.f f0 (show f < npG g 22 0 by omega)).2.2.2
      rw [u5, f5] at LF
      have qn := (R.q b2.1 (show g 11 0 < npG g 11 0 by omega)).1
      refine r_callV C (As := [vr (A' 4 (g 11 0))]) dX4_startPiece_77 sX4_58 (fun v hv => by rw [List.mem_singleton.mp hv]; rfl) (ci := 0) (by decide) rfl LF.1.1 LF.1.2 (Nat.le_of_ble_eq_true rfl) (Nat.le_of_ble_eq_true rfl) (Nat.le_of_ble_eq_true rfl) (C_AL_add1 LF (by omega) qn.1 qn.2 (by decide) castO_4 (fun h3 L3 => ?_))
      refine r_gxn C (fun hg3 => ?_)
      have n25 : npG g 25 f = g 25 f := np_ne g (by decide) f
      have n26 : ∀ j, npG g 26 j = g 26 j := fun j => np_ne g (by decide) j
      obtain ⟨S0, hS0⟩ : ∃ S0, S0 = rT (6 * f + g 25 f) (g 11 0) f (g 25 f + 1) (npG g) := ⟨_, rfl⟩
      have S0n : ∀ k, k ≠ 25 ∧ k ≠ 26 → ∀ j, S0 k j = npG g k j := fun k hk j => by rw [hS0]; exact rT_ne _ _ _ _ _ hk j
      have S025 : ∀ j, S0 25 j = if j = f then g 25 f + 1 else npG g 25 j := fun j => by rw [hS0]; exact rT_25 _ _ _ _ _ j
      have S026 : ∀ j, S0 26 j = if j = 6 * f + g 25 f then g 11 0 else npG g 26 j := fun j => by rw [hS0]; exact rT_26 _ _ _ _ _ j
      have R3 : Rp gx x A' (up (U4 u (g 11 0)) 5 f (g 25 f + 1)) (g 11 0 + 1) S0 h3 := by
        refine R.wR f0 (show f < npG g 22 0 by omega) L3 hg3 (fun q a b => ?_) up_self (fun k k0 k1 => ?_) (fun k j hk => ?_) (fun k j hk => ?_) ?_ (rgu R.ru ⟨by omega, by omega⟩)
        · rw [n22] at b
          have br := B.rw q a b
          rw [u5, (F.2 q a b).2]
          unfold rwG
          split <;> omega
        · show (if k = g 25 f then some (A' 4 (g 11 0)) else some (A' 4 (npG g 26 (6 * f + k)))) = _
          rw [S026]
          by_cases c : k = g 25 f
          · rw [if_pos c, if_pos (by omega)]
          · rw [if_neg c, if_neg (by omega)]
        · rw [hS0]
          unfold rT up
          rw [if_neg (by omega), if_neg (by omega)]
        · unfold up; rw [if_neg (by omega)]
        · rw [hS0]
          unfold rT
          exact rgu (rgu R.rg (R0.rg _ _)) ⟨by omega, by omega⟩
      have WS := iw_rT W1 (f := f) (v := g 11 0) (n := g 25 f) b2.1 (by omega) f0 (by omega) n25.symm (by omega)
      rw [← hS0] at WS
      have CS : CI (up (U4 u (g 11 0)) 5 f (g 25 f + 1)) S0 := C1.same (fun j => up_ne (by decide)) (fun j => up_ne (by decide)) (fun n p _ _ => by rw [S0n 18 (by decide)]) (S0n 4 (by decide) 0) (S0n 6 (by decide)) (S0n 11 (by decide) 0) (R.rvl (by omega))
      have eb : bestG (npG g) (g 11 0) = bestG S0 (g 11 0) := (best_cc (fun k hk j => S0n k hk j) _).symm
      have hbn0 := hbn
      rw [eb]
      have S011 : S0 11 0 = g 11 0 + 1 := (S0n 11 (by decide) 0).trans n11
      have S04 : S0 4 0 = g 4 0 := (S0n 4 (by decide) 0).trans n4
      have S022 : S0 22 0 = g 22 0 := (S0n 22 (by decide) 0).trans n22
      have S012 : S0 12 (g 11 0) = 1 := by rw [S0n 12 (by decide), np_12, if_pos rfl]
      have hh : hpP g := by
        have q := (bestG_b (npG g) (g 11 0) (by omega)).resolve_left hbn0
        refine ⟨⟨bestG (npG g) (g 11 0), q.1, by omega, ?_, ?_, ?_⟩, h60⟩
        · have := q.2.2.1.1; rw [np_ne g (by decide)] at this; exact this
        · have := q.2.2.1.2.1; rw [np_ne g (by decide)] at this; exact this
        · have := q.2.2.1.2.2; rw [load_np B W.z h60 q.1 (by omega), np_ne g (by decide)] at this; exact this
      refine r_pop C dX4_startPiece_80 rfl ?_
      refine r_iconst C dX4_startPiece_81 ?_
      refine r_istore C dX4_startPiece_82 (Nat.le_of_ble_eq_true rfl) ?_
      dsimp only [List.set]
      suffices LOOP : ∀ (m9 : Nat) (i : Int) (u2 : GT) (h2 : Hp) (cc ss : Nat), 3 - i < (m9 : Int) → 0 ≤ i → i ≤ 3 → Rw gx x A' u2 (g 11 0 + 1) (itrI (adF (g 11 0)) i S0) h2 → SU (up (U4 u (g 11 0)) 5 f (g 25 f + 1)) u2 → 3 - i ≤ cc → 10 * (3 - i) ≤ ss → J 84 [some (vr x), some (vr (A' 6 f)), some (vr (A' 4 (g 11 0))), some (vq (nq A' (bestG (itrI (adF (g 11 0)) i S0) (g 11 0)))), some (vi i)] [] h2 cc ss by
        exact LOOP 4 0 _ _ _ _ (by omega) (by omega) (by omega) ⟨R3, WS, CS⟩ (SU.refl _) (by decide) (by decide)
      intro m9
      induction m9 with
      | zero => intro i u2 h2 cc ss hm9 i0 i1 Z2 S2 hcc hss; exact absurd hm9 (by omega)
      | succ m9 ih9 =>
        intro i u2 h2 cc ss hm9 i0 i1 Z2 S2 hcc hss
        have T : ∀ k, k ≠ 16 ∧ k ≠ 17 ∧ k ≠ 18 ∧ k ≠ 19 ∧ k ≠ 21 → ∀ j, itrI (adF (g 11 0)) i S0 k j = S0 k j := fun k hk j => adi_ne (g 11 0) hk i S0 j
        have sn : itrI (adF (g 11 0)) (i + 1) S0 = adF (g 11 0) i (itrI (adF (g 11 0)) i S0) := itrI_s _ _ i0
        obtain ⟨s, hs⟩ : ∃ s, s = itrI (adF (g 11 0)) i S0 := ⟨_, rfl⟩
        rw [← hs] at T Z2 sn ⊢
        have R := Z2.1
        have s4 : s 4 0 = g 4 0 := (T 4 (by decide) 0).trans S04
        have s11 : s 11 0 = g 11 0 + 1 := (T 11 (by decide) 0).trans S011
        have s12 : s 12 (g 11 0) = 1 := (T 12 (by decide) _).trans S012
        have s22 : s 22 0 = g 22 0 := (T 22 (by decide) 0).trans S022
        refine r_iload C dX4_startPiece_84 rfl ?_
        refine r_iconst C dX4_startPiece_86 ?_
        refine r_ic_ge C dX4_startPiece_87 (t := 112) (by decide) (by first | assumption | exact R.rg _ _ | exact R.ru _ _ | (unfold inR; omega)) (by first | assumption | exact R.rg _ _ | exact R.ru _ _ | (unfold inR; omega)) (fun c87 => ?_) (fun c87 => ?_)
        · skip
          have ef : s = adG g f := by
            have e3 : itrI (adF (g 11 0)) 3 S0 = s := by rw [hs, show i = 3 by omega]
            rw [← e3, hS0, adi_T _ _ _ _ _ _ (by decide)]
            have e25 : ad1 g 25 f = g 25 f := by unfold ad1; rw [adi_ne _ (by decide), n25]
            unfold adG
            rw [e25]
            rfl
          obtain ⟨a1, a2, a3, a4, a5, a6, a7, a8, a9, a10⟩ := adG_f I W.z hh f0 f1 (by omega)
          rw [← ef] at a1 a2 a3 a4 a5 a6 a7 a8 a9 a10
          have R6 := Z2.1.h6 b2.1 (show g 11 0 < s 11 0 by omega) a7
          obtain ⟨u6, hu6⟩ : ∃ u6, u6 = up u2 6 (g 11 0) 1 := ⟨_, rfl⟩
          rw [← hu6] at R6
          have uu : ∀ k j, k ≠ 0 → k ≠ 3 → k ≠ 6 → u6 k j = up (U4 u (g 11 0)) 5 f (g 25 f + 1) k j := fun k j h0 h3 h6 => by rw [hu6, up_ne h6]; exact S2 k j h0 h3
          have C6 : CI u6 s := Z2.2.2.same (fun j => by rw [hu6, up_ne (by decide)]) (fun j => by rw [hu6, up_ne (by decide)]) (fun n q _ _ => Iff.rfl) rfl (fun _ => rfl) rfl (Z2.1.rvl (by omega))
          have s26 : ∀ j, s 26 j = if j = 6 * f + g 25 f then g 11 0 else g 26 j := fun j => by rw [T 26 (by decide), S026, n26]
          have s25 : ∀ j, s 25 j = if j = f then g 25 f + 1 else g 25 j := fun j => by rw [T 25 (by decide), S025, np_ne g (by decide)]
          have s23 : ∀ j, s 23 j = g 23 j := a5 23 (by decide)
          have fcf : ∀ q, fcG s q f = fcG g q f + (if g 11 0 = q then 1 else 0) := fun q => by
            unfold fcG
            rw [s25, if_pos rfl, cnt_s _ (by omega), cnt_c (f := fun k => decide (g 26 (6 * f + k) = q)) (f' := fun k => decide (s 26 (6 * f + k) = q)) (fun k k0 k1 => by rw [s26, if_neg (by omega)]), s26, if_pos rfl]
            by_cases c : g 11 0 = q
            · rw [if_pos c, if_pos (decide_eq_true c)]
            · rw [if_neg c, if_neg (by rw [decide_eq_true_iff]; exact c)]
          have fwt : ∀ q, fwG s q (-1) = fwG g q (-1) + (if g 11 0 = q then 1 else 0) := fun q => by
            have a := fw_row (g := g) (g' := s) f0 f1 h23 (a5 22 (by decide) 0) s23 (p := q) (fun r r0 r1 hr => fc_cg (by rw [s25, if_neg hr]) (fun k k0 k1 => by
              have b := B.rw r r0 r1
              rw [s26, if_neg (by omega)]))
            have b := fcf q
            omega
          have F6 : CF u6 s := by
            refine ⟨fun q a b => ?_, fun q a b => ?_⟩
            · rw [a2] at b
              rw [fwt q, uu 2 q (by decide) (by decide) (by decide), up_ne (by decide)]
              by_cases e : q = g 11 0
              · rw [if_pos e.symm, e, fw_np B (Int.le_refl _)]
                unfold U4
                rw [up_ne (by decide), up_self]
                omega
              · rw [if_neg (fun z => e z.symm), U4_ne (by omega), F.1 q a (by omega)]
                omega
            · rw [a5 22 (by decide)] at b
              rw [uu 4 q (by decide) (by decide) (by decide), uu 5 q (by decide) (by decide) (by decide), up_ne (by decide), U4_ne (by omega), s23, up_at]
              have c := F.2 q a b
              unfold rwG at c ⊢
              rw [s23, s25]
              by_cases e : q = f
              · rw [if_pos e, if_pos e, e, if_neg h23]
                exact ⟨(F.2 f f0 f1).1, rfl⟩
              · rw [if_neg e, if_neg e, U4_ne (by omega)]
                exact c
          have t1 : s 1 0 = g 1 0 := a5 1 (by decide) 0
          have Z6 : Rs gx x A' u6 s h2 := by
            show Rt gx x A' (s 11 0) (s 1 0) u6 s h2
            rw [a2, t1]
            refine ⟨⟨R6, Z2.2.1, C6⟩, F6, fun q a b => ?_, fun q a b => ?_⟩
            · rw [hu6, up_at]
              by_cases c : q = g 11 0
              · rw [if_pos c]
              · rw [if_neg c, S2 6 q (by decide) (by decide), up_ne (by decide), U4_ne (by omega)]
                exact Z.2.2.1 q a (by omega)
            · rw [uu 1 q (by decide) (by decide) (by decide), up_ne (by decide)]
              by_cases c : q = g 11 0
              · rw [c]
                unfold U4
                rw [up_ne (by decide), up_ne (by decide), up_self]
                omega
              · rw [U4_ne (by omega)]
                exact Z.2.2.2 q a (by omega)
          rw [ef] at Z6
          refine r_ret C dX4_startPiece_112 rfl ?_
          exact K ⟨by omega, hh⟩ _ _ _ Z6 e6
        · skip
          refine r_aload_n C dX4_startPiece_90 (i := 3) rfl rfl ?_
          refine r_ifnull C dX4_startPiece_91 (t := 112) (by decide) (fun c91 => ?_) (fun a91 c91 => ?_)
          · skip
            have ef : s = adG g f := by
              have hb0 := nq_n c91
              have e3 : itrI (adF (g 11 0)) 3 S0 = s := itr_st (fun _ => by unfold adF; exact if_pos hb0) i0 i1 hs.symm
              rw [← e3, hS0, adi_T _ _ _ _ _ _ (by decide)]
              have e25 : ad1 g 25 f = g 25 f := by unfold ad1; rw [adi_ne _ (by decide), n25]
              unfold adG
              rw [e25]
              rfl
            obtain ⟨a1, a2, a3, a4, a5, a6, a7, a8, a9, a10⟩ := adG_f I W.z hh f0 f1 (by omega)
            rw [← ef] at a1 a2 a3 a4 a5 a6 a7 a8 a9 a10
            have R6 := Z2.1.h6 b2.1 (show g 11 0 < s 11 0 by omega) a7
            obtain ⟨u6, hu6⟩ : ∃ u6, u6 = up u2 6 (g 11 0) 1 := ⟨_, rfl⟩
            rw [← hu6] at R6
            have uu : ∀ k j, k ≠ 0 → k ≠ 3 → k ≠ 6 → u6 k j = up (U4 u (g 11 0)) 5 f (g 25 f + 1) k j := fun k j h0 h3 h6 => by rw [hu6, up_ne h6]; exact S2 k j h0 h3
            have C6 : CI u6 s := Z2.2.2.same (fun j => by rw [hu6, up_ne (by decide)]) (fun j => by rw [hu6, up_ne (by decide)]) (fun n q _ _ => Iff.rfl) rfl (fun _ => rfl) rfl (Z2.1.rvl (by omega))
            have s26 : ∀ j, s 26 j = if j = 6 * f + g 25 f then g 11 0 else g 26 j := fun j => by rw [T 26 (by decide), S026, n26]
            have s25 : ∀ j, s 25 j = if j = f then g 25 f + 1 else g 25 j := fun j => by rw [T 25 (by decide), S025, np_ne g (by decide)]
            have s23 : ∀ j, s 23 j = g 23 j := a5 23 (by decide)
            have fcf : ∀ q, fcG s q f = fcG g q f + (if g 11 0 = q then 1 else 0) := fun q => by
              unfold fcG
              rw [s25, if_pos rfl, cnt_s _ (by omega), cnt_c (f := fun k => decide (g 26 (6 * f + k) = q)) (f' := fun k => decide (s 26 (6 * f + k) = q)) (fun k k0 k1 => by rw [s26, if_neg (by omega)]), s26, if_pos rfl]
              by_cases c : g 11 0 = q
              · rw [if_pos c, if_pos (decide_eq_true c)]
              · rw [if_neg c, if_neg (by rw [decide_eq_true_iff]; exact c)]
            have fwt : ∀ q, fwG s q (-1) = fwG g q (-1) + (if g 11 0 = q then 1 else 0) := fun q => by
              have a := fw_row (g := g) (g' := s) f0 f1 h23 (a5 22 (by decide) 0) s23 (p := q) (fun r r0 r1 hr => fc_cg (by rw [s25, if_neg hr]) (fun k k0 k1 => by
                have b := B.rw r r0 r1
                rw [s26, if_neg (by omega)]))
              have b := fcf q
              omega
            have F6 : CF u6 s := by
              refine ⟨fun q a b => ?_, fun q a b => ?_⟩
              · rw [a2] at b
                rw [fwt q, uu 2 q (by decide) (by decide) (by decide), up_ne (by decide)]
                by_cases e : q = g 11 0
                · rw [if_pos e.symm, e, fw_np B (Int.le_refl _)]
                  unfold U4
                  rw [up_ne (by decide), up_self]
                  omega
                · rw [if_neg (fun z => e z.symm), U4_ne (by omega), F.1 q a (by omega)]
                  omega
              · rw [a5 22 (by decide)] at b
                rw [uu 4 q (by decide) (by decide) (by decide), uu 5 q (by decide) (by decide) (by decide), up_ne (by decide), U4_ne (by omega), s23, up_at]
                have c := F.2 q a b
                unfold rwG at c ⊢
                rw [s23, s25]
                by_cases e : q = f
                · rw [if_pos e, if_pos e, e, if_neg h23]
                  exact ⟨(F.2 f f0 f1).1, rfl⟩
                · rw [if_neg e, if_neg e, U4_ne (by omega)]
                  exact c
            have t1 : s 1 0 = g 1 0 := a5 1 (by decide) 0
            have Z6 : Rs gx x A' u6 s h2 := by
              show Rt gx x A' (s 11 0) (s 1 0) u6 s h2
              rw [a2, t1]
              refine ⟨⟨R6, Z2.2.1, C6⟩, F6, fun q a b => ?_, fun q a b => ?_⟩
              · rw [hu6, up_at]
                by_cases c : q = g 11 0
                · rw [if_pos c]
                · rw [if_neg c, S2 6 q (by decide) (by decide), up_ne (by decide), U4_ne (by omega)]
                  exact Z.2.2.1 q a (by omega)
              · rw [uu 1 q (by decide) (by decide) (by decide), up_ne (by decide)]
                by_cases c : q = g 11 0
                · rw [c]
                  unfold U4
                  rw [up_ne (by decide), up_ne (by decide), up_self]
                  omega
                · rw [U4_ne (by omega)]
                  exact Z.2.2.2 q a (by omega)
            rw [ef] at Z6
            refine r_ret C dX4_startPiece_112 rfl ?_
            exact K ⟨by omega, hh⟩ _ _ _ Z6 e6
          · skip
            have hbs := (nq_s c91).1
            rw [nq_1 hbs]
            have bb := (bestG_b s (g 11 0) (by omega)).resolve_left hbs
            obtain ⟨n, en⟩ : ∃ n, n = bestG s (g 11 0) := ⟨_, rfl⟩
            rw [← en] at bb ⊢
            have hkn : ¬ KN s (g 11 0) n := Z2.2.1.i.nk b2.1 (by omega) bb.2.2.2
            refine r_aload_n C dX4_startPiece_94 (i := 3) rfl rfl ?_
            refine r_aload_n C dX4_startPiece_95 (i := 2) rfl rfl ?_
            refine r_anull C dX4_startPiece_96 ?_
            refine c_S3 C dX4_startPiece_97 sX4_313 rfl rfl rfl (Nat.le_of_ble_eq_true rfl) 1 10 (by omega) (by omega) (C_X4_addCopy0 Z2 bb.1 bb.2.1 b2.1 (show g 11 0 < s 11 0 by omega) bb.2.2.1.2.2 bb.2.2.2 hkn s12 (fun u3 h3 R3 C3 S3 => ?_))
            have e9 : adF (g 11 0) i s = knG (ad3 s n (g 11 0)) (g 11 0) n := by
              unfold adF
              rw [← en, if_neg (by omega)]
              rfl
            have W3 := iw_ad3 Z2.2.1 (p := g 11 0) b2.1 (by omega) bb.1 bb.2.1 s12
            have W4 := iw_kn W3 b2.1 (show g 11 0 < ad3 s n (g 11 0) 11 0 by rw [ad3_ne _ _ _ (by decide)]; omega) bb.1 (show n < ad3 s n (g 11 0) 4 0 by rw [ad3_ne _ _ _ (by decide)]; omega) (fun z => hkn ((KN.c (fun j => ad3_ne _ _ _ (by decide) j) (fun j => ad3_ne _ _ _ (by decide) j) _ _).mp z)) (by rw [ad3_18, if_pos rfl, ad3_ne _ _ _ (by decide), s12])
            have Z3 : Rw gx x A' u3 (g 11 0 + 1) (knG (ad3 s n (g 11 0)) (g 11 0) n) h3 := ⟨R3, W4, C3⟩
            rw [← e9] at Z3
            have R := Z3.1
            have a11 := (adF_ne (g 11 0) (k := 11) (by decide) i s 0)
            refine r_aload_n C dX4_startPiece_100 (i := 0) rfl rfl ?_
            refine r_aload_n C dX4_startPiece_101 (i := 2) rfl rfl ?_
            refine c_VX1 C dX4_startPiece_102 sX4_308 rfl R  rfl (Nat.le_of_ble_eq_true rfl) 0 0 (Nat.zero_le _) (Nat.zero_le _) (C_X4_bestPlace Z3.z b2.1 (show g 11 0 < adF (g 11 0) i s 11 0 by omega) ?_)
            refine r_astore_n C dX4_startPiece_105 (i := 3) rfl (Nat.le_of_ble_eq_true rfl) ?_
            dsimp only [List.set]
            refine r_iinc C dX4_startPiece_106 rfl ?_
            dsimp only [List.set]
            refine r_goto C dX4_startPiece_109 (t := 84) (by decide) ?_
            rw [← sn] at Z3 ⊢
            exact ih9 _ _ _ _ _ (by omega) (by omega) (by omega) Z3 (S2.trans S3) (by omega) (by omega)
    · skip
      have hb0 := nq_n c49
      refine r_thr C tX4_startPiece_52 rfl (by omega) (Nat.le_of_ble_eq_true rfl) (Nat.le_of_ble_eq_true rfl) (Nat.le_of_ble_eq_true rfl) ?_
      refine kx (fun z => ?_) _ Zg
      obtain ⟨n, n0, n1, n2⟩ := z.2.1
      refine best_some (g := npG g) (p := g 11 0) (n := n) (i := npG g 4 0) n0 (by omega) ⟨by rw [np_ne g (by decide)]; exact n2.1, by rw [np_ne g (by decide)]; exact n2.2.1, ?_⟩ ?_ hb0
      · rw [load_np B W.z h60 n0 (by omega), np_ne g (by decide)]
        exact n2.2.2
      · rw [np_ne g (by decide)]
        exact W.z n (g 11 0) n0 (by omega) b2.1 h60 (Or.inr (Int.le_refl _))
  · skip
    refine r_thr C tX4_startPiece_12 rfl (by omega) (Nat.le_of_ble_eq_true rfl) (by omega) (by omega) ?_
    exact kx (fun z => by have := z.1; omega) _ Z

