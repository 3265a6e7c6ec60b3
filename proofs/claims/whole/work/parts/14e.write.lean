/-! ===== the class: writing everywhere ===== -/
theorem pl_fu {g : GT} (W : IW g) {p : Int} (p0 : 0 ≤ p) (p1 : p < g 11 0) : (if leaseP g p ∧ g 7 (g 13 p) ≠ 0 then g 13 p else fuG g p) = fuG g p := by
  split
  · rename_i h; exact pr_fu W p0 p1 h
  · rfl
theorem fu_18 {g : GT} (W : IW g) {p : Int} (p0 : 0 ≤ p) (p1 : p < g 11 0) (h : fuG g p ≠ -1) : 0 < g 18 (60 * fuG g p + p) := by
  have a := (fu_kn g p).resolve_left h
  have b := W.i.2.2.2.1 p _ p0 p1 a.1
  have c := W.i.2.2.2.2 p p0 p1
  omega
theorem C_X4_primaryLengthF {gx : GX} {d : Nat} {Qr : Option AV → Hp → Prop} {Qx : String → Hp → Prop} {x : Nat} {A : Nat → Int → Nat} {u : GT} {m : Int} {g : GT} {h : Hp} {p : Int} (Z : Rw gx x A u m g h) (p0 : 0 ≤ p) (p1 : p < g 11 0) (K : fuG g p ≠ -1 → Qr (some (vi (g 19 (60 * fuG g p + p)))) h) (kx : fuG g p = -1 → Qx "java/lang/IllegalStateException" h) : aM gx (d + 6) mX4_primaryLength [vr x, vr (A 4 p)] h 1 6 Qr Qx := by
  refine C_X4_primaryLength Z.z p0 p1 (Z.2.1.p.b Z.2.1.b p0 p1) (fun n hn h1 h2 => ?_) (fun q => ?_)
  · rw [pl_fu Z.2.1 p0 p1] at hn
    rw [hn]
    exact K (by rw [← hn]; exact h1)
  · rw [pl_fu Z.2.1 p0 p1] at q
    rcases q with q | ⟨n, hn, n0, n1, n2⟩
    · exact kx q
    · exfalso
      have := fu_18 Z.2.1 p0 p1 (by rw [← hn]; omega)
      rw [← hn] at this
      omega
/-- the pieces of a row are different ones -/
def RO (g : GT) : Prop := ∀ f i j, 0 ≤ f → f < g 22 0 → 0 ≤ i → i < j → j < g 25 f → g 26 (6 * f + i) ≠ g 26 (6 * f + j)
theorem fw_own {g : GT} {f : Int} (f0 : 0 ≤ f) (f1 : f < g 22 0) (h : g 23 f ≠ 2) (p : Int) : fwG g p f = fwG g p (-1) - fcG g p f := by
  unfold fwG
  rw [sum_off (f := fun q => if g 23 q ≠ 2 ∧ q ≠ -1 then fcG g p q else 0) f0 f1 (fun k k0 k1 ne => by
    by_cases c : g 23 k ≠ 2
    · rw [if_pos ⟨c, ne⟩, if_pos ⟨c, by omega⟩]
    · rw [if_neg (fun z => c z.1), if_neg (fun z => c z.1)])]
  rw [if_pos ⟨h, by omega⟩, if_neg (fun z => z.2 rfl)]
  omega
theorem fc_own {g : GT} (ro : RO g) {f w : Int} (f0 : 0 ≤ f) (f1 : f < g 22 0) (w0 : 0 ≤ w) (w1 : w < g 25 f) : fcG g (g 26 (6 * f + w)) f = 1 := by
  have a := cnt_off (f := fun k => decide (g 26 (6 * f + k) = g 26 (6 * f + w))) (f' := fun k => if k = w then false else decide (g 26 (6 * f + k) = g 26 (6 * f + w))) w0 w1 (decide_eq_true rfl) (if_pos rfl) (fun k _ _ hk => if_neg hk)
  have b : cnt (fun k => if k = w then false else decide (g 26 (6 * f + k) = g 26 (6 * f + w))) (g 25 f) = 0 := cnt_z (fun k k0 k1 => by
    show (if k = w then false else decide (g 26 (6 * f + k) = g 26 (6 * f + w))) = false
    split
    · rfl
    · rename_i c
      refine decide_eq_false (fun e => ?_)
      rcases Int.lt_trichotomy k w with q | q | q
      · exact ro f k w f0 f1 k0 q w1 e
      · exact c q
      · exact ro f w k f0 f1 w0 q k1 e.symm)
  unfold fcG
  omega

set_option maxRecDepth 100000 in
set_option maxHeartbeats 4000000 in
theorem C_X4_endOfLastPiece {gx : GX} {d : Nat} {Qr : Option AV → Hp → Prop} {Qx : String → Hp → Prop} {x : Nat} {A : Nat → Int → Nat} {u g : GT} {h : Hp} {f : Int} (Z : Rs gx x A u g h) (f0 : 0 ≤ f) (f1 : f < g 22 0) (h23 : g 23 f ≠ 2) (K : g 25 f = 0 → Qr (some (vi 4)) h) (K2 : 1 ≤ g 25 f → fuG g (g 26 (6 * f + (g 25 f - 1))) ≠ -1 → Qr (some (vi (g 19 (60 * fuG g (g 26 (6 * f + (g 25 f - 1))) + g 26 (6 * f + (g 25 f - 1)))))) h) (kx : 1 ≤ g 25 f → fuG g (g 26 (6 * f + (g 25 f - 1))) = -1 → Qx "java/lang/IllegalStateException" h) : aM gx (d + 7) mX4_endOfLastPiece [vr x, vr (A 6 f)] h 1 6 Qr Qx := by
  intro J C
  show J 0 [some (vr x), some (vr (A 6 f)), none] [] h 1 6
  have R := Z.1.1; have W := Z.1.2.1; have Ci := Z.1.2.2; have F := Z.2.1; have I := W.i; have B := W.b; have b1 := B.nn; have b2 := B.np; have b3 := B.nf; have Zd := Z.1.z
  have b25 := B.rw f f0 f1
  have f5 : u 5 f = g 25 f := (F.2 f f0 f1).2.trans (if_neg h23)
  refine r_aload_n C dX4_endOfLastPiece_0 (i := 1) rfl rfl ?_
  refine c_2_3 C dX4_endOfLastPiece_1 fX4_124 R (by omega) (by omega) ?_
  refine c_szR C dX4_endOfLastPiece_4 sX4_44 R (by omega) (by omega) (Nat.le_of_ble_eq_true rfl) ?_
  rw [f5]
  refine r_istore_n C dX4_endOfLastPiece_7 (i := 2) rfl (Nat.le_of_ble_eq_true rfl) ?_
  dsimp only [List.set]
  refine r_iload_n C dX4_endOfLastPiece_8 (i := 2) rfl rfl ?_
  refine r_if_ne C dX4_endOfLastPiece_9 (t := 16) (by decide) (by first | assumption | exact R.rg _ _ | exact R.ru _ _ | (unfold inR; omega)) (fun c9 => ?_) (fun c9 => ?_)
  · skip
    have h1 : 1 ≤ g 25 f := by omega
    have bre := B.re f (g 25 f - 1) f0 f1 (by omega) (by omega)
    refine r_aload_n C dX4_endOfLastPiece_16 (i := 0) rfl rfl ?_
    refine r_aload_n C dX4_endOfLastPiece_17 (i := 1) rfl rfl ?_
    refine c_2_3 C dX4_endOfLastPiece_18 fX4_124 R (by omega) (by omega) ?_
    refine r_iload_n C dX4_endOfLastPiece_21 (i := 2) rfl rfl ?_
    refine r_iconst C dX4_endOfLastPiece_22 ?_
    refine r_isub C dX4_endOfLastPiece_23 ?_
    refine c_gtR C dX4_endOfLastPiece_24 sX4_127 R (by omega) (by omega) (by omega) (by omega) (Nat.le_of_ble_eq_true rfl) ?_
    refine c_castQ C dX4_endOfLastPiece_27 kX4_131 R (by omega) (by omega) ?_
    refine c_VX1 C dX4_endOfLastPiece_30 sX4_162 rfl R  rfl (Nat.le_of_ble_eq_true rfl) 1 6 (Nat.le_of_ble_eq_true rfl) (Nat.le_of_ble_eq_true rfl) (C_X4_primaryLengthF Z.1 bre.1 bre.2 (fun hf => ?_) (fun hf => kx h1 hf))
    refine r_iret C dX4_endOfLastPiece_33 (Or.inl rfl) ?_
    first | exact K2 h1 hf | exact K (by omega)
  · skip
    refine r_iconst C dX4_endOfLastPiece_12 ?_
    refine r_goto C dX4_endOfLastPiece_13 (t := 33) (by decide) ?_
    refine r_iret C dX4_endOfLastPiece_33 (Or.inl rfl) ?_
    first | exact K2 h1 hf | exact K (by omega)

set_option maxRecDepth 100000 in
set_option maxHeartbeats 4000000 in
theorem C_X4_writeEverywhere {gx : GX} {d : Nat} {Qr : Option AV → Hp → Prop} {Qx : String → Hp → Prop} {x : Nat} {A : Nat → Int → Nat} {u g : GT} {h : Hp} {f w c y : Int} (Z : Rs gx x A u g h) (f0 : 0 ≤ f) (f1 : f < g 22 0) (w0 : 0 ≤ w) (w1 : w < g 25 f) (c0 : 0 ≤ c) (c1 : c < 4) (hy : inR y) (h23 : g 23 f ≠ 2) (rk : RK g) (ro : RO g) (ht : 0 ≤ g 1 0 ∧ g 1 0 ≤ 3000) (hv : ∀ j, g 12 j < 1000000) (hu : fuG g (g 26 (6 * f + w)) ≠ -1) (K : (¬ 0 < fwG g (g 26 (6 * f + w)) f ∨ cpP g (g 26 (6 * f + w))) → ∀ A' u' h1 z, BV z (waP (rdG g f w) (rdP g f w)) → Rs gx x A' u' (wwG (rdG g f w) (rdP g f w) c y z) h1 → Qr (some (vi z)) h1) (kx : 0 < fwG g (g 26 (6 * f + w)) f → ¬ cpP g (g 26 (6 * f + w)) → Qx "java/lang/IllegalStateException" h) : aM gx (d + 9) mX4_writeEverywhere [vr x, vr (A 6 f), vi w, vi c, vi y] h 30 400 Qr Qx := by
  intro J C
  show J 0 [some (vr x), some (vr (A 6 f)), some (vi w), some (vi c), some (vi y), none, none, none, none, none] [] h 30 400
  have TAIL2 : ∀ (A : Nat → Int → Nat) (u r : GT) (q : Int) (h : Hp) (cc ss fa : Nat) (l6 l7 l8 l9 : Option AV), Rs gx x A u r h → 0 ≤ q → q < r 11 0 → (∀ (A1 : Nat → Int → Nat) (u1 : GT) (h1 : Hp) (z : Int), BV z (waP (r) q) → Rs gx x A1 u1 (wwG (r) q c y z) h1 → Qr (some (vi z)) h1) → J 41 [some (vr x), some (vr fa), some (vi w), some (vi c), some (vi y), some (vr (A 4 q)), l6, l7, l8, l9] [] h cc ss := by
    intro A u r q h cc ss fa l6 l7 l8 l9 Z q0 q1 K
    have R := Z.1.1; have W := Z.1.2.1; have Ci := Z.1.2.2; have F := Z.2.1; have I := W.i; have B := W.b; have b1 := B.nn; have b2 := B.np; have b3 := B.nf; have Zd := Z.1.z; have bcp := B.cp q q0 q1
    refine r_iconst C dX4_writeEverywhere_41 ?_
    refine r_istore C dX4_writeEverywhere_42 (Nat.le_of_ble_eq_true rfl) ?_
    dsimp only [List.set]
    refine r_iconst C dX4_writeEverywhere_44 ?_
    refine r_istore C dX4_writeEverywhere_45 (Nat.le_of_ble_eq_true rfl) ?_
    dsimp only [List.set]
    suffices LOOP : ∀ (m9 : Nat) (i : Int) (b : Int) (h2 : Hp) (y8 y9 : Option AV), r 16 q - i < (m9 : Int) → 0 ≤ i → i ≤ r 16 q → Rs gx x A u (itrI (waF q c y) i r) h2 → BV b (∀ k, 0 ≤ k → k < i → r 7 (r 17 (8 * q + k)) ≠ 0) → J 47 [some (vr x), some (vr fa), some (vi w), some (vi c), some (vi y), some (vr (A 4 q)), some (vi b), some (vi i), y8, y9] [] h2 cc ss by
      exact LOOP ((r 16 q).toNat + 1) 0 1 _ _ _ (by omega) (by omega) (by omega) Z (Or.inl ⟨rfl, fun k a b => by omega⟩)
    intro m9
    induction m9 with
    | zero => intro i b h2 y8 y9 hm9 i0 i1 Z2 B2; exact absurd hm9 (by omega)
    | succ m9 ih9 =>
      intro i b h2 y8 y9 hm9 i0 i1 Z2 B2
      have T := (wa_i I.2.2.1 q y i c0 c1).2
      obtain ⟨s, hs⟩ : ∃ s, s = itrI (waF q c y) i r := ⟨_, rfl⟩
      rw [← hs] at T Z2
      have R := Z2.1.1
      have Ci2 := Z2.1.2.2
      have W2 := Z2.1.2.1
      have s4 := T 4 (by decide) 0
      have s11 := T 11 (by decide) 0
      have s16 := T 16 (by decide) q
      have s7 := T 7 (by decide)
      have s17 := T 17 (by decide)
      have s6 := T 6 (by decide)
      have bb := B2.b
      have bbr : inR b := by unfold inR; omega
      refine r_iload C dX4_writeEverywhere_47 rfl ?_
      refine r_aload C dX4_writeEverywhere_49 rfl ?_
      refine c_4_6 C dX4_writeEverywhere_51 fX4_184 R (by omega) (by omega) ?_
      refine c_szH C dX4_writeEverywhere_54 sX4_44 R (by omega) (by omega) (Nat.le_of_ble_eq_true rfl) ?_
      refine r_ic_ge C dX4_writeEverywhere_57 (t := 117) (by decide) (by first | assumption | exact R.rg _ _ | exact R.ru _ _ | (unfold inR; omega)) (by first | assumption | exact R.rg _ _ | exact R.ru _ _ | (unfold inR; omega)) (fun c57 => ?_) (fun c57 => ?_)
      · skip
        have ei : i = r 16 q := by omega
        have es : s = wa1 r q c y := by rw [hs, ei]; rfl
        have BE : BV b (waP r q) := by rw [ei] at B2; exact B2
        refine r_iload C dX4_writeEverywhere_117 rfl ?_
        refine r_if_ne C dX4_writeEverywhere_119 (t := 127) (by decide) (by first | assumption | exact R.rg _ _ | exact R.ru _ _ | (unfold inR; omega)) (fun c119 => ?_) (fun c119 => ?_)
        · skip
          have Z4 : Rs gx x A u (wwG r q c y b) h2 := by
            unfold wwG
            rw [if_neg c119, ← es]
            exact Z2
          refine r_iload C dX4_writeEverywhere_127 rfl ?_
          refine r_iret C dX4_writeEverywhere_129 (Or.inr ⟨rfl, (by first | assumption | omega | decide)⟩) ?_
          exact K _ _ _ b BE Z4
        · skip
          refine r_aload C dX4_writeEverywhere_122 rfl ?_
          refine c_VQ0 C dX4_writeEverywhere_124 sX4_329 rfl R (by omega) (by omega)  (Nat.le_of_ble_eq_true rfl) 0 0 (Nat.zero_le _) (Nat.zero_le _) (C_X3_endLease R q0 (by omega) (fun h3 R3 => ?_))
          have en : ∀ k, k ≠ 13 ∧ k ≠ 14 → ∀ j, elG s q k j = s k j := fun k hk j => by unfold elG; rw [up_ne hk.2, up_ne hk.1]
          have Z3 : Rs gx x A u (elG s q) h3 := by
            show Rt gx x A (elG s q 11 0) (elG s q 1 0) _ _ _
            rw [en 11 (by decide), en 1 (by decide)]
            exact Z2.su ⟨R3, iw_el W2 q, Ci2.same (fun _ => rfl) (fun _ => rfl) (fun n p _ _ => by rw [en 18 (by decide)]) (en 4 (by decide) 0) (en 6 (by decide)) (en 11 (by decide) 0) (R.rvl (by omega))⟩ (SU.refl _) (fun k hk j => en k (by omega) j)
          have Z4 : Rs gx x A u (wwG r q c y b) h3 := by
            unfold wwG
            rw [if_pos c119, ← es]
            exact Z3
          refine r_iload C dX4_writeEverywhere_127 rfl ?_
          refine r_iret C dX4_writeEverywhere_129 (Or.inr ⟨rfl, (by first | assumption | omega | decide)⟩) ?_
          exact K _ _ _ b BE Z4
      · skip
        refine r_aload C dX4_writeEverywhere_60 rfl ?_
        refine c_4_6 C dX4_writeEverywhere_62 fX4_184 R (by omega) (by omega) ?_
        refine r_iload C dX4_writeEverywhere_65 rfl ?_
        refine c_gtH C dX4_writeEverywhere_67 sX4_127 R (by omega) (by omega) (by omega) (by omega) (Nat.le_of_ble_eq_true rfl) ?_
        have bcy := B.cy q i q0 q1 i0 (by omega)
        rw [s17]
        obtain ⟨n, en⟩ : ∃ n, n = r 17 (8 * q + i) := ⟨_, rfl⟩
        rw [← en] at bcy ⊢
        have s7n := s7 n
        refine c_castN C dX4_writeEverywhere_70 kX4_53 R (by omega) (by omega) ?_
        refine r_astore C dX4_writeEverywhere_73 (Nat.le_of_ble_eq_true rfl) ?_
        dsimp only [List.set]
        refine r_aload C dX4_writeEverywhere_75 rfl ?_
        refine r_aload C dX4_writeEverywhere_77 rfl ?_
        refine c_VN1 C dX4_writeEverywhere_79 sX4_82 rfl R (by omega) (by omega) rfl (Nat.le_of_ble_eq_true rfl) 0 0 (Nat.zero_le _) (Nat.zero_le _) (C_X2_copyOfP R bcy.1 (show n < s 4 0 by omega) q0 (show q < s 11 0 by omega) (fun j j0 j1 hj => ?_) (fun no => ?_))
        · skip
          refine r_astore C dX4_writeEverywhere_82 (Nat.le_of_ble_eq_true rfl) ?_
          dsimp only [List.set]
          refine r_aload C dX4_writeEverywhere_84 rfl ?_
          refine c_3_4 C dX4_writeEverywhere_86 fX4_69 R (by omega) (by omega) ?_
          refine r_if_eq C dX4_writeEverywhere_89 (t := 108) (by decide) (by first | assumption | exact R.rg _ _ | exact R.ru _ _ | (unfold inR; omega)) (fun c89 => ?_) (fun c89 => ?_)
          · skip
            have e9 : waF q c y i s = s := by
              unfold waF
              rw [s17, ← en]
              exact if_neg (fun z => z c89)
            have Z3 := Z2
            have B3 : BV 0 (∀ k, 0 ≤ k → k < i + 1 → r 7 (r 17 (8 * q + k)) ≠ 0) := Or.inr ⟨rfl, fun a => a i i0 (by omega) (by rw [← en]; omega)⟩
            refine r_iconst C dX4_writeEverywhere_108 ?_
            refine r_istore C dX4_writeEverywhere_109 (Nat.le_of_ble_eq_true rfl) ?_
            dsimp only [List.set]
            refine r_iinc C dX4_writeEverywhere_111 rfl ?_
            dsimp only [List.set]
            refine r_goto C dX4_writeEverywhere_114 (t := 47) (by decide) ?_
            exact ih9 _ _ _ _ _ (by omega) (by omega) (by omega) (by rw [itrI_s _ _ i0, ← hs, e9]; exact Z3) B3
          · skip
            have e9 : waF q c y i s = wrG s n q c y := by
              unfold waF
              rw [s17, ← en]
              exact if_pos c89
            have B3 : BV b (∀ k, 0 ≤ k → k < i + 1 → r 7 (r 17 (8 * q + k)) ≠ 0) := B2.iff ⟨fun a k k0 k1 => by
              by_cases e : k = i
              · rw [e, ← en]; omega
              · exact a k k0 (by omega), fun a k k0 k1 => a k k0 (by omega)⟩
            refine r_aload C dX4_writeEverywhere_92 rfl ?_
            refine r_ifnull C dX4_writeEverywhere_94 (t := 108) (by decide) (fun c94 => ?_) (fun a94 c94 => ?_)
            · skip
              cases c94
            · skip
              refine r_aload C dX4_writeEverywhere_97 rfl ?_
              refine r_iload_n C dX4_writeEverywhere_99 (i := 3) rfl rfl ?_
              refine r_iload C dX4_writeEverywhere_100 rfl ?_
              refine c_VS2 C dX4_writeEverywhere_102 sX4_325 rfl R (by omega) (by omega) (by omega) (by omega) rfl rfl (Nat.le_of_ble_eq_true rfl) 0 0 (Nat.zero_le _) (Nat.zero_le _) (C_X0_write R bcy.1 (show n < s 4 0 by omega) j0 j1 hj q0 (Ci2.inj bcy.1 (show n < s 4 0 by omega) j0 j1 hj q0) W2.i.2.2.1 (by omega) c0 c1 hy (fun h3 R3 => ?_))
              have wn : ∀ k, k ≠ 19 ∧ k ≠ 20 ∧ k ≠ 21 → ∀ j, wrG s n q c y k j = s k j := fun k hk j => wr_ne s n q c y hk j
              have Z3 : Rs gx x A u (wrG s n q c y) h3 := by
                show Rt gx x A (wrG s n q c y 11 0) (wrG s n q c y 1 0) _ _ _
                rw [wn 11 (by decide), wn 1 (by decide)]
                exact Z2.su ⟨R3, iw_wr W2 n q y c0 c1, Ci2.same (fun _ => rfl) (fun _ => rfl) (fun n p _ _ => by rw [wn 18 (by decide)]) (wn 4 (by decide) 0) (wn 6 (by decide)) (wn 11 (by decide) 0) (R.rvl (by omega))⟩ (SU.refl _) (fun k hk j => wn k (by omega) j)
              refine r_goto C dX4_writeEverywhere_105 (t := 111) (by decide) ?_
              refine r_iinc C dX4_writeEverywhere_111 rfl ?_
              dsimp only [List.set]
              refine r_goto C dX4_writeEverywhere_114 (t := 47) (by decide) ?_
              exact ih9 _ _ _ _ _ (by omega) (by omega) (by omega) (by rw [itrI_s _ _ i0, ← hs, e9]; exact Z3) B3
        · skip
          have z0 := Ci2.no W2.n bcy.1 (show n < s 4 0 by omega) q0 (show q < s 11 0 by omega) no
          have z1 := W2.i.2.2.2.1 q n q0 (show q < s 11 0 by omega) ⟨i, i0, by omega, (s17 _).trans en.symm⟩
          have z2 := W2.i.2.2.2.2 q q0 (show q < s 11 0 by omega)
          omega
  have TAIL : ∀ (A : Nat → Int → Nat) (u s : GT) (q : Int) (h : Hp) (cc ss fa : Nat), Rs gx x A u s h → 0 ≤ q → q < s 11 0 → fuG s q ≠ -1 → s 12 q < 1000000 → (0 ≤ s 1 0 ∧ s 1 0 ≤ 3001) → (∀ (A1 : Nat → Int → Nat) (u1 : GT) (h1 : Hp) (z : Int), BV z (waP (if leaseP s q ∧ s 7 (s 13 q) ≠ 0 then s else lsG s q) q) → Rs gx x A1 u1 (wwG (if leaseP s q ∧ s 7 (s 13 q) ≠ 0 then s else lsG s q) q c y z) h1 → Qr (some (vi z)) h1) → J 26 [some (vr x), some (vr fa), some (vi w), some (vi c), some (vi y), some (vr (A 4 q)), none, none, none, none] [] h cc ss := by
    intro A u s q h cc ss fa Z q0 q1 hu hv ht K
    have R := Z.1.1; have W := Z.1.2.1; have Ci := Z.1.2.2; have F := Z.2.1; have I := W.i; have B := W.b; have b1 := B.nn; have b2 := B.np; have b3 := B.nf; have Zd := Z.1.z
    refine r_aload_n C dX4_writeEverywhere_26 (i := 0) rfl rfl ?_
    refine r_aload C dX4_writeEverywhere_27 rfl ?_
    refine c_VX1 C dX4_writeEverywhere_29 sX4_293 rfl R  rfl (Nat.le_of_ble_eq_true rfl) 0 0 (Nat.zero_le _) (Nat.zero_le _) (C_X4_isPrimaryUp Zd q0 q1 (W.p.b B q0 q1) (fun z hz hb => ?_))
    have hb01 := hb.b
    refine r_if_ne C dX4_writeEverywhere_32 (t := 41) (by decide) (by first | assumption | exact R.rg _ _ | exact R.ru _ _ | (unfold inR; omega)) (fun c32 => ?_) (fun c32 => ?_)
    · skip
      rw [if_pos (hb.t c32)] at K
      exact TAIL2 _ _ _ _ _ _ _ _ _ _ _ _ Z q0 q1 K
    · skip
      rw [if_neg (hb.f c32)] at K
      refine r_aload_n C dX4_writeEverywhere_35 (i := 0) rfl rfl ?_
      refine r_aload C dX4_writeEverywhere_36 rfl ?_
      refine c_VX1 C dX4_writeEverywhere_38 sX4_321 rfl R  rfl (Nat.le_of_ble_eq_true rfl) 0 0 (Nat.zero_le _) (Nat.zero_le _) (C_X4_grantLease Z.1 q0 q1 hu hv ht (fun h3 R3 => ?_))
      have LS := ls_f I q0 q1 hu
      have Z3 : Rs gx x A u (lsG s q) h3 := by
        show Rt gx x A (lsG s q 11 0) (lsG s q 1 0) _ _ _
        rw [LS.2.1 11 (by decide), LS.2.1 1 (by decide)]
        exact Z.su R3 (SU.refl _) (fun k hk j => LS.2.1 k (by omega) j)
      exact TAIL2 _ _ _ _ _ _ _ _ _ _ _ _ Z3 q0 (by rw [LS.2.1 11 (by decide)]; exact q1) K
  have R := Z.1.1; have W := Z.1.2.1; have Ci := Z.1.2.2; have F := Z.2.1; have I := W.i; have B := W.b; have b1 := B.nn; have b2 := B.np; have b3 := B.nf; have Zd := Z.1.z; have po := B.re f w f0 f1 w0 w1; have b25 := B.rw f f0 f1
  have f5 : u 5 f = g 25 f := (F.2 f f0 f1).2.trans (if_neg h23)
  have own := fc_own ro f0 f1 w0 w1
  obtain ⟨p, ep⟩ : ∃ p, p = g 26 (6 * f + w) := ⟨_, rfl⟩
  rw [← ep] at po hu K kx own
  have ow := fw_own f0 f1 h23 p
  have fb := fwb B p f
  have u2p := F.1 p po.1 po.2
  have wr : inR w := ⟨by omega, by omega⟩
  refine r_aload_n C dX4_writeEverywhere_0 (i := 1) rfl rfl ?_
  refine r_iload_n C dX4_writeEverywhere_1 (i := 2) rfl rfl ?_
  refine c_S2 C dX4_writeEverywhere_2 sX4_158 rfl rfl (Nat.le_of_ble_eq_true rfl) 1 6 (Nat.le_of_ble_eq_true rfl) (Nat.le_of_ble_eq_true rfl) (C_X4_pieceInFile R f0 f1 wr (by omega) (fun k k0 k1 => B.re f k f0 f1 k0 (by omega)) (fun _ => ?_) (fun hn => absurd (⟨w0, by omega⟩ : 0 ≤ w ∧ w < u 5 f) hn))
  rw [← ep]
  refine r_astore C dX4_writeEverywhere_5 (Nat.le_of_ble_eq_true rfl) ?_
  dsimp only [List.set]
  refine r_aload C dX4_writeEverywhere_7 rfl ?_
  refine c_4_2 C dX4_writeEverywhere_9 fX4_133 R (by omega) (by omega) ?_
  refine r_iconst C dX4_writeEverywhere_12 ?_
  refine r_ic_le C dX4_writeEverywhere_13 (t := 26) (by decide) (by first | assumption | exact R.rg _ _ | exact R.ru _ _ | (unfold inR; omega)) (by first | assumption | exact R.rg _ _ | exact R.ru _ _ | (unfold inR; omega)) (fun c13 => ?_) (fun c13 => ?_)
  · skip
    have hs : ¬ 0 < fwG g p f := by omega
    have K := K (Or.inl hs)
    have e1 : rd1 g f w = g := by unfold rd1; rw [← ep, if_neg hs]
    have e2 : rdP g f w = p := by unfold rdP; rw [← ep, if_neg hs]
    unfold rdG at K
    simp only [e1, e2] at K
    exact TAIL _ _ _ _ _ _ _ _ Z po.1 po.2 hu (hv p) (by omega) K
  · skip
    have hs : 0 < fwG g p f := by omega
    have e1 : rd1 g f w = ptG g f w := by unfold rd1; rw [← ep, if_pos hs]
    have e2 : rdP g f w = g 11 0 := by unfold rdP; rw [← ep, if_pos hs]
    refine r_aload_n C dX4_writeEverywhere_16 (i := 0) rfl rfl ?_
    refine r_aload_n C dX4_writeEverywhere_17 (i := 1) rfl rfl ?_
    refine r_iload_n C dX4_writeEverywhere_18 (i := 2) rfl rfl ?_
    refine r_aload C dX4_writeEverywhere_19 rfl ?_
    refine c_VX3 C dX4_writeEverywhere_21 sX4_317 rfl R  rfl rfl rfl (Nat.le_of_ble_eq_true rfl) 20 300 (Nat.le_of_ble_eq_true rfl) (Nat.le_of_ble_eq_true rfl) (C_X4_partPiece Z f0 f1 w0 w1 h23 ep.symm rk ht.1 (fun hcp A3 u3 h3 Z3 => ?_) (fun hn => kx hs hn))
    have K := K (Or.inr hcp)
    unfold rdG at K
    simp only [e1, e2] at K
    obtain ⟨p1, p2, p3, p4, p5, p6, p7⟩ := ptG_f I W.z f0 f1 w0 w1 (by rw [← ep]; exact hcp)
    have kn0 : KN (ptG g f w) (g 11 0) (ptG g f w 17 (8 * g 11 0 + 0)) := ⟨0, by omega, p7, rfl⟩
    have hu0 := p6 _ kn0
    have fun0 : fuG (ptG g f w) (g 11 0) ≠ -1 := fu_ne p1.1 b2.1 (by omega) kn0 (by rw [p5 7 (by decide)]; exact hu0.1)
    refine r_astore C dX4_writeEverywhere_24 (Nat.le_of_ble_eq_true rfl) ?_
    dsimp only [List.set]
    exact TAIL _ _ _ _ _ _ _ _ Z3 b2.1 (by omega) fun0 (by omega) (by rw [p5 1 (by decide)]; omega) K

