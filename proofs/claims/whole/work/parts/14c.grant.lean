/-! ===== the class: writing ===== -/
theorem cnt_all {f : Int → Bool} {n : Int} (n0 : 0 ≤ n) (h : ∀ k, 0 ≤ k → k < n → f k = true) : cnt f n = n := by
  have e := cnt_c (f := fun _ => true) (f' := f) (N := n) (fun k a b => h k a b)
  rw [e]
  have key : ∀ m : Nat, cnt (fun _ => true) (m : Int) = m := by
    intro m
    induction m with
    | zero => rfl
    | succ m ih => rw [show ((m + 1 : Nat) : Int) = (m : Int) + 1 by omega, cnt_s _ (by omega), ih, if_pos rfl]
  have := key n.toNat
  rwa [Int.toNat_of_nonneg n0] at this
theorem ls1_rg {g s : GT} (r : ∀ k j, inR (s k j)) (r2 : ∀ k j, inR (g k j)) (B : BD g) {p : Int} (p0 : 0 ≤ p) (p1 : p < g 11 0) : ∀ k j, inR (ls1 g p k j) := by
  have bc := B.cp p p0 p1
  have := itrI_ind (P := fun s => (-8 ≤ s 16 p ∧ s 16 p ≤ 8) ∧ (0 ≤ s 16 p) ∧ ∀ k j, inR (s k j)) (lsF p) (g := g) (n := g 4 0) ⟨by omega, bc.1, r2⟩ (fun n s _ _ S => by
    unfold lsF
    split
    · have pb := plG_b (g := s) (p := p) (n := n)
      refine ⟨?_, ?_, fun k j => ?_⟩
      · rw [fq_16]; split <;> omega
      · rw [fq_16]
        split
        · rename_i z
          have := pb.resolve_left z.2
          omega
        · exact S.2.1
      · unfold fgtG
        split
        · exact S.2.2 k j
        · unfold shf
          split
          · exact ⟨by omega, by omega⟩
          · split <;> exact S.2.2 _ _
    · exact S)
  exact this.2.2

set_option maxRecDepth 100000 in
set_option maxHeartbeats 4000000 in
theorem C_X4_grantLease {gx : GX} {d : Nat} {Qr : Option AV → Hp → Prop} {Qx : String → Hp → Prop} {x : Nat} {A : Nat → Int → Nat} {u : GT} {m : Int} {g : GT} {h : Hp} {p : Int} (Z : Rw gx x A u m g h) (p0 : 0 ≤ p) (p1 : p < g 11 0) (hu : fuG g p ≠ -1) (hv : g 12 p < 1000000) (ht : 0 ≤ g 1 0 ∧ g 1 0 ≤ 3001) (K : ∀ h1, Rw gx x A u m (lsG g p) h1 → Qr none h1) : aM gx (d + 6) mX4_grantLease [vr x, vr (A 4 p)] h 0 0 Qr Qx := by
  intro J C
  show J 0 [some (vr x), some (vr (A 4 p)), none, none, none] [] h 0 0
  have R := Z.1; have W := Z.2.1; have Ci := Z.2.2; have I := W.i; have B := W.b; have b1 := B.nn; have b2 := B.np; have b3 := B.nf; have Zd := Z.z; have bcp := B.cp p p0 p1; have vp := I.2.2.2.2 p p0 p1
  have fu := (fu_kn g p).resolve_left hu
  have fub := KN.r B p0 p1 fu.1
  have LS := ls_f I p0 p1 hu
  refine r_aload_n C dX4_grantLease_0 (i := 1) rfl rfl ?_
  refine c_S1 C dX4_grantLease_1 sX4_296 rfl (Nat.le_of_ble_eq_true rfl) 0 0 (Nat.zero_le _) (Nat.zero_le _) (C_X4_firstUpHolder Zd p0 p1 ?_)
  rw [nq_1 hu]
  refine r_astore_n C dX4_grantLease_4 (i := 2) rfl (Nat.le_of_ble_eq_true rfl) ?_
  dsimp only [List.set]
  refine r_aload_n C dX4_grantLease_5 (i := 2) rfl rfl ?_
  refine r_ifnonnull C dX4_grantLease_6 (t := 20) (by decide) (fun a6 c6 => ?_) (fun c6 => ?_)
  · skip
    refine r_aload_n C dX4_grantLease_20 (i := 1) rfl rfl ?_
    refine c_4_6 C dX4_grantLease_21 fX4_184 R (by omega) (by omega) ?_
    refine c_szH C dX4_grantLease_24 sX4_44 R (by omega) (by omega) (Nat.le_of_ble_eq_true rfl) ?_
    refine r_iconst C dX4_grantLease_27 ?_
    refine r_isub C dX4_grantLease_28 ?_
    refine r_istore_n C dX4_grantLease_29 (i := 3) rfl (Nat.le_of_ble_eq_true rfl) ?_
    dsimp only [List.set]
    suffices LOOP : ∀ (m9 : Nat) (i : Int) (s : GT) (h2 : Hp), i + 1 < (m9 : Int) → -1 ≤ i → i < g 16 p → Rp gx x A u m s h2 → BD s → PB g p (g 16 p) (fun k => decide (k ≤ i ∨ g 7 (g 17 (8 * p + k)) ≠ 0)) s → (∀ k, k ≠ 16 → k ≠ 17 → ∀ j, s k j = g k j) → (∀ j, j ≠ p → s 16 j = g 16 j) → (∀ j, ¬ (8 * p ≤ j ∧ j < 8 * p + 8) → s 17 j = g 17 j) → J 30 [some (vr x), some (vr (A 4 p)), some (vr (A 0 (fuG g p))), some (vi i), none] [] h2 0 0 by
      exact LOOP ((g 16 p).toNat + 1) (g 16 p - 1) g h (by omega) (by omega) (by omega) R B ((PB.z rfl bcp.1).c (fun k k0 k1 => decide_eq_true (Or.inl (by omega)))) (fun _ _ _ _ => rfl) (fun _ _ => rfl) (fun _ _ => rfl)
    intro m9
    induction m9 with
    | zero => intro i s h2 hm9 i0 i1 R BS P T T16 T17; exact absurd hm9 (by omega)
    | succ m9 ih9 =>
      intro i s h2 hm9 i0 i1 R BS P T T16 T17
      have s4 := T 4 (by decide) (by decide) 0
      have s11 := T 11 (by decide) (by decide) 0
      have bcs := BS.cp p p0 (by omega)
      refine r_iload_n C dX4_grantLease_30 (i := 3) rfl rfl ?_
      refine r_if_lt C dX4_grantLease_31 (t := 66) (by decide) (by first | assumption | exact R.rg _ _ | exact R.ru _ _ | (unfold inR; omega)) (fun c31 => ?_) (fun c31 => ?_)
      · skip
        have ei : i = -1 := by omega
        have PL := ls1_PB W p0 p1
        have P0 : PB g p (g 16 p) (fun k => decide (g 7 (g 17 (8 * p + k)) ≠ 0)) s := P.c (fun k k0 k1 => by
          by_cases c : g 7 (g 17 (8 * p + k)) ≠ 0
          · rw [decide_eq_true c, decide_eq_true (Or.inr c)]
          · rw [decide_eq_false c, decide_eq_false (by omega)])
        have PE := P0.eq PL bcp.1
        have ot := ls1_ot B p0 p1
        have R1 : Rp gx x A u m (ls1 g p) h2 := by
          refine R.c17 (p := p) (fun k j hk => ?_) (fun q a b => (BS.cp q a b).2) (fun k k0 k1 => (PE.2 k k0 k1).symm) (ls1_rg R.rg Z.1.rg B p0 p1)
          by_cases c : k = 16 ∨ k = 17
          · rcases c with rfl | rfl
            · by_cases d : j = p
              · rw [d]; exact PE.1.symm
              · rw [ot.1 j d, T16 j d]
            · rw [ot.2 j (by omega), T17 j (by omega)]
          · rw [ls1_ne g p (by omega), T k (by omega) (by omega)]
        have l2 : ∀ k, k ≠ 12 → k ≠ 16 → k ≠ 17 → ∀ j, ls2 g p k j = g k j := fun k a b c j => (up_ne a).trans (ls1_ne g p ⟨b, c⟩ j)
        have l1v : ls1 g p 12 p = g 12 p := ls1_ne g p (by decide) p
        have l1n : ls1 g p 11 0 = g 11 0 := ls1_ne g p (by decide) 0
        have lsx : ∀ k, k = 16 ∨ k = 17 → ∀ j, lsG g p k j = ls2 g p k j := fun k hk j => by
          unfold lsG
          rw [up_ne (by omega), up_ne (by omega)]
          exact lh_ne _ _ _ k (by omega) j
        refine r_aload_n C dX4_grantLease_66 (i := 1) rfl rfl ?_
        refine r_dup C dX4_grantLease_67 rfl ?_
        refine c_4_1 C dX4_grantLease_68 fX4_181 R1 p0 (by omega) ?_
        refine r_iconst C dX4_grantLease_71 ?_
        refine r_iadd C dX4_grantLease_72 ?_
        refine r_putI C dX4_grantLease_73 fX4_181 (Or.inl rfl) (Or.inl rfl) (R1.q p0 (by omega)).1.1 (R1.q p0 (by omega)).1.2 ?_
        have R2 : Rp gx x A u m (itrI (lhF p) 0 (ls2 g p)) (wI h2 (A 4 p) (1 : Nat) (ls1 g p 12 p + 1)) := R1.pc_ver p0 (by omega) ⟨by omega, by omega⟩
        have l2 : ∀ k, k ≠ 12 ∧ k ≠ 16 ∧ k ≠ 17 → ∀ j, ls2 g p k j = g k j := fun k a j => l2 k a.1 a.2.1 a.2.2 j
        have BL := LS.1.1
        have l16 : 0 ≤ ls2 g p 16 p ∧ ls2 g p 16 p ≤ 8 := by
          have := BL.cp p p0 (by rw [LS.2.1 11 (by decide)]; exact p1)
          rw [lsx 16 (by omega)] at this
          exact this
        have ls12 : ls2 g p 12 p = g 12 p + 1 := by
          unfold ls2
          rw [up_self, l1v]
        refine r_iconst C dX4_grantLease_76 ?_
        refine r_istore_n C dX4_grantLease_77 (i := 3) rfl (Nat.le_of_ble_eq_true rfl) ?_
        dsimp only [List.set]
        suffices LOOP : ∀ (m8 : Nat) (i : Int) (h2 : Hp) (y : Option AV), ls2 g p 16 p - i < (m8 : Int) → 0 ≤ i → i ≤ ls2 g p 16 p → Rp gx x A u m (itrI (lhF p) i (ls2 g p)) h2 → (∀ j, 0 < itrI (lhF p) i (ls2 g p) 18 j ↔ 0 < g 18 j) → J 78 [some (vr x), some (vr (A 4 p)), some (vr (A 0 (fuG g p))), some (vi i), y] [] h2 0 0 by
          exact LOOP ((ls2 g p 16 p).toNat + 1) 0 _ _ (by omega) (by omega) (by omega) R2 (fun j => by rw [itrI_0, l2 18 (by decide)])
        intro m8
        induction m8 with
        | zero => intro i h2 y hm8 i0 i1 R P18; exact absurd hm8 (by omega)
        | succ m8 ih8 =>
          intro i h2 y hm8 i0 i1 R P18
          have T := lh_ne (ls2 g p) p i
          obtain ⟨s, hs⟩ : ∃ s, s = itrI (lhF p) i (ls2 g p) := ⟨_, rfl⟩
          rw [← hs] at R P18 T
          have s16 := T 16 (by decide)
          have s16p := s16 p
          have s17 := T 17 (by decide)
          have s12 := T 12 (by decide) p
          have s11 : s 11 0 = g 11 0 := (T 11 (by decide) 0).trans (l2 11 (by decide) 0)
          have s4 : s 4 0 = g 4 0 := (T 4 (by decide) 0).trans (l2 4 (by decide) 0)
          have s6 : ∀ n, s 6 n = g 6 n := fun n => (T 6 (by decide) n).trans (l2 6 (by decide) n)
          have s19 : ∀ n, s 19 n = g 19 n := fun n => (T 19 (by decide) n).trans (l2 19 (by decide) n)
          refine r_iload_n C dX4_grantLease_78 (i := 3) rfl rfl ?_
          refine r_aload_n C dX4_grantLease_79 (i := 1) rfl rfl ?_
          refine c_4_6 C dX4_grantLease_80 fX4_184 R (by omega) (by omega) ?_
          refine c_szH C dX4_grantLease_83 sX4_44 R (by omega) (by omega) (Nat.le_of_ble_eq_true rfl) ?_
          refine r_ic_ge C dX4_grantLease_86 (t := 126) (by decide) (by first | assumption | exact R.rg _ _ | exact R.ru _ _ | (unfold inR; omega)) (by first | assumption | exact R.rg _ _ | exact R.ru _ _ | (unfold inR; omega)) (fun c86 => ?_) (fun c86 => ?_)
          · skip
            have ei : i = ls2 g p 16 p := by omega
            rw [hs, ei] at R
            have e3 : ls3 g p = itrI (lhF p) (ls2 g p 16 p) (ls2 g p) := rfl
            rw [← e3] at R
            have t : ∀ k, k ≠ 18 ∧ k ≠ 12 ∧ k ≠ 16 ∧ k ≠ 17 → ∀ j, ls3 g p k j = g k j := fun k hk j => (lh_ne _ _ _ k hk.1 j).trans (l2 k hk.2 j)
            have t1 := t 1 (by decide) 0
            have t4 := t 4 (by decide) 0
            have t11 := t 11 (by decide) 0
            refine r_aload_n C dX4_grantLease_126 (i := 1) rfl rfl ?_
            refine r_aload_n C dX4_grantLease_127 (i := 2) rfl rfl ?_
            refine r_putP C dX4_grantLease_128 fX4_190 (Or.inl rfl) rfl (R.q p0 (by omega)).1.1 (R.q p0 (by omega)).1.2 ?_
            refine r_aload_n C dX4_grantLease_131 (i := 1) rfl rfl ?_
            refine r_aload_n C dX4_grantLease_132 (i := 0) rfl rfl ?_
            refine r_getI C dX4_grantLease_133 fX4_22 rfl R.xx.1.1 R.xx.1.2 ?_
            rw [show hI (wP h2 (A 4 p) (3 : Nat) (some (A 0 (fuG g p)))) x (3 : Nat) = ls3 g p 1 0 from R.xx.2.2.1.1]
            refine r_bipush C dX4_grantLease_136 (by decide) ?_
            refine r_iadd C dX4_grantLease_138 ?_
            refine r_putI C dX4_grantLease_139 fX4_198 (Or.inl rfl) (Or.inl rfl) (R.q p0 (by omega)).1.1 (R.q p0 (by omega)).1.2 ?_
            refine r_ret C dX4_grantLease_142 rfl ?_
            have e17 : ls3 g p 17 (8 * p) = fuG g p := by
              have q := LS.2.2.2.1
              unfold lsG at q
              rw [up_ne (by decide), up_ne (by decide)] at q
              exact q
            have RF := R.pc_ls (v := fuG g p) (w := ls3 g p 1 0 + 10) (r := some (A 0 (fuG g p))) p0 (by omega) ⟨by omega, by omega⟩ ⟨by omega, by omega⟩ (by rw [if_neg hu])
            have el : lsG g p = up (up (ls3 g p) 13 p (fuG g p)) 14 p (ls3 g p 1 0 + 10) := by
              unfold lsG
              rw [e17]
            rw [← el] at RF
            refine K _ ⟨RF, iw_ls W p0 p1 hu, Ci.same (fun _ => rfl) (fun _ => rfl) (fun n q _ _ => ?_) (LS.2.1 4 (by decide) 0) (LS.2.1 6 (by decide)) (LS.2.1 11 (by decide) 0) (Z.1.rvl b2.1)⟩
            rw [el, up_ne (by decide), up_ne (by decide), e3, ← ei, ← hs]
            exact P18 _
          · skip
            have c86b : i < ls2 g p 16 p := by rw [← s16]; exact c86
            refine r_aload_n C dX4_grantLease_89 (i := 1) rfl rfl ?_
            refine c_4_6 C dX4_grantLease_90 fX4_184 R (by omega) (by omega) ?_
            
            refine r_iload_n C dX4_grantLease_93 (i := 3) rfl rfl ?_
            refine c_gtH C dX4_grantLease_94 sX4_127 R (by omega) (by omega) (by omega) (by omega) (Nat.le_of_ble_eq_true rfl) ?_
            have bcy := BL.cy p i p0 (by rw [LS.2.1 11 (by decide)]; exact p1) i0 (by rw [lsx 16 (by omega)]; exact c86b)
            rw [lsx 17 (by omega), LS.2.1 4 (by decide)] at bcy
            rw [s17]
            have hkn : KN (lsG g p) p (ls2 g p 17 (8 * p + i)) := ⟨i, i0, by rw [lsx 16 (by omega)]; exact c86b, lsx 17 (by omega) _⟩
            obtain ⟨n, en⟩ : ∃ n, n = ls2 g p 17 (8 * p + i) := ⟨_, rfl⟩
            rw [← en] at bcy hkn ⊢
            have hk0 := ((LS.2.2.2.2.2.2.2 n).mp hkn).1
            have hhas := I.2.2.2.1 p n p0 p1 hk0
            have hpos : 0 < s 18 (60 * n + p) := (P18 _).mpr (by omega)
            have Cs : CI u s := Ci.same (fun _ => rfl) (fun _ => rfl) (fun n q _ _ => P18 _) s4 s6 s11 (Z.1.rvl b2.1)
            refine c_castN C dX4_grantLease_97 kX4_53 R (by omega) (by omega) ?_
            refine r_aload_n C dX4_grantLease_100 (i := 1) rfl rfl ?_
            refine c_VN1 C dX4_grantLease_101 sX4_82 rfl R (by omega) (by omega) rfl (Nat.le_of_ble_eq_true rfl) 0 0 (Nat.zero_le _) (Nat.zero_le _) (C_X2_copyOfP R bcy.1 (show n < s 4 0 by omega) p0 (show p < s 11 0 by omega) (fun j j0 j1 hj => ?_) (fun no => ?_))
            · skip
              refine r_astore C dX4_grantLease_104 (Nat.le_of_ble_eq_true rfl) ?_
              dsimp only [List.set]
              refine r_aload C dX4_grantLease_106 rfl ?_
              refine r_ifnull C dX4_grantLease_108 (t := 120) (by decide) (fun c108 => ?_) (fun a108 c108 => ?_)
              · skip
                cases c108
              · skip
                refine r_aload C dX4_grantLease_111 rfl ?_
                refine r_aload_n C dX4_grantLease_113 (i := 1) rfl rfl ?_
                refine c_4_1 C dX4_grantLease_114 fX4_181 R (by omega) (by omega) ?_
                have sl := R.s bcy.1 (show n < s 4 0 by omega) j0 j1
                have oc := R.oc bcy.1 (show n < s 4 0 by omega) j0 j1 hj p0
                refine r_putI C dX4_grantLease_117 fX4_210 (Or.inl rfl) (Or.inl rfl) sl.2.1.1 sl.2.1.2 ?_
                have R3 : Rp gx x A u m (up s 18 (60 * n + p) (s 12 p)) (wI h2 (A 2 (12 * n + j)) (1 : Nat) (s 12 p)) := by
                  have k10 := sl.2.2.1.2.2.1
                  have k2 := sl.2.1.2
                  have ne : A 3 (12 * n + j) ≠ A 2 (12 * n + j) := fun z => by rw [z] at k10; omega
                  refine R.slotI bcy.1 (show n < s 4 0 by omega) j0 j1 hj p0 (by omega) (Cs.inj bcy.1 (by omega) j0 j1 hj p0) (fun t => by rw [s19]; exact (I.2.2.1 t).2) (OT.wi h2 (Or.inl rfl) _ _) rfl (fun _ _ => rfl) ⟨?_, ?_, ?_, fun c c0 c1 => ?_⟩ (fun k t a b => ?_) (rgu R.rg (R.rg _ _))
                  · rw [i_wi, if_pos ⟨rfl, rfl⟩, up_self]
                  · rw [i_wi, if_neg (by omega), up_ne (by decide)]; exact oc.2.2.2.1
                  · rw [i_wi, if_neg (by omega), up_ne (by decide)]; exact oc.2.2.2.2.1
                  · rw [up_ne (by decide)] at c1
                    rw [i_wi, if_neg (fun z => ne z.1), up_ne (by decide)]; exact oc.2.2.2.2.2 c c0 c1
                  · unfold up; rw [if_neg (by omega)]
                refine r_iinc C dX4_grantLease_120 rfl ?_
                dsimp only [List.set]
                refine r_goto C dX4_grantLease_123 (t := 78) (by decide) ?_
                refine ih8 _ _ _ (by omega) (by omega) (by omega) (by rw [itrI_s _ _ i0, ← hs]; unfold lhF; rw [s17, ← en]; exact R3) (fun j => ?_)
                rw [itrI_s _ _ i0, ← hs]
                unfold lhF
                rw [s17, ← en, up_at]
                by_cases c : j = 60 * n + p
                · rw [if_pos c, c]
                  have q := (P18 (60 * n + p)).mp hpos
                  exact ⟨fun _ => q, fun _ => by omega⟩
                · rw [if_neg c]; exact P18 j
            · skip
              obtain ⟨j, j0, j1, hj⟩ := Cs.cov bcy.1 (show n < s 4 0 by omega) p0 (show p < s 11 0 by omega) hpos
              exact absurd hj (no j j0 j1)
      · skip
        have fb : ∀ k, 0 ≤ k → k < i → (fun k => decide (k ≤ i ∨ g 7 (g 17 (8 * p + k)) ≠ 0)) k = true := fun k k0 k1 => decide_eq_true (Or.inl (by omega))
        have ci := cnt_all (f := (fun k => decide (k ≤ i ∨ g 7 (g 17 (8 * p + k)) ≠ 0))) (n := i) (by omega) fb
        have fi : (fun k => decide (k ≤ i ∨ g 7 (g 17 (8 * p + k)) ≠ 0)) i = true := decide_eq_true (Or.inl (Int.le_refl i))
        have hlt := cnt_lt (fun k => decide (k ≤ i ∨ g 7 (g 17 (8 * p + k)) ≠ 0)) (a := i) (by omega) i1 fi
        rw [ci] at hlt
        have hli : i < s 16 p := by rw [P.1]; exact hlt
        have e17 : s 17 (8 * p + i) = g 17 (8 * p + i) := by
          have := P.2 i (by omega) i1 fi
          rw [ci] at this
          exact this
        have bcy := BS.cy p i p0 (by omega) (by omega) hli
        refine r_aload_n C dX4_grantLease_34 (i := 1) rfl rfl ?_
        refine c_4_6 C dX4_grantLease_35 fX4_184 R (by omega) (by omega) ?_
        refine r_iload_n C dX4_grantLease_38 (i := 3) rfl rfl ?_
        refine c_gtH C dX4_grantLease_39 sX4_127 R (by omega) (by omega) (by omega) (by omega) (Nat.le_of_ble_eq_true rfl) ?_
        refine c_castN C dX4_grantLease_42 kX4_53 R (by omega) (by omega) ?_
        refine c_3_4 C dX4_grantLease_45 fX4_69 R (by omega) (by omega) ?_
        refine r_if_ne C dX4_grantLease_48 (t := 60) (by decide) (by first | assumption | exact R.rg _ _ | exact R.ru _ _ | (unfold inR; omega)) (fun c48 => ?_) (fun c48 => ?_)
        · skip
          have e7 := T 7 (by decide) (by decide) (s 17 (8 * p + i))
          refine r_iinc C dX4_grantLease_60 rfl ?_
          dsimp only [List.set]
          refine r_goto C dX4_grantLease_63 (t := 30) (by decide) ?_
          first
            | exact ih9 _ _ _ (by omega) (by omega) (by omega) R BS (P.c (fun k k0 k1 => by
                by_cases c : k ≤ i ∨ g 7 (g 17 (8 * p + k)) ≠ 0
                · refine (decide_eq_true ?_).trans (decide_eq_true c).symm
                  by_cases e : k = i
                  · right; rw [e, ← e17]; omega
                  · omega
                · exact (decide_eq_false (by omega)).trans (decide_eq_false c).symm)) T T16 T17
            | exact ih9 _ _ _ (by omega) (by omega) (by omega) R3 (bd_shf BS p0 (by omega) (by omega) hli) P3 (fun k a b j => by rw [shf_ne _ _ _ _ a b]; exact T k a b j) (fun j hj => by rw [shf_16n _ _ _ _ hj]; exact T16 j hj) (fun j hj => by rw [shf_17, if_neg (by omega)]; exact T17 j hj)
        · skip
          have e7 := T 7 (by decide) (by decide) (s 17 (8 * p + i))
          refine r_aload_n C dX4_grantLease_51 (i := 1) rfl rfl ?_
          refine c_4_6 C dX4_grantLease_52 fX4_184 R (by omega) (by omega) ?_
          refine r_iload_n C dX4_grantLease_55 (i := 3) rfl rfl ?_
          have Lh := (R.q p0 (show p < s 11 0 by omega)).2.2.2.2
          have hE : ∀ j, 0 ≤ j → j < s 16 p → ∀ y, (fun k => some (A 0 (s 17 (8 * p + k)))) j = some y → y ∈ hD h2 ∧ ∃ ci, ci < 7 ∧ hK h2 y = ci + 1 ∧ Cond.castable (cNm ci) "java/lang/Object" ∈ tb := fun j j0 j1 y hy => by
            have bj := BS.cy p j p0 (by omega) j0 j1
            have n := (R.n bj.1 bj.2).1
            have e : A 0 (s 17 (8 * p + j)) = y := Option.some.inj hy
            rw [← e]
            exact ⟨n.1, 3, by decide, n.2, castO_3⟩
          refine r_callV C (As := [vi i]) dX4_grantLease_56 sX4_339 (fun v hv => by rw [List.mem_singleton.mp hv]; rfl) (ci := 0) (by decide) rfl Lh.1.1 Lh.1.2 (Nat.le_of_ble_eq_true rfl) (Nat.zero_le _) (Nat.zero_le _) (C_AL_remove Lh (by omega) hli hE (fun h3 L3 => ?_))
          refine r_gxn C (fun hg => ?_)
          have R3 := R.rm BS p0 (by omega) (by omega) hli L3 hg
          have P3 : PB g p (g 16 p) (fun k => decide (k ≤ i - 1 ∨ g 7 (g 17 (8 * p + k)) ≠ 0)) (shf s p i (s 16 p - 1)) := by
            have q := P.rm (z := i) (f' := fun k => decide (k ≤ i - 1 ∨ g 7 (g 17 (8 * p + k)) ≠ 0)) (by omega) i1 fi (decide_eq_false (by have e7 := T 7 (by decide) (by decide) (s 17 (8 * p + i)); rw [← e17]; omega)) (fun k k0 k1 kz => by
              by_cases c : k ≤ i ∨ g 7 (g 17 (8 * p + k)) ≠ 0
              · exact (decide_eq_true (by omega)).trans (decide_eq_true c).symm
              · exact (decide_eq_false (by omega)).trans (decide_eq_false c).symm)
            rw [ci] at q
            exact q
          refine r_pop C dX4_grantLease_59 rfl ?_
          refine r_iinc C dX4_grantLease_60 rfl ?_
          dsimp only [List.set]
          refine r_goto C dX4_grantLease_63 (t := 30) (by decide) ?_
          first
            | exact ih9 _ _ _ (by omega) (by omega) (by omega) R BS (P.c (fun k k0 k1 => by
                by_cases c : k ≤ i ∨ g 7 (g 17 (8 * p + k)) ≠ 0
                · refine (decide_eq_true ?_).trans (decide_eq_true c).symm
                  by_cases e : k = i
                  · right; rw [e, ← e17]; omega
                  · omega
                · exact (decide_eq_false (by omega)).trans (decide_eq_false c).symm)) T T16 T17
            | exact ih9 _ _ _ (by omega) (by omega) (by omega) R3 (bd_shf BS p0 (by omega) (by omega) hli) P3 (fun k a b j => by rw [shf_ne _ _ _ _ a b]; exact T k a b j) (fun j hj => by rw [shf_16n _ _ _ _ hj]; exact T16 j hj) (fun j hj => by rw [shf_17, if_neg (by omega)]; exact T17 j hj)
  · skip
    cases c6

