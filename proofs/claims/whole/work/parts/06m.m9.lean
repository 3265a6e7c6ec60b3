/-! ===== the reference: balancing; a second as a whole ===== -/
def bmN (g : GT) : Nat → Int
  | 0 => -1
  | n + 1 => if (g 9 n ≠ 0 ∧ g 7 n ≠ 0) ∧ (bmN g n = -1 ∨ loadG g (bmN g n) < loadG g n) then (n : Int) else bmN g n
def blN (g : GT) : Nat → Int
  | 0 => -1
  | n + 1 => if (g 9 n ≠ 0 ∧ g 7 n ≠ 0) ∧ (blN g n = -1 ∨ loadG g n < loadG g (blN g n)) then (n : Int) else blN g n
def bmI (g : GT) (i : Int) : Int := bmN g i.toNat
def blI (g : GT) (i : Int) : Int := blN g i.toNat
theorem bmI_s (g : GT) {i : Int} (h : 0 ≤ i) : bmI g (i + 1) = if (g 9 i ≠ 0 ∧ g 7 i ≠ 0) ∧ (bmI g i = -1 ∨ loadG g (bmI g i) < loadG g i) then i else bmI g i := by
  unfold bmI
  rw [show (i + 1).toNat = i.toNat + 1 by omega]
  show (if (g 9 (i.toNat : Int) ≠ 0 ∧ g 7 (i.toNat : Int) ≠ 0) ∧ (bmN g i.toNat = -1 ∨ loadG g (bmN g i.toNat) < loadG g (i.toNat : Int)) then (i.toNat : Int) else bmN g i.toNat) = _
  rw [Int.toNat_of_nonneg h]
theorem blI_s (g : GT) {i : Int} (h : 0 ≤ i) : blI g (i + 1) = if (g 9 i ≠ 0 ∧ g 7 i ≠ 0) ∧ (blI g i = -1 ∨ loadG g i < loadG g (blI g i)) then i else blI g i := by
  unfold blI
  rw [show (i + 1).toNat = i.toNat + 1 by omega]
  show (if (g 9 (i.toNat : Int) ≠ 0 ∧ g 7 (i.toNat : Int) ≠ 0) ∧ (blN g i.toNat = -1 ∨ loadG g (i.toNat : Int) < loadG g (blN g i.toNat)) then (i.toNat : Int) else blN g i.toNat) = _
  rw [Int.toNat_of_nonneg h]
theorem bm_b (g : GT) {i : Int} (h : 0 ≤ i) : (bmI g i = -1 ∧ blI g i = -1) ∨ ((0 ≤ bmI g i ∧ bmI g i < i ∧ g 7 (bmI g i) ≠ 0) ∧ (0 ≤ blI g i ∧ blI g i < i ∧ g 7 (blI g i) ≠ 0)) := by
  have key : ∀ m : Nat, (bmN g m = -1 ∧ blN g m = -1) ∨ ((0 ≤ bmN g m ∧ bmN g m < m ∧ g 7 (bmN g m) ≠ 0) ∧ (0 ≤ blN g m ∧ blN g m < m ∧ g 7 (blN g m) ≠ 0)) := by
    intro m
    induction m with
    | zero => exact Or.inl ⟨rfl, rfl⟩
    | succ m ih =>
      show ((if (g 9 m ≠ 0 ∧ g 7 m ≠ 0) ∧ (bmN g m = -1 ∨ loadG g (bmN g m) < loadG g m) then (m : Int) else bmN g m) = -1 ∧ (if (g 9 m ≠ 0 ∧ g 7 m ≠ 0) ∧ (blN g m = -1 ∨ loadG g m < loadG g (blN g m)) then (m : Int) else blN g m) = -1) ∨ ((0 ≤ (if (g 9 m ≠ 0 ∧ g 7 m ≠ 0) ∧ (bmN g m = -1 ∨ loadG g (bmN g m) < loadG g m) then (m : Int) else bmN g m) ∧ (if (g 9 m ≠ 0 ∧ g 7 m ≠ 0) ∧ (bmN g m = -1 ∨ loadG g (bmN g m) < loadG g m) then (m : Int) else bmN g m) < ((m + 1 : Nat) : Int) ∧ g 7 (if (g 9 m ≠ 0 ∧ g 7 m ≠ 0) ∧ (bmN g m = -1 ∨ loadG g (bmN g m) < loadG g m) then (m : Int) else bmN g m) ≠ 0) ∧ (0 ≤ (if (g 9 m ≠ 0 ∧ g 7 m ≠ 0) ∧ (blN g m = -1 ∨ loadG g m < loadG g (blN g m)) then (m : Int) else blN g m) ∧ (if (g 9 m ≠ 0 ∧ g 7 m ≠ 0) ∧ (blN g m = -1 ∨ loadG g m < loadG g (blN g m)) then (m : Int) else blN g m) < ((m + 1 : Nat) : Int) ∧ g 7 (if (g 9 m ≠ 0 ∧ g 7 m ≠ 0) ∧ (blN g m = -1 ∨ loadG g m < loadG g (blN g m)) then (m : Int) else blN g m) ≠ 0))
      by_cases c : g 9 m ≠ 0 ∧ g 7 m ≠ 0
      · right
        rcases ih with ih | ih
        · rw [if_pos ⟨c, Or.inl ih.1⟩, if_pos ⟨c, Or.inl ih.2⟩]
          exact ⟨⟨by omega, by omega, c.2⟩, ⟨by omega, by omega, c.2⟩⟩
        · refine ⟨?_, ?_⟩
          · split
            · exact ⟨by omega, by omega, c.2⟩
            · exact ⟨ih.1.1, by omega, ih.1.2.2⟩
          · split
            · exact ⟨by omega, by omega, c.2⟩
            · exact ⟨ih.2.1, by omega, ih.2.2.2⟩
      · rw [if_neg (fun z => c z.1), if_neg (fun z => c z.1)]
        rcases ih with ih | ih
        · exact Or.inl ih
        · exact Or.inr ⟨⟨ih.1.1, by omega, ih.1.2.2⟩, ⟨ih.2.1, by omega, ih.2.2.2⟩⟩
  have := key i.toNat
  unfold bmI blI
  rw [Int.toNat_of_nonneg h] at this
  exact this
abbrev baP (g : GT) (mo le p : Int) : Prop := plG g p mo ≠ -1 ∧ fwG g p (-1) ≠ 0 ∧ goodP g p mo ∧ g 21 (60 * mo + p) = 0 ∧ g 18 (60 * le + p) = 0
def baC (g : GT) (mo le : Int) : Int → Bool := fun p => decide (baP g mo le p)
def ba1 (g : GT) (mo le p : Int) : GT := up (up (up (gtG g le p mo p) 17 (8 * p + plG g p mo) le) 18 (60 * mo + p) 0) 19 (60 * mo + p) 0
def baD (g : GT) (mo le p : Int) : GT := if g 13 p = mo then elG (ba1 g mo le p) p else ba1 g mo le p
def baG (g : GT) : GT :=
  if bmI g (g 4 0) = -1 ∨ loadG g (bmI g (g 4 0)) < loadG g (blI g (g 4 0)) + 2 ∨ g 6 (blI g (g 4 0)) ≤ loadG g (blI g (g 4 0)) then g
  else if findI (baC g (bmI g (g 4 0)) (blI g (g 4 0))) (g 11 0) = -1 then g
  else baD g (bmI g (g 4 0)) (blI g (g 4 0)) (findI (baC g (bmI g (g 4 0)) (blI g (g 4 0))) (g 11 0))
theorem ba1_ne (g : GT) (mo le p : Int) {k : Nat} (h : k ≠ 17 ∧ k ≠ 18 ∧ k ≠ 19 ∧ k ≠ 20 ∧ k ≠ 21) (j : Int) : ba1 g mo le p k j = g k j := by
  unfold ba1
  rw [up_ne h.2.2.1, up_ne h.2.1, up_ne h.1, gt_ne _ _ _ _ _ (by omega)]

set_option maxRecDepth 100000 in
set_option maxHeartbeats 4000000 in
theorem C_X5_balances {gx : GX} {d : Nat} {Qr : Option AV → Hp → Prop} {Qx : String → Hp → Prop} {q : Nat} {ar : Nat → Nat} {g : GT} {h : Hp} (R : RM q ar g h) (B : BD g) (k : ∀ h1, RM q ar (baG g) h1 → Qr none h1) : aM gx (d + 3) mX5_balances [vr q] h 0 0 Qr Qx := by
  intro J C
  show J 0 [some (vr q), none, none, none, none] [] h 0 0
  have b2 := B.np; have b1 := B.nn; have rg := R.rg
  refine r_iconst C dX5_balances_0 ?_
  refine r_istore_n C dX5_balances_1 (i := 1) rfl (Nat.le_of_ble_eq_true rfl) ?_
  dsimp only [List.set]
  refine r_iconst C dX5_balances_2 ?_
  refine r_istore_n C dX5_balances_3 (i := 2) rfl (Nat.le_of_ble_eq_true rfl) ?_
  dsimp only [List.set]
  refine r_iconst C dX5_balances_4 ?_
  refine r_istore_n C dX5_balances_5 (i := 3) rfl (Nat.le_of_ble_eq_true rfl) ?_
  dsimp only [List.set]
  suffices LOOP : ∀ (m : Nat) (mo le i : Int), g 4 0 - i < (m : Int) → 0 ≤ i → i ≤ g 4 0 → mo = bmI g i → le = blI g i → J 6 [some (vr q), some (vi mo), some (vi le), some (vi i), none] [] h 0 0 by
    exact LOOP ((g 4 0).toNat + 1) (-1) (-1) 0 (by omega) (by omega) (by omega) rfl rfl
  intro m
  induction m with
  | zero => intro mo le i hm hi0 hi1 hmo hle; exact absurd hm (by omega)
  | succ m ih =>
    intro mo le i hm hi0 hi1 hmo hle
    have hb := bm_b g hi0
    rw [← hmo, ← hle] at hb
    have bl1 := load_b B mo; have bl2 := load_b B le; have bl3 := load_b B i
    refine r_iload_n C dX5_balances_6 (i := 3) rfl rfl ?_
    refine r_aload_n C dX5_balances_7 (i := 0) rfl rfl ?_
    refine m_get0 C dX5_balances_8 fX5_78 R rfl rfl ?_
    refine r_ic_ge C dX5_balances_11 (t := 86) (by decide) (by first | assumption | exact R.rg _ _ | exact rg _ _ | (unfold inR; omega)) (by first | assumption | exact R.rg _ _ | exact rg _ _ | (unfold inR; omega)) (fun c11 => ?_) (fun c11 => ?_)
    · skip
      have hmo2 : mo = bmI g (g 4 0) := by rw [hmo, show i = g 4 0 by omega]
      have hle2 : le = blI g (g 4 0) := by rw [hle, show i = g 4 0 by omega]
      unfold baG at k
      rw [← hmo2, ← hle2] at k
      clear hmo hle
      refine r_iload_n C dX5_balances_86 (i := 1) rfl rfl ?_
      refine r_iconst C dX5_balances_87 ?_
      refine r_ic_eq C dX5_balances_88 (t := 120) (by decide) (by first | assumption | exact R.rg _ _ | exact rg _ _ | (unfold inR; omega)) (by first | assumption | exact R.rg _ _ | exact rg _ _ | (unfold inR; omega)) (fun c88 => ?_) (fun c88 => ?_)
      · skip
        refine r_ret C dX5_balances_120 rfl ?_
        exact k _ (by rw [if_pos (by omega)]; exact R)
      · skip
        refine r_aload_n C dX5_balances_91 (i := 0) rfl rfl ?_
        refine r_iload_n C dX5_balances_92 (i := 1) rfl rfl ?_
        refine m_V1 C dX5_balances_93 sX5_127 rfl R (Nat.le_of_ble_eq_true rfl) (C_X5_loadOf R B (by omega) (by omega) ?_)
        refine r_aload_n C dX5_balances_96 (i := 0) rfl rfl ?_
        refine r_iload_n C dX5_balances_97 (i := 2) rfl rfl ?_
        refine m_V1 C dX5_balances_98 sX5_127 rfl R (Nat.le_of_ble_eq_true rfl) (C_X5_loadOf R B (by omega) (by omega) ?_)
        refine r_iconst C dX5_balances_101 ?_
        refine r_iadd C dX5_balances_102 ?_
        refine r_ic_lt C dX5_balances_103 (t := 120) (by decide) (by first | assumption | exact R.rg _ _ | exact rg _ _ | (unfold inR; omega)) (by first | assumption | exact R.rg _ _ | exact rg _ _ | (unfold inR; omega)) (fun c103 => ?_) (fun c103 => ?_)
        · skip
          refine r_ret C dX5_balances_120 rfl ?_
          exact k _ (by rw [if_pos (by omega)]; exact R)
        · skip
          refine r_aload_n C dX5_balances_106 (i := 0) rfl rfl ?_
          refine r_iload_n C dX5_balances_107 (i := 2) rfl rfl ?_
          refine m_V1 C dX5_balances_108 sX5_127 rfl R (Nat.le_of_ble_eq_true rfl) (C_X5_loadOf R B (by omega) (by omega) ?_)
          refine r_aload_n C dX5_balances_111 (i := 0) rfl rfl ?_
          refine m_getA C dX5_balances_112 fX5_17 R (by decide) rfl ?_
          refine r_iload_n C dX5_balances_115 (i := 2) rfl rfl ?_
          refine m_iald C dX5_balances_116 R (N := 8) rfl (by decide) rfl (by omega) (by omega) (by omega) ?_
          refine r_ic_lt C dX5_balances_117 (t := 121) (by decide) (by first | assumption | exact R.rg _ _ | exact rg _ _ | (unfold inR; omega)) (by first | assumption | exact R.rg _ _ | exact rg _ _ | (unfold inR; omega)) (fun c117 => ?_) (fun c117 => ?_)
          · skip
            rw [if_neg (show ¬ (mo = -1 ∨ loadG g mo < loadG g le + 2 ∨ g 6 le ≤ loadG g le) by omega)] at k
            refine r_iconst C dX5_balances_121 ?_
            refine r_istore_n C dX5_balances_122 (i := 3) rfl (Nat.le_of_ble_eq_true rfl) ?_
            dsimp only [List.set]
            suffices LOOP : ∀ (m2 : Nat) (i : Int) (o4 : Option AV), g 11 0 - i < (m2 : Int) → 0 ≤ i → i ≤ g 11 0 → (∀ j, 0 ≤ j → j < i → baC g mo le j = false) → J 123 [some (vr q), some (vi mo), some (vi le), some (vi i), o4] [] h 0 0 by
              exact LOOP ((g 11 0).toNat + 1) 0 _ (by omega) (by omega) (by omega) all_0
            intro m2
            induction m2 with
            | zero => intro i o4 hm2 hi0 hi1 hbj; exact absurd hm2 (by omega)
            | succ m2 ih2 =>
              intro i o4 hm2 hi0 hi1 hbj
              refine r_iload_n C dX5_balances_123 (i := 3) rfl rfl ?_
              refine r_aload_n C dX5_balances_124 (i := 0) rfl rfl ?_
              refine m_get0 C dX5_balances_125 fX5_85 R rfl rfl ?_
              refine r_ic_ge C dX5_balances_128 (t := 253) (by decide) (by first | assumption | exact R.rg _ _ | exact rg _ _ | (unfold inR; omega)) (by first | assumption | exact R.rg _ _ | exact rg _ _ | (unfold inR; omega)) (fun c128 => ?_) (fun c128 => ?_)
              · skip
                refine r_ret C dX5_balances_253 rfl ?_
                exact k _ (by rw [if_pos (findI_none (fun j a b => hbj j a (by omega)))]; exact R)
              · skip
                refine r_aload_n C dX5_balances_131 (i := 0) rfl rfl ?_
                refine r_iload_n C dX5_balances_132 (i := 3) rfl rfl ?_
                refine r_iload_n C dX5_balances_133 (i := 1) rfl rfl ?_
                refine m_V2 C dX5_balances_134 sX5_112 rfl R (Nat.le_of_ble_eq_true rfl) (C_X5_placeOf R B hi0 (by omega) (by unfold inR; omega) ?_)
                have bpl := plG_b (g := g) (p := i) (n := mo); have bcp := B.cp i hi0 (by omega)
                refine r_istore C dX5_balances_137 (Nat.le_of_ble_eq_true rfl) ?_
                dsimp only [List.set]
                refine r_iload C dX5_balances_139 rfl ?_
                refine r_iconst C dX5_balances_141 ?_
                refine r_ic_eq C dX5_balances_142 (t := 247) (by decide) (by first | assumption | exact R.rg _ _ | exact rg _ _ | (unfold inR; omega)) (by first | assumption | exact R.rg _ _ | exact rg _ _ | (unfold inR; omega)) (fun c142 => ?_) (fun c142 => ?_)
                · skip
                  refine r_iinc C dX5_balances_247 rfl ?_
                  dsimp only [List.set]
                  refine r_goto C dX5_balances_250 (t := 123) (by decide) ?_
                  exact ih2 _ _ (by omega) (by omega) (by omega) (all_s hbj (decide_eq_false (fun z => by have z1 := z.1; have z2 := z.2.1; have z3 := z.2.2.1; have z4 := z.2.2.2.1; have z5 := z.2.2.2.2; first | omega | exact hgd z3)))
                · skip
                  refine r_aload_n C dX5_balances_145 (i := 0) rfl rfl ?_
                  refine r_iload_n C dX5_balances_146 (i := 3) rfl rfl ?_
                  refine m_V1 C dX5_balances_147 sX5_228 rfl R (Nat.le_of_ble_eq_true rfl) (C_X5_isGone R B (by unfold inR; omega) (fun z hz hb9 => ?_))
                  refine r_if_ne C dX5_balances_150 (t := 247) (by decide) (by first | assumption | exact R.rg _ _ | exact rg _ _ | (unfold inR; omega)) (fun c150 => ?_) (fun c150 => ?_)
                  · skip
                    have hgo := hb9.t c150
                    refine r_iinc C dX5_balances_247 rfl ?_
                    dsimp only [List.set]
                    refine r_goto C dX5_balances_250 (t := 123) (by decide) ?_
                    exact ih2 _ _ (by omega) (by omega) (by omega) (all_s hbj (decide_eq_false (fun z => by have z1 := z.1; have z2 := z.2.1; have z3 := z.2.2.1; have z4 := z.2.2.2.1; have z5 := z.2.2.2.2; first | omega | exact hgd z3)))
                  · skip
                    have hgo := hb9.f c150
                    refine r_aload_n C dX5_balances_153 (i := 0) rfl rfl ?_
                    refine r_iload_n C dX5_balances_154 (i := 3) rfl rfl ?_
                    refine r_iload_n C dX5_balances_155 (i := 1) rfl rfl ?_
                    refine m_V2 C dX5_balances_156 sX5_123 rfl R (Nat.le_of_ble_eq_true rfl) (C_X5_isGood R B hi0 (by omega) (by omega) (by omega) (fun z2 hz2 hb8 => ?_))
                    refine r_if_eq C dX5_balances_159 (t := 247) (by decide) (by first | assumption | exact R.rg _ _ | exact rg _ _ | (unfold inR; omega)) (fun c159 => ?_) (fun c159 => ?_)
                    · skip
                      have hgd := hb8.f c159
                      refine r_iinc C dX5_balances_247 rfl ?_
                      dsimp only [List.set]
                      refine r_goto C dX5_balances_250 (t := 123) (by decide) ?_
                      exact ih2 _ _ (by omega) (by omega) (by omega) (all_s hbj (decide_eq_false (fun z => by have z1 := z.1; have z2 := z.2.1; have z3 := z.2.2.1; have z4 := z.2.2.2.1; have z5 := z.2.2.2.2; first | omega | exact hgd z3)))
                    · skip
                      have hgd := hb8.t c159
                      refine r_aload_n C dX5_balances_162 (i := 0) rfl rfl ?_
                      refine m_getA C dX5_balances_163 fX5_60 R (by decide) rfl ?_
                      refine r_iload_n C dX5_balances_166 (i := 1) rfl rfl ?_
                      refine r_iload_n C dX5_balances_167 (i := 3) rfl rfl ?_
                      refine r_S2 C dX5_balances_168 sX5_104 (Nat.le_of_ble_eq_true rfl) (C_X5_at ?_)
                      refine m_iald C dX5_balances_171 R (N := 480) rfl (by decide) rfl (by omega) (by omega) (by omega) ?_
                      refine r_if_ne C dX5_balances_172 (t := 247) (by decide) (by first | assumption | exact R.rg _ _ | exact rg _ _ | (unfold inR; omega)) (fun c172 => ?_) (fun c172 => ?_)
                      · skip
                        refine r_iinc C dX5_balances_247 rfl ?_
                        dsimp only [List.set]
                        refine r_goto C dX5_balances_250 (t := 123) (by decide) ?_
                        exact ih2 _ _ (by omega) (by omega) (by omega) (all_s hbj (decide_eq_false (fun z => by have z1 := z.1; have z2 := z.2.1; have z3 := z.2.2.1; have z4 := z.2.2.2.1; have z5 := z.2.2.2.2; first | omega | exact hgd z3)))
                      · skip
                        refine r_aload_n C dX5_balances_175 (i := 0) rfl rfl ?_
                        refine m_getA C dX5_balances_176 fX5_51 R (by decide) rfl ?_
                        refine r_iload_n C dX5_balances_179 (i := 2) rfl rfl ?_
                        refine r_iload_n C dX5_balances_180 (i := 3) rfl rfl ?_
                        refine r_S2 C dX5_balances_181 sX5_104 (Nat.le_of_ble_eq_true rfl) (C_X5_at ?_)
                        refine m_iald C dX5_balances_184 R (N := 480) rfl (by decide) rfl (by omega) (by omega) (by omega) ?_
                        refine r_if_ne C dX5_balances_185 (t := 247) (by decide) (by first | assumption | exact R.rg _ _ | exact rg _ _ | (unfold inR; omega)) (fun c185 => ?_) (fun c185 => ?_)
                        · skip
                          refine r_iinc C dX5_balances_247 rfl ?_
                          dsimp only [List.set]
                          refine r_goto C dX5_balances_250 (t := 123) (by decide) ?_
                          exact ih2 _ _ (by omega) (by omega) (by omega) (all_s hbj (decide_eq_false (fun z => by have z1 := z.1; have z2 := z.2.1; have z3 := z.2.2.1; have z4 := z.2.2.2.1; have z5 := z.2.2.2.2; first | omega | exact hgd z3)))
                        · skip
                          refine r_aload_n C dX5_balances_188 (i := 0) rfl rfl ?_
                          refine r_iload_n C dX5_balances_189 (i := 2) rfl rfl ?_
                          refine r_iload_n C dX5_balances_190 (i := 3) rfl rfl ?_
                          refine r_iload_n C dX5_balances_191 (i := 1) rfl rfl ?_
                          refine r_iload_n C dX5_balances_192 (i := 3) rfl rfl ?_
                          refine m_V4 C dX5_balances_193 sX5_166 rfl R (Nat.le_of_ble_eq_true rfl) (C_X5_gets R B (by omega) (by omega) hi0 (by omega) (by omega) (by omega) hi0 (by omega) (fun h R => ?_))
                          refine r_aload_n C dX5_balances_196 (i := 0) rfl rfl ?_
                          refine m_getA C dX5_balances_197 fX5_48 R (by decide) rfl ?_
                          refine r_bipush C dX5_balances_200 (by decide) ?_
                          refine r_iload_n C dX5_balances_202 (i := 3) rfl rfl ?_
                          refine r_imul C dX5_balances_203 ?_
                          refine r_iload C dX5_balances_204 rfl ?_
                          refine r_iadd C dX5_balances_206 ?_
                          refine r_iload_n C dX5_balances_207 (i := 2) rfl rfl ?_
                          refine m_iast C dX5_balances_208 R (N := 480) rfl (by decide) rfl (by omega) (by omega) (by omega) (by first | assumption | exact R.rg _ _ | exact rg _ _ | (unfold inR; omega)) (fun h R => ?_)
                          refine r_aload_n C dX5_balances_209 (i := 0) rfl rfl ?_
                          refine m_getA C dX5_balances_210 fX5_51 R (by decide) rfl ?_
                          refine r_iload_n C dX5_balances_213 (i := 1) rfl rfl ?_
                          refine r_iload_n C dX5_balances_214 (i := 3) rfl rfl ?_
                          refine r_S2 C dX5_balances_215 sX5_104 (Nat.le_of_ble_eq_true rfl) (C_X5_at ?_)
                          refine r_iconst C dX5_balances_218 ?_
                          refine m_iast C dX5_balances_219 R (N := 480) rfl (by decide) rfl (by omega) (by omega) (by omega) (by first | assumption | exact R.rg _ _ | exact rg _ _ | (unfold inR; omega)) (fun h R => ?_)
                          refine r_aload_n C dX5_balances_220 (i := 0) rfl rfl ?_
                          refine m_getA C dX5_balances_221 fX5_54 R (by decide) rfl ?_
                          refine r_iload_n C dX5_balances_224 (i := 1) rfl rfl ?_
                          refine r_iload_n C dX5_balances_225 (i := 3) rfl rfl ?_
                          refine r_S2 C dX5_balances_226 sX5_104 (Nat.le_of_ble_eq_true rfl) (C_X5_at ?_)
                          refine r_iconst C dX5_balances_229 ?_
                          refine m_iast C dX5_balances_230 R (N := 480) rfl (by decide) rfl (by omega) (by omega) (by omega) (by first | assumption | exact R.rg _ _ | exact rg _ _ | (unfold inR; omega)) (fun h R => ?_)
                          replace R : RM q ar (ba1 g mo le i) h := R
                          have e13 := ba1_ne g mo le i (k := 13) (by decide) i
                          refine r_aload_n C dX5_balances_231 (i := 0) rfl rfl ?_
                          refine m_getA C dX5_balances_232 fX5_36 R (by decide) rfl ?_
                          refine r_iload_n C dX5_balances_235 (i := 3) rfl rfl ?_
                          refine m_iald C dX5_balances_236 R (N := 60) rfl (by decide) rfl (by omega) (by omega) (by omega) ?_
                          rw [e13]
                          refine r_iload_n C dX5_balances_237 (i := 1) rfl rfl ?_
                          refine r_ic_ne C dX5_balances_238 (t := 246) (by decide) (by first | assumption | exact R.rg _ _ | exact rg _ _ | (unfold inR; omega)) (by first | assumption | exact R.rg _ _ | exact rg _ _ | (unfold inR; omega)) (fun c238 => ?_) (fun c238 => ?_)
                          · skip
                            refine r_ret C dX5_balances_246 rfl ?_
                            have hfi : findI (baC g mo le) (g 11 0) = i := findI_hit hi0 (by omega) (decide_eq_true ⟨by omega, hgo, hgd, by omega, by omega⟩) hbj
                            rw [hfi, if_neg (by omega)] at k
                            unfold baD at k
                            first
                              | exact k _ (by rw [if_pos (by omega)]; exact R)
                              | exact k _ (by rw [if_neg (by omega)]; exact R)
                          · skip
                            refine r_aload_n C dX5_balances_241 (i := 0) rfl rfl ?_
                            refine r_iload_n C dX5_balances_242 (i := 3) rfl rfl ?_
                            refine m_V1 C dX5_balances_243 sX5_119 rfl R (Nat.le_of_ble_eq_true rfl) (C_X5_endsLease R hi0 (by omega) (fun h R => ?_))
                            refine r_ret C dX5_balances_246 rfl ?_
                            have hfi : findI (baC g mo le) (g 11 0) = i := findI_hit hi0 (by omega) (decide_eq_true ⟨by omega, hgo, hgd, by omega, by omega⟩) hbj
                            rw [hfi, if_neg (by omega)] at k
                            unfold baD at k
                            first
                              | exact k _ (by rw [if_pos (by omega)]; exact R)
                              | exact k _ (by rw [if_neg (by omega)]; exact R)
          · skip
            refine r_ret C dX5_balances_120 rfl ?_
            exact k _ (by rw [if_pos (by omega)]; exact R)
    · skip
      refine r_aload_n C dX5_balances_14 (i := 0) rfl rfl ?_
      refine m_getA C dX5_balances_15 fX5_27 R (by decide) rfl ?_
      refine r_iload_n C dX5_balances_18 (i := 3) rfl rfl ?_
      refine m_zald C dX5_balances_19 R (N := 8) rfl (by decide) rfl (by omega) (by omega) (by omega) ?_
      refine r_if_eq C dX5_balances_20 (t := 80) (by decide) (by first | assumption | exact R.rg _ _ | exact rg _ _ | (unfold inR; omega)) (fun c20 => ?_) (fun c20 => ?_)
      · skip
        refine r_iinc C dX5_balances_80 rfl ?_
        dsimp only [List.set]
        refine r_goto C dX5_balances_83 (t := 6) (by decide) ?_
        first
          | (exfalso; omega)
          | exact ih _ _ _ (by omega) (by omega) (by omega) (by rw [bmI_s _ hi0, ← hmo, if_neg (fun z => by have z1 := z.1.1; omega)]) (by rw [blI_s _ hi0, ← hle, if_neg (fun z => by have z1 := z.1.1; omega)])
          | exact ih _ _ _ (by omega) (by omega) (by omega) (by rw [bmI_s _ hi0, ← hmo, if_neg (fun z => by have z1 := z.1.2; omega)]) (by rw [blI_s _ hi0, ← hle, if_neg (fun z => by have z1 := z.1.2; omega)])
          | exact ih _ _ _ (by omega) (by omega) (by omega) (by rw [bmI_s _ hi0, ← hmo, if_pos ⟨⟨by omega, by omega⟩, by omega⟩]) (by rw [blI_s _ hi0, ← hle, if_pos ⟨⟨by omega, by omega⟩, by omega⟩])
          | exact ih _ _ _ (by omega) (by omega) (by omega) (by rw [bmI_s _ hi0, ← hmo, if_pos ⟨⟨by omega, by omega⟩, by omega⟩]) (by rw [blI_s _ hi0, ← hle, if_neg (fun z => by have z2 := z.2; omega)])
          | exact ih _ _ _ (by omega) (by omega) (by omega) (by rw [bmI_s _ hi0, ← hmo, if_neg (fun z => by have z2 := z.2; omega)]) (by rw [blI_s _ hi0, ← hle, if_pos ⟨⟨by omega, by omega⟩, by omega⟩])
          | exact ih _ _ _ (by omega) (by omega) (by omega) (by rw [bmI_s _ hi0, ← hmo, if_neg (fun z => by have z2 := z.2; omega)]) (by rw [blI_s _ hi0, ← hle, if_neg (fun z => by have z2 := z.2; omega)])
      · skip
        refine r_aload_n C dX5_balances_23 (i := 0) rfl rfl ?_
        refine m_getA C dX5_balances_24 fX5_20 R (by decide) rfl ?_
        refine r_iload_n C dX5_balances_27 (i := 3) rfl rfl ?_
        refine m_zald C dX5_balances_28 R (N := 8) rfl (by decide) rfl (by omega) (by omega) (by omega) ?_
        refine r_if_eq C dX5_balances_29 (t := 80) (by decide) (by first | assumption | exact R.rg _ _ | exact rg _ _ | (unfold inR; omega)) (fun c29 => ?_) (fun c29 => ?_)
        · skip
          refine r_iinc C dX5_balances_80 rfl ?_
          dsimp only [List.set]
          refine r_goto C dX5_balances_83 (t := 6) (by decide) ?_
          first
            | (exfalso; omega)
            | exact ih _ _ _ (by omega) (by omega) (by omega) (by rw [bmI_s _ hi0, ← hmo, if_neg (fun z => by have z1 := z.1.1; omega)]) (by rw [blI_s _ hi0, ← hle, if_neg (fun z => by have z1 := z.1.1; omega)])
            | exact ih _ _ _ (by omega) (by omega) (by omega) (by rw [bmI_s _ hi0, ← hmo, if_neg (fun z => by have z1 := z.1.2; omega)]) (by rw [blI_s _ hi0, ← hle, if_neg (fun z => by have z1 := z.1.2; omega)])
            | exact ih _ _ _ (by omega) (by omega) (by omega) (by rw [bmI_s _ hi0, ← hmo, if_pos ⟨⟨by omega, by omega⟩, by omega⟩]) (by rw [blI_s _ hi0, ← hle, if_pos ⟨⟨by omega, by omega⟩, by omega⟩])
            | exact ih _ _ _ (by omega) (by omega) (by omega) (by rw [bmI_s _ hi0, ← hmo, if_pos ⟨⟨by omega, by omega⟩, by omega⟩]) (by rw [blI_s _ hi0, ← hle, if_neg (fun z => by have z2 := z.2; omega)])
            | exact ih _ _ _ (by omega) (by omega) (by omega) (by rw [bmI_s _ hi0, ← hmo, if_neg (fun z => by have z2 := z.2; omega)]) (by rw [blI_s _ hi0, ← hle, if_pos ⟨⟨by omega, by omega⟩, by omega⟩])
            | exact ih _ _ _ (by omega) (by omega) (by omega) (by rw [bmI_s _ hi0, ← hmo, if_neg (fun z => by have z2 := z.2; omega)]) (by rw [blI_s _ hi0, ← hle, if_neg (fun z => by have z2 := z.2; omega)])
        · skip
          refine r_iload_n C dX5_balances_32 (i := 1) rfl rfl ?_
          refine r_iconst C dX5_balances_33 ?_
          refine r_ic_eq C dX5_balances_34 (t := 50) (by decide) (by first | assumption | exact R.rg _ _ | exact rg _ _ | (unfold inR; omega)) (by first | assumption | exact R.rg _ _ | exact rg _ _ | (unfold inR; omega)) (fun c34 => ?_) (fun c34 => ?_)
          · skip
            refine r_iload_n C dX5_balances_50 (i := 3) rfl rfl ?_
            refine r_goto C dX5_balances_51 (t := 55) (by decide) ?_
            refine r_istore_n C dX5_balances_55 (i := 1) rfl (Nat.le_of_ble_eq_true rfl) ?_
            dsimp only [List.set]
            refine r_iload_n C dX5_balances_56 (i := 2) rfl rfl ?_
            refine r_iconst C dX5_balances_57 ?_
            refine r_ic_eq C dX5_balances_58 (t := 74) (by decide) (by first | assumption | exact R.rg _ _ | exact rg _ _ | (unfold inR; omega)) (by first | assumption | exact R.rg _ _ | exact rg _ _ | (unfold inR; omega)) (fun c58 => ?_) (fun c58 => ?_)
            · skip
              refine r_iload_n C dX5_balances_74 (i := 3) rfl rfl ?_
              refine r_goto C dX5_balances_75 (t := 79) (by decide) ?_
              refine r_istore_n C dX5_balances_79 (i := 2) rfl (Nat.le_of_ble_eq_true rfl) ?_
              dsimp only [List.set]
              refine r_iinc C dX5_balances_80 rfl ?_
              dsimp only [List.set]
              refine r_goto C dX5_balances_83 (t := 6) (by decide) ?_
              first
                | (exfalso; omega)
                | exact ih _ _ _ (by omega) (by omega) (by omega) (by rw [bmI_s _ hi0, ← hmo, if_neg (fun z => by have z1 := z.1.1; omega)]) (by rw [blI_s _ hi0, ← hle, if_neg (fun z => by have z1 := z.1.1; omega)])
                | exact ih _ _ _ (by omega) (by omega) (by omega) (by rw [bmI_s _ hi0, ← hmo, if_neg (fun z => by have z1 := z.1.2; omega)]) (by rw [blI_s _ hi0, ← hle, if_neg (fun z => by have z1 := z.1.2; omega)])
                | exact ih _ _ _ (by omega) (by omega) (by omega) (by rw [bmI_s _ hi0, ← hmo, if_pos ⟨⟨by omega, by omega⟩, by omega⟩]) (by rw [blI_s _ hi0, ← hle, if_pos ⟨⟨by omega, by omega⟩, by omega⟩])
                | exact ih _ _ _ (by omega) (by omega) (by omega) (by rw [bmI_s _ hi0, ← hmo, if_pos ⟨⟨by omega, by omega⟩, by omega⟩]) (by rw [blI_s _ hi0, ← hle, if_neg (fun z => by have z2 := z.2; omega)])
                | exact ih _ _ _ (by omega) (by omega) (by omega) (by rw [bmI_s _ hi0, ← hmo, if_neg (fun z => by have z2 := z.2; omega)]) (by rw [blI_s _ hi0, ← hle, if_pos ⟨⟨by omega, by omega⟩, by omega⟩])
                | exact ih _ _ _ (by omega) (by omega) (by omega) (by rw [bmI_s _ hi0, ← hmo, if_neg (fun z => by have z2 := z.2; omega)]) (by rw [blI_s _ hi0, ← hle, if_neg (fun z => by have z2 := z.2; omega)])
            · skip
              refine r_aload_n C dX5_balances_61 (i := 0) rfl rfl ?_
              refine r_iload_n C dX5_balances_62 (i := 3) rfl rfl ?_
              refine m_V1 C dX5_balances_63 sX5_127 rfl R (Nat.le_of_ble_eq_true rfl) (C_X5_loadOf R B (by omega) (by omega) ?_)
              refine r_aload_n C dX5_balances_66 (i := 0) rfl rfl ?_
              refine r_iload_n C dX5_balances_67 (i := 2) rfl rfl ?_
              refine m_V1 C dX5_balances_68 sX5_127 rfl R (Nat.le_of_ble_eq_true rfl) (C_X5_loadOf R B (by omega) (by omega) ?_)
              refine r_ic_ge C dX5_balances_71 (t := 78) (by decide) (by first | assumption | exact R.rg _ _ | exact rg _ _ | (unfold inR; omega)) (by first | assumption | exact R.rg _ _ | exact rg _ _ | (unfold inR; omega)) (fun c71 => ?_) (fun c71 => ?_)
              · skip
                refine r_iload_n C dX5_balances_78 (i := 2) rfl rfl ?_
                refine r_istore_n C dX5_balances_79 (i := 2) rfl (Nat.le_of_ble_eq_true rfl) ?_
                dsimp only [List.set]
                refine r_iinc C dX5_balances_80 rfl ?_
                dsimp only [List.set]
                refine r_goto C dX5_balances_83 (t := 6) (by decide) ?_
                first
                  | (exfalso; omega)
                  | exact ih _ _ _ (by omega) (by omega) (by omega) (by rw [bmI_s _ hi0, ← hmo, if_neg (fun z => by have z1 := z.1.1; omega)]) (by rw [blI_s _ hi0, ← hle, if_neg (fun z => by have z1 := z.1.1; omega)])
                  | exact ih _ _ _ (by omega) (by omega) (by omega) (by rw [bmI_s _ hi0, ← hmo, if_neg (fun z => by have z1 := z.1.2; omega)]) (by rw [blI_s _ hi0, ← hle, if_neg (fun z => by have z1 := z.1.2; omega)])
                  | exact ih _ _ _ (by omega) (by omega) (by omega) (by rw [bmI_s _ hi0, ← hmo, if_pos ⟨⟨by omega, by omega⟩, by omega⟩]) (by rw [blI_s _ hi0, ← hle, if_pos ⟨⟨by omega, by omega⟩, by omega⟩])
                  | exact ih _ _ _ (by omega) (by omega) (by omega) (by rw [bmI_s _ hi0, ← hmo, if_pos ⟨⟨by omega, by omega⟩, by omega⟩]) (by rw [blI_s _ hi0, ← hle, if_neg (fun z => by have z2 := z.2; omega)])
                  | exact ih _ _ _ (by omega) (by omega) (by omega) (by rw [bmI_s _ hi0, ← hmo, if_neg (fun z => by have z2 := z.2; omega)]) (by rw [blI_s _ hi0, ← hle, if_pos ⟨⟨by omega, by omega⟩, by omega⟩])
                  | exact ih _ _ _ (by omega) (by omega) (by omega) (by rw [bmI_s _ hi0, ← hmo, if_neg (fun z => by have z2 := z.2; omega)]) (by rw [blI_s _ hi0, ← hle, if_neg (fun z => by have z2 := z.2; omega)])
              · skip
                refine r_iload_n C dX5_balances_74 (i := 3) rfl rfl ?_
                refine r_goto C dX5_balances_75 (t := 79) (by decide) ?_
                refine r_istore_n C dX5_balances_79 (i := 2) rfl (Nat.le_of_ble_eq_true rfl) ?_
                dsimp only [List.set]
                refine r_iinc C dX5_balances_80 rfl ?_
                dsimp only [List.set]
                refine r_goto C dX5_balances_83 (t := 6) (by decide) ?_
                first
                  | (exfalso; omega)
                  | exact ih _ _ _ (by omega) (by omega) (by omega) (by rw [bmI_s _ hi0, ← hmo, if_neg (fun z => by have z1 := z.1.1; omega)]) (by rw [blI_s _ hi0, ← hle, if_neg (fun z => by have z1 := z.1.1; omega)])
                  | exact ih _ _ _ (by omega) (by omega) (by omega) (by rw [bmI_s _ hi0, ← hmo, if_neg (fun z => by have z1 := z.1.2; omega)]) (by rw [blI_s _ hi0, ← hle, if_neg (fun z => by have z1 := z.1.2; omega)])
                  | exact ih _ _ _ (by omega) (by omega) (by omega) (by rw [bmI_s _ hi0, ← hmo, if_pos ⟨⟨by omega, by omega⟩, by omega⟩]) (by rw [blI_s _ hi0, ← hle, if_pos ⟨⟨by omega, by omega⟩, by omega⟩])
                  | exact ih _ _ _ (by omega) (by omega) (by omega) (by rw [bmI_s _ hi0, ← hmo, if_pos ⟨⟨by omega, by omega⟩, by omega⟩]) (by rw [blI_s _ hi0, ← hle, if_neg (fun z => by have z2 := z.2; omega)])
                  | exact ih _ _ _ (by omega) (by omega) (by omega) (by rw [bmI_s _ hi0, ← hmo, if_neg (fun z => by have z2 := z.2; omega)]) (by rw [blI_s _ hi0, ← hle, if_pos ⟨⟨by omega, by omega⟩, by omega⟩])
                  | exact ih _ _ _ (by omega) (by omega) (by omega) (by rw [bmI_s _ hi0, ← hmo, if_neg (fun z => by have z2 := z.2; omega)]) (by rw [blI_s _ hi0, ← hle, if_neg (fun z => by have z2 := z.2; omega)])
          · skip
            refine r_aload_n C dX5_balances_37 (i := 0) rfl rfl ?_
            refine r_iload_n C dX5_balances_38 (i := 3) rfl rfl ?_
            refine m_V1 C dX5_balances_39 sX5_127 rfl R (Nat.le_of_ble_eq_true rfl) (C_X5_loadOf R B (by omega) (by omega) ?_)
            refine r_aload_n C dX5_balances_42 (i := 0) rfl rfl ?_
            refine r_iload_n C dX5_balances_43 (i := 1) rfl rfl ?_
            refine m_V1 C dX5_balances_44 sX5_127 rfl R (Nat.le_of_ble_eq_true rfl) (C_X5_loadOf R B (by omega) (by omega) ?_)
            refine r_ic_le C dX5_balances_47 (t := 54) (by decide) (by first | assumption | exact R.rg _ _ | exact rg _ _ | (unfold inR; omega)) (by first | assumption | exact R.rg _ _ | exact rg _ _ | (unfold inR; omega)) (fun c47 => ?_) (fun c47 => ?_)
            · skip
              refine r_iload_n C dX5_balances_54 (i := 1) rfl rfl ?_
              refine r_istore_n C dX5_balances_55 (i := 1) rfl (Nat.le_of_ble_eq_true rfl) ?_
              dsimp only [List.set]
              refine r_iload_n C dX5_balances_56 (i := 2) rfl rfl ?_
              refine r_iconst C dX5_balances_57 ?_
              refine r_ic_eq C dX5_balances_58 (t := 74) (by decide) (by first | assumption | exact R.rg _ _ | exact rg _ _ | (unfold inR; omega)) (by first | assumption | exact R.rg _ _ | exact rg _ _ | (unfold inR; omega)) (fun c58 => ?_) (fun c58 => ?_)
              · skip
                refine r_iload_n C dX5_balances_74 (i := 3) rfl rfl ?_
                refine r_goto C dX5_balances_75 (t := 79) (by decide) ?_
                refine r_istore_n C dX5_balances_79 (i := 2) rfl (Nat.le_of_ble_eq_true rfl) ?_
                dsimp only [List.set]
                refine r_iinc C dX5_balances_80 rfl ?_
                dsimp only [List.set]
                refine r_goto C dX5_balances_83 (t := 6) (by decide) ?_
                first
                  | (exfalso; omega)
                  | exact ih _ _ _ (by omega) (by omega) (by omega) (by rw [bmI_s _ hi0, ← hmo, if_neg (fun z => by have z1 := z.1.1; omega)]) (by rw [blI_s _ hi0, ← hle, if_neg (fun z => by have z1 := z.1.1; omega)])
                  | exact ih _ _ _ (by omega) (by omega) (by omega) (by rw [bmI_s _ hi0, ← hmo, if_neg (fun z => by have z1 := z.1.2; omega)]) (by rw [blI_s _ hi0, ← hle, if_neg (fun z => by have z1 := z.1.2; omega)])
                  | exact ih _ _ _ (by omega) (by omega) (by omega) (by rw [bmI_s _ hi0, ← hmo, if_pos ⟨⟨by omega, by omega⟩, by omega⟩]) (by rw [blI_s _ hi0, ← hle, if_pos ⟨⟨by omega, by omega⟩, by omega⟩])
                  | exact ih _ _ _ (by omega) (by omega) (by omega) (by rw [bmI_s _ hi0, ← hmo, if_pos ⟨⟨by omega, by omega⟩, by omega⟩]) (by rw [blI_s _ hi0, ← hle, if_neg (fun z => by have z2 := z.2; omega)])
                  | exact ih _ _ _ (by omega) (by omega) (by omega) (by rw [bmI_s _ hi0, ← hmo, if_neg (fun z => by have z2 := z.2; omega)]) (by rw [blI_s _ hi0, ← hle, if_pos ⟨⟨by omega, by omega⟩, by omega⟩])
                  | exact ih _ _ _ (by omega) (by omega) (by omega) (by rw [bmI_s _ hi0, ← hmo, if_neg (fun z => by have z2 := z.2; omega)]) (by rw [blI_s _ hi0, ← hle, if_neg (fun z => by have z2 := z.2; omega)])
              · skip
                refine r_aload_n C dX5_balances_61 (i := 0) rfl rfl ?_
                refine r_iload_n C dX5_balances_62 (i := 3) rfl rfl ?_
                refine m_V1 C dX5_balances_63 sX5_127 rfl R (Nat.le_of_ble_eq_true rfl) (C_X5_loadOf R B (by omega) (by omega) ?_)
                refine r_aload_n C dX5_balances_66 (i := 0) rfl rfl ?_
                refine r_iload_n C dX5_balances_67 (i := 2) rfl rfl ?_
                refine m_V1 C dX5_balances_68 sX5_127 rfl R (Nat.le_of_ble_eq_true rfl) (C_X5_loadOf R B (by omega) (by omega) ?_)
                refine r_ic_ge C dX5_balances_71 (t := 78) (by decide) (by first | assumption | exact R.rg _ _ | exact rg _ _ | (unfold inR; omega)) (by first | assumption | exact R.rg _ _ | exact rg _ _ | (unfold inR; omega)) (fun c71 => ?_) (fun c71 => ?_)
                · skip
                  refine r_iload_n C dX5_balances_78 (i := 2) rfl rfl ?_
                  refine r_istore_n C dX5_balances_79 (i := 2) rfl (Nat.le_of_ble_eq_true rfl) ?_
                  dsimp only [List.set]
                  refine r_iinc C dX5_balances_80 rfl ?_
                  dsimp only [List.set]
                  refine r_goto C dX5_balances_83 (t := 6) (by decide) ?_
                  first
                    | (exfalso; omega)
                    | exact ih _ _ _ (by omega) (by omega) (by omega) (by rw [bmI_s _ hi0, ← hmo, if_neg (fun z => by have z1 := z.1.1; omega)]) (by rw [blI_s _ hi0, ← hle, if_neg (fun z => by have z1 := z.1.1; omega)])
                    | exact ih _ _ _ (by omega) (by omega) (by omega) (by rw [bmI_s _ hi0, ← hmo, if_neg (fun z => by have z1 := z.1.2; omega)]) (by rw [blI_s _ hi0, ← hle, if_neg (fun z => by have z1 := z.1.2; omega)])
                    | exact ih _ _ _ (by omega) (by omega) (by omega) (by rw [bmI_s _ hi0, ← hmo, if_pos ⟨⟨by omega, by omega⟩, by omega⟩]) (by rw [blI_s _ hi0, ← hle, if_pos ⟨⟨by omega, by omega⟩, by omega⟩])
                    | exact ih _ _ _ (by omega) (by omega) (by omega) (by rw [bmI_s _ hi0, ← hmo, if_pos ⟨⟨by omega, by omega⟩, by omega⟩]) (by rw [blI_s _ hi0, ← hle, if_neg (fun z => by have z2 := z.2; omega)])
                    | exact ih _ _ _ (by omega) (by omega) (by omega) (by rw [bmI_s _ hi0, ← hmo, if_neg (fun z => by have z2 := z.2; omega)]) (by rw [blI_s _ hi0, ← hle, if_pos ⟨⟨by omega, by omega⟩, by omega⟩])
                    | exact ih _ _ _ (by omega) (by omega) (by omega) (by rw [bmI_s _ hi0, ← hmo, if_neg (fun z => by have z2 := z.2; omega)]) (by rw [blI_s _ hi0, ← hle, if_neg (fun z => by have z2 := z.2; omega)])
                · skip
                  refine r_iload_n C dX5_balances_74 (i := 3) rfl rfl ?_
                  refine r_goto C dX5_balances_75 (t := 79) (by decide) ?_
                  refine r_istore_n C dX5_balances_79 (i := 2) rfl (Nat.le_of_ble_eq_true rfl) ?_
                  dsimp only [List.set]
                  refine r_iinc C dX5_balances_80 rfl ?_
                  dsimp only [List.set]
                  refine r_goto C dX5_balances_83 (t := 6) (by decide) ?_
                  first
                    | (exfalso; omega)
                    | exact ih _ _ _ (by omega) (by omega) (by omega) (by rw [bmI_s _ hi0, ← hmo, if_neg (fun z => by have z1 := z.1.1; omega)]) (by rw [blI_s _ hi0, ← hle, if_neg (fun z => by have z1 := z.1.1; omega)])
                    | exact ih _ _ _ (by omega) (by omega) (by omega) (by rw [bmI_s _ hi0, ← hmo, if_neg (fun z => by have z1 := z.1.2; omega)]) (by rw [blI_s _ hi0, ← hle, if_neg (fun z => by have z1 := z.1.2; omega)])
                    | exact ih _ _ _ (by omega) (by omega) (by omega) (by rw [bmI_s _ hi0, ← hmo, if_pos ⟨⟨by omega, by omega⟩, by omega⟩]) (by rw [blI_s _ hi0, ← hle, if_pos ⟨⟨by omega, by omega⟩, by omega⟩])
                    | exact ih _ _ _ (by omega) (by omega) (by omega) (by rw [bmI_s _ hi0, ← hmo, if_pos ⟨⟨by omega, by omega⟩, by omega⟩]) (by rw [blI_s _ hi0, ← hle, if_neg (fun z => by have z2 := z.2; omega)])
                    | exact ih _ _ _ (by omega) (by omega) (by omega) (by rw [bmI_s _ hi0, ← hmo, if_neg (fun z => by have z2 := z.2; omega)]) (by rw [blI_s _ hi0, ← hle, if_pos ⟨⟨by omega, by omega⟩, by omega⟩])
                    | exact ih _ _ _ (by omega) (by omega) (by omega) (by rw [bmI_s _ hi0, ← hmo, if_neg (fun z => by have z2 := z.2; omega)]) (by rw [blI_s _ hi0, ← hle, if_neg (fun z => by have z2 := z.2; omega)])
            · skip
              refine r_iload_n C dX5_balances_50 (i := 3) rfl rfl ?_
              refine r_goto C dX5_balances_51 (t := 55) (by decide) ?_
              refine r_istore_n C dX5_balances_55 (i := 1) rfl (Nat.le_of_ble_eq_true rfl) ?_
              dsimp only [List.set]
              refine r_iload_n C dX5_balances_56 (i := 2) rfl rfl ?_
              refine r_iconst C dX5_balances_57 ?_
              refine r_ic_eq C dX5_balances_58 (t := 74) (by decide) (by first | assumption | exact R.rg _ _ | exact rg _ _ | (unfold inR; omega)) (by first | assumption | exact R.rg _ _ | exact rg _ _ | (unfold inR; omega)) (fun c58 => ?_) (fun c58 => ?_)
              · skip
                refine r_iload_n C dX5_balances_74 (i := 3) rfl rfl ?_
                refine r_goto C dX5_balances_75 (t := 79) (by decide) ?_
                refine r_istore_n C dX5_balances_79 (i := 2) rfl (Nat.le_of_ble_eq_true rfl) ?_
                dsimp only [List.set]
                refine r_iinc C dX5_balances_80 rfl ?_
                dsimp only [List.set]
                refine r_goto C dX5_balances_83 (t := 6) (by decide) ?_
                first
                  | (exfalso; omega)
                  | exact ih _ _ _ (by omega) (by omega) (by omega) (by rw [bmI_s _ hi0, ← hmo, if_neg (fun z => by have z1 := z.1.1; omega)]) (by rw [blI_s _ hi0, ← hle, if_neg (fun z => by have z1 := z.1.1; omega)])
                  | exact ih _ _ _ (by omega) (by omega) (by omega) (by rw [bmI_s _ hi0, ← hmo, if_neg (fun z => by have z1 := z.1.2; omega)]) (by rw [blI_s _ hi0, ← hle, if_neg (fun z => by have z1 := z.1.2; omega)])
                  | exact ih _ _ _ (by omega) (by omega) (by omega) (by rw [bmI_s _ hi0, ← hmo, if_pos ⟨⟨by omega, by omega⟩, by omega⟩]) (by rw [blI_s _ hi0, ← hle, if_pos ⟨⟨by omega, by omega⟩, by omega⟩])
                  | exact ih _ _ _ (by omega) (by omega) (by omega) (by rw [bmI_s _ hi0, ← hmo, if_pos ⟨⟨by omega, by omega⟩, by omega⟩]) (by rw [blI_s _ hi0, ← hle, if_neg (fun z => by have z2 := z.2; omega)])
                  | exact ih _ _ _ (by omega) (by omega) (by omega) (by rw [bmI_s _ hi0, ← hmo, if_neg (fun z => by have z2 := z.2; omega)]) (by rw [blI_s _ hi0, ← hle, if_pos ⟨⟨by omega, by omega⟩, by omega⟩])
                  | exact ih _ _ _ (by omega) (by omega) (by omega) (by rw [bmI_s _ hi0, ← hmo, if_neg (fun z => by have z2 := z.2; omega)]) (by rw [blI_s _ hi0, ← hle, if_neg (fun z => by have z2 := z.2; omega)])
              · skip
                refine r_aload_n C dX5_balances_61 (i := 0) rfl rfl ?_
                refine r_iload_n C dX5_balances_62 (i := 3) rfl rfl ?_
                refine m_V1 C dX5_balances_63 sX5_127 rfl R (Nat.le_of_ble_eq_true rfl) (C_X5_loadOf R B (by omega) (by omega) ?_)
                refine r_aload_n C dX5_balances_66 (i := 0) rfl rfl ?_
                refine r_iload_n C dX5_balances_67 (i := 2) rfl rfl ?_
                refine m_V1 C dX5_balances_68 sX5_127 rfl R (Nat.le_of_ble_eq_true rfl) (C_X5_loadOf R B (by omega) (by omega) ?_)
                refine r_ic_ge C dX5_balances_71 (t := 78) (by decide) (by first | assumption | exact R.rg _ _ | exact rg _ _ | (unfold inR; omega)) (by first | assumption | exact R.rg _ _ | exact rg _ _ | (unfold inR; omega)) (fun c71 => ?_) (fun c71 => ?_)
                · skip
                  refine r_iload_n C dX5_balances_78 (i := 2) rfl rfl ?_
                  refine r_istore_n C dX5_balances_79 (i := 2) rfl (Nat.le_of_ble_eq_true rfl) ?_
                  dsimp only [List.set]
                  refine r_iinc C dX5_balances_80 rfl ?_
                  dsimp only [List.set]
                  refine r_goto C dX5_balances_83 (t := 6) (by decide) ?_
                  first
                    | (exfalso; omega)
                    | exact ih _ _ _ (by omega) (by omega) (by omega) (by rw [bmI_s _ hi0, ← hmo, if_neg (fun z => by have z1 := z.1.1; omega)]) (by rw [blI_s _ hi0, ← hle, if_neg (fun z => by have z1 := z.1.1; omega)])
                    | exact ih _ _ _ (by omega) (by omega) (by omega) (by rw [bmI_s _ hi0, ← hmo, if_neg (fun z => by have z1 := z.1.2; omega)]) (by rw [blI_s _ hi0, ← hle, if_neg (fun z => by have z1 := z.1.2; omega)])
                    | exact ih _ _ _ (by omega) (by omega) (by omega) (by rw [bmI_s _ hi0, ← hmo, if_pos ⟨⟨by omega, by omega⟩, by omega⟩]) (by rw [blI_s _ hi0, ← hle, if_pos ⟨⟨by omega, by omega⟩, by omega⟩])
                    | exact ih _ _ _ (by omega) (by omega) (by omega) (by rw [bmI_s _ hi0, ← hmo, if_pos ⟨⟨by omega, by omega⟩, by omega⟩]) (by rw [blI_s _ hi0, ← hle, if_neg (fun z => by have z2 := z.2; omega)])
                    | exact ih _ _ _ (by omega) (by omega) (by omega) (by rw [bmI_s _ hi0, ← hmo, if_neg (fun z => by have z2 := z.2; omega)]) (by rw [blI_s _ hi0, ← hle, if_pos ⟨⟨by omega, by omega⟩, by omega⟩])
                    | exact ih _ _ _ (by omega) (by omega) (by omega) (by rw [bmI_s _ hi0, ← hmo, if_neg (fun z => by have z2 := z.2; omega)]) (by rw [blI_s _ hi0, ← hle, if_neg (fun z => by have z2 := z.2; omega)])
                · skip
                  refine r_iload_n C dX5_balances_74 (i := 3) rfl rfl ?_
                  refine r_goto C dX5_balances_75 (t := 79) (by decide) ?_
                  refine r_istore_n C dX5_balances_79 (i := 2) rfl (Nat.le_of_ble_eq_true rfl) ?_
                  dsimp only [List.set]
                  refine r_iinc C dX5_balances_80 rfl ?_
                  dsimp only [List.set]
                  refine r_goto C dX5_balances_83 (t := 6) (by decide) ?_
                  first
                    | (exfalso; omega)
                    | exact ih _ _ _ (by omega) (by omega) (by omega) (by rw [bmI_s _ hi0, ← hmo, if_neg (fun z => by have z1 := z.1.1; omega)]) (by rw [blI_s _ hi0, ← hle, if_neg (fun z => by have z1 := z.1.1; omega)])
                    | exact ih _ _ _ (by omega) (by omega) (by omega) (by rw [bmI_s _ hi0, ← hmo, if_neg (fun z => by have z1 := z.1.2; omega)]) (by rw [blI_s _ hi0, ← hle, if_neg (fun z => by have z1 := z.1.2; omega)])
                    | exact ih _ _ _ (by omega) (by omega) (by omega) (by rw [bmI_s _ hi0, ← hmo, if_pos ⟨⟨by omega, by omega⟩, by omega⟩]) (by rw [blI_s _ hi0, ← hle, if_pos ⟨⟨by omega, by omega⟩, by omega⟩])
                    | exact ih _ _ _ (by omega) (by omega) (by omega) (by rw [bmI_s _ hi0, ← hmo, if_pos ⟨⟨by omega, by omega⟩, by omega⟩]) (by rw [blI_s _ hi0, ← hle, if_neg (fun z => by have z2 := z.2; omega)])
                    | exact ih _ _ _ (by omega) (by omega) (by omega) (by rw [bmI_s _ hi0, ← hmo, if_neg (fun z => by have z2 := z.2; omega)]) (by rw [blI_s _ hi0, ← hle, if_pos ⟨⟨by omega, by omega⟩, by omega⟩])
                    | exact ih _ _ _ (by omega) (by omega) (by omega) (by rw [bmI_s _ hi0, ← hmo, if_neg (fun z => by have z2 := z.2; omega)]) (by rw [blI_s _ hi0, ← hle, if_neg (fun z => by have z2 := z.2; omega)])

