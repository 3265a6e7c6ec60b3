/-! ===== the reference: append and put ===== -/
theorem hz_up {g : GT} (Z : HZ g) {k : Nat} {i x : Int} (hk : k ≠ 4 ∧ k ≠ 11 ∧ k ≠ 18) : HZ (up g k i x) := by
  intro n p h0 h1 h2 h3 h4
  rw [up_ne (by omega), up_ne (by omega)] at h4
  rw [up_ne (by omega)]
  exact Z n p h0 h1 h2 h3 h4
/-- what a writer leaves: the piece p in the table u, the cell c -/
def wwG (u : GT) (p c x y : Int) : GT := if y = 0 then elG (wa1 u p c x) p else wa1 u p c x
def apQ (s : GT) (f x : Int) (z : Int) (g1 : GT) : Prop := ∃ t u p pl c y, t = ap1 s f ∧ pl = t 25 f - 1 ∧ u = rdG t f pl ∧ p = rdP t f pl ∧ c = u 19 (60 * u 13 p + p) ∧ BV y (waP u p) ∧ z = (if y = 0 then -1 else 10 * pl + c) ∧ g1 = wwG u p c x y
def puQ (s : GT) (f w c x : Int) (z : Int) (g1 : GT) : Prop := ∃ u p, u = rdG s f w ∧ p = rdP s f w ∧ BV z (waP u p) ∧ g1 = wwG u p c x z
def puP (g : GT) (f w c : Int) : Prop := g 23 f = 0 ∧ cwP g f (g 26 (6 * f + w)) ∧ c < g 19 (60 * ffG g f (g 26 (6 * f + w)) + g 26 (6 * f + w))

set_option maxRecDepth 100000 in
set_option maxHeartbeats 4000000 in
theorem C_X5_append {gx : GX} {d : Nat} {Qr : Option AV → Hp → Prop} {Qx : String → Hp → Prop} {q : Nat} {ar : Nat → Nat} {g : GT} {h : Hp} {f x : Int} (R : RM q ar g h) (I : IV1 g) (Z : HZ g) (hf : inR f) (hx : inR x) (hv : ∀ j, 0 ≤ g 12 j ∧ g 12 j < 1000000) (ht0 : 0 ≤ g 1 0) (ht1 : g 1 0 ≤ 3000) (k : ∀ e z h1 g1, C3 (flP g f) (inP x 0 999) (caP g f) e → (e = 0 → apQ (up g 0 0 0) f x z g1) → (e ≠ 0 → g1 = up g 0 0 e) → RM q ar g1 h1 → Qr (some (vi z)) h1) : aM gx (d + 7) mX5_append [vr q, vi f, vi x] h 0 0 Qr Qx := by
  intro J C
  show J 0 [some (vr q), some (vi f), some (vi x), none, none, none, none] [] h 0 0
  have B := I.1; have b1 := B.nn; have b2 := B.np; have b3 := B.nf; have rg := R.rg
  refine r_aload_n C dX5_append_0 (i := 0) rfl rfl ?_
  refine r_iload_n C dX5_append_1 (i := 1) rfl rfl ?_
  refine m_V1 C dX5_append_2 sX5_140 rfl R (Nat.le_of_ble_eq_true rfl) (C_X5_isFile R B hf (fun z1 hz1 hb1 => ?_))
  refine r_istore_n C dX5_append_5 (i := 3) rfl (Nat.le_of_ble_eq_true rfl) ?_
  dsimp only [List.set]
  refine r_aload_n C dX5_append_6 (i := 0) rfl rfl ?_
  refine r_iload_n C dX5_append_7 (i := 3) rfl rfl ?_
  refine r_if_ne C dX5_append_8 (t := 15) (by decide) (by first | assumption | exact R.rg _ _ | exact rg _ _ | (unfold inR; omega)) (fun c8 => ?_) (fun c8 => ?_)
  · skip
    have hn1 := hb1.t c8
    refine r_iload_n C dX5_append_15 (i := 2) rfl rfl ?_
    refine r_iconst C dX5_append_16 ?_
    refine r_sipush C dX5_append_17 (by decide) ?_
    refine r_S3 C dX5_append_20 sX5_81 (Nat.le_of_ble_eq_true rfl) (C_X5_isIn (by first | assumption | (unfold inR; omega)) (by unfold inR; omega) (by unfold inR; omega) (fun z2 hz2 hb2 => ?_))
    refine r_if_ne C dX5_append_23 (t := 30) (by decide) (by first | assumption | exact R.rg _ _ | exact rg _ _ | (unfold inR; omega)) (fun c23 => ?_) (fun c23 => ?_)
    · skip
      have hn2 := hb2.t c23
      refine r_aload_n C dX5_append_30 (i := 0) rfl rfl ?_
      refine r_iload_n C dX5_append_31 (i := 1) rfl rfl ?_
      refine m_V1 C dX5_append_32 sX5_195 rfl R (Nat.le_of_ble_eq_true rfl) (C_X5_canAppend R B (by omega) (by omega) (fun z3 hz3 hb3 => ?_))
      refine r_if_eq C dX5_append_35 (t := 42) (by decide) (by first | assumption | exact R.rg _ _ | exact rg _ _ | (unfold inR; omega)) (fun c35 => ?_) (fun c35 => ?_)
      · skip
        have hn3 := hb3.f c35
        refine r_iconst C dX5_append_42 ?_
        refine m_V1 C dX5_append_43 sX5_91 rfl R (Nat.le_of_ble_eq_true rfl) (C_X5_holds R (by unfold inR; omega) (fun zH h hzH hH R => ?_))
        refine r_if_ne C dX5_append_46 (t := 51) (by decide) (by first | assumption | exact R.rg _ _ | exact rg _ _ | (unfold inR; omega)) (fun c46 => ?_) (fun c46 => ?_)
        · skip
          exact absurd (hH.t c46) (by decide)
        · skip
          refine r_iconst C dX5_append_49 ?_
          refine r_iret C dX5_append_50 (Or.inl rfl) ?_
          first
            | exact k 1 _ _ _ (Or.inl ⟨hn1, rfl⟩) (fun z => absurd z (by decide)) (fun _ => rfl) R
            | exact k 2 _ _ _ (Or.inr (Or.inl ⟨hn1, hn2, rfl⟩)) (fun z => absurd z (by decide)) (fun _ => rfl) R
            | exact k 3 _ _ _ (Or.inr (Or.inr (Or.inl ⟨hn1, hn2, hn3, rfl⟩))) (fun z => absurd z (by decide)) (fun _ => rfl) R
      · skip
        have hn3 := hb3.t c35
        refine r_iconst C dX5_append_38 ?_
        refine r_goto C dX5_append_39 (t := 43) (by decide) ?_
        refine m_V1 C dX5_append_43 sX5_91 rfl R (Nat.le_of_ble_eq_true rfl) (C_X5_holds R (by unfold inR; omega) (fun zH h hzH hH R => ?_))
        refine r_if_ne C dX5_append_46 (t := 51) (by decide) (by first | assumption | exact R.rg _ _ | exact rg _ _ | (unfold inR; omega)) (fun c46 => ?_) (fun c46 => ?_)
        · skip
          obtain ⟨s, hs⟩ : ∃ s, s = up g 0 0 0 := ⟨_, rfl⟩
          rw [← hs] at R
          have ge : ∀ k, k ≠ 0 → ∀ j, s k j = g k j := fun k hk j => by rw [hs, up_ne hk]
          have SB : BD s := by rw [hs]; exact bd_up0 B (by decide)
          have rg := R.rg
          have e4 := ge 4 (by decide) 0; have e11 := ge 11 (by decide) 0; have e22 := ge 22 (by decide) 0
          have SI : IV1 s := by rw [hs]; exact iv1_up0 I (by decide)
          have SZ : HZ s := by rw [hs]; exact hz_up Z (by decide)
          have e1 := ge 1 (by decide) 0
          have hvs : ∀ j, 0 ≤ s 12 j ∧ s 12 j < 1000000 := fun j => by rw [ge 12 (by decide)]; exact hv j
          have hcs : caP s f := (ca_c ge f).mpr hn3
          refine r_aload_n C dX5_append_51 (i := 0) rfl rfl ?_
          refine r_iload_n C dX5_append_52 (i := 1) rfl rfl ?_
          refine m_V1 C dX5_append_53 sX5_185 rfl R (Nat.le_of_ble_eq_true rfl) (C_X5_isFull R SB (by omega) (by omega) (fun z4 hz4 hb4 => ?_))
          refine r_if_eq C dX5_append_56 (t := 64) (by decide) (by first | assumption | exact R.rg _ _ | exact rg _ _ | (unfold inR; omega)) (fun c56 => ?_) (fun c56 => ?_)
          · skip
            have hn4 := hb4.f c56
            obtain ⟨t, et⟩ : ∃ t, t = ap1 s f := ⟨_, rfl⟩
            have et2 : s = t := by rw [et, ap1_n hn4]
            rw [et2] at R
            have AF := ap_f SI SZ (show 0 ≤ f by omega) (show f < s 22 0 by omega) hcs hvs
            rw [← et] at AF
            obtain ⟨TI, t22, t25, tcw, tc4, tz, thv, t1⟩ := AF
            have rg := R.rg
            refine r_aload_n C dX5_append_64 (i := 0) rfl rfl ?_
            refine m_getA C dX5_append_65 fX5_69 R (by decide) rfl ?_
            refine r_iload_n C dX5_append_68 (i := 1) rfl rfl ?_
            refine m_iald C dX5_append_69 R (N := 20) rfl (by decide) rfl (by omega) (by omega) (by omega) ?_
            refine r_iconst C dX5_append_70 ?_
            refine r_isub C dX5_append_71 ?_
            refine r_istore C dX5_append_72 (Nat.le_of_ble_eq_true rfl) ?_
            dsimp only [List.set]
            refine r_aload_n C dX5_append_74 (i := 0) rfl rfl ?_
            refine r_iload_n C dX5_append_75 (i := 1) rfl rfl ?_
            refine r_iload C dX5_append_76 rfl ?_
            refine m_V2 C dX5_append_78 sX5_201 rfl R (Nat.le_of_ble_eq_true rfl) (C_X5_readies R TI.1 TI.2.1 (by omega) (by omega) (by omega) (by omega) (fun q => ⟨(tcw.2.resolve_left (fun y => y q)).2, fun q2 => tcw.1 (by rw [show ffG t f (t 26 (6 * f + (t 25 f - 1))) = fgG t (t 26 (6 * f + (t 25 f - 1))) 0 from if_pos q]; exact q2)⟩) thv (by omega) (by omega) (fun h R => ?_))
            have RF := rd_f TI (z := t 25 f - 1) tz (show 0 ≤ f by omega) (show f < t 22 0 by omega) (by omega) (by omega) tcw
            obtain ⟨u, eu⟩ : ∃ u, u = rdG t f (t 25 f - 1) := ⟨_, rfl⟩
            obtain ⟨p, ep⟩ : ∃ p, p = rdP t f (t 25 f - 1) := ⟨_, rfl⟩
            rw [← eu, ← ep] at RF
            rw [← eu] at R
            rw [← ep]
            obtain ⟨UI, up1, u13, u19⟩ := RF
            have un := UI.1.np
            have rg := R.rg
            refine r_istore C dX5_append_81 (Nat.le_of_ble_eq_true rfl) ?_
            dsimp only [List.set]
            refine r_aload_n C dX5_append_83 (i := 0) rfl rfl ?_
            refine m_getA C dX5_append_84 fX5_54 R (by decide) rfl ?_
            refine r_aload_n C dX5_append_87 (i := 0) rfl rfl ?_
            refine m_getA C dX5_append_88 fX5_36 R (by decide) rfl ?_
            refine r_iload C dX5_append_91 rfl ?_
            refine m_iald C dX5_append_93 R (N := 60) rfl (by decide) rfl (by omega) (by omega) (by omega) ?_
            refine r_iload C dX5_append_94 rfl ?_
            refine r_S2 C dX5_append_96 sX5_104 (Nat.le_of_ble_eq_true rfl) (C_X5_at ?_)
            refine m_iald C dX5_append_99 R (N := 480) rfl (by decide) rfl (by omega) (by omega) (by omega) ?_
            refine r_istore C dX5_append_100 (Nat.le_of_ble_eq_true rfl) ?_
            dsimp only [List.set]
            refine r_aload_n C dX5_append_102 (i := 0) rfl rfl ?_
            refine r_iload C dX5_append_103 rfl ?_
            refine r_iload C dX5_append_105 rfl ?_
            refine r_iload_n C dX5_append_107 (i := 2) rfl rfl ?_
            refine m_V3 C dX5_append_108 sX5_204 rfl R (Nat.le_of_ble_eq_true rfl) (C_X5_writesAll R UI.1 UI.2.2.1 up1.1 up1.2 (by omega) (by omega) hx (fun y h hyr hy R => ?_))
            have hy01 := hy.b
            obtain ⟨c, ec⟩ : ∃ c, c = u 19 (60 * u 13 p + p) := ⟨_, rfl⟩
            rw [← ec] at R u19 ⊢
            refine r_if_eq C dX5_append_111 (t := 125) (by decide) (by first | assumption | exact R.rg _ _ | exact rg _ _ | (unfold inR; omega)) (fun c111 => ?_) (fun c111 => ?_)
            · skip
              refine r_iconst C dX5_append_125 ?_
              refine r_iret C dX5_append_126 (Or.inl rfl) ?_
              first
                | exact k 0 _ _ _ (Or.inr (Or.inr (Or.inr ⟨hn1, hn2, hn3, rfl⟩))) (fun _ => by rw [← hs]; exact ⟨t, u, p, _, c, y, et, rfl, eu, ep, ec, hy, by rw [if_pos (by omega)], rfl⟩) (fun z => absurd rfl z) R
                | exact k 0 _ _ _ (Or.inr (Or.inr (Or.inr ⟨hn1, hn2, hn3, rfl⟩))) (fun _ => by rw [← hs]; exact ⟨t, u, p, _, c, y, et, rfl, eu, ep, ec, hy, by rw [if_neg (by omega)], rfl⟩) (fun z => absurd rfl z) R
            · skip
              refine r_bipush C dX5_append_114 (by decide) ?_
              refine r_iload C dX5_append_116 rfl ?_
              refine r_imul C dX5_append_118 ?_
              refine r_iload C dX5_append_119 rfl ?_
              refine r_iadd C dX5_append_121 ?_
              refine r_goto C dX5_append_122 (t := 126) (by decide) ?_
              refine r_iret C dX5_append_126 (Or.inl rfl) ?_
              first
                | exact k 0 _ _ _ (Or.inr (Or.inr (Or.inr ⟨hn1, hn2, hn3, rfl⟩))) (fun _ => by rw [← hs]; exact ⟨t, u, p, _, c, y, et, rfl, eu, ep, ec, hy, by rw [if_pos (by omega)], rfl⟩) (fun z => absurd rfl z) R
                | exact k 0 _ _ _ (Or.inr (Or.inr (Or.inr ⟨hn1, hn2, hn3, rfl⟩))) (fun _ => by rw [← hs]; exact ⟨t, u, p, _, c, y, et, rfl, eu, ep, ec, hy, by rw [if_neg (by omega)], rfl⟩) (fun z => absurd rfl z) R
          · skip
            have hn4 := hb4.t c56
            have hfr := hcs.2.resolve_right (fun q => q.1 hn4)
            refine r_aload_n C dX5_append_59 (i := 0) rfl rfl ?_
            refine r_iload_n C dX5_append_60 (i := 1) rfl rfl ?_
            refine m_V1 C dX5_append_61 sX5_198 rfl R (Nat.le_of_ble_eq_true rfl) (C_X5_adds R SB SI.2.1 (by omega) (by omega) hfr.2.1 hfr.2.2.2 (fun h R => ?_))
            obtain ⟨t, et⟩ : ∃ t, t = ap1 s f := ⟨_, rfl⟩
            have et2 : adG s f = t := by rw [et, ap1_y hn4]
            rw [et2] at R
            have AF := ap_f SI SZ (show 0 ≤ f by omega) (show f < s 22 0 by omega) hcs hvs
            rw [← et] at AF
            obtain ⟨TI, t22, t25, tcw, tc4, tz, thv, t1⟩ := AF
            have rg := R.rg
            refine r_aload_n C dX5_append_64 (i := 0) rfl rfl ?_
            refine m_getA C dX5_append_65 fX5_69 R (by decide) rfl ?_
            refine r_iload_n C dX5_append_68 (i := 1) rfl rfl ?_
            refine m_iald C dX5_append_69 R (N := 20) rfl (by decide) rfl (by omega) (by omega) (by omega) ?_
            refine r_iconst C dX5_append_70 ?_
            refine r_isub C dX5_append_71 ?_
            refine r_istore C dX5_append_72 (Nat.le_of_ble_eq_true rfl) ?_
            dsimp only [List.set]
            refine r_aload_n C dX5_append_74 (i := 0) rfl rfl ?_
            refine r_iload_n C dX5_append_75 (i := 1) rfl rfl ?_
            refine r_iload C dX5_append_76 rfl ?_
            refine m_V2 C dX5_append_78 sX5_201 rfl R (Nat.le_of_ble_eq_true rfl) (C_X5_readies R TI.1 TI.2.1 (by omega) (by omega) (by omega) (by omega) (fun q => ⟨(tcw.2.resolve_left (fun y => y q)).2, fun q2 => tcw.1 (by rw [show ffG t f (t 26 (6 * f + (t 25 f - 1))) = fgG t (t 26 (6 * f + (t 25 f - 1))) 0 from if_pos q]; exact q2)⟩) thv (by omega) (by omega) (fun h R => ?_))
            have RF := rd_f TI (z := t 25 f - 1) tz (show 0 ≤ f by omega) (show f < t 22 0 by omega) (by omega) (by omega) tcw
            obtain ⟨u, eu⟩ : ∃ u, u = rdG t f (t 25 f - 1) := ⟨_, rfl⟩
            obtain ⟨p, ep⟩ : ∃ p, p = rdP t f (t 25 f - 1) := ⟨_, rfl⟩
            rw [← eu, ← ep] at RF
            rw [← eu] at R
            rw [← ep]
            obtain ⟨UI, up1, u13, u19⟩ := RF
            have un := UI.1.np
            have rg := R.rg
            refine r_istore C dX5_append_81 (Nat.le_of_ble_eq_true rfl) ?_
            dsimp only [List.set]
            refine r_aload_n C dX5_append_83 (i := 0) rfl rfl ?_
            refine m_getA C dX5_append_84 fX5_54 R (by decide) rfl ?_
            refine r_aload_n C dX5_append_87 (i := 0) rfl rfl ?_
            refine m_getA C dX5_append_88 fX5_36 R (by decide) rfl ?_
            refine r_iload C dX5_append_91 rfl ?_
            refine m_iald C dX5_append_93 R (N := 60) rfl (by decide) rfl (by omega) (by omega) (by omega) ?_
            refine r_iload C dX5_append_94 rfl ?_
            refine r_S2 C dX5_append_96 sX5_104 (Nat.le_of_ble_eq_true rfl) (C_X5_at ?_)
            refine m_iald C dX5_append_99 R (N := 480) rfl (by decide) rfl (by omega) (by omega) (by omega) ?_
            refine r_istore C dX5_append_100 (Nat.le_of_ble_eq_true rfl) ?_
            dsimp only [List.set]
            refine r_aload_n C dX5_append_102 (i := 0) rfl rfl ?_
            refine r_iload C dX5_append_103 rfl ?_
            refine r_iload C dX5_append_105 rfl ?_
            refine r_iload_n C dX5_append_107 (i := 2) rfl rfl ?_
            refine m_V3 C dX5_append_108 sX5_204 rfl R (Nat.le_of_ble_eq_true rfl) (C_X5_writesAll R UI.1 UI.2.2.1 up1.1 up1.2 (by omega) (by omega) hx (fun y h hyr hy R => ?_))
            have hy01 := hy.b
            obtain ⟨c, ec⟩ : ∃ c, c = u 19 (60 * u 13 p + p) := ⟨_, rfl⟩
            rw [← ec] at R u19 ⊢
            refine r_if_eq C dX5_append_111 (t := 125) (by decide) (by first | assumption | exact R.rg _ _ | exact rg _ _ | (unfold inR; omega)) (fun c111 => ?_) (fun c111 => ?_)
            · skip
              refine r_iconst C dX5_append_125 ?_
              refine r_iret C dX5_append_126 (Or.inl rfl) ?_
              first
                | exact k 0 _ _ _ (Or.inr (Or.inr (Or.inr ⟨hn1, hn2, hn3, rfl⟩))) (fun _ => by rw [← hs]; exact ⟨t, u, p, _, c, y, et, rfl, eu, ep, ec, hy, by rw [if_pos (by omega)], rfl⟩) (fun z => absurd rfl z) R
                | exact k 0 _ _ _ (Or.inr (Or.inr (Or.inr ⟨hn1, hn2, hn3, rfl⟩))) (fun _ => by rw [← hs]; exact ⟨t, u, p, _, c, y, et, rfl, eu, ep, ec, hy, by rw [if_neg (by omega)], rfl⟩) (fun z => absurd rfl z) R
            · skip
              refine r_bipush C dX5_append_114 (by decide) ?_
              refine r_iload C dX5_append_116 rfl ?_
              refine r_imul C dX5_append_118 ?_
              refine r_iload C dX5_append_119 rfl ?_
              refine r_iadd C dX5_append_121 ?_
              refine r_goto C dX5_append_122 (t := 126) (by decide) ?_
              refine r_iret C dX5_append_126 (Or.inl rfl) ?_
              first
                | exact k 0 _ _ _ (Or.inr (Or.inr (Or.inr ⟨hn1, hn2, hn3, rfl⟩))) (fun _ => by rw [← hs]; exact ⟨t, u, p, _, c, y, et, rfl, eu, ep, ec, hy, by rw [if_pos (by omega)], rfl⟩) (fun z => absurd rfl z) R
                | exact k 0 _ _ _ (Or.inr (Or.inr (Or.inr ⟨hn1, hn2, hn3, rfl⟩))) (fun _ => by rw [← hs]; exact ⟨t, u, p, _, c, y, et, rfl, eu, ep, ec, hy, by rw [if_neg (by omega)], rfl⟩) (fun z => absurd rfl z) R
        · skip
          exact absurd rfl (hH.f c46)
    · skip
      have hn2 := hb2.f c23
      refine r_iconst C dX5_append_26 ?_
      refine r_goto C dX5_append_27 (t := 43) (by decide) ?_
      refine m_V1 C dX5_append_43 sX5_91 rfl R (Nat.le_of_ble_eq_true rfl) (C_X5_holds R (by unfold inR; omega) (fun zH h hzH hH R => ?_))
      refine r_if_ne C dX5_append_46 (t := 51) (by decide) (by first | assumption | exact R.rg _ _ | exact rg _ _ | (unfold inR; omega)) (fun c46 => ?_) (fun c46 => ?_)
      · skip
        exact absurd (hH.t c46) (by decide)
      · skip
        refine r_iconst C dX5_append_49 ?_
        refine r_iret C dX5_append_50 (Or.inl rfl) ?_
        first
          | exact k 1 _ _ _ (Or.inl ⟨hn1, rfl⟩) (fun z => absurd z (by decide)) (fun _ => rfl) R
          | exact k 2 _ _ _ (Or.inr (Or.inl ⟨hn1, hn2, rfl⟩)) (fun z => absurd z (by decide)) (fun _ => rfl) R
          | exact k 3 _ _ _ (Or.inr (Or.inr (Or.inl ⟨hn1, hn2, hn3, rfl⟩))) (fun z => absurd z (by decide)) (fun _ => rfl) R
  · skip
    have hn1 := hb1.f c8
    refine r_iconst C dX5_append_11 ?_
    refine r_goto C dX5_append_12 (t := 43) (by decide) ?_
    refine m_V1 C dX5_append_43 sX5_91 rfl R (Nat.le_of_ble_eq_true rfl) (C_X5_holds R (by unfold inR; omega) (fun zH h hzH hH R => ?_))
    refine r_if_ne C dX5_append_46 (t := 51) (by decide) (by first | assumption | exact R.rg _ _ | exact rg _ _ | (unfold inR; omega)) (fun c46 => ?_) (fun c46 => ?_)
    · skip
      exact absurd (hH.t c46) (by decide)
    · skip
      refine r_iconst C dX5_append_49 ?_
      refine r_iret C dX5_append_50 (Or.inl rfl) ?_
      first
        | exact k 1 _ _ _ (Or.inl ⟨hn1, rfl⟩) (fun z => absurd z (by decide)) (fun _ => rfl) R
        | exact k 2 _ _ _ (Or.inr (Or.inl ⟨hn1, hn2, rfl⟩)) (fun z => absurd z (by decide)) (fun _ => rfl) R
        | exact k 3 _ _ _ (Or.inr (Or.inr (Or.inl ⟨hn1, hn2, hn3, rfl⟩))) (fun z => absurd z (by decide)) (fun _ => rfl) R

set_option maxRecDepth 100000 in
set_option maxHeartbeats 4000000 in
theorem C_X5_put {gx : GX} {d : Nat} {Qr : Option AV → Hp → Prop} {Qx : String → Hp → Prop} {q : Nat} {ar : Nat → Nat} {g : GT} {h : Hp} {f w c x : Int} (R : RM q ar g h) (I : IV1 g) (Z : HZ g) (hf : inR f) (hw : inR w) (hc : inR c) (hx : inR x) (hv : ∀ j, 0 ≤ g 12 j ∧ g 12 j < 1000000) (ht0 : 0 ≤ g 1 0) (ht1 : g 1 0 ≤ 3000) (k : ∀ e z h1 g1, C3 (flP g f ∧ inP w 0 (rwG g f - 1) ∧ inP c 0 3) (inP x 0 999) (puP g f w c) e → (e = 0 → puQ (up g 0 0 0) f w c x z g1) → (e ≠ 0 → g1 = up g 0 0 e) → RM q ar g1 h1 → Qr (some (vi z)) h1) : aM gx (d + 6) mX5_put [vr q, vi f, vi w, vi c, vi x] h 0 0 Qr Qx := by
  intro J C
  show J 0 [some (vr q), some (vi f), some (vi w), some (vi c), some (vi x), none, none, none] [] h 0 0
  have B := I.1; have b1 := B.nn; have b2 := B.np; have b3 := B.nf; have rg := R.rg
  refine r_aload_n C dX5_put_0 (i := 0) rfl rfl ?_
  refine r_iload_n C dX5_put_1 (i := 1) rfl rfl ?_
  refine m_V1 C dX5_put_2 sX5_140 rfl R (Nat.le_of_ble_eq_true rfl) (C_X5_isFile R B hf (fun z1 hz1 hb1 => ?_))
  refine r_if_eq C dX5_put_5 (t := 36) (by decide) (by first | assumption | exact R.rg _ _ | exact rg _ _ | (unfold inR; omega)) (fun c5 => ?_) (fun c5 => ?_)
  · skip
    have hn1 := hb1.f c5
    refine r_iconst C dX5_put_36 ?_
    refine r_istore C dX5_put_37 (Nat.le_of_ble_eq_true rfl) ?_
    dsimp only [List.set]
    refine r_iload C dX5_put_39 rfl ?_
    refine r_if_eq C dX5_put_41 (t := 58) (by decide) (by first | assumption | exact R.rg _ _ | exact rg _ _ | (unfold inR; omega)) (fun c41 => ?_) (fun c41 => ?_)
    · skip
      refine r_iconst C dX5_put_58 ?_
      refine r_istore C dX5_put_59 (Nat.le_of_ble_eq_true rfl) ?_
      dsimp only [List.set]
      refine r_iload C dX5_put_61 rfl ?_
      refine r_if_eq C dX5_put_63 (t := 110) (by decide) (by first | assumption | exact R.rg _ _ | exact rg _ _ | (unfold inR; omega)) (fun c63 => ?_) (fun c63 => ?_)
      · skip
        refine r_iconst C dX5_put_110 ?_
        refine r_istore C dX5_put_111 (Nat.le_of_ble_eq_true rfl) ?_
        dsimp only [List.set]
        refine r_aload_n C dX5_put_113 (i := 0) rfl rfl ?_
        refine r_iload C dX5_put_114 rfl ?_
        refine r_if_ne C dX5_put_116 (t := 123) (by decide) (by first | assumption | exact R.rg _ _ | exact rg _ _ | (unfold inR; omega)) (fun c116 => ?_) (fun c116 => ?_)
        · skip
          exact absurd c116 (by decide)
        · skip
          refine r_iconst C dX5_put_119 ?_
          refine r_goto C dX5_put_120 (t := 149) (by decide) ?_
          refine m_V1 C dX5_put_149 sX5_91 rfl R (Nat.le_of_ble_eq_true rfl) (C_X5_holds R (by unfold inR; omega) (fun zH h hzH hH R => ?_))
          refine r_if_ne C dX5_put_152 (t := 157) (by decide) (by first | assumption | exact R.rg _ _ | exact rg _ _ | (unfold inR; omega)) (fun c152 => ?_) (fun c152 => ?_)
          · skip
            exact absurd (hH.t c152) (by decide)
          · skip
            refine r_iconst C dX5_put_155 ?_
            refine r_iret C dX5_put_156 (Or.inr ⟨rfl, (by first | assumption | omega | decide)⟩) ?_
            first
              | exact k 1 _ _ _ (Or.inl ⟨by omega, rfl⟩) (fun z => absurd z (by decide)) (fun _ => rfl) R
              | exact k 2 _ _ _ (Or.inr (Or.inl ⟨by omega, by omega, rfl⟩)) (fun z => absurd z (by decide)) (fun _ => rfl) R
              | exact k 3 _ _ _ (Or.inr (Or.inr (Or.inl ⟨by omega, by omega, fun q => by have q1 := q.1; have q3 := q.2.2; first | omega | exact hn4 q.2.1, rfl⟩))) (fun z => absurd z (by decide)) (fun _ => rfl) R
      · skip
        exact absurd c63 (by decide)
    · skip
      exact absurd c41 (by decide)
  · skip
    have hn1 := hb1.t c5; have brw := rw_b B hn1.1 hn1.2
    refine r_iload_n C dX5_put_8 (i := 2) rfl rfl ?_
    refine r_iconst C dX5_put_9 ?_
    refine r_aload_n C dX5_put_10 (i := 0) rfl rfl ?_
    refine r_iload_n C dX5_put_11 (i := 1) rfl rfl ?_
    refine m_V1 C dX5_put_12 sX5_207 rfl R (Nat.le_of_ble_eq_true rfl) (C_X5_rowsOf R B (by omega) (by omega) ?_)
    refine r_iconst C dX5_put_15 ?_
    refine r_isub C dX5_put_16 ?_
    refine r_S3 C dX5_put_17 sX5_81 (Nat.le_of_ble_eq_true rfl) (C_X5_isIn (by first | assumption | (unfold inR; omega)) (by unfold inR; omega) (by unfold inR; omega) (fun z2 hz2 hb2 => ?_))
    refine r_if_eq C dX5_put_20 (t := 36) (by decide) (by first | assumption | exact R.rg _ _ | exact rg _ _ | (unfold inR; omega)) (fun c20 => ?_) (fun c20 => ?_)
    · skip
      have hn2 := hb2.f c20
      refine r_iconst C dX5_put_36 ?_
      refine r_istore C dX5_put_37 (Nat.le_of_ble_eq_true rfl) ?_
      dsimp only [List.set]
      refine r_iload C dX5_put_39 rfl ?_
      refine r_if_eq C dX5_put_41 (t := 58) (by decide) (by first | assumption | exact R.rg _ _ | exact rg _ _ | (unfold inR; omega)) (fun c41 => ?_) (fun c41 => ?_)
      · skip
        refine r_iconst C dX5_put_58 ?_
        refine r_istore C dX5_put_59 (Nat.le_of_ble_eq_true rfl) ?_
        dsimp only [List.set]
        refine r_iload C dX5_put_61 rfl ?_
        refine r_if_eq C dX5_put_63 (t := 110) (by decide) (by first | assumption | exact R.rg _ _ | exact rg _ _ | (unfold inR; omega)) (fun c63 => ?_) (fun c63 => ?_)
        · skip
          refine r_iconst C dX5_put_110 ?_
          refine r_istore C dX5_put_111 (Nat.le_of_ble_eq_true rfl) ?_
          dsimp only [List.set]
          refine r_aload_n C dX5_put_113 (i := 0) rfl rfl ?_
          refine r_iload C dX5_put_114 rfl ?_
          refine r_if_ne C dX5_put_116 (t := 123) (by decide) (by first | assumption | exact R.rg _ _ | exact rg _ _ | (unfold inR; omega)) (fun c116 => ?_) (fun c116 => ?_)
          · skip
            exact absurd c116 (by decide)
          · skip
            refine r_iconst C dX5_put_119 ?_
            refine r_goto C dX5_put_120 (t := 149) (by decide) ?_
            refine m_V1 C dX5_put_149 sX5_91 rfl R (Nat.le_of_ble_eq_true rfl) (C_X5_holds R (by unfold inR; omega) (fun zH h hzH hH R => ?_))
            refine r_if_ne C dX5_put_152 (t := 157) (by decide) (by first | assumption | exact R.rg _ _ | exact rg _ _ | (unfold inR; omega)) (fun c152 => ?_) (fun c152 => ?_)
            · skip
              exact absurd (hH.t c152) (by decide)
            · skip
              refine r_iconst C dX5_put_155 ?_
              refine r_iret C dX5_put_156 (Or.inr ⟨rfl, (by first | assumption | omega | decide)⟩) ?_
              first
                | exact k 1 _ _ _ (Or.inl ⟨by omega, rfl⟩) (fun z => absurd z (by decide)) (fun _ => rfl) R
                | exact k 2 _ _ _ (Or.inr (Or.inl ⟨by omega, by omega, rfl⟩)) (fun z => absurd z (by decide)) (fun _ => rfl) R
                | exact k 3 _ _ _ (Or.inr (Or.inr (Or.inl ⟨by omega, by omega, fun q => by have q1 := q.1; have q3 := q.2.2; first | omega | exact hn4 q.2.1, rfl⟩))) (fun z => absurd z (by decide)) (fun _ => rfl) R
        · skip
          exact absurd c63 (by decide)
      · skip
        exact absurd c41 (by decide)
    · skip
      have hn2 := hb2.t c20
      refine r_iload_n C dX5_put_23 (i := 3) rfl rfl ?_
      refine r_iconst C dX5_put_24 ?_
      refine r_iconst C dX5_put_25 ?_
      refine r_S3 C dX5_put_26 sX5_81 (Nat.le_of_ble_eq_true rfl) (C_X5_isIn (by first | assumption | (unfold inR; omega)) (by unfold inR; omega) (by unfold inR; omega) (fun z3 hz3 hb3 => ?_))
      refine r_if_eq C dX5_put_29 (t := 36) (by decide) (by first | assumption | exact R.rg _ _ | exact rg _ _ | (unfold inR; omega)) (fun c29 => ?_) (fun c29 => ?_)
      · skip
        have hn3 := hb3.f c29
        refine r_iconst C dX5_put_36 ?_
        refine r_istore C dX5_put_37 (Nat.le_of_ble_eq_true rfl) ?_
        dsimp only [List.set]
        refine r_iload C dX5_put_39 rfl ?_
        refine r_if_eq C dX5_put_41 (t := 58) (by decide) (by first | assumption | exact R.rg _ _ | exact rg _ _ | (unfold inR; omega)) (fun c41 => ?_) (fun c41 => ?_)
        · skip
          refine r_iconst C dX5_put_58 ?_
          refine r_istore C dX5_put_59 (Nat.le_of_ble_eq_true rfl) ?_
          dsimp only [List.set]
          refine r_iload C dX5_put_61 rfl ?_
          refine r_if_eq C dX5_put_63 (t := 110) (by decide) (by first | assumption | exact R.rg _ _ | exact rg _ _ | (unfold inR; omega)) (fun c63 => ?_) (fun c63 => ?_)
          · skip
            refine r_iconst C dX5_put_110 ?_
            refine r_istore C dX5_put_111 (Nat.le_of_ble_eq_true rfl) ?_
            dsimp only [List.set]
            refine r_aload_n C dX5_put_113 (i := 0) rfl rfl ?_
            refine r_iload C dX5_put_114 rfl ?_
            refine r_if_ne C dX5_put_116 (t := 123) (by decide) (by first | assumption | exact R.rg _ _ | exact rg _ _ | (unfold inR; omega)) (fun c116 => ?_) (fun c116 => ?_)
            · skip
              exact absurd c116 (by decide)
            · skip
              refine r_iconst C dX5_put_119 ?_
              refine r_goto C dX5_put_120 (t := 149) (by decide) ?_
              refine m_V1 C dX5_put_149 sX5_91 rfl R (Nat.le_of_ble_eq_true rfl) (C_X5_holds R (by unfold inR; omega) (fun zH h hzH hH R => ?_))
              refine r_if_ne C dX5_put_152 (t := 157) (by decide) (by first | assumption | exact R.rg _ _ | exact rg _ _ | (unfold inR; omega)) (fun c152 => ?_) (fun c152 => ?_)
              · skip
                exact absurd (hH.t c152) (by decide)
              · skip
                refine r_iconst C dX5_put_155 ?_
                refine r_iret C dX5_put_156 (Or.inr ⟨rfl, (by first | assumption | omega | decide)⟩) ?_
                first
                  | exact k 1 _ _ _ (Or.inl ⟨by omega, rfl⟩) (fun z => absurd z (by decide)) (fun _ => rfl) R
                  | exact k 2 _ _ _ (Or.inr (Or.inl ⟨by omega, by omega, rfl⟩)) (fun z => absurd z (by decide)) (fun _ => rfl) R
                  | exact k 3 _ _ _ (Or.inr (Or.inr (Or.inl ⟨by omega, by omega, fun q => by have q1 := q.1; have q3 := q.2.2; first | omega | exact hn4 q.2.1, rfl⟩))) (fun z => absurd z (by decide)) (fun _ => rfl) R
          · skip
            exact absurd c63 (by decide)
        · skip
          exact absurd c41 (by decide)
      · skip
        have hn3 := hb3.t c29
        refine r_iconst C dX5_put_32 ?_
        refine r_goto C dX5_put_33 (t := 37) (by decide) ?_
        refine r_istore C dX5_put_37 (Nat.le_of_ble_eq_true rfl) ?_
        dsimp only [List.set]
        refine r_iload C dX5_put_39 rfl ?_
        refine r_if_eq C dX5_put_41 (t := 58) (by decide) (by first | assumption | exact R.rg _ _ | exact rg _ _ | (unfold inR; omega)) (fun c41 => ?_) (fun c41 => ?_)
        · skip
          exact absurd c41 (by decide)
        · skip
          have bre := B.re f w (by omega) (by omega) (by omega) (by omega)
          have bff := ff_b B f bre.1 bre.2
          refine r_aload_n C dX5_put_44 (i := 0) rfl rfl ?_
          refine m_getA C dX5_put_45 fX5_72 R (by decide) rfl ?_
          refine r_bipush C dX5_put_48 (by decide) ?_
          refine r_iload_n C dX5_put_50 (i := 1) rfl rfl ?_
          refine r_imul C dX5_put_51 ?_
          refine r_iload_n C dX5_put_52 (i := 2) rfl rfl ?_
          refine r_iadd C dX5_put_53 ?_
          refine m_iald C dX5_put_54 R (N := 120) rfl (by decide) rfl (by omega) (by omega) (by omega) ?_
          refine r_goto C dX5_put_55 (t := 59) (by decide) ?_
          refine r_istore C dX5_put_59 (Nat.le_of_ble_eq_true rfl) ?_
          dsimp only [List.set]
          refine r_iload C dX5_put_61 rfl ?_
          refine r_if_eq C dX5_put_63 (t := 110) (by decide) (by first | assumption | exact R.rg _ _ | exact rg _ _ | (unfold inR; omega)) (fun c63 => ?_) (fun c63 => ?_)
          · skip
            exact absurd c63 (by decide)
          · skip
            refine r_aload_n C dX5_put_66 (i := 0) rfl rfl ?_
            refine m_getA C dX5_put_67 fX5_63 R (by decide) rfl ?_
            refine r_iload_n C dX5_put_70 (i := 1) rfl rfl ?_
            refine m_iald C dX5_put_71 R (N := 20) rfl (by decide) rfl (by omega) (by omega) (by omega) ?_
            refine r_if_ne C dX5_put_72 (t := 110) (by decide) (by first | assumption | exact R.rg _ _ | exact rg _ _ | (unfold inR; omega)) (fun c72 => ?_) (fun c72 => ?_)
            · skip
              refine r_iconst C dX5_put_110 ?_
              refine r_istore C dX5_put_111 (Nat.le_of_ble_eq_true rfl) ?_
              dsimp only [List.set]
              refine r_aload_n C dX5_put_113 (i := 0) rfl rfl ?_
              refine r_iload C dX5_put_114 rfl ?_
              refine r_if_ne C dX5_put_116 (t := 123) (by decide) (by first | assumption | exact R.rg _ _ | exact rg _ _ | (unfold inR; omega)) (fun c116 => ?_) (fun c116 => ?_)
              · skip
                refine r_iload C dX5_put_123 rfl ?_
                refine r_iconst C dX5_put_125 ?_
                refine r_sipush C dX5_put_126 (by decide) ?_
                refine r_S3 C dX5_put_129 sX5_81 (Nat.le_of_ble_eq_true rfl) (C_X5_isIn (by first | assumption | (unfold inR; omega)) (by unfold inR; omega) (by unfold inR; omega) (fun z5 hz5 hb5 => ?_))
                refine r_if_ne C dX5_put_132 (t := 139) (by decide) (by first | assumption | exact R.rg _ _ | exact rg _ _ | (unfold inR; omega)) (fun c132 => ?_) (fun c132 => ?_)
                · skip
                  have hn5 := hb5.t c132
                  refine r_iload C dX5_put_139 rfl ?_
                  refine r_if_eq C dX5_put_141 (t := 148) (by decide) (by first | assumption | exact R.rg _ _ | exact rg _ _ | (unfold inR; omega)) (fun c141 => ?_) (fun c141 => ?_)
                  · skip
                    refine r_iconst C dX5_put_148 ?_
                    refine m_V1 C dX5_put_149 sX5_91 rfl R (Nat.le_of_ble_eq_true rfl) (C_X5_holds R (by unfold inR; omega) (fun zH h hzH hH R => ?_))
                    refine r_if_ne C dX5_put_152 (t := 157) (by decide) (by first | assumption | exact R.rg _ _ | exact rg _ _ | (unfold inR; omega)) (fun c152 => ?_) (fun c152 => ?_)
                    · skip
                      exact absurd (hH.t c152) (by decide)
                    · skip
                      refine r_iconst C dX5_put_155 ?_
                      refine r_iret C dX5_put_156 (Or.inr ⟨rfl, (by first | assumption | omega | decide)⟩) ?_
                      first
                        | exact k 1 _ _ _ (Or.inl ⟨by omega, rfl⟩) (fun z => absurd z (by decide)) (fun _ => rfl) R
                        | exact k 2 _ _ _ (Or.inr (Or.inl ⟨by omega, by omega, rfl⟩)) (fun z => absurd z (by decide)) (fun _ => rfl) R
                        | exact k 3 _ _ _ (Or.inr (Or.inr (Or.inl ⟨by omega, by omega, fun q => by have q1 := q.1; have q3 := q.2.2; first | omega | exact hn4 q.2.1, rfl⟩))) (fun z => absurd z (by decide)) (fun _ => rfl) R
                  · skip
                    exact absurd c141 (by decide)
                · skip
                  have hn5 := hb5.f c132
                  refine r_iconst C dX5_put_135 ?_
                  refine r_goto C dX5_put_136 (t := 149) (by decide) ?_
                  refine m_V1 C dX5_put_149 sX5_91 rfl R (Nat.le_of_ble_eq_true rfl) (C_X5_holds R (by unfold inR; omega) (fun zH h hzH hH R => ?_))
                  refine r_if_ne C dX5_put_152 (t := 157) (by decide) (by first | assumption | exact R.rg _ _ | exact rg _ _ | (unfold inR; omega)) (fun c152 => ?_) (fun c152 => ?_)
                  · skip
                    exact absurd (hH.t c152) (by decide)
                  · skip
                    refine r_iconst C dX5_put_155 ?_
                    refine r_iret C dX5_put_156 (Or.inr ⟨rfl, (by first | assumption | omega | decide)⟩) ?_
                    first
                      | exact k 1 _ _ _ (Or.inl ⟨by omega, rfl⟩) (fun z => absurd z (by decide)) (fun _ => rfl) R
                      | exact k 2 _ _ _ (Or.inr (Or.inl ⟨by omega, by omega, rfl⟩)) (fun z => absurd z (by decide)) (fun _ => rfl) R
                      | exact k 3 _ _ _ (Or.inr (Or.inr (Or.inl ⟨by omega, by omega, fun q => by have q1 := q.1; have q3 := q.2.2; first | omega | exact hn4 q.2.1, rfl⟩))) (fun z => absurd z (by decide)) (fun _ => rfl) R
              · skip
                exact absurd c116 (by decide)
            · skip
              refine r_aload_n C dX5_put_75 (i := 0) rfl rfl ?_
              refine r_iload_n C dX5_put_76 (i := 1) rfl rfl ?_
              refine r_iload C dX5_put_77 rfl ?_
              refine m_V2 C dX5_put_79 sX5_192 rfl R (Nat.le_of_ble_eq_true rfl) (C_X5_canWrite R B (by assumption) bre.1 bre.2 (fun z4 hz4 hb4 => ?_))
              refine r_if_eq C dX5_put_82 (t := 110) (by decide) (by first | assumption | exact R.rg _ _ | exact rg _ _ | (unfold inR; omega)) (fun c82 => ?_) (fun c82 => ?_)
              · skip
                have hn4 := hb4.f c82
                refine r_iconst C dX5_put_110 ?_
                refine r_istore C dX5_put_111 (Nat.le_of_ble_eq_true rfl) ?_
                dsimp only [List.set]
                refine r_aload_n C dX5_put_113 (i := 0) rfl rfl ?_
                refine r_iload C dX5_put_114 rfl ?_
                refine r_if_ne C dX5_put_116 (t := 123) (by decide) (by first | assumption | exact R.rg _ _ | exact rg _ _ | (unfold inR; omega)) (fun c116 => ?_) (fun c116 => ?_)
                · skip
                  refine r_iload C dX5_put_123 rfl ?_
                  refine r_iconst C dX5_put_125 ?_
                  refine r_sipush C dX5_put_126 (by decide) ?_
                  refine r_S3 C dX5_put_129 sX5_81 (Nat.le_of_ble_eq_true rfl) (C_X5_isIn (by first | assumption | (unfold inR; omega)) (by unfold inR; omega) (by unfold inR; omega) (fun z5 hz5 hb5 => ?_))
                  refine r_if_ne C dX5_put_132 (t := 139) (by decide) (by first | assumption | exact R.rg _ _ | exact rg _ _ | (unfold inR; omega)) (fun c132 => ?_) (fun c132 => ?_)
                  · skip
                    have hn5 := hb5.t c132
                    refine r_iload C dX5_put_139 rfl ?_
                    refine r_if_eq C dX5_put_141 (t := 148) (by decide) (by first | assumption | exact R.rg _ _ | exact rg _ _ | (unfold inR; omega)) (fun c141 => ?_) (fun c141 => ?_)
                    · skip
                      refine r_iconst C dX5_put_148 ?_
                      refine m_V1 C dX5_put_149 sX5_91 rfl R (Nat.le_of_ble_eq_true rfl) (C_X5_holds R (by unfold inR; omega) (fun zH h hzH hH R => ?_))
                      refine r_if_ne C dX5_put_152 (t := 157) (by decide) (by first | assumption | exact R.rg _ _ | exact rg _ _ | (unfold inR; omega)) (fun c152 => ?_) (fun c152 => ?_)
                      · skip
                        exact absurd (hH.t c152) (by decide)
                      · skip
                        refine r_iconst C dX5_put_155 ?_
                        refine r_iret C dX5_put_156 (Or.inr ⟨rfl, (by first | assumption | omega | decide)⟩) ?_
                        first
                          | exact k 1 _ _ _ (Or.inl ⟨by omega, rfl⟩) (fun z => absurd z (by decide)) (fun _ => rfl) R
                          | exact k 2 _ _ _ (Or.inr (Or.inl ⟨by omega, by omega, rfl⟩)) (fun z => absurd z (by decide)) (fun _ => rfl) R
                          | exact k 3 _ _ _ (Or.inr (Or.inr (Or.inl ⟨by omega, by omega, fun q => by have q1 := q.1; have q3 := q.2.2; first | omega | exact hn4 q.2.1, rfl⟩))) (fun z => absurd z (by decide)) (fun _ => rfl) R
                    · skip
                      exact absurd c141 (by decide)
                  · skip
                    have hn5 := hb5.f c132
                    refine r_iconst C dX5_put_135 ?_
                    refine r_goto C dX5_put_136 (t := 149) (by decide) ?_
                    refine m_V1 C dX5_put_149 sX5_91 rfl R (Nat.le_of_ble_eq_true rfl) (C_X5_holds R (by unfold inR; omega) (fun zH h hzH hH R => ?_))
                    refine r_if_ne C dX5_put_152 (t := 157) (by decide) (by first | assumption | exact R.rg _ _ | exact rg _ _ | (unfold inR; omega)) (fun c152 => ?_) (fun c152 => ?_)
                    · skip
                      exact absurd (hH.t c152) (by decide)
                    · skip
                      refine r_iconst C dX5_put_155 ?_
                      refine r_iret C dX5_put_156 (Or.inr ⟨rfl, (by first | assumption | omega | decide)⟩) ?_
                      first
                        | exact k 1 _ _ _ (Or.inl ⟨by omega, rfl⟩) (fun z => absurd z (by decide)) (fun _ => rfl) R
                        | exact k 2 _ _ _ (Or.inr (Or.inl ⟨by omega, by omega, rfl⟩)) (fun z => absurd z (by decide)) (fun _ => rfl) R
                        | exact k 3 _ _ _ (Or.inr (Or.inr (Or.inl ⟨by omega, by omega, fun q => by have q1 := q.1; have q3 := q.2.2; first | omega | exact hn4 q.2.1, rfl⟩))) (fun z => absurd z (by decide)) (fun _ => rfl) R
                · skip
                  exact absurd c116 (by decide)
              · skip
                have hn4 := hb4.t c82
                refine r_aload_n C dX5_put_85 (i := 0) rfl rfl ?_
                refine m_getA C dX5_put_86 fX5_54 R (by decide) rfl ?_
                refine r_aload_n C dX5_put_89 (i := 0) rfl rfl ?_
                refine r_iload_n C dX5_put_90 (i := 1) rfl rfl ?_
                refine r_iload C dX5_put_91 rfl ?_
                refine m_V2 C dX5_put_93 sX5_156 rfl R (Nat.le_of_ble_eq_true rfl) (C_X5_foundFor R B (by assumption) bre.1 bre.2 ?_)
                have hn41 := hn4.1
                refine r_iload C dX5_put_96 rfl ?_
                refine r_S2 C dX5_put_98 sX5_104 (Nat.le_of_ble_eq_true rfl) (C_X5_at ?_)
                refine m_iald C dX5_put_101 R (N := 480) rfl (by decide) rfl (by omega) (by omega) (by omega) ?_
                refine r_iload_n C dX5_put_102 (i := 3) rfl rfl ?_
                refine r_ic_le C dX5_put_103 (t := 110) (by decide) (by first | assumption | exact R.rg _ _ | exact rg _ _ | (unfold inR; omega)) (by first | assumption | exact R.rg _ _ | exact rg _ _ | (unfold inR; omega)) (fun c103 => ?_) (fun c103 => ?_)
                · skip
                  refine r_iconst C dX5_put_110 ?_
                  refine r_istore C dX5_put_111 (Nat.le_of_ble_eq_true rfl) ?_
                  dsimp only [List.set]
                  refine r_aload_n C dX5_put_113 (i := 0) rfl rfl ?_
                  refine r_iload C dX5_put_114 rfl ?_
                  refine r_if_ne C dX5_put_116 (t := 123) (by decide) (by first | assumption | exact R.rg _ _ | exact rg _ _ | (unfold inR; omega)) (fun c116 => ?_) (fun c116 => ?_)
                  · skip
                    refine r_iload C dX5_put_123 rfl ?_
                    refine r_iconst C dX5_put_125 ?_
                    refine r_sipush C dX5_put_126 (by decide) ?_
                    refine r_S3 C dX5_put_129 sX5_81 (Nat.le_of_ble_eq_true rfl) (C_X5_isIn (by first | assumption | (unfold inR; omega)) (by unfold inR; omega) (by unfold inR; omega) (fun z5 hz5 hb5 => ?_))
                    refine r_if_ne C dX5_put_132 (t := 139) (by decide) (by first | assumption | exact R.rg _ _ | exact rg _ _ | (unfold inR; omega)) (fun c132 => ?_) (fun c132 => ?_)
                    · skip
                      have hn5 := hb5.t c132
                      refine r_iload C dX5_put_139 rfl ?_
                      refine r_if_eq C dX5_put_141 (t := 148) (by decide) (by first | assumption | exact R.rg _ _ | exact rg _ _ | (unfold inR; omega)) (fun c141 => ?_) (fun c141 => ?_)
                      · skip
                        refine r_iconst C dX5_put_148 ?_
                        refine m_V1 C dX5_put_149 sX5_91 rfl R (Nat.le_of_ble_eq_true rfl) (C_X5_holds R (by unfold inR; omega) (fun zH h hzH hH R => ?_))
                        refine r_if_ne C dX5_put_152 (t := 157) (by decide) (by first | assumption | exact R.rg _ _ | exact rg _ _ | (unfold inR; omega)) (fun c152 => ?_) (fun c152 => ?_)
                        · skip
                          exact absurd (hH.t c152) (by decide)
                        · skip
                          refine r_iconst C dX5_put_155 ?_
                          refine r_iret C dX5_put_156 (Or.inr ⟨rfl, (by first | assumption | omega | decide)⟩) ?_
                          first
                            | exact k 1 _ _ _ (Or.inl ⟨by omega, rfl⟩) (fun z => absurd z (by decide)) (fun _ => rfl) R
                            | exact k 2 _ _ _ (Or.inr (Or.inl ⟨by omega, by omega, rfl⟩)) (fun z => absurd z (by decide)) (fun _ => rfl) R
                            | exact k 3 _ _ _ (Or.inr (Or.inr (Or.inl ⟨by omega, by omega, fun q => by have q1 := q.1; have q3 := q.2.2; first | omega | exact hn4 q.2.1, rfl⟩))) (fun z => absurd z (by decide)) (fun _ => rfl) R
                      · skip
                        exact absurd c141 (by decide)
                    · skip
                      have hn5 := hb5.f c132
                      refine r_iconst C dX5_put_135 ?_
                      refine r_goto C dX5_put_136 (t := 149) (by decide) ?_
                      refine m_V1 C dX5_put_149 sX5_91 rfl R (Nat.le_of_ble_eq_true rfl) (C_X5_holds R (by unfold inR; omega) (fun zH h hzH hH R => ?_))
                      refine r_if_ne C dX5_put_152 (t := 157) (by decide) (by first | assumption | exact R.rg _ _ | exact rg _ _ | (unfold inR; omega)) (fun c152 => ?_) (fun c152 => ?_)
                      · skip
                        exact absurd (hH.t c152) (by decide)
                      · skip
                        refine r_iconst C dX5_put_155 ?_
                        refine r_iret C dX5_put_156 (Or.inr ⟨rfl, (by first | assumption | omega | decide)⟩) ?_
                        first
                          | exact k 1 _ _ _ (Or.inl ⟨by omega, rfl⟩) (fun z => absurd z (by decide)) (fun _ => rfl) R
                          | exact k 2 _ _ _ (Or.inr (Or.inl ⟨by omega, by omega, rfl⟩)) (fun z => absurd z (by decide)) (fun _ => rfl) R
                          | exact k 3 _ _ _ (Or.inr (Or.inr (Or.inl ⟨by omega, by omega, fun q => by have q1 := q.1; have q3 := q.2.2; first | omega | exact hn4 q.2.1, rfl⟩))) (fun z => absurd z (by decide)) (fun _ => rfl) R
                  · skip
                    exact absurd c116 (by decide)
                · skip
                  refine r_iconst C dX5_put_106 ?_
                  refine r_goto C dX5_put_107 (t := 111) (by decide) ?_
                  refine r_istore C dX5_put_111 (Nat.le_of_ble_eq_true rfl) ?_
                  dsimp only [List.set]
                  refine r_aload_n C dX5_put_113 (i := 0) rfl rfl ?_
                  refine r_iload C dX5_put_114 rfl ?_
                  refine r_if_ne C dX5_put_116 (t := 123) (by decide) (by first | assumption | exact R.rg _ _ | exact rg _ _ | (unfold inR; omega)) (fun c116 => ?_) (fun c116 => ?_)
                  · skip
                    refine r_iload C dX5_put_123 rfl ?_
                    refine r_iconst C dX5_put_125 ?_
                    refine r_sipush C dX5_put_126 (by decide) ?_
                    refine r_S3 C dX5_put_129 sX5_81 (Nat.le_of_ble_eq_true rfl) (C_X5_isIn (by first | assumption | (unfold inR; omega)) (by unfold inR; omega) (by unfold inR; omega) (fun z5 hz5 hb5 => ?_))
                    refine r_if_ne C dX5_put_132 (t := 139) (by decide) (by first | assumption | exact R.rg _ _ | exact rg _ _ | (unfold inR; omega)) (fun c132 => ?_) (fun c132 => ?_)
                    · skip
                      have hn5 := hb5.t c132
                      refine r_iload C dX5_put_139 rfl ?_
                      refine r_if_eq C dX5_put_141 (t := 148) (by decide) (by first | assumption | exact R.rg _ _ | exact rg _ _ | (unfold inR; omega)) (fun c141 => ?_) (fun c141 => ?_)
                      · skip
                        exact absurd c141 (by decide)
                      · skip
                        refine r_iconst C dX5_put_144 ?_
                        refine r_goto C dX5_put_145 (t := 149) (by decide) ?_
                        refine m_V1 C dX5_put_149 sX5_91 rfl R (Nat.le_of_ble_eq_true rfl) (C_X5_holds R (by unfold inR; omega) (fun zH h hzH hH R => ?_))
                        refine r_if_ne C dX5_put_152 (t := 157) (by decide) (by first | assumption | exact R.rg _ _ | exact rg _ _ | (unfold inR; omega)) (fun c152 => ?_) (fun c152 => ?_)
                        · skip
                          obtain ⟨s, hs⟩ : ∃ s, s = up g 0 0 0 := ⟨_, rfl⟩
                          rw [← hs] at R
                          have ge : ∀ k, k ≠ 0 → ∀ j, s k j = g k j := fun k hk j => by rw [hs, up_ne hk]
                          have SB : BD s := by rw [hs]; exact bd_up0 B (by decide)
                          have rg := R.rg
                          have e4 := ge 4 (by decide) 0; have e11 := ge 11 (by decide) 0; have e22 := ge 22 (by decide) 0
                          have SI : IV1 s := by rw [hs]; exact iv1_up0 I (by decide)
                          have SZ : HZ s := by rw [hs]; exact hz_up Z (by decide)
                          have e1 := ge 1 (by decide) 0
                          have hvs : ∀ j, 0 ≤ s 12 j ∧ s 12 j < 1000000 := fun j => by rw [ge 12 (by decide)]; exact hv j
                          have eo := ge 26 (by decide) (6 * f + w)
                          have s25 := ge 25 (by decide) f
                          have cw : cwP s f (s 26 (6 * f + w)) := by rw [eo]; exact (cw_c ge f _).mpr hn4
                          refine r_aload_n C dX5_put_157 (i := 0) rfl rfl ?_
                          refine r_aload_n C dX5_put_158 (i := 0) rfl rfl ?_
                          refine r_iload_n C dX5_put_159 (i := 1) rfl rfl ?_
                          refine r_iload_n C dX5_put_160 (i := 2) rfl rfl ?_
                          refine m_V2 C dX5_put_161 sX5_201 rfl R (Nat.le_of_ble_eq_true rfl) (C_X5_readies R SI.1 SI.2.1 (by omega) (by omega) (by omega) (by omega) (fun q => ⟨(cw.2.resolve_left (fun y => y q)).2, fun q2 => cw.1 (by rw [show ffG s f (s 26 (6 * f + w)) = fgG s (s 26 (6 * f + w)) 0 from if_pos q]; exact q2)⟩) hvs (by omega) (by omega) (fun h R => ?_))
                          have RF := rd_f SI (z := w) (fun _ => SZ) (show 0 ≤ f by omega) (show f < s 22 0 by omega) (by omega) (by omega) cw
                          obtain ⟨u, eu⟩ : ∃ u, u = rdG s f w := ⟨_, rfl⟩
                          obtain ⟨p, ep⟩ : ∃ p, p = rdP s f w := ⟨_, rfl⟩
                          rw [← eu, ← ep] at RF
                          rw [← eu] at R
                          rw [← ep]
                          obtain ⟨UI, up1, u13, u19⟩ := RF
                          have un := UI.1.np
                          have rg := R.rg
                          refine r_iload_n C dX5_put_164 (i := 3) rfl rfl ?_
                          refine r_iload C dX5_put_165 rfl ?_
                          refine m_V3 C dX5_put_167 sX5_204 rfl R (Nat.le_of_ble_eq_true rfl) (C_X5_writesAll R UI.1 UI.2.2.1 up1.1 up1.2 (by omega) (by omega) (by assumption) (fun y h hyr hy R => ?_))
                          have hy01 := hy.b
                          refine r_iret C dX5_put_170 (Or.inr ⟨rfl, (by first | assumption | omega | decide)⟩) ?_
                          exact k 0 _ _ _ (Or.inr (Or.inr (Or.inr ⟨by omega, by omega, ⟨by omega, hn4, by omega⟩, rfl⟩))) (fun _ => by rw [← hs]; exact ⟨u, p, eu, ep, hy, rfl⟩) (fun z => absurd rfl z) R
                        · skip
                          exact absurd rfl (hH.f c152)
                    · skip
                      have hn5 := hb5.f c132
                      refine r_iconst C dX5_put_135 ?_
                      refine r_goto C dX5_put_136 (t := 149) (by decide) ?_
                      refine m_V1 C dX5_put_149 sX5_91 rfl R (Nat.le_of_ble_eq_true rfl) (C_X5_holds R (by unfold inR; omega) (fun zH h hzH hH R => ?_))
                      refine r_if_ne C dX5_put_152 (t := 157) (by decide) (by first | assumption | exact R.rg _ _ | exact rg _ _ | (unfold inR; omega)) (fun c152 => ?_) (fun c152 => ?_)
                      · skip
                        exact absurd (hH.t c152) (by decide)
                      · skip
                        refine r_iconst C dX5_put_155 ?_
                        refine r_iret C dX5_put_156 (Or.inr ⟨rfl, (by first | assumption | omega | decide)⟩) ?_
                        first
                          | exact k 1 _ _ _ (Or.inl ⟨by omega, rfl⟩) (fun z => absurd z (by decide)) (fun _ => rfl) R
                          | exact k 2 _ _ _ (Or.inr (Or.inl ⟨by omega, by omega, rfl⟩)) (fun z => absurd z (by decide)) (fun _ => rfl) R
                          | exact k 3 _ _ _ (Or.inr (Or.inr (Or.inl ⟨by omega, by omega, fun q => by have q1 := q.1; have q3 := q.2.2; first | omega | exact hn4 q.2.1, rfl⟩))) (fun z => absurd z (by decide)) (fun _ => rfl) R
                  · skip
                    exact absurd c116 (by decide)

