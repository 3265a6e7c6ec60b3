/-! ===== the reference: walk and read ===== -/
abbrev wkA (g : GT) (w p : Int) : Prop := ((w = 0 ∧ gmG g p = 0) ∨ (w = 1 ∧ g 16 p < 3) ∨ (w = 2 ∧ 3 < g 16 p) ∨ (w = 3 ∧ 1 < g 16 p ∧ irG g p (g 5 (g 17 (8 * p))) = g 16 p)) ∧ fwG g p (-1) ≠ 0
def wkC (g : GT) (w : Int) : Int → Bool := fun p => decide (wkA g w p)
def wkG (g : GT) (w : Int) : Int := cnt (wkC g w) (g 11 0)
theorem wk_c {s g : GT} (h : ∀ k, k ≠ 0 → ∀ j, s k j = g k j) (w : Int) : wkG s w = wkG g w := by
  unfold wkG wkC wkA gmG goodP irG fwG fcG
  simp only [h 12 (by decide), h 16 (by decide), h 7 (by decide), h 18 (by decide), h 17 (by decide), h 5 (by decide), h 11 (by decide), h 23 (by decide), h 25 (by decide), h 26 (by decide), h 22 (by decide)]
theorem gm_b {g : GT} (B : BD g) {p : Int} (h0 : 0 ≤ p) (h1 : p < g 11 0) : 0 ≤ gmG g p ∧ gmG g p ≤ 8 := by
  have h1 := B.cp p h0 h1
  have h2 := cnt_in (fun k => decide (goodP g p (g 17 (8 * p + k)))) h1.1
  unfold gmG
  omega

set_option maxRecDepth 100000 in
set_option maxHeartbeats 4000000 in
theorem C_X5_walk {gx : GX} {d : Nat} {Qr : Option AV → Hp → Prop} {Qx : String → Hp → Prop} {q : Nat} {ar : Nat → Nat} {g : GT} {h : Hp} {w : Int} (R : RM q ar g h) (B : BD g) (hw : inR w) (k : ∀ c z h1 g1, C1 (inP w 0 3) c → (c = 0 → z = wkG g w ∧ g1 = up g 0 0 0) → (c ≠ 0 → g1 = up g 0 0 c) → RM q ar g1 h1 → Qr (some (vi z)) h1) : aM gx (d + 4) mX5_walk [vr q, vi w] h 0 0 Qr Qx := by
  intro J C
  show J 0 [some (vr q), some (vi w), none, none, none] [] h 0 0
  have b1 := B.nn; have b2 := B.np; have b3 := B.nf; have rg := R.rg
  refine r_aload_n C dX5_walk_0 (i := 0) rfl rfl ?_
  refine r_iload_n C dX5_walk_1 (i := 1) rfl rfl ?_
  refine r_iconst C dX5_walk_2 ?_
  refine r_iconst C dX5_walk_3 ?_
  refine r_S3 C dX5_walk_4 sX5_81 (Nat.le_of_ble_eq_true rfl) (C_X5_isIn (by first | assumption | (unfold inR; omega)) (by unfold inR; omega) (by unfold inR; omega) (fun z1 hz1 hb1 => ?_))
  refine r_if_eq C dX5_walk_7 (t := 14) (by decide) (by first | assumption | exact R.rg _ _ | exact rg _ _ | (unfold inR; omega)) (fun c7 => ?_) (fun c7 => ?_)
  · skip
    have hn1 := hb1.f c7
    refine r_iconst C dX5_walk_14 ?_
    refine m_V1 C dX5_walk_15 sX5_91 rfl R (Nat.le_of_ble_eq_true rfl) (C_X5_holds R (by unfold inR; omega) (fun zH h hzH hH R => ?_))
    refine r_if_ne C dX5_walk_18 (t := 23) (by decide) (by first | assumption | exact R.rg _ _ | exact rg _ _ | (unfold inR; omega)) (fun c18 => ?_) (fun c18 => ?_)
    · skip
      exact absurd (hH.t c18) (by decide)
    · skip
      refine r_iconst C dX5_walk_21 ?_
      refine r_iret C dX5_walk_22 (Or.inl rfl) ?_
      exact k 1 _ _ _ (by unfold C1; omega) (fun z => absurd z (by decide)) (fun _ => rfl) R
  · skip
    have hn1 := hb1.t c7
    refine r_iconst C dX5_walk_10 ?_
    refine r_goto C dX5_walk_11 (t := 15) (by decide) ?_
    refine m_V1 C dX5_walk_15 sX5_91 rfl R (Nat.le_of_ble_eq_true rfl) (C_X5_holds R (by unfold inR; omega) (fun zH h hzH hH R => ?_))
    refine r_if_ne C dX5_walk_18 (t := 23) (by decide) (by first | assumption | exact R.rg _ _ | exact rg _ _ | (unfold inR; omega)) (fun c18 => ?_) (fun c18 => ?_)
    · skip
      obtain ⟨s, hs⟩ : ∃ s, s = up g 0 0 0 := ⟨_, rfl⟩
      rw [← hs] at R
      have ge : ∀ k, k ≠ 0 → ∀ j, s k j = g k j := fun k hk j => by rw [hs, up_ne hk]
      have SB : BD s := by rw [hs]; exact bd_up0 B (by decide)
      have rg := R.rg
      have e4 := ge 4 (by decide) 0; have e11 := ge 11 (by decide) 0; have e22 := ge 22 (by decide) 0
      refine r_iconst C dX5_walk_23 ?_
      refine r_istore_n C dX5_walk_24 (i := 2) rfl (Nat.le_of_ble_eq_true rfl) ?_
      dsimp only [List.set]
      refine r_iconst C dX5_walk_25 ?_
      refine r_istore_n C dX5_walk_26 (i := 3) rfl (Nat.le_of_ble_eq_true rfl) ?_
      dsimp only [List.set]
      suffices LOOP : ∀ (m : Nat) (x i : Int) (o4 : Option AV), s 11 0 - i < (m : Int) → 0 ≤ i → i ≤ s 11 0 → 0 ≤ x → x ≤ i → x = cnt (wkC s w) i → J 27 [some (vr q), some (vi w), some (vi x), some (vi i), o4] [] h 0 0 by
        exact LOOP ((s 11 0).toNat + 1) 0 0 _ (by omega) (by omega) (by omega) (by omega) (by omega) rfl
      intro m
      induction m with
      | zero => intro x i o4 hm hi0 hi1 hx0 hx1 hx; exact absurd hm (by omega)
      | succ m ih =>
        intro x i o4 hm hi0 hi1 hx0 hx1 hx
        refine r_iload_n C dX5_walk_27 (i := 3) rfl rfl ?_
        refine r_aload_n C dX5_walk_28 (i := 0) rfl rfl ?_
        refine m_get0 C dX5_walk_29 fX5_85 R rfl rfl ?_
        refine r_ic_ge C dX5_walk_32 (t := 135) (by decide) (by first | assumption | exact R.rg _ _ | exact rg _ _ | (unfold inR; omega)) (by first | assumption | exact R.rg _ _ | exact rg _ _ | (unfold inR; omega)) (fun c32 => ?_) (fun c32 => ?_)
        · skip
          refine r_iload_n C dX5_walk_135 (i := 2) rfl rfl ?_
          refine r_iret C dX5_walk_136 (Or.inl rfl) ?_
          have e := wk_c (s := s) (g := g) ge w
          exact k 0 _ _ _ (by unfold C1; omega) (fun _ => ⟨by rw [← e, hx, show i = s 11 0 by omega]; rfl, by rw [hs]⟩) (fun z => absurd rfl z) R
        · skip
          have bgm := gm_b SB hi0 c32; have bcp := SB.cp i hi0 c32
          refine r_iload_n C dX5_walk_35 (i := 1) rfl rfl ?_
          refine r_if_ne C dX5_walk_36 (t := 55) (by decide) (by first | assumption | exact R.rg _ _ | exact rg _ _ | (unfold inR; omega)) (fun c36 => ?_) (fun c36 => ?_)
          · skip
            refine r_iload_n C dX5_walk_55 (i := 1) rfl rfl ?_
            refine r_iconst C dX5_walk_56 ?_
            refine r_ic_ne C dX5_walk_57 (t := 78) (by decide) (by first | assumption | exact R.rg _ _ | exact rg _ _ | (unfold inR; omega)) (by first | assumption | exact R.rg _ _ | exact rg _ _ | (unfold inR; omega)) (fun c57 => ?_) (fun c57 => ?_)
            · skip
              refine r_iload_n C dX5_walk_78 (i := 1) rfl rfl ?_
              refine r_iconst C dX5_walk_79 ?_
              refine r_ic_ne C dX5_walk_80 (t := 101) (by decide) (by first | assumption | exact R.rg _ _ | exact rg _ _ | (unfold inR; omega)) (by first | assumption | exact R.rg _ _ | exact rg _ _ | (unfold inR; omega)) (fun c80 => ?_) (fun c80 => ?_)
              · skip
                refine r_aload_n C dX5_walk_101 (i := 0) rfl rfl ?_
                refine r_iload_n C dX5_walk_102 (i := 3) rfl rfl ?_
                refine m_V1 C dX5_walk_103 sX5_240 rfl R (Nat.le_of_ble_eq_true rfl) (C_X5_isMisplaced R SB hi0 (by omega) (fun z5 hz5 hb5 => ?_))
                have hz501 := hb5.b
                refine r_istore C dX5_walk_106 (Nat.le_of_ble_eq_true rfl) ?_
                dsimp only [List.set]
                refine r_iload_n C dX5_walk_108 (i := 2) rfl rfl ?_
                refine r_iload C dX5_walk_109 rfl ?_
                refine r_if_eq C dX5_walk_111 (t := 126) (by decide) (by first | assumption | exact R.rg _ _ | exact rg _ _ | (unfold inR; omega)) (fun c111 => ?_) (fun c111 => ?_)
                · skip
                  try have hmz := hb5.f c111
                  refine r_iconst C dX5_walk_126 ?_
                  refine r_iadd C dX5_walk_127 ?_
                  refine r_istore_n C dX5_walk_128 (i := 2) rfl (Nat.le_of_ble_eq_true rfl) ?_
                  dsimp only [List.set]
                  refine r_iinc C dX5_walk_129 rfl ?_
                  dsimp only [List.set]
                  refine r_goto C dX5_walk_132 (t := 27) (by decide) ?_
                  first
                    | exact ih _ _ _ (by omega) (by omega) (by omega) (by omega) (by omega) (by rw [cnt_s _ hi0, ← hx, if_pos (show wkC s w i = true from decide_eq_true (show wkA s w i by omega))])
                    | exact ih _ _ _ (by omega) (by omega) (by omega) (by omega) (by omega) (by rw [cnt_s _ hi0, ← hx, if_neg (show ¬ wkC s w i = true from fun z => by have z1 : wkA s w i := of_decide_eq_true z; omega)])
                · skip
                  try have hmz := hb5.t c111
                  refine r_aload_n C dX5_walk_114 (i := 0) rfl rfl ?_
                  refine r_iload_n C dX5_walk_115 (i := 3) rfl rfl ?_
                  refine m_V1 C dX5_walk_116 sX5_228 rfl R (Nat.le_of_ble_eq_true rfl) (C_X5_isGone R SB (by unfold inR; omega) (fun z6 hz6 hb6 => ?_))
                  refine r_if_ne C dX5_walk_119 (t := 126) (by decide) (by first | assumption | exact R.rg _ _ | exact rg _ _ | (unfold inR; omega)) (fun c119 => ?_) (fun c119 => ?_)
                  · skip
                    have hgo := hb6.t c119
                    refine r_iconst C dX5_walk_126 ?_
                    refine r_iadd C dX5_walk_127 ?_
                    refine r_istore_n C dX5_walk_128 (i := 2) rfl (Nat.le_of_ble_eq_true rfl) ?_
                    dsimp only [List.set]
                    refine r_iinc C dX5_walk_129 rfl ?_
                    dsimp only [List.set]
                    refine r_goto C dX5_walk_132 (t := 27) (by decide) ?_
                    first
                      | exact ih _ _ _ (by omega) (by omega) (by omega) (by omega) (by omega) (by rw [cnt_s _ hi0, ← hx, if_pos (show wkC s w i = true from decide_eq_true (show wkA s w i by omega))])
                      | exact ih _ _ _ (by omega) (by omega) (by omega) (by omega) (by omega) (by rw [cnt_s _ hi0, ← hx, if_neg (show ¬ wkC s w i = true from fun z => by have z1 : wkA s w i := of_decide_eq_true z; omega)])
                  · skip
                    have hgo := hb6.f c119
                    refine r_iconst C dX5_walk_122 ?_
                    refine r_goto C dX5_walk_123 (t := 127) (by decide) ?_
                    refine r_iadd C dX5_walk_127 ?_
                    refine r_istore_n C dX5_walk_128 (i := 2) rfl (Nat.le_of_ble_eq_true rfl) ?_
                    dsimp only [List.set]
                    refine r_iinc C dX5_walk_129 rfl ?_
                    dsimp only [List.set]
                    refine r_goto C dX5_walk_132 (t := 27) (by decide) ?_
                    first
                      | exact ih _ _ _ (by omega) (by omega) (by omega) (by omega) (by omega) (by rw [cnt_s _ hi0, ← hx, if_pos (show wkC s w i = true from decide_eq_true (show wkA s w i by omega))])
                      | exact ih _ _ _ (by omega) (by omega) (by omega) (by omega) (by omega) (by rw [cnt_s _ hi0, ← hx, if_neg (show ¬ wkC s w i = true from fun z => by have z1 : wkA s w i := of_decide_eq_true z; omega)])
              · skip
                refine r_aload_n C dX5_walk_83 (i := 0) rfl rfl ?_
                refine m_getA C dX5_walk_84 fX5_45 R (by decide) rfl ?_
                refine r_iload_n C dX5_walk_87 (i := 3) rfl rfl ?_
                refine m_iald C dX5_walk_88 R (N := 60) rfl (by decide) rfl (by omega) (by omega) (by omega) ?_
                refine r_iconst C dX5_walk_89 ?_
                refine r_ic_le C dX5_walk_90 (t := 97) (by decide) (by first | assumption | exact R.rg _ _ | exact rg _ _ | (unfold inR; omega)) (by first | assumption | exact R.rg _ _ | exact rg _ _ | (unfold inR; omega)) (fun c90 => ?_) (fun c90 => ?_)
                · skip
                  refine r_iconst C dX5_walk_97 ?_
                  refine r_goto C dX5_walk_98 (t := 106) (by decide) ?_
                  refine r_istore C dX5_walk_106 (Nat.le_of_ble_eq_true rfl) ?_
                  dsimp only [List.set]
                  refine r_iload_n C dX5_walk_108 (i := 2) rfl rfl ?_
                  refine r_iload C dX5_walk_109 rfl ?_
                  refine r_if_eq C dX5_walk_111 (t := 126) (by decide) (by first | assumption | exact R.rg _ _ | exact rg _ _ | (unfold inR; omega)) (fun c111 => ?_) (fun c111 => ?_)
                  · skip
                    try have hmz := hb5.f c111
                    refine r_iconst C dX5_walk_126 ?_
                    refine r_iadd C dX5_walk_127 ?_
                    refine r_istore_n C dX5_walk_128 (i := 2) rfl (Nat.le_of_ble_eq_true rfl) ?_
                    dsimp only [List.set]
                    refine r_iinc C dX5_walk_129 rfl ?_
                    dsimp only [List.set]
                    refine r_goto C dX5_walk_132 (t := 27) (by decide) ?_
                    first
                      | exact ih _ _ _ (by omega) (by omega) (by omega) (by omega) (by omega) (by rw [cnt_s _ hi0, ← hx, if_pos (show wkC s w i = true from decide_eq_true (show wkA s w i by omega))])
                      | exact ih _ _ _ (by omega) (by omega) (by omega) (by omega) (by omega) (by rw [cnt_s _ hi0, ← hx, if_neg (show ¬ wkC s w i = true from fun z => by have z1 : wkA s w i := of_decide_eq_true z; omega)])
                  · skip
                    exact absurd c111 (by decide)
                · skip
                  refine r_iconst C dX5_walk_93 ?_
                  refine r_goto C dX5_walk_94 (t := 106) (by decide) ?_
                  refine r_istore C dX5_walk_106 (Nat.le_of_ble_eq_true rfl) ?_
                  dsimp only [List.set]
                  refine r_iload_n C dX5_walk_108 (i := 2) rfl rfl ?_
                  refine r_iload C dX5_walk_109 rfl ?_
                  refine r_if_eq C dX5_walk_111 (t := 126) (by decide) (by first | assumption | exact R.rg _ _ | exact rg _ _ | (unfold inR; omega)) (fun c111 => ?_) (fun c111 => ?_)
                  · skip
                    exact absurd c111 (by decide)
                  · skip
                    try have hmz := hb5.t c111
                    refine r_aload_n C dX5_walk_114 (i := 0) rfl rfl ?_
                    refine r_iload_n C dX5_walk_115 (i := 3) rfl rfl ?_
                    refine m_V1 C dX5_walk_116 sX5_228 rfl R (Nat.le_of_ble_eq_true rfl) (C_X5_isGone R SB (by unfold inR; omega) (fun z6 hz6 hb6 => ?_))
                    refine r_if_ne C dX5_walk_119 (t := 126) (by decide) (by first | assumption | exact R.rg _ _ | exact rg _ _ | (unfold inR; omega)) (fun c119 => ?_) (fun c119 => ?_)
                    · skip
                      have hgo := hb6.t c119
                      refine r_iconst C dX5_walk_126 ?_
                      refine r_iadd C dX5_walk_127 ?_
                      refine r_istore_n C dX5_walk_128 (i := 2) rfl (Nat.le_of_ble_eq_true rfl) ?_
                      dsimp only [List.set]
                      refine r_iinc C dX5_walk_129 rfl ?_
                      dsimp only [List.set]
                      refine r_goto C dX5_walk_132 (t := 27) (by decide) ?_
                      first
                        | exact ih _ _ _ (by omega) (by omega) (by omega) (by omega) (by omega) (by rw [cnt_s _ hi0, ← hx, if_pos (show wkC s w i = true from decide_eq_true (show wkA s w i by omega))])
                        | exact ih _ _ _ (by omega) (by omega) (by omega) (by omega) (by omega) (by rw [cnt_s _ hi0, ← hx, if_neg (show ¬ wkC s w i = true from fun z => by have z1 : wkA s w i := of_decide_eq_true z; omega)])
                    · skip
                      have hgo := hb6.f c119
                      refine r_iconst C dX5_walk_122 ?_
                      refine r_goto C dX5_walk_123 (t := 127) (by decide) ?_
                      refine r_iadd C dX5_walk_127 ?_
                      refine r_istore_n C dX5_walk_128 (i := 2) rfl (Nat.le_of_ble_eq_true rfl) ?_
                      dsimp only [List.set]
                      refine r_iinc C dX5_walk_129 rfl ?_
                      dsimp only [List.set]
                      refine r_goto C dX5_walk_132 (t := 27) (by decide) ?_
                      first
                        | exact ih _ _ _ (by omega) (by omega) (by omega) (by omega) (by omega) (by rw [cnt_s _ hi0, ← hx, if_pos (show wkC s w i = true from decide_eq_true (show wkA s w i by omega))])
                        | exact ih _ _ _ (by omega) (by omega) (by omega) (by omega) (by omega) (by rw [cnt_s _ hi0, ← hx, if_neg (show ¬ wkC s w i = true from fun z => by have z1 : wkA s w i := of_decide_eq_true z; omega)])
            · skip
              refine r_aload_n C dX5_walk_60 (i := 0) rfl rfl ?_
              refine m_getA C dX5_walk_61 fX5_45 R (by decide) rfl ?_
              refine r_iload_n C dX5_walk_64 (i := 3) rfl rfl ?_
              refine m_iald C dX5_walk_65 R (N := 60) rfl (by decide) rfl (by omega) (by omega) (by omega) ?_
              refine r_iconst C dX5_walk_66 ?_
              refine r_ic_ge C dX5_walk_67 (t := 74) (by decide) (by first | assumption | exact R.rg _ _ | exact rg _ _ | (unfold inR; omega)) (by first | assumption | exact R.rg _ _ | exact rg _ _ | (unfold inR; omega)) (fun c67 => ?_) (fun c67 => ?_)
              · skip
                refine r_iconst C dX5_walk_74 ?_
                refine r_goto C dX5_walk_75 (t := 106) (by decide) ?_
                refine r_istore C dX5_walk_106 (Nat.le_of_ble_eq_true rfl) ?_
                dsimp only [List.set]
                refine r_iload_n C dX5_walk_108 (i := 2) rfl rfl ?_
                refine r_iload C dX5_walk_109 rfl ?_
                refine r_if_eq C dX5_walk_111 (t := 126) (by decide) (by first | assumption | exact R.rg _ _ | exact rg _ _ | (unfold inR; omega)) (fun c111 => ?_) (fun c111 => ?_)
                · skip
                  try have hmz := hb5.f c111
                  refine r_iconst C dX5_walk_126 ?_
                  refine r_iadd C dX5_walk_127 ?_
                  refine r_istore_n C dX5_walk_128 (i := 2) rfl (Nat.le_of_ble_eq_true rfl) ?_
                  dsimp only [List.set]
                  refine r_iinc C dX5_walk_129 rfl ?_
                  dsimp only [List.set]
                  refine r_goto C dX5_walk_132 (t := 27) (by decide) ?_
                  first
                    | exact ih _ _ _ (by omega) (by omega) (by omega) (by omega) (by omega) (by rw [cnt_s _ hi0, ← hx, if_pos (show wkC s w i = true from decide_eq_true (show wkA s w i by omega))])
                    | exact ih _ _ _ (by omega) (by omega) (by omega) (by omega) (by omega) (by rw [cnt_s _ hi0, ← hx, if_neg (show ¬ wkC s w i = true from fun z => by have z1 : wkA s w i := of_decide_eq_true z; omega)])
                · skip
                  exact absurd c111 (by decide)
              · skip
                refine r_iconst C dX5_walk_70 ?_
                refine r_goto C dX5_walk_71 (t := 106) (by decide) ?_
                refine r_istore C dX5_walk_106 (Nat.le_of_ble_eq_true rfl) ?_
                dsimp only [List.set]
                refine r_iload_n C dX5_walk_108 (i := 2) rfl rfl ?_
                refine r_iload C dX5_walk_109 rfl ?_
                refine r_if_eq C dX5_walk_111 (t := 126) (by decide) (by first | assumption | exact R.rg _ _ | exact rg _ _ | (unfold inR; omega)) (fun c111 => ?_) (fun c111 => ?_)
                · skip
                  exact absurd c111 (by decide)
                · skip
                  try have hmz := hb5.t c111
                  refine r_aload_n C dX5_walk_114 (i := 0) rfl rfl ?_
                  refine r_iload_n C dX5_walk_115 (i := 3) rfl rfl ?_
                  refine m_V1 C dX5_walk_116 sX5_228 rfl R (Nat.le_of_ble_eq_true rfl) (C_X5_isGone R SB (by unfold inR; omega) (fun z6 hz6 hb6 => ?_))
                  refine r_if_ne C dX5_walk_119 (t := 126) (by decide) (by first | assumption | exact R.rg _ _ | exact rg _ _ | (unfold inR; omega)) (fun c119 => ?_) (fun c119 => ?_)
                  · skip
                    have hgo := hb6.t c119
                    refine r_iconst C dX5_walk_126 ?_
                    refine r_iadd C dX5_walk_127 ?_
                    refine r_istore_n C dX5_walk_128 (i := 2) rfl (Nat.le_of_ble_eq_true rfl) ?_
                    dsimp only [List.set]
                    refine r_iinc C dX5_walk_129 rfl ?_
                    dsimp only [List.set]
                    refine r_goto C dX5_walk_132 (t := 27) (by decide) ?_
                    first
                      | exact ih _ _ _ (by omega) (by omega) (by omega) (by omega) (by omega) (by rw [cnt_s _ hi0, ← hx, if_pos (show wkC s w i = true from decide_eq_true (show wkA s w i by omega))])
                      | exact ih _ _ _ (by omega) (by omega) (by omega) (by omega) (by omega) (by rw [cnt_s _ hi0, ← hx, if_neg (show ¬ wkC s w i = true from fun z => by have z1 : wkA s w i := of_decide_eq_true z; omega)])
                  · skip
                    have hgo := hb6.f c119
                    refine r_iconst C dX5_walk_122 ?_
                    refine r_goto C dX5_walk_123 (t := 127) (by decide) ?_
                    refine r_iadd C dX5_walk_127 ?_
                    refine r_istore_n C dX5_walk_128 (i := 2) rfl (Nat.le_of_ble_eq_true rfl) ?_
                    dsimp only [List.set]
                    refine r_iinc C dX5_walk_129 rfl ?_
                    dsimp only [List.set]
                    refine r_goto C dX5_walk_132 (t := 27) (by decide) ?_
                    first
                      | exact ih _ _ _ (by omega) (by omega) (by omega) (by omega) (by omega) (by rw [cnt_s _ hi0, ← hx, if_pos (show wkC s w i = true from decide_eq_true (show wkA s w i by omega))])
                      | exact ih _ _ _ (by omega) (by omega) (by omega) (by omega) (by omega) (by rw [cnt_s _ hi0, ← hx, if_neg (show ¬ wkC s w i = true from fun z => by have z1 : wkA s w i := of_decide_eq_true z; omega)])
          · skip
            refine r_aload_n C dX5_walk_39 (i := 0) rfl rfl ?_
            refine r_iload_n C dX5_walk_40 (i := 3) rfl rfl ?_
            refine m_V1 C dX5_walk_41 sX5_237 rfl R (Nat.le_of_ble_eq_true rfl) (C_X5_goodMany R SB hi0 (by omega) ?_)
            refine r_if_ne C dX5_walk_44 (t := 51) (by decide) (by first | assumption | exact R.rg _ _ | exact rg _ _ | (unfold inR; omega)) (fun c44 => ?_) (fun c44 => ?_)
            · skip
              refine r_iconst C dX5_walk_51 ?_
              refine r_goto C dX5_walk_52 (t := 106) (by decide) ?_
              refine r_istore C dX5_walk_106 (Nat.le_of_ble_eq_true rfl) ?_
              dsimp only [List.set]
              refine r_iload_n C dX5_walk_108 (i := 2) rfl rfl ?_
              refine r_iload C dX5_walk_109 rfl ?_
              refine r_if_eq C dX5_walk_111 (t := 126) (by decide) (by first | assumption | exact R.rg _ _ | exact rg _ _ | (unfold inR; omega)) (fun c111 => ?_) (fun c111 => ?_)
              · skip
                try have hmz := hb5.f c111
                refine r_iconst C dX5_walk_126 ?_
                refine r_iadd C dX5_walk_127 ?_
                refine r_istore_n C dX5_walk_128 (i := 2) rfl (Nat.le_of_ble_eq_true rfl) ?_
                dsimp only [List.set]
                refine r_iinc C dX5_walk_129 rfl ?_
                dsimp only [List.set]
                refine r_goto C dX5_walk_132 (t := 27) (by decide) ?_
                first
                  | exact ih _ _ _ (by omega) (by omega) (by omega) (by omega) (by omega) (by rw [cnt_s _ hi0, ← hx, if_pos (show wkC s w i = true from decide_eq_true (show wkA s w i by omega))])
                  | exact ih _ _ _ (by omega) (by omega) (by omega) (by omega) (by omega) (by rw [cnt_s _ hi0, ← hx, if_neg (show ¬ wkC s w i = true from fun z => by have z1 : wkA s w i := of_decide_eq_true z; omega)])
              · skip
                exact absurd c111 (by decide)
            · skip
              refine r_iconst C dX5_walk_47 ?_
              refine r_goto C dX5_walk_48 (t := 106) (by decide) ?_
              refine r_istore C dX5_walk_106 (Nat.le_of_ble_eq_true rfl) ?_
              dsimp only [List.set]
              refine r_iload_n C dX5_walk_108 (i := 2) rfl rfl ?_
              refine r_iload C dX5_walk_109 rfl ?_
              refine r_if_eq C dX5_walk_111 (t := 126) (by decide) (by first | assumption | exact R.rg _ _ | exact rg _ _ | (unfold inR; omega)) (fun c111 => ?_) (fun c111 => ?_)
              · skip
                exact absurd c111 (by decide)
              · skip
                try have hmz := hb5.t c111
                refine r_aload_n C dX5_walk_114 (i := 0) rfl rfl ?_
                refine r_iload_n C dX5_walk_115 (i := 3) rfl rfl ?_
                refine m_V1 C dX5_walk_116 sX5_228 rfl R (Nat.le_of_ble_eq_true rfl) (C_X5_isGone R SB (by unfold inR; omega) (fun z6 hz6 hb6 => ?_))
                refine r_if_ne C dX5_walk_119 (t := 126) (by decide) (by first | assumption | exact R.rg _ _ | exact rg _ _ | (unfold inR; omega)) (fun c119 => ?_) (fun c119 => ?_)
                · skip
                  have hgo := hb6.t c119
                  refine r_iconst C dX5_walk_126 ?_
                  refine r_iadd C dX5_walk_127 ?_
                  refine r_istore_n C dX5_walk_128 (i := 2) rfl (Nat.le_of_ble_eq_true rfl) ?_
                  dsimp only [List.set]
                  refine r_iinc C dX5_walk_129 rfl ?_
                  dsimp only [List.set]
                  refine r_goto C dX5_walk_132 (t := 27) (by decide) ?_
                  first
                    | exact ih _ _ _ (by omega) (by omega) (by omega) (by omega) (by omega) (by rw [cnt_s _ hi0, ← hx, if_pos (show wkC s w i = true from decide_eq_true (show wkA s w i by omega))])
                    | exact ih _ _ _ (by omega) (by omega) (by omega) (by omega) (by omega) (by rw [cnt_s _ hi0, ← hx, if_neg (show ¬ wkC s w i = true from fun z => by have z1 : wkA s w i := of_decide_eq_true z; omega)])
                · skip
                  have hgo := hb6.f c119
                  refine r_iconst C dX5_walk_122 ?_
                  refine r_goto C dX5_walk_123 (t := 127) (by decide) ?_
                  refine r_iadd C dX5_walk_127 ?_
                  refine r_istore_n C dX5_walk_128 (i := 2) rfl (Nat.le_of_ble_eq_true rfl) ?_
                  dsimp only [List.set]
                  refine r_iinc C dX5_walk_129 rfl ?_
                  dsimp only [List.set]
                  refine r_goto C dX5_walk_132 (t := 27) (by decide) ?_
                  first
                    | exact ih _ _ _ (by omega) (by omega) (by omega) (by omega) (by omega) (by rw [cnt_s _ hi0, ← hx, if_pos (show wkC s w i = true from decide_eq_true (show wkA s w i by omega))])
                    | exact ih _ _ _ (by omega) (by omega) (by omega) (by omega) (by omega) (by rw [cnt_s _ hi0, ← hx, if_neg (show ¬ wkC s w i = true from fun z => by have z1 : wkA s w i := of_decide_eq_true z; omega)])
    · skip
      exact absurd rfl (hH.f c18)

def reF (p c r : Int) : Int → GT → GT := fun _ s => if nrG s p r ≠ -1 ∧ shB (s 21 (60 * nrG s p r + p)) c = 1 then drG s (nrG s p r) p else s
def rfG (s : GT) (p c r : Int) : GT := itrI (reF p c r) 9 s
def rvG (t : GT) (p c r : Int) : Int := if nrG t p r = -1 then -2 else if c < t 19 (60 * nrG t p r + p) then t 20 (4 * (60 * nrG t p r + p) + c) else -1
theorem itr_fix {F : Int → GT → GT} {g : GT} {i N : Int} (h0 : 0 ≤ i) (h : ∀ j, F j (itrI F i g) = itrI F i g) (hN : i ≤ N) : itrI F N g = itrI F i g := by
  have key : ∀ m : Nat, itrI F (i + m) g = itrI F i g := by
    intro m
    induction m with
    | zero => rw [show i + ((0 : Nat) : Int) = i by omega]
    | succ m ih => rw [show i + ((m + 1 : Nat) : Int) = (i + m) + 1 by omega, itrI_s _ _ (by omega), ih, h]
  have := key (N - i).toNat
  rwa [show i + ((N - i).toNat : Int) = N by omega] at this
theorem pick_kn {g : GT} (p : Int) (f : Int → Bool) : pick g p f = -1 ∨ (KN g p (pick g p f) ∧ f (pick g p f) = true) := by
  rcases pick_b (g := g) p f with h | ⟨k, a, b, c, d, -⟩
  · exact Or.inl h
  · exact Or.inr ⟨⟨k, a, b, c.symm⟩, by rw [c]; exact d⟩
theorem nr_kn (g : GT) (p r : Int) : nrG g p r = -1 ∨ (KN g p (nrG g p r) ∧ goodP g p (nrG g p r)) := by
  unfold nrG
  split
  · rcases pick_kn (g := g) p (fun n => decide (goodP g p n ∧ ((0 : Int) = 0 ∨ g 21 (60 * n + p) = 0))) with h | h
    · exact Or.inl h
    · exact Or.inr ⟨h.1, (of_decide_eq_true h.2).1⟩
  · rcases pick_kn (g := g) p (fun n => decide (goodP g p n ∧ g 5 n = r)) with h | h
    · exact Or.inl h
    · exact Or.inr ⟨h.1, (of_decide_eq_true h.2).1⟩
theorem dr_16 {g : GT} {p n : Int} (h : KN g p n) : drG g n p 16 p = g 16 p - 1 := by
  have hp := kn_pl.mpr h
  have e : fgtG (dr1 g n p) p n 16 p = g 16 p - 1 := by
    unfold fgtG
    rw [dr1_pl, if_neg hp, shf_16, dr1_ne _ _ _ (by decide)]
  unfold drG
  split
  · rw [el_ne _ _ (by decide), e]
  · exact e
theorem re_i {s : GT} (B : BD s) {p : Int} (c r i : Int) (hp0 : 0 ≤ p) (hp1 : p < s 11 0) : BD (itrI (reF p c r) i s) ∧ SAME (fun k => k ≠ 13 ∧ k ≠ 14 ∧ k ≠ 16 ∧ k ≠ 17 ∧ k ≠ 18 ∧ k ≠ 19 ∧ k ≠ 21) s (itrI (reF p c r) i s) := by
  refine itrI_ind (P := fun t => BD t ∧ SAME (fun k => k ≠ 13 ∧ k ≠ 14 ∧ k ≠ 16 ∧ k ≠ 17 ∧ k ≠ 18 ∧ k ≠ 19 ∧ k ≠ 21) s t) (reF p c r) ⟨B, fun _ _ _ => rfl⟩ (fun i t _ _ S => ?_)
  unfold reF
  split
  · have e := S.2 11 (by decide) 0
    exact ⟨bd_dr S.1 hp0 (by omega) _, fun k hk j => (dr_ne _ _ _ hk j).trans (S.2 k hk j)⟩
  · exact S

set_option maxRecDepth 100000 in
set_option maxHeartbeats 4000000 in
theorem C_X5_read {gx : GX} {d : Nat} {Qr : Option AV → Hp → Prop} {Qx : String → Hp → Prop} {q : Nat} {ar : Nat → Nat} {g : GT} {h : Hp} {f w c r : Int} (R : RM q ar g h) (B : BD g) (hf : inR f) (hw : inR w) (hc : inR c) (hr : inR r) (k : ∀ e z h1 g1, C2 (flP g f ∧ inP w 0 (rwG g f - 1) ∧ inP c 0 3 ∧ inP r 0 3) (g 23 f = 0) e → (e = 0 → z = rvG g1 (g 26 (6 * f + w)) c r ∧ g1 = rfG (up g 0 0 0) (g 26 (6 * f + w)) c r) → (e ≠ 0 → g1 = up g 0 0 e) → RM q ar g1 h1 → Qr (some (vi z)) h1) : aM gx (d + 5) mX5_read [vr q, vi f, vi w, vi c, vi r] h 0 0 Qr Qx := by
  intro J C
  show J 0 [some (vr q), some (vi f), some (vi w), some (vi c), some (vi r), none, none, none] [] h 0 0
  have b1 := B.nn; have b2 := B.np; have b3 := B.nf; have rg := R.rg
  refine r_aload_n C dX5_read_0 (i := 0) rfl rfl ?_
  refine r_iload_n C dX5_read_1 (i := 1) rfl rfl ?_
  refine m_V1 C dX5_read_2 sX5_140 rfl R (Nat.le_of_ble_eq_true rfl) (C_X5_isFile R B hf (fun z1 hz1 hb1 => ?_))
  refine r_if_eq C dX5_read_5 (t := 46) (by decide) (by first | assumption | exact R.rg _ _ | exact rg _ _ | (unfold inR; omega)) (fun c5 => ?_) (fun c5 => ?_)
  · skip
    have hn1 := hb1.f c5
    refine r_iconst C dX5_read_46 ?_
    refine r_istore C dX5_read_47 (Nat.le_of_ble_eq_true rfl) ?_
    dsimp only [List.set]
    refine r_aload_n C dX5_read_49 (i := 0) rfl rfl ?_
    refine r_iload C dX5_read_50 rfl ?_
    refine r_if_ne C dX5_read_52 (t := 59) (by decide) (by first | assumption | exact R.rg _ _ | exact rg _ _ | (unfold inR; omega)) (fun c52 => ?_) (fun c52 => ?_)
    · skip
      exact absurd c52 (by decide)
    · skip
      refine r_iconst C dX5_read_55 ?_
      refine r_goto C dX5_read_56 (t := 73) (by decide) ?_
      refine m_V1 C dX5_read_73 sX5_91 rfl R (Nat.le_of_ble_eq_true rfl) (C_X5_holds R (by unfold inR; omega) (fun zH h hzH hH R => ?_))
      refine r_if_ne C dX5_read_76 (t := 81) (by decide) (by first | assumption | exact R.rg _ _ | exact rg _ _ | (unfold inR; omega)) (fun c76 => ?_) (fun c76 => ?_)
      · skip
        exact absurd (hH.t c76) (by decide)
      · skip
        refine r_iconst C dX5_read_79 ?_
        refine r_iret C dX5_read_80 (Or.inl rfl) ?_
        first | exact k 1 _ _ _ (by unfold C2; omega) (fun z => absurd z (by decide)) (fun _ => rfl) R | exact k 2 _ _ _ (by unfold C2; omega) (fun z => absurd z (by decide)) (fun _ => rfl) R
  · skip
    have hn1 := hb1.t c5; have brw := rw_b B hn1.1 hn1.2
    refine r_iload_n C dX5_read_8 (i := 2) rfl rfl ?_
    refine r_iconst C dX5_read_9 ?_
    refine r_aload_n C dX5_read_10 (i := 0) rfl rfl ?_
    refine r_iload_n C dX5_read_11 (i := 1) rfl rfl ?_
    refine m_V1 C dX5_read_12 sX5_207 rfl R (Nat.le_of_ble_eq_true rfl) (C_X5_rowsOf R B (by omega) (by omega) ?_)
    refine r_iconst C dX5_read_15 ?_
    refine r_isub C dX5_read_16 ?_
    refine r_S3 C dX5_read_17 sX5_81 (Nat.le_of_ble_eq_true rfl) (C_X5_isIn (by first | assumption | (unfold inR; omega)) (by unfold inR; omega) (by unfold inR; omega) (fun z2 hz2 hb2 => ?_))
    refine r_if_eq C dX5_read_20 (t := 46) (by decide) (by first | assumption | exact R.rg _ _ | exact rg _ _ | (unfold inR; omega)) (fun c20 => ?_) (fun c20 => ?_)
    · skip
      have hn2 := hb2.f c20
      refine r_iconst C dX5_read_46 ?_
      refine r_istore C dX5_read_47 (Nat.le_of_ble_eq_true rfl) ?_
      dsimp only [List.set]
      refine r_aload_n C dX5_read_49 (i := 0) rfl rfl ?_
      refine r_iload C dX5_read_50 rfl ?_
      refine r_if_ne C dX5_read_52 (t := 59) (by decide) (by first | assumption | exact R.rg _ _ | exact rg _ _ | (unfold inR; omega)) (fun c52 => ?_) (fun c52 => ?_)
      · skip
        exact absurd c52 (by decide)
      · skip
        refine r_iconst C dX5_read_55 ?_
        refine r_goto C dX5_read_56 (t := 73) (by decide) ?_
        refine m_V1 C dX5_read_73 sX5_91 rfl R (Nat.le_of_ble_eq_true rfl) (C_X5_holds R (by unfold inR; omega) (fun zH h hzH hH R => ?_))
        refine r_if_ne C dX5_read_76 (t := 81) (by decide) (by first | assumption | exact R.rg _ _ | exact rg _ _ | (unfold inR; omega)) (fun c76 => ?_) (fun c76 => ?_)
        · skip
          exact absurd (hH.t c76) (by decide)
        · skip
          refine r_iconst C dX5_read_79 ?_
          refine r_iret C dX5_read_80 (Or.inl rfl) ?_
          first | exact k 1 _ _ _ (by unfold C2; omega) (fun z => absurd z (by decide)) (fun _ => rfl) R | exact k 2 _ _ _ (by unfold C2; omega) (fun z => absurd z (by decide)) (fun _ => rfl) R
    · skip
      have hn2 := hb2.t c20
      refine r_iload_n C dX5_read_23 (i := 3) rfl rfl ?_
      refine r_iconst C dX5_read_24 ?_
      refine r_iconst C dX5_read_25 ?_
      refine r_S3 C dX5_read_26 sX5_81 (Nat.le_of_ble_eq_true rfl) (C_X5_isIn (by first | assumption | (unfold inR; omega)) (by unfold inR; omega) (by unfold inR; omega) (fun z3 hz3 hb3 => ?_))
      refine r_if_eq C dX5_read_29 (t := 46) (by decide) (by first | assumption | exact R.rg _ _ | exact rg _ _ | (unfold inR; omega)) (fun c29 => ?_) (fun c29 => ?_)
      · skip
        have hn3 := hb3.f c29
        refine r_iconst C dX5_read_46 ?_
        refine r_istore C dX5_read_47 (Nat.le_of_ble_eq_true rfl) ?_
        dsimp only [List.set]
        refine r_aload_n C dX5_read_49 (i := 0) rfl rfl ?_
        refine r_iload C dX5_read_50 rfl ?_
        refine r_if_ne C dX5_read_52 (t := 59) (by decide) (by first | assumption | exact R.rg _ _ | exact rg _ _ | (unfold inR; omega)) (fun c52 => ?_) (fun c52 => ?_)
        · skip
          exact absurd c52 (by decide)
        · skip
          refine r_iconst C dX5_read_55 ?_
          refine r_goto C dX5_read_56 (t := 73) (by decide) ?_
          refine m_V1 C dX5_read_73 sX5_91 rfl R (Nat.le_of_ble_eq_true rfl) (C_X5_holds R (by unfold inR; omega) (fun zH h hzH hH R => ?_))
          refine r_if_ne C dX5_read_76 (t := 81) (by decide) (by first | assumption | exact R.rg _ _ | exact rg _ _ | (unfold inR; omega)) (fun c76 => ?_) (fun c76 => ?_)
          · skip
            exact absurd (hH.t c76) (by decide)
          · skip
            refine r_iconst C dX5_read_79 ?_
            refine r_iret C dX5_read_80 (Or.inl rfl) ?_
            first | exact k 1 _ _ _ (by unfold C2; omega) (fun z => absurd z (by decide)) (fun _ => rfl) R | exact k 2 _ _ _ (by unfold C2; omega) (fun z => absurd z (by decide)) (fun _ => rfl) R
      · skip
        have hn3 := hb3.t c29
        refine r_iload C dX5_read_32 rfl ?_
        refine r_iconst C dX5_read_34 ?_
        refine r_iconst C dX5_read_35 ?_
        refine r_S3 C dX5_read_36 sX5_81 (Nat.le_of_ble_eq_true rfl) (C_X5_isIn (by first | assumption | (unfold inR; omega)) (by unfold inR; omega) (by unfold inR; omega) (fun z4 hz4 hb4 => ?_))
        refine r_if_eq C dX5_read_39 (t := 46) (by decide) (by first | assumption | exact R.rg _ _ | exact rg _ _ | (unfold inR; omega)) (fun c39 => ?_) (fun c39 => ?_)
        · skip
          have hn4 := hb4.f c39
          refine r_iconst C dX5_read_46 ?_
          refine r_istore C dX5_read_47 (Nat.le_of_ble_eq_true rfl) ?_
          dsimp only [List.set]
          refine r_aload_n C dX5_read_49 (i := 0) rfl rfl ?_
          refine r_iload C dX5_read_50 rfl ?_
          refine r_if_ne C dX5_read_52 (t := 59) (by decide) (by first | assumption | exact R.rg _ _ | exact rg _ _ | (unfold inR; omega)) (fun c52 => ?_) (fun c52 => ?_)
          · skip
            exact absurd c52 (by decide)
          · skip
            refine r_iconst C dX5_read_55 ?_
            refine r_goto C dX5_read_56 (t := 73) (by decide) ?_
            refine m_V1 C dX5_read_73 sX5_91 rfl R (Nat.le_of_ble_eq_true rfl) (C_X5_holds R (by unfold inR; omega) (fun zH h hzH hH R => ?_))
            refine r_if_ne C dX5_read_76 (t := 81) (by decide) (by first | assumption | exact R.rg _ _ | exact rg _ _ | (unfold inR; omega)) (fun c76 => ?_) (fun c76 => ?_)
            · skip
              exact absurd (hH.t c76) (by decide)
            · skip
              refine r_iconst C dX5_read_79 ?_
              refine r_iret C dX5_read_80 (Or.inl rfl) ?_
              first | exact k 1 _ _ _ (by unfold C2; omega) (fun z => absurd z (by decide)) (fun _ => rfl) R | exact k 2 _ _ _ (by unfold C2; omega) (fun z => absurd z (by decide)) (fun _ => rfl) R
        · skip
          have hn4 := hb4.t c39
          refine r_iconst C dX5_read_42 ?_
          refine r_goto C dX5_read_43 (t := 47) (by decide) ?_
          refine r_istore C dX5_read_47 (Nat.le_of_ble_eq_true rfl) ?_
          dsimp only [List.set]
          refine r_aload_n C dX5_read_49 (i := 0) rfl rfl ?_
          refine r_iload C dX5_read_50 rfl ?_
          refine r_if_ne C dX5_read_52 (t := 59) (by decide) (by first | assumption | exact R.rg _ _ | exact rg _ _ | (unfold inR; omega)) (fun c52 => ?_) (fun c52 => ?_)
          · skip
            refine r_aload_n C dX5_read_59 (i := 0) rfl rfl ?_
            refine m_getA C dX5_read_60 fX5_63 R (by decide) rfl ?_
            refine r_iload_n C dX5_read_63 (i := 1) rfl rfl ?_
            refine m_iald C dX5_read_64 R (N := 20) rfl (by decide) rfl (by omega) (by omega) (by omega) ?_
            refine r_if_ne C dX5_read_65 (t := 72) (by decide) (by first | assumption | exact R.rg _ _ | exact rg _ _ | (unfold inR; omega)) (fun c65 => ?_) (fun c65 => ?_)
            · skip
              refine r_iconst C dX5_read_72 ?_
              refine m_V1 C dX5_read_73 sX5_91 rfl R (Nat.le_of_ble_eq_true rfl) (C_X5_holds R (by unfold inR; omega) (fun zH h hzH hH R => ?_))
              refine r_if_ne C dX5_read_76 (t := 81) (by decide) (by first | assumption | exact R.rg _ _ | exact rg _ _ | (unfold inR; omega)) (fun c76 => ?_) (fun c76 => ?_)
              · skip
                exact absurd (hH.t c76) (by decide)
              · skip
                refine r_iconst C dX5_read_79 ?_
                refine r_iret C dX5_read_80 (Or.inl rfl) ?_
                first | exact k 1 _ _ _ (by unfold C2; omega) (fun z => absurd z (by decide)) (fun _ => rfl) R | exact k 2 _ _ _ (by unfold C2; omega) (fun z => absurd z (by decide)) (fun _ => rfl) R
            · skip
              refine r_iconst C dX5_read_68 ?_
              refine r_goto C dX5_read_69 (t := 73) (by decide) ?_
              refine m_V1 C dX5_read_73 sX5_91 rfl R (Nat.le_of_ble_eq_true rfl) (C_X5_holds R (by unfold inR; omega) (fun zH h hzH hH R => ?_))
              refine r_if_ne C dX5_read_76 (t := 81) (by decide) (by first | assumption | exact R.rg _ _ | exact rg _ _ | (unfold inR; omega)) (fun c76 => ?_) (fun c76 => ?_)
              · skip
                obtain ⟨s, hs⟩ : ∃ s, s = up g 0 0 0 := ⟨_, rfl⟩
                rw [← hs] at R
                have ge : ∀ k, k ≠ 0 → ∀ j, s k j = g k j := fun k hk j => by rw [hs, up_ne hk]
                have SB : BD s := by rw [hs]; exact bd_up0 B (by decide)
                have rg := R.rg
                have e4 := ge 4 (by decide) 0; have e11 := ge 11 (by decide) 0; have e22 := ge 22 (by decide) 0
                have e := ge 26 (by decide) (6 * f + w)
                have bre := SB.re f w (by omega) (by omega) (by omega) (by have := ge 25 (by decide) f; omega)
                obtain ⟨p, hp⟩ : ∃ p, p = s 26 (6 * f + w) := ⟨_, rfl⟩
                rw [← e, ← hp] at k
                rw [← hp] at bre
                obtain ⟨hp0, hp1⟩ := bre
                have scp := SB.cp p hp0 hp1
                refine r_aload_n C dX5_read_81 (i := 0) rfl rfl ?_
                refine m_getA C dX5_read_82 fX5_72 R (by decide) rfl ?_
                refine r_bipush C dX5_read_85 (by decide) ?_
                refine r_iload_n C dX5_read_87 (i := 1) rfl rfl ?_
                refine r_imul C dX5_read_88 ?_
                refine r_iload_n C dX5_read_89 (i := 2) rfl rfl ?_
                refine r_iadd C dX5_read_90 ?_
                refine m_iald C dX5_read_91 R (N := 120) rfl (by decide) rfl (by omega) (by omega) (by omega) ?_
                rw [← hp]
                refine r_istore C dX5_read_92 (Nat.le_of_ble_eq_true rfl) ?_
                dsimp only [List.set]
                refine r_aload_n C dX5_read_94 (i := 0) rfl rfl ?_
                refine r_iload C dX5_read_95 rfl ?_
                refine r_iload C dX5_read_97 rfl ?_
                refine m_V2 C dX5_read_99 sX5_210 rfl R (Nat.le_of_ble_eq_true rfl) (C_X5_nearest R SB hp0 hp1 (by assumption) ?_)
                refine r_istore C dX5_read_102 (Nat.le_of_ble_eq_true rfl) ?_
                dsimp only [List.set]
                suffices LOOP : ∀ (m : Nat) (i : Int) (h : Hp), s 16 p - i < (m : Int) → 0 ≤ i → i ≤ s 16 p → itrI (reF p c r) i s 16 p = s 16 p - i → RM q ar (itrI (reF p c r) i s) h → J 104 [some (vr q), some (vi f), some (vi w), some (vi c), some (vi r), some (vi 1), some (vi p), some (vi (nrG (itrI (reF p c r) i s) p r))] [] h 0 0 by
                  exact LOOP ((s 16 p).toNat + 1) 0 _ (by omega) (by omega) (by omega) (by show s 16 p = _; omega) R
                intro m
                induction m with
                | zero => intro i h hm hi0 hi2 hi1 R; exact absurd hm (by omega)
                | succ m ih =>
                  intro i h hm hi0 hi2 hi1 R
                  obtain ⟨t, ht⟩ : ∃ t, t = itrI (reF p c r) i s := ⟨_, rfl⟩
                  have T := re_i SB c r i hp0 hp1
                  rw [← ht] at R T hi1 ⊢
                  have TB := T.1
                  have t11 := T.2 11 (by decide) 0
                  have t4 := T.2 4 (by decide) 0
                  have tcp := TB.cp p hp0 (by omega)
                  have hnk := nr_kn t p r
                  have hnb : nrG t p r = -1 ∨ (0 ≤ nrG t p r ∧ nrG t p r < t 4 0) := hnk.imp id (fun z => KN.r TB hp0 (by omega) z.1)
                  have tn := TB.nn
                  have rg := R.rg
                  refine r_iload C dX5_read_104 rfl ?_
                  refine r_iconst C dX5_read_106 ?_
                  refine r_ic_eq C dX5_read_107 (t := 151) (by decide) (by first | assumption | exact R.rg _ _ | exact rg _ _ | (unfold inR; omega)) (by first | assumption | exact R.rg _ _ | exact rg _ _ | (unfold inR; omega)) (fun c107 => ?_) (fun c107 => ?_)
                  · skip
                    refine r_iload C dX5_read_151 rfl ?_
                    refine r_iconst C dX5_read_153 ?_
                    refine r_ic_ne C dX5_read_154 (t := 162) (by decide) (by first | assumption | exact R.rg _ _ | exact rg _ _ | (unfold inR; omega)) (by first | assumption | exact R.rg _ _ | exact rg _ _ | (unfold inR; omega)) (fun c154 => ?_) (fun c154 => ?_)
                    · skip
                      refine r_iload_n C dX5_read_162 (i := 3) rfl rfl ?_
                      refine r_aload_n C dX5_read_163 (i := 0) rfl rfl ?_
                      refine m_getA C dX5_read_164 fX5_54 R (by decide) rfl ?_
                      refine r_iload C dX5_read_167 rfl ?_
                      refine r_iload C dX5_read_169 rfl ?_
                      refine r_S2 C dX5_read_171 sX5_104 (Nat.le_of_ble_eq_true rfl) (C_X5_at ?_)
                      refine m_iald C dX5_read_174 R (N := 480) rfl (by decide) rfl (by omega) (by omega) (by omega) ?_
                      refine r_ic_ge C dX5_read_175 (t := 197) (by decide) (by first | assumption | exact R.rg _ _ | exact rg _ _ | (unfold inR; omega)) (by first | assumption | exact R.rg _ _ | exact rg _ _ | (unfold inR; omega)) (fun c175 => ?_) (fun c175 => ?_)
                      · skip
                        refine r_iconst C dX5_read_197 ?_
                        refine r_iret C dX5_read_198 (Or.inl rfl) ?_
                        have hfx : rfG s p c r = t := by
                          unfold rfG
                          rw [ht]
                          refine itr_fix hi0 (fun j => ?_) (by omega)
                          rw [← ht]
                          unfold reF
                          exact if_neg (fun z => by have z1 := z.1; have z2 := z.2; unfold shB at z2; omega)
                        refine k 0 _ _ _ (by unfold C2; omega) (fun _ => ⟨?_, by rw [← hs, hfx]⟩) (fun z => absurd rfl z) R
                        unfold rvG
                        first
                          | (exfalso; omega)
                          | rw [if_pos (by omega)]
                          | rw [if_neg (by omega), if_pos (by omega)]
                          | rw [if_neg (by omega), if_neg (by omega)]
                      · skip
                        refine r_aload_n C dX5_read_178 (i := 0) rfl rfl ?_
                        refine m_getA C dX5_read_179 fX5_57 R (by decide) rfl ?_
                        refine r_iconst C dX5_read_182 ?_
                        refine r_iload C dX5_read_183 rfl ?_
                        refine r_iload C dX5_read_185 rfl ?_
                        refine r_S2 C dX5_read_187 sX5_104 (Nat.le_of_ble_eq_true rfl) (C_X5_at ?_)
                        refine r_imul C dX5_read_190 ?_
                        refine r_iload_n C dX5_read_191 (i := 3) rfl rfl ?_
                        refine r_iadd C dX5_read_192 ?_
                        refine m_iald C dX5_read_193 R (N := 1920) rfl (by decide) rfl (by omega) (by omega) (by omega) ?_
                        refine r_goto C dX5_read_194 (t := 198) (by decide) ?_
                        refine r_iret C dX5_read_198 (Or.inl rfl) ?_
                        have hfx : rfG s p c r = t := by
                          unfold rfG
                          rw [ht]
                          refine itr_fix hi0 (fun j => ?_) (by omega)
                          rw [← ht]
                          unfold reF
                          exact if_neg (fun z => by have z1 := z.1; have z2 := z.2; unfold shB at z2; omega)
                        refine k 0 _ _ _ (by unfold C2; omega) (fun _ => ⟨?_, by rw [← hs, hfx]⟩) (fun z => absurd rfl z) R
                        unfold rvG
                        first
                          | (exfalso; omega)
                          | rw [if_pos (by omega)]
                          | rw [if_neg (by omega), if_pos (by omega)]
                          | rw [if_neg (by omega), if_neg (by omega)]
                    · skip
                      refine r_bipush C dX5_read_157 (by decide) ?_
                      refine r_goto C dX5_read_159 (t := 198) (by decide) ?_
                      refine r_iret C dX5_read_198 (Or.inl rfl) ?_
                      have hfx : rfG s p c r = t := by
                        unfold rfG
                        rw [ht]
                        refine itr_fix hi0 (fun j => ?_) (by omega)
                        rw [← ht]
                        unfold reF
                        exact if_neg (fun z => by have z1 := z.1; have z2 := z.2; unfold shB at z2; omega)
                      refine k 0 _ _ _ (by unfold C2; omega) (fun _ => ⟨?_, by rw [← hs, hfx]⟩) (fun z => absurd rfl z) R
                      unfold rvG
                      first
                        | (exfalso; omega)
                        | rw [if_pos (by omega)]
                        | rw [if_neg (by omega), if_pos (by omega)]
                        | rw [if_neg (by omega), if_neg (by omega)]
                  · skip
                    refine r_aload_n C dX5_read_110 (i := 0) rfl rfl ?_
                    refine m_getA C dX5_read_111 fX5_60 R (by decide) rfl ?_
                    refine r_iload C dX5_read_114 rfl ?_
                    refine r_iload C dX5_read_116 rfl ?_
                    refine r_S2 C dX5_read_118 sX5_104 (Nat.le_of_ble_eq_true rfl) (C_X5_at ?_)
                    refine m_iald C dX5_read_121 R (N := 480) rfl (by decide) rfl (by omega) (by omega) (by omega) ?_
                    refine r_iload_n C dX5_read_122 (i := 3) rfl rfl ?_
                    refine r_ishr C dX5_read_123 ?_
                    refine r_iconst C dX5_read_124 ?_
                    refine r_iand C dX5_read_125 ?_
                    have ishb := inR_toInt (zI (zI (t 21 (60 * nrG t p r + p)) >>> (zI c &&& 31)).toInt &&& zI 1)
                    refine r_iconst C dX5_read_126 ?_
                    refine r_ic_ne C dX5_read_127 (t := 151) (by decide) (by first | assumption | exact R.rg _ _ | exact rg _ _ | (unfold inR; omega)) (by first | assumption | exact R.rg _ _ | exact rg _ _ | (unfold inR; omega)) (fun c127 => ?_) (fun c127 => ?_)
                    · skip
                      refine r_iload C dX5_read_151 rfl ?_
                      refine r_iconst C dX5_read_153 ?_
                      refine r_ic_ne C dX5_read_154 (t := 162) (by decide) (by first | assumption | exact R.rg _ _ | exact rg _ _ | (unfold inR; omega)) (by first | assumption | exact R.rg _ _ | exact rg _ _ | (unfold inR; omega)) (fun c154 => ?_) (fun c154 => ?_)
                      · skip
                        refine r_iload_n C dX5_read_162 (i := 3) rfl rfl ?_
                        refine r_aload_n C dX5_read_163 (i := 0) rfl rfl ?_
                        refine m_getA C dX5_read_164 fX5_54 R (by decide) rfl ?_
                        refine r_iload C dX5_read_167 rfl ?_
                        refine r_iload C dX5_read_169 rfl ?_
                        refine r_S2 C dX5_read_171 sX5_104 (Nat.le_of_ble_eq_true rfl) (C_X5_at ?_)
                        refine m_iald C dX5_read_174 R (N := 480) rfl (by decide) rfl (by omega) (by omega) (by omega) ?_
                        refine r_ic_ge C dX5_read_175 (t := 197) (by decide) (by first | assumption | exact R.rg _ _ | exact rg _ _ | (unfold inR; omega)) (by first | assumption | exact R.rg _ _ | exact rg _ _ | (unfold inR; omega)) (fun c175 => ?_) (fun c175 => ?_)
                        · skip
                          refine r_iconst C dX5_read_197 ?_
                          refine r_iret C dX5_read_198 (Or.inl rfl) ?_
                          have hfx : rfG s p c r = t := by
                            unfold rfG
                            rw [ht]
                            refine itr_fix hi0 (fun j => ?_) (by omega)
                            rw [← ht]
                            unfold reF
                            exact if_neg (fun z => by have z1 := z.1; have z2 := z.2; unfold shB at z2; omega)
                          refine k 0 _ _ _ (by unfold C2; omega) (fun _ => ⟨?_, by rw [← hs, hfx]⟩) (fun z => absurd rfl z) R
                          unfold rvG
                          first
                            | (exfalso; omega)
                            | rw [if_pos (by omega)]
                            | rw [if_neg (by omega), if_pos (by omega)]
                            | rw [if_neg (by omega), if_neg (by omega)]
                        · skip
                          refine r_aload_n C dX5_read_178 (i := 0) rfl rfl ?_
                          refine m_getA C dX5_read_179 fX5_57 R (by decide) rfl ?_
                          refine r_iconst C dX5_read_182 ?_
                          refine r_iload C dX5_read_183 rfl ?_
                          refine r_iload C dX5_read_185 rfl ?_
                          refine r_S2 C dX5_read_187 sX5_104 (Nat.le_of_ble_eq_true rfl) (C_X5_at ?_)
                          refine r_imul C dX5_read_190 ?_
                          refine r_iload_n C dX5_read_191 (i := 3) rfl rfl ?_
                          refine r_iadd C dX5_read_192 ?_
                          refine m_iald C dX5_read_193 R (N := 1920) rfl (by decide) rfl (by omega) (by omega) (by omega) ?_
                          refine r_goto C dX5_read_194 (t := 198) (by decide) ?_
                          refine r_iret C dX5_read_198 (Or.inl rfl) ?_
                          have hfx : rfG s p c r = t := by
                            unfold rfG
                            rw [ht]
                            refine itr_fix hi0 (fun j => ?_) (by omega)
                            rw [← ht]
                            unfold reF
                            exact if_neg (fun z => by have z1 := z.1; have z2 := z.2; unfold shB at z2; omega)
                          refine k 0 _ _ _ (by unfold C2; omega) (fun _ => ⟨?_, by rw [← hs, hfx]⟩) (fun z => absurd rfl z) R
                          unfold rvG
                          first
                            | (exfalso; omega)
                            | rw [if_pos (by omega)]
                            | rw [if_neg (by omega), if_pos (by omega)]
                            | rw [if_neg (by omega), if_neg (by omega)]
                      · skip
                        refine r_bipush C dX5_read_157 (by decide) ?_
                        refine r_goto C dX5_read_159 (t := 198) (by decide) ?_
                        refine r_iret C dX5_read_198 (Or.inl rfl) ?_
                        have hfx : rfG s p c r = t := by
                          unfold rfG
                          rw [ht]
                          refine itr_fix hi0 (fun j => ?_) (by omega)
                          rw [← ht]
                          unfold reF
                          exact if_neg (fun z => by have z1 := z.1; have z2 := z.2; unfold shB at z2; omega)
                        refine k 0 _ _ _ (by unfold C2; omega) (fun _ => ⟨?_, by rw [← hs, hfx]⟩) (fun z => absurd rfl z) R
                        unfold rvG
                        first
                          | (exfalso; omega)
                          | rw [if_pos (by omega)]
                          | rw [if_neg (by omega), if_pos (by omega)]
                          | rw [if_neg (by omega), if_neg (by omega)]
                    · skip
                      refine r_aload_n C dX5_read_130 (i := 0) rfl rfl ?_
                      refine r_iload C dX5_read_131 rfl ?_
                      refine r_iload C dX5_read_133 rfl ?_
                      refine m_V2 C dX5_read_135 sX5_213 rfl R (Nat.le_of_ble_eq_true rfl) (C_X5_drops R TB (by omega) (by omega) hp0 (by omega) (fun h R => ?_))
                      have TB2 := bd_dr TB hp0 (show p < t 11 0 by omega) (nrG t p r)
                      have t211 := dr_ne t (nrG t p r) p (k := 11) (by decide) 0
                      refine r_aload_n C dX5_read_138 (i := 0) rfl rfl ?_
                      refine r_iload C dX5_read_139 rfl ?_
                      refine r_iload C dX5_read_141 rfl ?_
                      refine m_V2 C dX5_read_143 sX5_210 rfl R (Nat.le_of_ble_eq_true rfl) (C_X5_nearest R TB2 hp0 (by omega) (by assumption) ?_)
                      refine r_istore C dX5_read_146 (Nat.le_of_ble_eq_true rfl) ?_
                      dsimp only [List.set]
                      refine r_goto C dX5_read_148 (t := 104) (by decide) ?_
                      have e9 : itrI (reF p c r) (i + 1) s = drG t (nrG t p r) p := by rw [itrI_s _ _ hi0, ← ht]; unfold reF; rw [if_pos ⟨c107, c127⟩]
                      have e16 := dr_16 (hnk.resolve_left c107).1
                      have tcp2 := TB2.cp p hp0 (by omega)
                      rw [← e9] at R e16 tcp2 ⊢
                      exact ih _ _ (by omega) (by omega) (by omega) (by omega) R
              · skip
                exact absurd rfl (hH.f c76)
          · skip
            exact absurd c52 (by decide)

