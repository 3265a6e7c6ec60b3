/-! ===== the reference: pass ===== -/
set_option maxRecDepth 100000 in
set_option maxHeartbeats 4000000 in
theorem C_X5_pass {gx : GX} {d : Nat} {Qr : Option AV → Hp → Prop} {Qx : String → Hp → Prop} {q : Nat} {ar : Nat → Nat} {g : GT} {h : Hp} {x : Int} (R : RM q ar g h) (I : IV1 g) (hx : inR x) (ht0 : 0 ≤ g 1 0) (ht1 : g 1 0 ≤ 3000) (hL : 0 ≤ g 2 0 ∧ g 2 0 ≤ 3) (hS : ∀ j, 0 ≤ g 8 j ∧ g 8 j ≤ 3000) (hD : ∀ j, 0 ≤ g 24 j ∧ g 24 j ≤ 3000) (k : ∀ c z h1 g1, PAC g x c → (c = 0 → z = g 1 0 + x ∧ g1 = psG (up g 0 0 0) x) → (c ≠ 0 → g1 = up g 0 0 c) → RM q ar g1 h1 → Qr (some (vi z)) h1) : aM gx (d + 6) mX5_pass [vr q, vi x] h 0 0 Qr Qx := by
  intro J C
  show J 0 [some (vr q), some (vi x), none, none] [] h 0 0
  refine r_aload_n C dX5_pass_0 (i := 0) rfl rfl ?_
  refine r_iload_n C dX5_pass_1 (i := 1) rfl rfl ?_
  refine r_iconst C dX5_pass_2 ?_
  refine r_bipush C dX5_pass_3 (by decide) ?_
  refine r_S3 C dX5_pass_5 sX5_81 (Nat.le_of_ble_eq_true rfl) (C_X5_isIn hx (by unfold inR; omega) (by unfold inR; omega) (fun z hz hb => ?_))
  refine r_if_ne C dX5_pass_8 (t := 15) (by decide) (by first | assumption | exact R.rg _ _ | exact rg _ _ | (unfold inR; omega)) (fun c8 => ?_) (fun c8 => ?_)
  · skip
    have hin := hb.t c8
    refine r_aload_n C dX5_pass_15 (i := 0) rfl rfl ?_
    refine m_get0 C dX5_pass_16 fX5_98 R rfl rfl ?_
    refine r_iload_n C dX5_pass_19 (i := 1) rfl rfl ?_
    refine r_iadd C dX5_pass_20 ?_
    refine r_sipush C dX5_pass_21 (by decide) ?_
    refine r_ic_le C dX5_pass_24 (t := 31) (by decide) (by first | assumption | exact R.rg _ _ | exact rg _ _ | (unfold inR; omega)) (by first | assumption | exact R.rg _ _ | exact rg _ _ | (unfold inR; omega)) (fun c24 => ?_) (fun c24 => ?_)
    · skip
      refine r_iconst C dX5_pass_31 ?_
      refine m_V1 C dX5_pass_32 sX5_91 rfl R (Nat.le_of_ble_eq_true rfl) (C_X5_holds R (by unfold inR; omega) (fun zH h hzH hH R => ?_))
      refine r_if_ne C dX5_pass_35 (t := 40) (by decide) (by first | assumption | exact R.rg _ _ | exact rg _ _ | (unfold inR; omega)) (fun c35 => ?_) (fun c35 => ?_)
      · skip
        obtain ⟨g0, hg0⟩ : ∃ g0, g0 = up g 0 0 0 := ⟨_, rfl⟩
        rw [← hg0] at R
        have I0 : IV1 g0 := by rw [hg0]; exact iv1_up0 I (by decide)
        have ge : ∀ k, k ≠ 0 → ∀ j, g0 k j = g k j := fun k hk j => by rw [hg0, up_ne hk]
        refine r_iconst C dX5_pass_40 ?_
        refine r_istore_n C dX5_pass_41 (i := 2) rfl (Nat.le_of_ble_eq_true rfl) ?_
        dsimp only [List.set]
        suffices LOOP : ∀ (m : Nat) (i : Int) (h : Hp) (o3 : Option AV), x - i < (m : Int) → 0 ≤ i → i ≤ x → RM q ar (psG g0 i) h → J 42 [some (vr q), some (vi x), some (vi i), o3] [] h 0 0 by
          exact LOOP (x.toNat + 1) 0 _ _ (by omega) (by omega) (by omega) R
        intro m
        induction m with
        | zero => intro i h o3 hm hi0 hi1 R; exact absurd hm (by omega)
        | succ m ih =>
          intro i h o3 hm hi0 hi1 R
          have S := ps_f I0 hi0
          obtain ⟨s, hs⟩ : ∃ s, s = psG g0 i := ⟨_, rfl⟩
          rw [← hs] at R S
          have e1 := S.2.2; have g1 := ge 1 (by decide) 0
          have sb := S.1.1
          have sn := sb.nn; have sp := sb.np; have sf := sb.nf
          have e2 : s 2 0 = g 2 0 := (S.2.1 2 (by omega) 0).trans (ge 2 (by decide) 0)
          have rg := R.rg
          refine r_iload_n C dX5_pass_42 (i := 2) rfl rfl ?_
          refine r_iload_n C dX5_pass_43 (i := 1) rfl rfl ?_
          refine r_ic_ge C dX5_pass_44 (t := 239) (by decide) (by first | assumption | exact R.rg _ _ | exact rg _ _ | (unfold inR; omega)) (by first | assumption | exact R.rg _ _ | exact rg _ _ | (unfold inR; omega)) (fun c44 => ?_) (fun c44 => ?_)
          · skip
            refine r_aload_n C dX5_pass_239 (i := 0) rfl rfl ?_
            refine m_get0 C dX5_pass_240 fX5_98 R rfl rfl ?_
            refine r_iret C dX5_pass_243 (Or.inl rfl) ?_
            exact k 0 _ _ _ (Or.inr (Or.inr ⟨hin, by omega, rfl⟩)) (fun _ => ⟨by omega, by rw [hs, show i = x by omega, hg0]⟩) (fun z => absurd rfl z) R
          · skip
            refine r_aload_n C dX5_pass_47 (i := 0) rfl rfl ?_
            refine r_dup C dX5_pass_48 rfl ?_
            refine m_get0 C dX5_pass_49 fX5_98 R rfl rfl ?_
            refine r_iconst C dX5_pass_52 ?_
            refine r_iadd C dX5_pass_53 ?_
            refine m_put C dX5_pass_54 fX5_98 R rfl rfl (Or.inl rfl) (by first | assumption | exact R.rg _ _ | exact rg _ _ | (unfold inR; omega)) (fun h R => ?_)
            replace R : RM q ar (sec1 s) h := R
            have I1 := iv1_sec S.1
            have q1 : sec1 s 1 0 = s 1 0 + 1 := by unfold sec1; rw [up_self]
            refine r_aload_n C dX5_pass_57 (i := 0) rfl rfl ?_
            refine m_V0 C dX5_pass_58 sX5_216 rfl R (Nat.le_of_ble_eq_true rfl) (C_X5_counts R I1 (fun j => by rw [sec1_4 _ (by decide), S.2.1 8 (by omega), ge 8 (by decide)]; exact hS j) (by omega) (by omega) (fun h R => ?_))
            replace R : RM q ar (se1 s) h := R
            have F1 := se1_f S.1
            refine r_iconst C dX5_pass_61 ?_
            refine r_istore_n C dX5_pass_62 (i := 3) rfl (Nat.le_of_ble_eq_true rfl) ?_
            dsimp only [List.set]
            suffices LOOP : ∀ (m2 : Nat) (n : Int) (h : Hp), s 4 0 - n < (m2 : Int) → 0 ≤ n → n ≤ s 4 0 → RM q ar (itrI soF2 n (se1 s)) h → J 63 [some (vr q), some (vi x), some (vi i), some (vi n)] [] h 0 0 by
              exact LOOP ((s 4 0).toNat + 1) 0 _ (by omega) (by omega) (by omega) R
            intro m2
            induction m2 with
            | zero => intro n h hm2 hn0 hn1 R; exact absurd hm2 (by omega)
            | succ m2 ih2 =>
              intro n h hm2 hn0 hn1 R
              have F := so2_i F1 (i := n) (by rw [sec1_4 _ (by decide)]; exact hn1)
              obtain ⟨t, ht⟩ : ∃ t, t = itrI soF2 n (se1 s) := ⟨_, rfl⟩
              rw [← ht] at R F
              have f4 : t 4 0 = s 4 0 := (F.2 4 (by omega) 0).trans (sec1_4 _ (by decide) 0)
              have rg := R.rg
              refine r_iload_n C dX5_pass_63 (i := 3) rfl rfl ?_
              refine r_aload_n C dX5_pass_64 (i := 0) rfl rfl ?_
              refine m_get0 C dX5_pass_65 fX5_78 R rfl rfl ?_
              refine r_ic_ge C dX5_pass_68 (t := 91) (by decide) (by first | assumption | exact R.rg _ _ | exact rg _ _ | (unfold inR; omega)) (by first | assumption | exact R.rg _ _ | exact rg _ _ | (unfold inR; omega)) (fun c68 => ?_) (fun c68 => ?_)
              · skip
                rw [ht, show n = s 4 0 by omega] at R
                replace R : RM q ar (se2 s) h := R
                have F2 := se2_f S.1
                refine r_iconst C dX5_pass_91 ?_
                refine r_istore_n C dX5_pass_92 (i := 3) rfl (Nat.le_of_ble_eq_true rfl) ?_
                dsimp only [List.set]
                suffices LOOP : ∀ (m3 : Nat) (f : Int) (h : Hp), s 22 0 - f < (m3 : Int) → 0 ≤ f → f ≤ s 22 0 → RM q ar (itrI goF f (se2 s)) h → J 93 [some (vr q), some (vi x), some (vi i), some (vi f)] [] h 0 0 by
                  exact LOOP ((s 22 0).toNat + 1) 0 _ (by omega) (by omega) (by omega) R
                intro m3
                induction m3 with
                | zero => intro f h hm3 hf0 hf1 R; exact absurd hm3 (by omega)
                | succ m3 ih3 =>
                  intro f h hm3 hf0 hf1 R
                  have F := go_i F2 f
                  obtain ⟨t, ht⟩ : ∃ t, t = itrI goF f (se2 s) := ⟨_, rfl⟩
                  rw [← ht] at R F
                  have f22 : t 22 0 = s 22 0 := (F.2 22 (by omega) 0).trans (sec1_4 _ (by decide) 0)
                  have f24 : t 24 f = g 24 f := (F.2 24 (by omega) f).trans ((sec1_4 _ (by decide) f).trans ((S.2.1 24 (by omega) f).trans (ge 24 (by decide) f)))
                  have f1 : t 1 0 = s 1 0 + 1 := (F.2 1 (by omega) 0).trans q1
                  have hd := hD f
                  have rg := R.rg
                  refine r_iload_n C dX5_pass_93 (i := 3) rfl rfl ?_
                  refine r_aload_n C dX5_pass_94 (i := 0) rfl rfl ?_
                  refine m_get0 C dX5_pass_95 fX5_88 R rfl rfl ?_
                  refine r_ic_ge C dX5_pass_98 (t := 149) (by decide) (by first | assumption | exact R.rg _ _ | exact rg _ _ | (unfold inR; omega)) (by first | assumption | exact R.rg _ _ | exact rg _ _ | (unfold inR; omega)) (fun c98 => ?_) (fun c98 => ?_)
                  · skip
                    rw [ht, show f = s 22 0 by omega] at R
                    replace R : RM q ar (se3 s) h := R
                    have F3 := se3_f S.1
                    refine r_iconst C dX5_pass_149 ?_
                    refine r_istore_n C dX5_pass_150 (i := 3) rfl (Nat.le_of_ble_eq_true rfl) ?_
                    dsimp only [List.set]
                    suffices LOOP : ∀ (m4 : Nat) (n : Int) (h : Hp), s 4 0 - n < (m4 : Int) → 0 ≤ n → n ≤ s 4 0 → RM q ar (itrI scF2 n (se3 s)) h → J 151 [some (vr q), some (vi x), some (vi i), some (vi n)] [] h 0 0 by
                      exact LOOP ((s 4 0).toNat + 1) 0 _ (by omega) (by omega) (by omega) R
                    intro m4
                    induction m4 with
                    | zero => intro n h hm4 hn0 hn1 R; exact absurd hm4 (by omega)
                    | succ m4 ih4 =>
                      intro n h hm4 hn0 hn1 R
                      have F := sc2_i F3 n
                      obtain ⟨t, ht⟩ : ∃ t, t = itrI scF2 n (se3 s) := ⟨_, rfl⟩
                      rw [← ht] at R F
                      have f4 : t 4 0 = s 4 0 := (F.2 4 (by omega) 0).trans (sec1_4 _ (by decide) 0)
                      have rg := R.rg
                      refine r_iload_n C dX5_pass_151 (i := 3) rfl rfl ?_
                      refine r_aload_n C dX5_pass_152 (i := 0) rfl rfl ?_
                      refine m_get0 C dX5_pass_153 fX5_78 R rfl rfl ?_
                      refine r_ic_ge C dX5_pass_156 (t := 179) (by decide) (by first | assumption | exact R.rg _ _ | exact rg _ _ | (unfold inR; omega)) (by first | assumption | exact R.rg _ _ | exact rg _ _ | (unfold inR; omega)) (fun c156 => ?_) (fun c156 => ?_)
                      · skip
                        rw [ht, show n = s 4 0 by omega] at R
                        replace R : RM q ar (se4 s) h := R
                        have F4 := se4_f S.1
                        have l2 : se4 s 2 0 = s 2 0 := (F4.2 2 (by omega) 0).trans (sec1_4 _ (by decide) 0)
                        refine r_aload_n C dX5_pass_179 (i := 0) rfl rfl ?_
                        refine m_V0 C dX5_pass_180 sX5_225 rfl R (Nat.le_of_ble_eq_true rfl) (C_X5_mends R F4.1 (by omega) (by omega) (fun h R => ?_))
                        replace R : RM q ar (se5 s) h := R
                        have F5 := se5_f S.1
                        refine r_iconst C dX5_pass_183 ?_
                        refine r_istore_n C dX5_pass_184 (i := 3) rfl (Nat.le_of_ble_eq_true rfl) ?_
                        dsimp only [List.set]
                        suffices LOOP : ∀ (m5 : Nat) (p : Int) (h : Hp), s 11 0 - p < (m5 : Int) → 0 ≤ p → p ≤ s 11 0 → RM q ar (itrI tmF p (se5 s)) h → J 185 [some (vr q), some (vi x), some (vi i), some (vi p)] [] h 0 0 by
                          exact LOOP ((s 11 0).toNat + 1) 0 _ (by omega) (by omega) (by omega) R
                        intro m5
                        induction m5 with
                        | zero => intro p h hm5 hp0 hp1 R; exact absurd hm5 (by omega)
                        | succ m5 ih5 =>
                          intro p h hm5 hp0 hp1 R
                          have F := tm_i F5 (i := p) (by rw [sec1_4 _ (by decide)]; exact hp1)
                          obtain ⟨t, ht⟩ : ∃ t, t = itrI tmF p (se5 s) := ⟨_, rfl⟩
                          rw [← ht] at R F
                          have f11 : t 11 0 = s 11 0 := (F.2 11 (by omega) 0).trans (sec1_4 _ (by decide) 0)
                          have f3 : t 3 0 = s 3 0 := (F.2 3 (by omega) 0).trans (sec1_4 _ (by decide) 0)
                          have rg := R.rg
                          refine r_iload_n C dX5_pass_185 (i := 3) rfl rfl ?_
                          refine r_aload_n C dX5_pass_186 (i := 0) rfl rfl ?_
                          refine m_get0 C dX5_pass_187 fX5_85 R rfl rfl ?_
                          refine r_ic_ge C dX5_pass_190 (t := 222) (by decide) (by first | assumption | exact R.rg _ _ | exact rg _ _ | (unfold inR; omega)) (by first | assumption | exact R.rg _ _ | exact rg _ _ | (unfold inR; omega)) (fun c190 => ?_) (fun c190 => ?_)
                          · skip
                            rw [ht, show p = s 11 0 by omega] at R
                            replace R : RM q ar (se6 s) h := R
                            have F6 := se6_f S.1
                            have l3 : se6 s 3 0 = s 3 0 := (F6.2 3 (by omega) 0).trans (sec1_4 _ (by decide) 0)
                            refine r_aload_n C dX5_pass_222 (i := 0) rfl rfl ?_
                            refine m_get0 C dX5_pass_223 fX5_108 R rfl rfl ?_
                            refine r_if_eq C dX5_pass_226 (t := 233) (by decide) (by first | assumption | exact R.rg _ _ | exact rg _ _ | (unfold inR; omega)) (fun c226 => ?_) (fun c226 => ?_)
                            · skip
                              refine r_iinc C dX5_pass_233 rfl ?_
                              dsimp only [List.set]
                              refine r_goto C dX5_pass_236 (t := 42) (by decide) ?_
                              first
                                | exact ih _ _ _ (by omega) (by omega) (by omega) (by unfold psG; rw [itrI_s _ _ hi0]; show RM q ar (seG (psG g0 i)) _; rw [← hs]; unfold seG; rw [if_neg (by omega)]; exact R)
                                | exact ih _ _ _ (by omega) (by omega) (by omega) (by unfold psG; rw [itrI_s _ _ hi0]; show RM q ar (seG (psG g0 i)) _; rw [← hs]; unfold seG; rw [if_pos (by omega)]; exact R)
                            · skip
                              refine r_aload_n C dX5_pass_229 (i := 0) rfl rfl ?_
                              refine m_V0 C dX5_pass_230 sX5_234 rfl R (Nat.le_of_ble_eq_true rfl) (C_X5_balances R F6.1.1 (fun h R => ?_))
                              refine r_iinc C dX5_pass_233 rfl ?_
                              dsimp only [List.set]
                              refine r_goto C dX5_pass_236 (t := 42) (by decide) ?_
                              first
                                | exact ih _ _ _ (by omega) (by omega) (by omega) (by unfold psG; rw [itrI_s _ _ hi0]; show RM q ar (seG (psG g0 i)) _; rw [← hs]; unfold seG; rw [if_neg (by omega)]; exact R)
                                | exact ih _ _ _ (by omega) (by omega) (by omega) (by unfold psG; rw [itrI_s _ _ hi0]; show RM q ar (seG (psG g0 i)) _; rw [← hs]; unfold seG; rw [if_pos (by omega)]; exact R)
                          · skip
                            have tcp := F.1.1.cp p hp0 (by omega)
                            refine r_aload_n C dX5_pass_193 (i := 0) rfl rfl ?_
                            refine m_getA C dX5_pass_194 fX5_45 R (by decide) rfl ?_
                            refine r_iload_n C dX5_pass_197 (i := 3) rfl rfl ?_
                            refine m_iald C dX5_pass_198 R (N := 60) rfl (by decide) rfl (by omega) (by omega) (by omega) ?_
                            refine r_iconst C dX5_pass_199 ?_
                            refine r_ic_le C dX5_pass_200 (t := 216) (by decide) (by first | assumption | exact R.rg _ _ | exact rg _ _ | (unfold inR; omega)) (by first | assumption | exact R.rg _ _ | exact rg _ _ | (unfold inR; omega)) (fun c200 => ?_) (fun c200 => ?_)
                            · skip
                              refine r_iinc C dX5_pass_216 rfl ?_
                              dsimp only [List.set]
                              refine r_goto C dX5_pass_219 (t := 185) (by decide) ?_
                              first
                                | exact ih5 _ _ (by omega) (by omega) (by omega) (by rw [itrI_s _ _ hp0, ← ht]; unfold tmF; rw [if_pos ⟨by omega, by omega⟩]; exact R)
                                | exact ih5 _ _ (by omega) (by omega) (by omega) (by rw [itrI_s _ _ hp0, ← ht]; unfold tmF; rw [if_neg (fun z => by have z1 := z.1; have z2 := z.2; omega)]; exact R)
                            · skip
                              refine r_aload_n C dX5_pass_203 (i := 0) rfl rfl ?_
                              refine r_iload_n C dX5_pass_204 (i := 3) rfl rfl ?_
                              refine m_V1 C dX5_pass_205 sX5_228 rfl R (Nat.le_of_ble_eq_true rfl) (C_X5_isGone R F.1.1 (by unfold inR; omega) (fun z hz hb9 => ?_))
                              refine r_if_ne C dX5_pass_208 (t := 216) (by decide) (by first | assumption | exact R.rg _ _ | exact rg _ _ | (unfold inR; omega)) (fun c208 => ?_) (fun c208 => ?_)
                              · skip
                                have hgo := hb9.t c208
                                refine r_iinc C dX5_pass_216 rfl ?_
                                dsimp only [List.set]
                                refine r_goto C dX5_pass_219 (t := 185) (by decide) ?_
                                first
                                  | exact ih5 _ _ (by omega) (by omega) (by omega) (by rw [itrI_s _ _ hp0, ← ht]; unfold tmF; rw [if_pos ⟨by omega, by omega⟩]; exact R)
                                  | exact ih5 _ _ (by omega) (by omega) (by omega) (by rw [itrI_s _ _ hp0, ← ht]; unfold tmF; rw [if_neg (fun z => by have z1 := z.1; have z2 := z.2; omega)]; exact R)
                              · skip
                                have hgo := hb9.f c208
                                refine r_aload_n C dX5_pass_211 (i := 0) rfl rfl ?_
                                refine r_iload_n C dX5_pass_212 (i := 3) rfl rfl ?_
                                refine m_V1 C dX5_pass_213 sX5_231 rfl R (Nat.le_of_ble_eq_true rfl) (C_X5_trims R F.1.1 hp0 (by omega) (fun h R => ?_))
                                refine r_iinc C dX5_pass_216 rfl ?_
                                dsimp only [List.set]
                                refine r_goto C dX5_pass_219 (t := 185) (by decide) ?_
                                first
                                  | exact ih5 _ _ (by omega) (by omega) (by omega) (by rw [itrI_s _ _ hp0, ← ht]; unfold tmF; rw [if_pos ⟨by omega, by omega⟩]; exact R)
                                  | exact ih5 _ _ (by omega) (by omega) (by omega) (by rw [itrI_s _ _ hp0, ← ht]; unfold tmF; rw [if_neg (fun z => by have z1 := z.1; have z2 := z.2; omega)]; exact R)
                      · skip
                        refine r_aload_n C dX5_pass_159 (i := 0) rfl rfl ?_
                        refine m_getA C dX5_pass_160 fX5_20 R (by decide) rfl ?_
                        refine r_iload_n C dX5_pass_163 (i := 3) rfl rfl ?_
                        refine m_zald C dX5_pass_164 R (N := 8) rfl (by decide) rfl (by omega) (by omega) (by omega) ?_
                        refine r_if_eq C dX5_pass_165 (t := 173) (by decide) (by first | assumption | exact R.rg _ _ | exact rg _ _ | (unfold inR; omega)) (fun c165 => ?_) (fun c165 => ?_)
                        · skip
                          refine r_iinc C dX5_pass_173 rfl ?_
                          dsimp only [List.set]
                          refine r_goto C dX5_pass_176 (t := 151) (by decide) ?_
                          first
                            | exact ih4 _ _ (by omega) (by omega) (by omega) (by rw [itrI_s _ _ hn0, ← ht]; unfold scF2; rw [if_pos (by omega)]; exact R)
                            | exact ih4 _ _ (by omega) (by omega) (by omega) (by rw [itrI_s _ _ hn0, ← ht]; unfold scF2; rw [if_neg (by omega)]; exact R)
                        · skip
                          refine r_aload_n C dX5_pass_168 (i := 0) rfl rfl ?_
                          refine r_iload_n C dX5_pass_169 (i := 3) rfl rfl ?_
                          refine m_V1 C dX5_pass_170 sX5_222 rfl R (Nat.le_of_ble_eq_true rfl) (C_X5_scrubs R F.1.1 hn0 (by omega) (fun h R => ?_))
                          refine r_iinc C dX5_pass_173 rfl ?_
                          dsimp only [List.set]
                          refine r_goto C dX5_pass_176 (t := 151) (by decide) ?_
                          first
                            | exact ih4 _ _ (by omega) (by omega) (by omega) (by rw [itrI_s _ _ hn0, ← ht]; unfold scF2; rw [if_pos (by omega)]; exact R)
                            | exact ih4 _ _ (by omega) (by omega) (by omega) (by rw [itrI_s _ _ hn0, ← ht]; unfold scF2; rw [if_neg (by omega)]; exact R)
                  · skip
                    refine r_aload_n C dX5_pass_101 (i := 0) rfl rfl ?_
                    refine m_getA C dX5_pass_102 fX5_63 R (by decide) rfl ?_
                    refine r_iload_n C dX5_pass_105 (i := 3) rfl rfl ?_
                    refine r_aload_n C dX5_pass_106 (i := 0) rfl rfl ?_
                    refine m_getA C dX5_pass_107 fX5_63 R (by decide) rfl ?_
                    refine r_iload_n C dX5_pass_110 (i := 3) rfl rfl ?_
                    refine m_iald C dX5_pass_111 R (N := 20) rfl (by decide) rfl (by omega) (by omega) (by omega) ?_
                    refine r_iconst C dX5_pass_112 ?_
                    refine r_ic_ne C dX5_pass_113 (t := 136) (by decide) (by first | assumption | exact R.rg _ _ | exact rg _ _ | (unfold inR; omega)) (by first | assumption | exact R.rg _ _ | exact rg _ _ | (unfold inR; omega)) (fun c113 => ?_) (fun c113 => ?_)
                    · skip
                      refine r_aload_n C dX5_pass_136 (i := 0) rfl rfl ?_
                      refine m_getA C dX5_pass_137 fX5_63 R (by decide) rfl ?_
                      refine r_iload_n C dX5_pass_140 (i := 3) rfl rfl ?_
                      refine m_iald C dX5_pass_141 R (N := 20) rfl (by decide) rfl (by omega) (by omega) (by omega) ?_
                      refine m_iast C dX5_pass_142 R (N := 20) rfl (by decide) rfl (by omega) (by omega) (by omega) (by first | assumption | exact R.rg _ _ | exact rg _ _ | (unfold inR; omega)) (fun h R => ?_)
                      refine r_iinc C dX5_pass_143 rfl ?_
                      dsimp only [List.set]
                      refine r_goto C dX5_pass_146 (t := 93) (by decide) ?_
                      first
                        | (exfalso; omega)
                        | exact ih3 _ _ (by omega) (by omega) (by omega) (by rw [itrI_s _ _ hf0, ← ht]; unfold goF; rw [if_pos ⟨by omega, by omega⟩]; exact R)
                        | exact ih3 _ _ (by omega) (by omega) (by omega) (by rw [itrI_s _ _ hf0, ← ht]; unfold goF; rw [if_neg (fun z => by have z1 := z.1; have z2 := z.2; omega)]; exact R)
                    · skip
                      refine r_aload_n C dX5_pass_116 (i := 0) rfl rfl ?_
                      refine m_get0 C dX5_pass_117 fX5_98 R rfl rfl ?_
                      refine r_aload_n C dX5_pass_120 (i := 0) rfl rfl ?_
                      refine m_getA C dX5_pass_121 fX5_66 R (by decide) rfl ?_
                      refine r_iload_n C dX5_pass_124 (i := 3) rfl rfl ?_
                      refine m_iald C dX5_pass_125 R (N := 20) rfl (by decide) rfl (by omega) (by omega) (by omega) ?_
                      refine r_bipush C dX5_pass_126 (by decide) ?_
                      refine r_iadd C dX5_pass_128 ?_
                      refine r_ic_lt C dX5_pass_129 (t := 136) (by decide) (by first | assumption | exact R.rg _ _ | exact rg _ _ | (unfold inR; omega)) (by first | assumption | exact R.rg _ _ | exact rg _ _ | (unfold inR; omega)) (fun c129 => ?_) (fun c129 => ?_)
                      · skip
                        refine r_aload_n C dX5_pass_136 (i := 0) rfl rfl ?_
                        refine m_getA C dX5_pass_137 fX5_63 R (by decide) rfl ?_
                        refine r_iload_n C dX5_pass_140 (i := 3) rfl rfl ?_
                        refine m_iald C dX5_pass_141 R (N := 20) rfl (by decide) rfl (by omega) (by omega) (by omega) ?_
                        refine m_iast C dX5_pass_142 R (N := 20) rfl (by decide) rfl (by omega) (by omega) (by omega) (by first | assumption | exact R.rg _ _ | exact rg _ _ | (unfold inR; omega)) (fun h R => ?_)
                        refine r_iinc C dX5_pass_143 rfl ?_
                        dsimp only [List.set]
                        refine r_goto C dX5_pass_146 (t := 93) (by decide) ?_
                        first
                          | (exfalso; omega)
                          | exact ih3 _ _ (by omega) (by omega) (by omega) (by rw [itrI_s _ _ hf0, ← ht]; unfold goF; rw [if_pos ⟨by omega, by omega⟩]; exact R)
                          | exact ih3 _ _ (by omega) (by omega) (by omega) (by rw [itrI_s _ _ hf0, ← ht]; unfold goF; rw [if_neg (fun z => by have z1 := z.1; have z2 := z.2; omega)]; exact R)
                      · skip
                        refine r_iconst C dX5_pass_132 ?_
                        refine r_goto C dX5_pass_133 (t := 142) (by decide) ?_
                        refine m_iast C dX5_pass_142 R (N := 20) rfl (by decide) rfl (by omega) (by omega) (by omega) (by first | assumption | exact R.rg _ _ | exact rg _ _ | (unfold inR; omega)) (fun h R => ?_)
                        refine r_iinc C dX5_pass_143 rfl ?_
                        dsimp only [List.set]
                        refine r_goto C dX5_pass_146 (t := 93) (by decide) ?_
                        first
                          | (exfalso; omega)
                          | exact ih3 _ _ (by omega) (by omega) (by omega) (by rw [itrI_s _ _ hf0, ← ht]; unfold goF; rw [if_pos ⟨by omega, by omega⟩]; exact R)
                          | exact ih3 _ _ (by omega) (by omega) (by omega) (by rw [itrI_s _ _ hf0, ← ht]; unfold goF; rw [if_neg (fun z => by have z1 := z.1; have z2 := z.2; omega)]; exact R)
              · skip
                refine r_aload_n C dX5_pass_71 (i := 0) rfl rfl ?_
                refine m_getA C dX5_pass_72 fX5_20 R (by decide) rfl ?_
                refine r_iload_n C dX5_pass_75 (i := 3) rfl rfl ?_
                refine m_zald C dX5_pass_76 R (N := 8) rfl (by decide) rfl (by omega) (by omega) (by omega) ?_
                refine r_if_eq C dX5_pass_77 (t := 85) (by decide) (by first | assumption | exact R.rg _ _ | exact rg _ _ | (unfold inR; omega)) (fun c77 => ?_) (fun c77 => ?_)
                · skip
                  refine r_iinc C dX5_pass_85 rfl ?_
                  dsimp only [List.set]
                  refine r_goto C dX5_pass_88 (t := 63) (by decide) ?_
                  first
                    | exact ih2 _ _ (by omega) (by omega) (by omega) (by rw [itrI_s _ _ hn0, ← ht]; unfold soF2; rw [if_pos (by omega)]; exact R)
                    | exact ih2 _ _ (by omega) (by omega) (by omega) (by rw [itrI_s _ _ hn0, ← ht]; unfold soF2; rw [if_neg (by omega)]; exact R)
                · skip
                  refine r_aload_n C dX5_pass_80 (i := 0) rfl rfl ?_
                  refine r_iload_n C dX5_pass_81 (i := 3) rfl rfl ?_
                  refine m_V1 C dX5_pass_82 sX5_219 rfl R (Nat.le_of_ble_eq_true rfl) (C_X5_sorts R F.1 hn0 (by omega) (fun h R => ?_))
                  refine r_iinc C dX5_pass_85 rfl ?_
                  dsimp only [List.set]
                  refine r_goto C dX5_pass_88 (t := 63) (by decide) ?_
                  first
                    | exact ih2 _ _ (by omega) (by omega) (by omega) (by rw [itrI_s _ _ hn0, ← ht]; unfold soF2; rw [if_pos (by omega)]; exact R)
                    | exact ih2 _ _ (by omega) (by omega) (by omega) (by rw [itrI_s _ _ hn0, ← ht]; unfold soF2; rw [if_neg (by omega)]; exact R)
      · skip
        exact absurd rfl (hH.f c35)
    · skip
      refine r_iconst C dX5_pass_27 ?_
      refine r_goto C dX5_pass_28 (t := 32) (by decide) ?_
      refine m_V1 C dX5_pass_32 sX5_91 rfl R (Nat.le_of_ble_eq_true rfl) (C_X5_holds R (by unfold inR; omega) (fun zH h hzH hH R => ?_))
      refine r_if_ne C dX5_pass_35 (t := 40) (by decide) (by first | assumption | exact R.rg _ _ | exact rg _ _ | (unfold inR; omega)) (fun c35 => ?_) (fun c35 => ?_)
      · skip
        exact absurd (hH.t c35) (by decide)
      · skip
        refine r_iconst C dX5_pass_38 ?_
        refine r_iret C dX5_pass_39 (Or.inl rfl) ?_
        first
          | exact k 1 _ _ _ (Or.inl ⟨hin, rfl⟩) (fun z => absurd z (by decide)) (fun _ => rfl) R
          | exact k 2 _ _ _ (Or.inr (Or.inl ⟨hin, by omega, rfl⟩)) (fun z => absurd z (by decide)) (fun _ => rfl) R
  · skip
    have hin := hb.f c8
    refine r_iconst C dX5_pass_11 ?_
    refine r_goto C dX5_pass_12 (t := 32) (by decide) ?_
    refine m_V1 C dX5_pass_32 sX5_91 rfl R (Nat.le_of_ble_eq_true rfl) (C_X5_holds R (by unfold inR; omega) (fun zH h hzH hH R => ?_))
    refine r_if_ne C dX5_pass_35 (t := 40) (by decide) (by first | assumption | exact R.rg _ _ | exact rg _ _ | (unfold inR; omega)) (fun c35 => ?_) (fun c35 => ?_)
    · skip
      exact absurd (hH.t c35) (by decide)
    · skip
      refine r_iconst C dX5_pass_38 ?_
      refine r_iret C dX5_pass_39 (Or.inl rfl) ?_
      first
        | exact k 1 _ _ _ (Or.inl ⟨hin, rfl⟩) (fun z => absurd z (by decide)) (fun _ => rfl) R
        | exact k 2 _ _ _ (Or.inr (Or.inl ⟨hin, by omega, rfl⟩)) (fun z => absurd z (by decide)) (fun _ => rfl) R

