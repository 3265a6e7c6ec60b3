/-! ===== the law, case by case, 0 ===== -/
set_option maxRecDepth 100000 in
set_option maxHeartbeats 4000000 in
theorem LW_node {gx : GX} {Qr : Option AV → Hp → Prop} {Qx : String → Hp → Prop} {J : JT} (C : Cl gx 14 (aM gx 13) mLaw Qr Qx J) {x q o : Nat} {ar : Nat → Nat} {t i : Int} {g : GT} {H : Hp} {cc ss : Nat} {y5 y6 : Option AV} (hx : ∀ j, inR (gx.2.2.2.1 j)) (hL : gx.2.2.1 ≤ 2560) (i0 : 0 ≤ i) (i5 : i + 5 ≤ gx.2.2.1) (t0 : 0 ≤ t) (t1 : t ≤ 9999) (hw : WD gx x q o ar t g H) (hcc : 300 ≤ cc) (hss : 3000 ≤ ss) (K : ∀ g' H' y5' y6', WD gx x q o ar (t + 1) g' H' → ∀ c' s', cc ≤ c' + 300 → ss ≤ s' + 3000 → J 1625 [some (vr gx.2.1), some (vr x), some (vr q), some (vr o), some (vi i), y5', y6'] [] H' c' s') : J 144 [some (vr gx.2.1), some (vr x), some (vr q), some (vr o), some (vi i), y5, y6] [] H cc ss := by
  obtain ⟨A, u, hc, hm, ho, w0, w3, Z, R, O, X⟩ := hw
  have W := Z.1.2.1
  have B := W.b
  obtain ⟨s, hs⟩ : ∃ s, s = up g 0 0 0 := ⟨_, rfl⟩
  have s00 : s 0 0 = 0 := by rw [hs, up_self]
  have Zs : Rs gx x A u s hc := by rw [hs]; exact Z.up0 0 inR0
  have hg : ∀ k, k ≠ 0 → ∀ j, s k j = g k j := fun k hk j => by rw [hs, up_ne hk]
  have Xs : XG t s := xg_sm X (fun k hk j => hg k (by omega) j)
  have hvv : ∀ j, 0 ≤ g 12 j ∧ g 12 j < 1000000 := fun j => by have := X.2.2.2.2.2.2.2 j; omega
  have hvs : ∀ j, 0 ≤ s 12 j ∧ s 12 j < 1000000 := fun j => by have := Xs.2.2.2.2.2.2.2 j; omega
  obtain ⟨v1, ev1⟩ : ∃ v, v = gx.2.2.2.1 (i + 1).toNat := ⟨_, rfl⟩
  have hv1 : inR v1 := by rw [ev1]; exact hx _
  obtain ⟨v2, ev2⟩ : ∃ v, v = gx.2.2.2.1 (i + 2).toNat := ⟨_, rfl⟩
  have hv2 : inR v2 := by rw [ev2]; exact hx _
  refine r_aload_n C dL_law_144 (i := 1) rfl rfl ?_
  refine r_aload_n C dL_law_145 (i := 0) rfl rfl ?_
  refine r_iload C dL_law_146 rfl ?_
  refine r_iconst C dL_law_148 ?_
  refine r_iadd C dL_law_149 ?_
  refine r_ialdS C dL_law_150 (by omega) (by omega) (by omega) ?_
  rw [← ev1]
  refine r_aload_n C dL_law_151 (i := 0) rfl rfl ?_
  refine r_iload C dL_law_152 rfl ?_
  refine r_iconst C dL_law_154 ?_
  refine r_iadd C dL_law_155 ?_
  refine r_ialdS C dL_law_156 (by omega) (by omega) (by omega) ?_
  rw [← ev2]
  refine r_aload_n C dL_law_157 (i := 3) rfl rfl ?_
  refine r_callSX C (As := [vr x, vi v1, vi v2, vr o]) dL_law_158 sL_95 (fun v hv => by simp only [List.mem_cons, List.not_mem_nil, or_false] at hv; rcases hv with z | z | z | z <;> (rw [z]; rfl)) (Nat.le_of_ble_eq_true rfl) (c1 := 60) (s1 := 400) (by omega) (by omega) (aM_mono _ _ _ _ _ _ _ _ _ _ _ (C_L_node w3 Zs O hv1 hv2 ) (fun vv H1 hvv9 => ?_) (fun _ _ z => z.elim))
  obtain ⟨kk, wv, g1, A1, u1, hc1, ho1, rfl, w4, Z1, O1, cnd, y0, yn⟩ := hvv9
  refine r_istore C dL_law_161 (Nat.le_of_ble_eq_true rfl) ?_
  dsimp only [List.set]
  refine r_aload_n C dL_law_163 (i := 2) rfl rfl ?_
  refine r_aload_n C dL_law_164 (i := 0) rfl rfl ?_
  refine r_iload C dL_law_165 rfl ?_
  refine r_iconst C dL_law_167 ?_
  refine r_iadd C dL_law_168 ?_
  refine r_ialdS C dL_law_169 (by omega) (by omega) (by omega) ?_
  rw [← ev1]
  refine r_aload_n C dL_law_170 (i := 0) rfl rfl ?_
  refine r_iload C dL_law_171 rfl ?_
  refine r_iconst C dL_law_173 ?_
  refine r_iadd C dL_law_174 ?_
  refine r_ialdS C dL_law_175 (by omega) (by omega) (by omega) ?_
  rw [← ev2]
  have qm : q ∈ hD H1 := (w4.1 q).mpr (Or.inr (Or.inl R.1.1))
  have qk : hK H1 q = 7 := (w4.2.2.2.2.1 q R.1.1).1.trans R.1.2
  refine r_callV C (As := [vi v1, vi v2]) dL_law_176 sL_100 (fun v hv => by simp only [List.mem_cons, List.not_mem_nil, or_false] at hv; rcases hv with z | z <;> (rw [z]; rfl)) (ci := 6) (by decide) rfl qm qk (Nat.le_of_ble_eq_true rfl) (c1 := 0) (s1 := 0) (Nat.zero_le _) (Nat.zero_le _) (aM_w w4.r (C_X5_node R B hv1 hv2 (fun c z h2 g2 cnd2 y02 yn2 R2 H2 X2 => ?_)))
  have w5 := w4.r2 X2
  rw [← hs] at y02
  have ek : kk = c := c3_eq cnd cnd2 Iff.rfl (fun _ => Iff.rfl) (fun _ => by rw [hg 4 (by decide)])
  have cr := c3_r cnd2
  have e1 : kk = 0 → g1 = ndG s v1 v2 := fun h0 => (y0 h0).2
  have e2 : c = 0 → g2 = ndG s v1 v2 := fun h0 => (y02 h0).2
  have ew : c = 0 → wv = z := fun h0 => by
    rw [(y0 (ek.trans h0)).1, (y02 h0).1]
    exact (hg 4 (by decide) 0)
  have E := op_end hs ek e1 yn e2 yn2 (fun h0 => (nd_e s v1 v2 (by omega) (by omega)).trans s00) Z1 cr
  have XN : XG (t + 1) g2 := xg_end X (fun h0 => xg_nd Xs v2 (c3_0 cnd (ek.trans h0)).1.1) e2 yn2
  refine r_istore C dL_law_179 (Nat.le_of_ble_eq_true rfl) ?_
  dsimp only [List.set]
  refine r_aload_n C dL_law_181 (i := 2) rfl rfl ?_
  have qm2 : q ∈ hD H2 := (w5.1 q).mpr (Or.inr (Or.inl R2.1.1))
  have qk2 : hK H2 q = 7 := (w5.2.2.2.2.1 q R2.1.1).1.trans R2.1.2
  refine r_callV C (As := []) dL_law_182 sL_101 (fun v hv => by cases hv) (ci := 6) (by decide) rfl qm2 qk2 (Nat.le_of_ble_eq_true rfl) (c1 := 0) (s1 := 0) (Nat.zero_le _) (Nat.zero_le _) (aM_w w5.r (C_X5_thrown R2 (fun H3 X3 => ?_)))
  have w6 := w5.r2 X3
  rw [E.1]
  refine r_iload C dL_law_185 rfl ?_
  refine r_ic_eq C dL_law_187 (t := 192) (by decide) ⟨by omega, by omega⟩ ⟨by omega, by omega⟩ (fun e9 => ?_) (fun e9 => absurd ek.symm e9)
  refine r_iload C dL_law_192 rfl ?_
  refine r_if_ne C dL_law_194 (t := 209) (by decide) ⟨by omega, by omega⟩ (fun e8 => ?_) (fun e8 => ?_)
  · skip
    refine r_goto C dL_law_209 (t := 1625) (by decide) ?_
    exact K _ _ _ _ ⟨A1, u1, hc1, h2, ho1, wv, w6, E.2, R2, O1, XN⟩ _ _ (by omega) (by omega)
  · skip
    refine r_aload_n C dL_law_197 (i := 3) rfl rfl ?_
    refine r_iconst C dL_law_198 ?_
    have c0 : c = 0 := ek.symm.trans e8
    have om : o ∈ hD H3 := (w6.1 o).mpr (Or.inr (Or.inr O1.1))
    have oq := w6.2.2.2.2.2 o O1.1
    refine r_lald C dL_law_199 om (oq.1.trans O1.2.1) (by decide) (by rw [oq.2.1, O1.2.2.1]; decide) (by decide) ?_
    rw [show hI H3 o 0 = wv from (oq.2.2.1 0).trans O1.2.2.2, ew c0]
    refine r_iload C dL_law_200 rfl ?_
    have hzr : inR z := by rw [(y02 c0).1]; exact R.rg _ _
    refine r_i2l C dL_law_202 hzr ?_
    refine r_lcmp C dL_law_203 (hzr) (hzr) ?_
    rw [if_pos rfl]
    refine r_if_eq C dL_law_204 (t := 209) (by decide) inR0 (fun _ => ?_) (fun e7 => absurd rfl e7)
    refine r_goto C dL_law_209 (t := 1625) (by decide) ?_
    exact K _ _ _ _ ⟨A1, u1, hc1, h2, ho1, wv, w6, E.2, R2, O1, XN⟩ _ _ (by omega) (by omega)
set_option maxRecDepth 100000 in
set_option maxHeartbeats 4000000 in
theorem LW_up {gx : GX} {Qr : Option AV → Hp → Prop} {Qx : String → Hp → Prop} {J : JT} (C : Cl gx 14 (aM gx 13) mLaw Qr Qx J) {x q o : Nat} {ar : Nat → Nat} {t i : Int} {g : GT} {H : Hp} {cc ss : Nat} {y5 y6 : Option AV} (hx : ∀ j, inR (gx.2.2.2.1 j)) (hL : gx.2.2.1 ≤ 2560) (i0 : 0 ≤ i) (i5 : i + 5 ≤ gx.2.2.1) (t0 : 0 ≤ t) (t1 : t ≤ 9999) (hw : WD gx x q o ar t g H) (hcc : 300 ≤ cc) (hss : 3000 ≤ ss) (K : ∀ g' H' y5' y6', WD gx x q o ar (t + 1) g' H' → ∀ c' s', cc ≤ c' + 300 → ss ≤ s' + 3000 → J 1625 [some (vr gx.2.1), some (vr x), some (vr q), some (vr o), some (vi i), y5', y6'] [] H' c' s') : J 212 [some (vr gx.2.1), some (vr x), some (vr q), some (vr o), some (vi i), y5, y6] [] H cc ss := by
  obtain ⟨A, u, hc, hm, ho, w0, w3, Z, R, O, X⟩ := hw
  have W := Z.1.2.1
  have B := W.b
  obtain ⟨s, hs⟩ : ∃ s, s = up g 0 0 0 := ⟨_, rfl⟩
  have s00 : s 0 0 = 0 := by rw [hs, up_self]
  have Zs : Rs gx x A u s hc := by rw [hs]; exact Z.up0 0 inR0
  have hg : ∀ k, k ≠ 0 → ∀ j, s k j = g k j := fun k hk j => by rw [hs, up_ne hk]
  have Xs : XG t s := xg_sm X (fun k hk j => hg k (by omega) j)
  have hvv : ∀ j, 0 ≤ g 12 j ∧ g 12 j < 1000000 := fun j => by have := X.2.2.2.2.2.2.2 j; omega
  have hvs : ∀ j, 0 ≤ s 12 j ∧ s 12 j < 1000000 := fun j => by have := Xs.2.2.2.2.2.2.2 j; omega
  obtain ⟨v1, ev1⟩ : ∃ v, v = gx.2.2.2.1 (i + 1).toNat := ⟨_, rfl⟩
  have hv1 : inR v1 := by rw [ev1]; exact hx _
  obtain ⟨v2, ev2⟩ : ∃ v, v = gx.2.2.2.1 (i + 2).toNat := ⟨_, rfl⟩
  have hv2 : inR v2 := by rw [ev2]; exact hx _
  refine r_aload_n C dL_law_212 (i := 1) rfl rfl ?_
  refine r_aload_n C dL_law_213 (i := 0) rfl rfl ?_
  refine r_iload C dL_law_214 rfl ?_
  refine r_iconst C dL_law_216 ?_
  refine r_iadd C dL_law_217 ?_
  refine r_ialdS C dL_law_218 (by omega) (by omega) (by omega) ?_
  rw [← ev1]
  refine r_aload_n C dL_law_219 (i := 0) rfl rfl ?_
  refine r_iload C dL_law_220 rfl ?_
  refine r_iconst C dL_law_222 ?_
  refine r_iadd C dL_law_223 ?_
  refine r_ialdS C dL_law_224 (by omega) (by omega) (by omega) ?_
  rw [← ev2]
  refine lw_bz C dL_law_225 dL_law_228 dL_law_229 dL_law_232 hv2 ?_
  refine r_aload_n C dL_law_233 (i := 3) rfl rfl ?_
  refine r_callSX C (As := [vr x, vi v1, vi (bz v2), vr o]) dL_law_234 sL_104 (fun v hv => by simp only [List.mem_cons, List.not_mem_nil, or_false] at hv; rcases hv with z | z | z | z <;> (rw [z]; rfl)) (Nat.le_of_ble_eq_true rfl) (c1 := 1) (s1 := 6) (by omega) (by omega) (aM_mono _ _ _ _ _ _ _ _ _ _ _ (C_L_up w3 Zs O hv1 (bz_b v2) ) (fun vv H1 hvv9 => ?_) (fun _ _ z => z.elim))
  obtain ⟨kk, wv, g1, A1, u1, hc1, ho1, rfl, w4, Z1, O1, cnd, y0, yn⟩ := hvv9
  refine r_istore C dL_law_237 (Nat.le_of_ble_eq_true rfl) ?_
  dsimp only [List.set]
  refine r_aload_n C dL_law_239 (i := 2) rfl rfl ?_
  refine r_aload_n C dL_law_240 (i := 0) rfl rfl ?_
  refine r_iload C dL_law_241 rfl ?_
  refine r_iconst C dL_law_243 ?_
  refine r_iadd C dL_law_244 ?_
  refine r_ialdS C dL_law_245 (by omega) (by omega) (by omega) ?_
  rw [← ev1]
  refine r_aload_n C dL_law_246 (i := 0) rfl rfl ?_
  refine r_iload C dL_law_247 rfl ?_
  refine r_iconst C dL_law_249 ?_
  refine r_iadd C dL_law_250 ?_
  refine r_ialdS C dL_law_251 (by omega) (by omega) (by omega) ?_
  rw [← ev2]
  refine lw_bz C dL_law_252 dL_law_255 dL_law_256 dL_law_259 hv2 ?_
  have qm : q ∈ hD H1 := (w4.1 q).mpr (Or.inr (Or.inl R.1.1))
  have qk : hK H1 q = 7 := (w4.2.2.2.2.1 q R.1.1).1.trans R.1.2
  refine r_callV C (As := [vi v1, vi (bz v2)]) dL_law_260 sL_107 (fun v hv => by simp only [List.mem_cons, List.not_mem_nil, or_false] at hv; rcases hv with z | z <;> (rw [z]; rfl)) (ci := 6) (by decide) rfl qm qk (Nat.le_of_ble_eq_true rfl) (c1 := 0) (s1 := 0) (Nat.zero_le _) (Nat.zero_le _) (aM_w w4.r (C_X5_up R B hv1 (bz_b v2) (fun c z h2 g2 cnd2 y02 yn2 R2 H2 X2 => ?_)))
  have w5 := w4.r2 X2
  rw [← hs] at y02
  have ek : kk = c := c1_eq cnd cnd2 (by unfold ndP; rw [hg 4 (by decide)])
  have cr := c1_r cnd2
  have e1 : kk = 0 → g1 = upG s v1 (bz v2) := fun h0 => (y0 h0).2
  have e2 : c = 0 → g2 = upG s v1 (bz v2) := fun h0 => (y02 h0).2
  have ew : c = 0 → wv = bz z := fun h0 => by
    rw [(y0 (ek.trans h0)).1, (y02 h0).1]
    exact congrArg bz (hg 7 (by decide) v1)
  have E := op_end hs ek e1 yn e2 yn2 (fun h0 => by unfold upG; rw [up_ne (by decide), up_ne (by decide)]; exact s00) Z1 cr
  have XN : XG (t + 1) g2 := xg_end X (fun h0 => xg_up Xs _ _) e2 yn2
  refine r_istore C dL_law_263 (Nat.le_of_ble_eq_true rfl) ?_
  dsimp only [List.set]
  refine r_aload_n C dL_law_265 (i := 2) rfl rfl ?_
  have qm2 : q ∈ hD H2 := (w5.1 q).mpr (Or.inr (Or.inl R2.1.1))
  have qk2 : hK H2 q = 7 := (w5.2.2.2.2.1 q R2.1.1).1.trans R2.1.2
  refine r_callV C (As := []) dL_law_266 sL_101 (fun v hv => by cases hv) (ci := 6) (by decide) rfl qm2 qk2 (Nat.le_of_ble_eq_true rfl) (c1 := 0) (s1 := 0) (Nat.zero_le _) (Nat.zero_le _) (aM_w w5.r (C_X5_thrown R2 (fun H3 X3 => ?_)))
  have w6 := w5.r2 X3
  rw [E.1]
  refine r_iload C dL_law_269 rfl ?_
  refine r_ic_eq C dL_law_271 (t := 276) (by decide) ⟨by omega, by omega⟩ ⟨by omega, by omega⟩ (fun e9 => ?_) (fun e9 => absurd ek.symm e9)
  refine r_iload C dL_law_276 rfl ?_
  refine r_if_ne C dL_law_278 (t := 300) (by decide) ⟨by omega, by omega⟩ (fun e8 => ?_) (fun e8 => ?_)
  · skip
    refine r_goto C dL_law_300 (t := 1625) (by decide) ?_
    exact K _ _ _ _ ⟨A1, u1, hc1, h2, ho1, wv, w6, E.2, R2, O1, XN⟩ _ _ (by omega) (by omega)
  · skip
    refine r_aload_n C dL_law_281 (i := 3) rfl rfl ?_
    refine r_iconst C dL_law_282 ?_
    have c0 : c = 0 := ek.symm.trans e8
    have om : o ∈ hD H3 := (w6.1 o).mpr (Or.inr (Or.inr O1.1))
    have oq := w6.2.2.2.2.2 o O1.1
    refine r_lald C dL_law_283 om (oq.1.trans O1.2.1) (by decide) (by rw [oq.2.1, O1.2.2.1]; decide) (by decide) ?_
    rw [show hI H3 o 0 = wv from (oq.2.2.1 0).trans O1.2.2.2, ew c0]
    refine r_iload C dL_law_284 rfl ?_
    refine lw_bl C dL_law_286 dL_law_289 dL_law_290 dL_law_293 (by rw [(y02 c0).1]; exact R.rg _ _) ?_
    refine r_lcmp C dL_law_294 (bz_r z) (bz_r z) ?_
    rw [if_pos rfl]
    refine r_if_eq C dL_law_295 (t := 300) (by decide) inR0 (fun _ => ?_) (fun e7 => absurd rfl e7)
    refine r_goto C dL_law_300 (t := 1625) (by decide) ?_
    exact K _ _ _ _ ⟨A1, u1, hc1, h2, ho1, wv, w6, E.2, R2, O1, XN⟩ _ _ (by omega) (by omega)
set_option maxRecDepth 100000 in
set_option maxHeartbeats 4000000 in
theorem LW_spoil {gx : GX} {Qr : Option AV → Hp → Prop} {Qx : String → Hp → Prop} {J : JT} (C : Cl gx 14 (aM gx 13) mLaw Qr Qx J) {x q o : Nat} {ar : Nat → Nat} {t i : Int} {g : GT} {H : Hp} {cc ss : Nat} {y5 y6 : Option AV} (hx : ∀ j, inR (gx.2.2.2.1 j)) (hL : gx.2.2.1 ≤ 2560) (i0 : 0 ≤ i) (i5 : i + 5 ≤ gx.2.2.1) (t0 : 0 ≤ t) (t1 : t ≤ 9999) (hw : WD gx x q o ar t g H) (hcc : 300 ≤ cc) (hss : 3000 ≤ ss) (K : ∀ g' H' y5' y6', WD gx x q o ar (t + 1) g' H' → ∀ c' s', cc ≤ c' + 300 → ss ≤ s' + 3000 → J 1625 [some (vr gx.2.1), some (vr x), some (vr q), some (vr o), some (vi i), y5', y6'] [] H' c' s') : J 303 [some (vr gx.2.1), some (vr x), some (vr q), some (vr o), some (vi i), y5, y6] [] H cc ss := by
  obtain ⟨A, u, hc, hm, ho, w0, w3, Z, R, O, X⟩ := hw
  have W := Z.1.2.1
  have B := W.b
  obtain ⟨s, hs⟩ : ∃ s, s = up g 0 0 0 := ⟨_, rfl⟩
  have s00 : s 0 0 = 0 := by rw [hs, up_self]
  have Zs : Rs gx x A u s hc := by rw [hs]; exact Z.up0 0 inR0
  have hg : ∀ k, k ≠ 0 → ∀ j, s k j = g k j := fun k hk j => by rw [hs, up_ne hk]
  have Xs : XG t s := xg_sm X (fun k hk j => hg k (by omega) j)
  have hvv : ∀ j, 0 ≤ g 12 j ∧ g 12 j < 1000000 := fun j => by have := X.2.2.2.2.2.2.2 j; omega
  have hvs : ∀ j, 0 ≤ s 12 j ∧ s 12 j < 1000000 := fun j => by have := Xs.2.2.2.2.2.2.2 j; omega
  obtain ⟨v1, ev1⟩ : ∃ v, v = gx.2.2.2.1 (i + 1).toNat := ⟨_, rfl⟩
  have hv1 : inR v1 := by rw [ev1]; exact hx _
  obtain ⟨v2, ev2⟩ : ∃ v, v = gx.2.2.2.1 (i + 2).toNat := ⟨_, rfl⟩
  have hv2 : inR v2 := by rw [ev2]; exact hx _
  obtain ⟨v3, ev3⟩ : ∃ v, v = gx.2.2.2.1 (i + 3).toNat := ⟨_, rfl⟩
  have hv3 : inR v3 := by rw [ev3]; exact hx _
  refine r_aload_n C dL_law_303 (i := 1) rfl rfl ?_
  refine r_aload_n C dL_law_304 (i := 0) rfl rfl ?_
  refine r_iload C dL_law_305 rfl ?_
  refine r_iconst C dL_law_307 ?_
  refine r_iadd C dL_law_308 ?_
  refine r_ialdS C dL_law_309 (by omega) (by omega) (by omega) ?_
  rw [← ev1]
  refine r_aload_n C dL_law_310 (i := 0) rfl rfl ?_
  refine r_iload C dL_law_311 rfl ?_
  refine r_iconst C dL_law_313 ?_
  refine r_iadd C dL_law_314 ?_
  refine r_ialdS C dL_law_315 (by omega) (by omega) (by omega) ?_
  rw [← ev2]
  refine r_aload_n C dL_law_316 (i := 0) rfl rfl ?_
  refine r_iload C dL_law_317 rfl ?_
  refine r_iconst C dL_law_319 ?_
  refine r_iadd C dL_law_320 ?_
  refine r_ialdS C dL_law_321 (by omega) (by omega) (by omega) ?_
  rw [← ev3]
  refine r_aload_n C dL_law_322 (i := 3) rfl rfl ?_
  refine r_callSX C (As := [vr x, vi v1, vi v2, vi v3, vr o]) dL_law_323 sL_108 (fun v hv => by simp only [List.mem_cons, List.not_mem_nil, or_false] at hv; rcases hv with z | z | z | z | z <;> (rw [z]; rfl)) (Nat.le_of_ble_eq_true rfl) (c1 := 4) (s1 := 24) (by omega) (by omega) (aM_mono _ _ _ _ _ _ _ _ _ _ _ (C_L_spoil w3 Zs O hv1 hv2 hv3 ) (fun vv H1 hvv9 => ?_) (fun _ _ z => z.elim))
  obtain ⟨kk, wv, g1, A1, u1, hc1, ho1, rfl, w4, Z1, O1, cnd, y0, yn⟩ := hvv9
  refine r_istore C dL_law_326 (Nat.le_of_ble_eq_true rfl) ?_
  dsimp only [List.set]
  refine r_aload_n C dL_law_328 (i := 2) rfl rfl ?_
  refine r_aload_n C dL_law_329 (i := 0) rfl rfl ?_
  refine r_iload C dL_law_330 rfl ?_
  refine r_iconst C dL_law_332 ?_
  refine r_iadd C dL_law_333 ?_
  refine r_ialdS C dL_law_334 (by omega) (by omega) (by omega) ?_
  rw [← ev1]
  refine r_aload_n C dL_law_335 (i := 0) rfl rfl ?_
  refine r_iload C dL_law_336 rfl ?_
  refine r_iconst C dL_law_338 ?_
  refine r_iadd C dL_law_339 ?_
  refine r_ialdS C dL_law_340 (by omega) (by omega) (by omega) ?_
  rw [← ev2]
  refine r_aload_n C dL_law_341 (i := 0) rfl rfl ?_
  refine r_iload C dL_law_342 rfl ?_
  refine r_iconst C dL_law_344 ?_
  refine r_iadd C dL_law_345 ?_
  refine r_ialdS C dL_law_346 (by omega) (by omega) (by omega) ?_
  rw [← ev3]
  have qm : q ∈ hD H1 := (w4.1 q).mpr (Or.inr (Or.inl R.1.1))
  have qk : hK H1 q = 7 := (w4.2.2.2.2.1 q R.1.1).1.trans R.1.2
  refine r_callV C (As := [vi v1, vi v2, vi v3]) dL_law_347 sL_111 (fun v hv => by simp only [List.mem_cons, List.not_mem_nil, or_false] at hv; rcases hv with z | z | z <;> (rw [z]; rfl)) (ci := 6) (by decide) rfl qm qk (Nat.le_of_ble_eq_true rfl) (c1 := 0) (s1 := 0) (Nat.zero_le _) (Nat.zero_le _) (aM_w w4.r (C_X5_spoil R B hv1 hv2 hv3 (fun c z h2 g2 cnd2 y02 yn2 R2 H2 X2 => ?_)))
  have w5 := w4.r2 X2
  rw [← hs] at y02
  have ek : kk = c := c2_eq cnd cnd2 (by unfold ndP pcP; rw [hg 4 (by decide), hg 11 (by decide)]) (fun _ => by rw [hg 18 (by decide), hg 19 (by decide)])
  have cr := c2_r cnd2
  have e1 : kk = 0 → g1 = spG s v1 v2 v3 := fun h0 => by
    obtain ⟨z9, a9, b9, c9⟩ := y0 h0
    exact c9
  have e2 : c = 0 → g2 = spG s v1 v2 v3 := fun h0 => (y02 h0).2
  have ew : c = 0 → wv = bz z := fun h0 => by
    obtain ⟨z9, a9, b9, c9⟩ := y0 (ek.trans h0)
    rw [b9, bv_eq a9 (y02 h0).1 (by rw [hg 21 (by decide)])]
  have E := op_end hs ek e1 yn e2 yn2 (fun h0 => by unfold spG; rw [up_ne (by decide)]; exact s00) Z1 cr
  have XN : XG (t + 1) g2 := xg_end X (fun h0 => xg_sp Xs _ _ _) e2 yn2
  refine r_istore C dL_law_350 (Nat.le_of_ble_eq_true rfl) ?_
  dsimp only [List.set]
  refine r_aload_n C dL_law_352 (i := 2) rfl rfl ?_
  have qm2 : q ∈ hD H2 := (w5.1 q).mpr (Or.inr (Or.inl R2.1.1))
  have qk2 : hK H2 q = 7 := (w5.2.2.2.2.1 q R2.1.1).1.trans R2.1.2
  refine r_callV C (As := []) dL_law_353 sL_101 (fun v hv => by cases hv) (ci := 6) (by decide) rfl qm2 qk2 (Nat.le_of_ble_eq_true rfl) (c1 := 0) (s1 := 0) (Nat.zero_le _) (Nat.zero_le _) (aM_w w5.r (C_X5_thrown R2 (fun H3 X3 => ?_)))
  have w6 := w5.r2 X3
  rw [E.1]
  refine r_iload C dL_law_356 rfl ?_
  refine r_ic_eq C dL_law_358 (t := 363) (by decide) ⟨by omega, by omega⟩ ⟨by omega, by omega⟩ (fun e9 => ?_) (fun e9 => absurd ek.symm e9)
  refine r_iload C dL_law_363 rfl ?_
  refine r_if_ne C dL_law_365 (t := 387) (by decide) ⟨by omega, by omega⟩ (fun e8 => ?_) (fun e8 => ?_)
  · skip
    refine r_goto C dL_law_387 (t := 1625) (by decide) ?_
    exact K _ _ _ _ ⟨A1, u1, hc1, h2, ho1, wv, w6, E.2, R2, O1, XN⟩ _ _ (by omega) (by omega)
  · skip
    refine r_aload_n C dL_law_368 (i := 3) rfl rfl ?_
    refine r_iconst C dL_law_369 ?_
    have c0 : c = 0 := ek.symm.trans e8
    have om : o ∈ hD H3 := (w6.1 o).mpr (Or.inr (Or.inr O1.1))
    have oq := w6.2.2.2.2.2 o O1.1
    refine r_lald C dL_law_370 om (oq.1.trans O1.2.1) (by decide) (by rw [oq.2.1, O1.2.2.1]; decide) (by decide) ?_
    rw [show hI H3 o 0 = wv from (oq.2.2.1 0).trans O1.2.2.2, ew c0]
    refine r_iload C dL_law_371 rfl ?_
    refine lw_bl C dL_law_373 dL_law_376 dL_law_377 dL_law_380 (by have := (y02 c0).1.b; exact ⟨by omega, by omega⟩) ?_
    refine r_lcmp C dL_law_381 (bz_r z) (bz_r z) ?_
    rw [if_pos rfl]
    refine r_if_eq C dL_law_382 (t := 387) (by decide) inR0 (fun _ => ?_) (fun e7 => absurd rfl e7)
    refine r_goto C dL_law_387 (t := 1625) (by decide) ?_
    exact K _ _ _ _ ⟨A1, u1, hc1, h2, ho1, wv, w6, E.2, R2, O1, XN⟩ _ _ (by omega) (by omega)
set_option maxRecDepth 100000 in
set_option maxHeartbeats 4000000 in
theorem LW_limit {gx : GX} {Qr : Option AV → Hp → Prop} {Qx : String → Hp → Prop} {J : JT} (C : Cl gx 14 (aM gx 13) mLaw Qr Qx J) {x q o : Nat} {ar : Nat → Nat} {t i : Int} {g : GT} {H : Hp} {cc ss : Nat} {y5 y6 : Option AV} (hx : ∀ j, inR (gx.2.2.2.1 j)) (hL : gx.2.2.1 ≤ 2560) (i0 : 0 ≤ i) (i5 : i + 5 ≤ gx.2.2.1) (t0 : 0 ≤ t) (t1 : t ≤ 9999) (hw : WD gx x q o ar t g H) (hcc : 300 ≤ cc) (hss : 3000 ≤ ss) (K : ∀ g' H' y5' y6', WD gx x q o ar (t + 1) g' H' → ∀ c' s', cc ≤ c' + 300 → ss ≤ s' + 3000 → J 1625 [some (vr gx.2.1), some (vr x), some (vr q), some (vr o), some (vi i), y5', y6'] [] H' c' s') : J 390 [some (vr gx.2.1), some (vr x), some (vr q), some (vr o), some (vi i), y5, y6] [] H cc ss := by
  obtain ⟨A, u, hc, hm, ho, w0, w3, Z, R, O, X⟩ := hw
  have W := Z.1.2.1
  have B := W.b
  obtain ⟨s, hs⟩ : ∃ s, s = up g 0 0 0 := ⟨_, rfl⟩
  have s00 : s 0 0 = 0 := by rw [hs, up_self]
  have Zs : Rs gx x A u s hc := by rw [hs]; exact Z.up0 0 inR0
  have hg : ∀ k, k ≠ 0 → ∀ j, s k j = g k j := fun k hk j => by rw [hs, up_ne hk]
  have Xs : XG t s := xg_sm X (fun k hk j => hg k (by omega) j)
  have hvv : ∀ j, 0 ≤ g 12 j ∧ g 12 j < 1000000 := fun j => by have := X.2.2.2.2.2.2.2 j; omega
  have hvs : ∀ j, 0 ≤ s 12 j ∧ s 12 j < 1000000 := fun j => by have := Xs.2.2.2.2.2.2.2 j; omega
  obtain ⟨v1, ev1⟩ : ∃ v, v = gx.2.2.2.1 (i + 1).toNat := ⟨_, rfl⟩
  have hv1 : inR v1 := by rw [ev1]; exact hx _
  refine r_aload_n C dL_law_390 (i := 1) rfl rfl ?_
  refine r_aload_n C dL_law_391 (i := 0) rfl rfl ?_
  refine r_iload C dL_law_392 rfl ?_
  refine r_iconst C dL_law_394 ?_
  refine r_iadd C dL_law_395 ?_
  refine r_ialdS C dL_law_396 (by omega) (by omega) (by omega) ?_
  rw [← ev1]
  refine r_aload_n C dL_law_397 (i := 3) rfl rfl ?_
  refine r_callSX C (As := [vr x, vi v1, vr o]) dL_law_398 sL_112 (fun v hv => by simp only [List.mem_cons, List.not_mem_nil, or_false] at hv; rcases hv with z | z | z <;> (rw [z]; rfl)) (Nat.le_of_ble_eq_true rfl) (c1 := 1) (s1 := 6) (by omega) (by omega) (aM_mono _ _ _ _ _ _ _ _ _ _ _ (C_L_limit w3 Zs O hv1 ) (fun vv H1 hvv9 => ?_) (fun _ _ z => z.elim))
  obtain ⟨kk, wv, g1, A1, u1, hc1, ho1, rfl, w4, Z1, O1, cnd, y0, yn⟩ := hvv9
  refine r_istore C dL_law_401 (Nat.le_of_ble_eq_true rfl) ?_
  dsimp only [List.set]
  refine r_aload_n C dL_law_403 (i := 2) rfl rfl ?_
  refine r_aload_n C dL_law_404 (i := 0) rfl rfl ?_
  refine r_iload C dL_law_405 rfl ?_
  refine r_iconst C dL_law_407 ?_
  refine r_iadd C dL_law_408 ?_
  refine r_ialdS C dL_law_409 (by omega) (by omega) (by omega) ?_
  rw [← ev1]
  have qm : q ∈ hD H1 := (w4.1 q).mpr (Or.inr (Or.inl R.1.1))
  have qk : hK H1 q = 7 := (w4.2.2.2.2.1 q R.1.1).1.trans R.1.2
  refine r_callV C (As := [vi v1]) dL_law_410 sL_115 (fun v hv => by rw [List.mem_singleton.mp hv]; rfl) (ci := 6) (by decide) rfl qm qk (Nat.le_of_ble_eq_true rfl) (c1 := 0) (s1 := 0) (Nat.zero_le _) (Nat.zero_le _) (aM_w w4.r (C_X5_limit R B hv1 (fun c z h2 g2 cnd2 y02 yn2 R2 H2 X2 => ?_)))
  have w5 := w4.r2 X2
  rw [← hs] at y02
  have ek : kk = c := c1_eq cnd cnd2 Iff.rfl
  have cr := c1_r cnd2
  have e1 : kk = 0 → g1 = up s 2 0 v1 := fun h0 => (y0 h0).2
  have e2 : c = 0 → g2 = up s 2 0 v1 := fun h0 => (y02 h0).2
  have ew : c = 0 → wv = z := fun h0 => by
    rw [(y0 (ek.trans h0)).1, (y02 h0).1]
    exact (hg 2 (by decide) 0)
  have E := op_end hs ek e1 yn e2 yn2 (fun h0 => by rw [up_ne (by decide)]; exact s00) Z1 cr
  have XN : XG (t + 1) g2 := xg_end X (fun h0 => xg_li Xs (c1_0 cnd (ek.trans h0))) e2 yn2
  refine r_istore C dL_law_413 (Nat.le_of_ble_eq_true rfl) ?_
  dsimp only [List.set]
  refine r_aload_n C dL_law_415 (i := 2) rfl rfl ?_
  have qm2 : q ∈ hD H2 := (w5.1 q).mpr (Or.inr (Or.inl R2.1.1))
  have qk2 : hK H2 q = 7 := (w5.2.2.2.2.1 q R2.1.1).1.trans R2.1.2
  refine r_callV C (As := []) dL_law_416 sL_101 (fun v hv => by cases hv) (ci := 6) (by decide) rfl qm2 qk2 (Nat.le_of_ble_eq_true rfl) (c1 := 0) (s1 := 0) (Nat.zero_le _) (Nat.zero_le _) (aM_w w5.r (C_X5_thrown R2 (fun H3 X3 => ?_)))
  have w6 := w5.r2 X3
  rw [E.1]
  refine r_iload C dL_law_419 rfl ?_
  refine r_ic_eq C dL_law_421 (t := 426) (by decide) ⟨by omega, by omega⟩ ⟨by omega, by omega⟩ (fun e9 => ?_) (fun e9 => absurd ek.symm e9)
  refine r_iload C dL_law_426 rfl ?_
  refine r_if_ne C dL_law_428 (t := 443) (by decide) ⟨by omega, by omega⟩ (fun e8 => ?_) (fun e8 => ?_)
  · skip
    refine r_goto C dL_law_443 (t := 1625) (by decide) ?_
    exact K _ _ _ _ ⟨A1, u1, hc1, h2, ho1, wv, w6, E.2, R2, O1, XN⟩ _ _ (by omega) (by omega)
  · skip
    refine r_aload_n C dL_law_431 (i := 3) rfl rfl ?_
    refine r_iconst C dL_law_432 ?_
    have c0 : c = 0 := ek.symm.trans e8
    have om : o ∈ hD H3 := (w6.1 o).mpr (Or.inr (Or.inr O1.1))
    have oq := w6.2.2.2.2.2 o O1.1
    refine r_lald C dL_law_433 om (oq.1.trans O1.2.1) (by decide) (by rw [oq.2.1, O1.2.2.1]; decide) (by decide) ?_
    rw [show hI H3 o 0 = wv from (oq.2.2.1 0).trans O1.2.2.2, ew c0]
    refine r_iload C dL_law_434 rfl ?_
    have hzr : inR z := by rw [(y02 c0).1]; exact R.rg _ _
    refine r_i2l C dL_law_436 hzr ?_
    refine r_lcmp C dL_law_437 (hzr) (hzr) ?_
    rw [if_pos rfl]
    refine r_if_eq C dL_law_438 (t := 443) (by decide) inR0 (fun _ => ?_) (fun e7 => absurd rfl e7)
    refine r_goto C dL_law_443 (t := 1625) (by decide) ?_
    exact K _ _ _ _ ⟨A1, u1, hc1, h2, ho1, wv, w6, E.2, R2, O1, XN⟩ _ _ (by omega) (by omega)
set_option maxRecDepth 100000 in
set_option maxHeartbeats 4000000 in
theorem LW_pass {gx : GX} {Qr : Option AV → Hp → Prop} {Qx : String → Hp → Prop} {J : JT} (C : Cl gx 14 (aM gx 13) mLaw Qr Qx J) {x q o : Nat} {ar : Nat → Nat} {t i : Int} {g : GT} {H : Hp} {cc ss : Nat} {y5 y6 : Option AV} (hx : ∀ j, inR (gx.2.2.2.1 j)) (hL : gx.2.2.1 ≤ 2560) (i0 : 0 ≤ i) (i5 : i + 5 ≤ gx.2.2.1) (t0 : 0 ≤ t) (t1 : t ≤ 9999) (hw : WD gx x q o ar t g H) (hcc : 300 ≤ cc) (hss : 3000 ≤ ss) (K : ∀ g' H' y5' y6', WD gx x q o ar (t + 1) g' H' → ∀ c' s', cc ≤ c' + 300 → ss ≤ s' + 3000 → J 1625 [some (vr gx.2.1), some (vr x), some (vr q), some (vr o), some (vi i), y5', y6'] [] H' c' s') : J 487 [some (vr gx.2.1), some (vr x), some (vr q), some (vr o), some (vi i), y5, y6] [] H cc ss := by
  obtain ⟨A, u, hc, hm, ho, w0, w3, Z, R, O, X⟩ := hw
  have W := Z.1.2.1
  have B := W.b
  obtain ⟨s, hs⟩ : ∃ s, s = up g 0 0 0 := ⟨_, rfl⟩
  have s00 : s 0 0 = 0 := by rw [hs, up_self]
  have Zs : Rs gx x A u s hc := by rw [hs]; exact Z.up0 0 inR0
  have hg : ∀ k, k ≠ 0 → ∀ j, s k j = g k j := fun k hk j => by rw [hs, up_ne hk]
  have Xs : XG t s := xg_sm X (fun k hk j => hg k (by omega) j)
  have hvv : ∀ j, 0 ≤ g 12 j ∧ g 12 j < 1000000 := fun j => by have := X.2.2.2.2.2.2.2 j; omega
  have hvs : ∀ j, 0 ≤ s 12 j ∧ s 12 j < 1000000 := fun j => by have := Xs.2.2.2.2.2.2.2 j; omega
  obtain ⟨v1, ev1⟩ : ∃ v, v = gx.2.2.2.1 (i + 1).toNat := ⟨_, rfl⟩
  have hv1 : inR v1 := by rw [ev1]; exact hx _
  refine r_aload_n C dL_law_487 (i := 1) rfl rfl ?_
  refine r_aload_n C dL_law_488 (i := 0) rfl rfl ?_
  refine r_iload C dL_law_489 rfl ?_
  refine r_iconst C dL_law_491 ?_
  refine r_iadd C dL_law_492 ?_
  refine r_ialdS C dL_law_493 (by omega) (by omega) (by omega) ?_
  rw [← ev1]
  refine r_aload_n C dL_law_494 (i := 3) rfl rfl ?_
  refine r_callSX C (As := [vr x, vi v1, vr o]) dL_law_495 sL_121 (fun v hv => by simp only [List.mem_cons, List.not_mem_nil, or_false] at hv; rcases hv with z | z | z <;> (rw [z]; rfl)) (Nat.le_of_ble_eq_true rfl) (c1 := 300) (s1 := 3000) (by omega) (by omega) (aM_mono _ _ _ _ _ _ _ _ _ _ _ (C_L_pass w3 Zs O hv1 Xs.2.2.1 Xs.2.2.2.1 Xs.2.2.2.2.2.1 Xs.2.2.2.2.2.2.1) (fun vv H1 hvv9 => ?_) (fun _ _ z => z.elim))
  obtain ⟨kk, wv, g1, A1, u1, hc1, ho1, rfl, w4, Z1, O1, cnd, y0, yn⟩ := hvv9
  refine r_istore C dL_law_498 (Nat.le_of_ble_eq_true rfl) ?_
  dsimp only [List.set]
  refine r_aload_n C dL_law_500 (i := 2) rfl rfl ?_
  refine r_aload_n C dL_law_501 (i := 0) rfl rfl ?_
  refine r_iload C dL_law_502 rfl ?_
  refine r_iconst C dL_law_504 ?_
  refine r_iadd C dL_law_505 ?_
  refine r_ialdS C dL_law_506 (by omega) (by omega) (by omega) ?_
  rw [← ev1]
  have qm : q ∈ hD H1 := (w4.1 q).mpr (Or.inr (Or.inl R.1.1))
  have qk : hK H1 q = 7 := (w4.2.2.2.2.1 q R.1.1).1.trans R.1.2
  refine r_callV C (As := [vi v1]) dL_law_507 sL_123 (fun v hv => by rw [List.mem_singleton.mp hv]; rfl) (ci := 6) (by decide) rfl qm qk (Nat.le_of_ble_eq_true rfl) (c1 := 0) (s1 := 0) (Nat.zero_le _) (Nat.zero_le _) (aM_w w4.r (C_X5_pass R W.i hv1 X.2.2.1.1 X.2.2.1.2 X.2.2.2.1 X.2.2.2.2.2.1 X.2.2.2.2.2.2.1 (fun c z h2 g2 cnd2 y02 yn2 R2 H2 X2 => ?_)))
  have w5 := w4.r2 X2
  rw [← hs] at y02
  have ek : kk = c := pa_eq (hg 1 (by decide) 0) cnd cnd2
  have cr := pa_r cnd2
  have e1 : kk = 0 → g1 = psG s v1 := fun h0 => (y0 h0).2
  have e2 : c = 0 → g2 = psG s v1 := fun h0 => (y02 h0).2
  have ew : c = 0 → wv = z := fun h0 => by
    rw [(y0 (ek.trans h0)).1, (y02 h0).1]
    exact (by rw [hg 1 (by decide)])
  have E := op_end hs ek e1 yn e2 yn2 (fun h0 => (ps_0 Zs.1.2.1.i (by unfold PAC at cnd2; omega)).trans s00) Z1 cr
  have XN : XG (t + 1) g2 := xg_end X (fun h0 => xg_ps Xs Zs.1.2.1.i (by unfold PAC at cnd2; omega) (by have e1 := hg 1 (by decide) 0; unfold PAC at cnd2; omega)) e2 yn2
  refine r_istore C dL_law_510 (Nat.le_of_ble_eq_true rfl) ?_
  dsimp only [List.set]
  refine r_aload_n C dL_law_512 (i := 2) rfl rfl ?_
  have qm2 : q ∈ hD H2 := (w5.1 q).mpr (Or.inr (Or.inl R2.1.1))
  have qk2 : hK H2 q = 7 := (w5.2.2.2.2.1 q R2.1.1).1.trans R2.1.2
  refine r_callV C (As := []) dL_law_513 sL_101 (fun v hv => by cases hv) (ci := 6) (by decide) rfl qm2 qk2 (Nat.le_of_ble_eq_true rfl) (c1 := 0) (s1 := 0) (Nat.zero_le _) (Nat.zero_le _) (aM_w w5.r (C_X5_thrown R2 (fun H3 X3 => ?_)))
  have w6 := w5.r2 X3
  rw [E.1]
  refine r_iload C dL_law_516 rfl ?_
  refine r_ic_eq C dL_law_518 (t := 523) (by decide) ⟨by omega, by omega⟩ ⟨by omega, by omega⟩ (fun e9 => ?_) (fun e9 => absurd ek.symm e9)
  refine r_iload C dL_law_523 rfl ?_
  refine r_if_ne C dL_law_525 (t := 540) (by decide) ⟨by omega, by omega⟩ (fun e8 => ?_) (fun e8 => ?_)
  · skip
    refine r_goto C dL_law_540 (t := 1625) (by decide) ?_
    exact K _ _ _ _ ⟨A1, u1, hc1, h2, ho1, wv, w6, E.2, R2, O1, XN⟩ _ _ (by omega) (by omega)
  · skip
    refine r_aload_n C dL_law_528 (i := 3) rfl rfl ?_
    refine r_iconst C dL_law_529 ?_
    have c0 : c = 0 := ek.symm.trans e8
    have om : o ∈ hD H3 := (w6.1 o).mpr (Or.inr (Or.inr O1.1))
    have oq := w6.2.2.2.2.2 o O1.1
    refine r_lald C dL_law_530 om (oq.1.trans O1.2.1) (by decide) (by rw [oq.2.1, O1.2.2.1]; decide) (by decide) ?_
    rw [show hI H3 o 0 = wv from (oq.2.2.1 0).trans O1.2.2.2, ew c0]
    refine r_iload C dL_law_531 rfl ?_
    have hzr : inR z := by rw [(y02 c0).1]; unfold PAC at cnd2; have := X.2.2.1; exact ⟨by omega, by omega⟩
    refine r_i2l C dL_law_533 hzr ?_
    refine r_lcmp C dL_law_534 (hzr) (hzr) ?_
    rw [if_pos rfl]
    refine r_if_eq C dL_law_535 (t := 540) (by decide) inR0 (fun _ => ?_) (fun e7 => absurd rfl e7)
    refine r_goto C dL_law_540 (t := 1625) (by decide) ?_
    exact K _ _ _ _ ⟨A1, u1, hc1, h2, ho1, wv, w6, E.2, R2, O1, XN⟩ _ _ (by omega) (by omega)
set_option maxRecDepth 100000 in
set_option maxHeartbeats 4000000 in
theorem LW_file {gx : GX} {Qr : Option AV → Hp → Prop} {Qx : String → Hp → Prop} {J : JT} (C : Cl gx 14 (aM gx 13) mLaw Qr Qx J) {x q o : Nat} {ar : Nat → Nat} {t i : Int} {g : GT} {H : Hp} {cc ss : Nat} {y5 y6 : Option AV} (hx : ∀ j, inR (gx.2.2.2.1 j)) (hL : gx.2.2.1 ≤ 2560) (i0 : 0 ≤ i) (i5 : i + 5 ≤ gx.2.2.1) (t0 : 0 ≤ t) (t1 : t ≤ 9999) (hw : WD gx x q o ar t g H) (hcc : 300 ≤ cc) (hss : 3000 ≤ ss) (K : ∀ g' H' y5' y6', WD gx x q o ar (t + 1) g' H' → ∀ c' s', cc ≤ c' + 300 → ss ≤ s' + 3000 → J 1625 [some (vr gx.2.1), some (vr x), some (vr q), some (vr o), some (vi i), y5', y6'] [] H' c' s') : J 543 [some (vr gx.2.1), some (vr x), some (vr q), some (vr o), some (vi i), y5, y6] [] H cc ss := by
  obtain ⟨A, u, hc, hm, ho, w0, w3, Z, R, O, X⟩ := hw
  have W := Z.1.2.1
  have B := W.b
  obtain ⟨s, hs⟩ : ∃ s, s = up g 0 0 0 := ⟨_, rfl⟩
  have s00 : s 0 0 = 0 := by rw [hs, up_self]
  have Zs : Rs gx x A u s hc := by rw [hs]; exact Z.up0 0 inR0
  have hg : ∀ k, k ≠ 0 → ∀ j, s k j = g k j := fun k hk j => by rw [hs, up_ne hk]
  have Xs : XG t s := xg_sm X (fun k hk j => hg k (by omega) j)
  have hvv : ∀ j, 0 ≤ g 12 j ∧ g 12 j < 1000000 := fun j => by have := X.2.2.2.2.2.2.2 j; omega
  have hvs : ∀ j, 0 ≤ s 12 j ∧ s 12 j < 1000000 := fun j => by have := Xs.2.2.2.2.2.2.2 j; omega
  refine r_aload_n C dL_law_543 (i := 1) rfl rfl ?_
  refine r_aload_n C dL_law_544 (i := 3) rfl rfl ?_
  refine r_callSX C (As := [vr x, vr o]) dL_law_545 sL_124 (fun v hv => by simp only [List.mem_cons, List.not_mem_nil, or_false] at hv; rcases hv with z | z <;> (rw [z]; rfl)) (Nat.le_of_ble_eq_true rfl) (c1 := 10) (s1 := 200) (by omega) (by omega) (aM_mono _ _ _ _ _ _ _ _ _ _ _ (C_L_file w3 Zs O  ) (fun vv H1 hvv9 => ?_) (fun _ _ z => z.elim))
  obtain ⟨kk, wv, g1, A1, u1, hc1, ho1, rfl, w4, Z1, O1, cnd, y0, yn⟩ := hvv9
  refine r_istore C dL_law_548 (Nat.le_of_ble_eq_true rfl) ?_
  dsimp only [List.set]
  refine r_aload_n C dL_law_550 (i := 2) rfl rfl ?_
  have qm : q ∈ hD H1 := (w4.1 q).mpr (Or.inr (Or.inl R.1.1))
  have qk : hK H1 q = 7 := (w4.2.2.2.2.1 q R.1.1).1.trans R.1.2
  refine r_callV C (As := []) dL_law_551 sL_127 (fun v hv => by cases hv) (ci := 6) (by decide) rfl qm qk (Nat.le_of_ble_eq_true rfl) (c1 := 0) (s1 := 0) (Nat.zero_le _) (Nat.zero_le _) (aM_w w4.r (C_X5_file R B (fun c z h2 g2 cnd2 y02 yn2 R2 H2 X2 => ?_)))
  have w5 := w4.r2 X2
  rw [← hs] at y02
  have ek : kk = c := c1_eq cnd cnd2 (by rw [hg 22 (by decide)])
  have cr := c1_r cnd2
  have e1 : kk = 0 → g1 = flG s := fun h0 => (y0 h0).2
  have e2 : c = 0 → g2 = flG s := fun h0 => (y02 h0).2
  have ew : c = 0 → wv = z := fun h0 => by
    rw [(y0 (ek.trans h0)).1, (y02 h0).1]
    exact (hg 22 (by decide) 0)
  have E := op_end hs ek e1 yn e2 yn2 (fun h0 => (fl_e s (by omega) (by omega)).trans s00) Z1 cr
  have XN : XG (t + 1) g2 := xg_end X (fun h0 => xg_fl Xs) e2 yn2
  refine r_istore C dL_law_554 (Nat.le_of_ble_eq_true rfl) ?_
  dsimp only [List.set]
  refine r_aload_n C dL_law_556 (i := 2) rfl rfl ?_
  have qm2 : q ∈ hD H2 := (w5.1 q).mpr (Or.inr (Or.inl R2.1.1))
  have qk2 : hK H2 q = 7 := (w5.2.2.2.2.1 q R2.1.1).1.trans R2.1.2
  refine r_callV C (As := []) dL_law_557 sL_101 (fun v hv => by cases hv) (ci := 6) (by decide) rfl qm2 qk2 (Nat.le_of_ble_eq_true rfl) (c1 := 0) (s1 := 0) (Nat.zero_le _) (Nat.zero_le _) (aM_w w5.r (C_X5_thrown R2 (fun H3 X3 => ?_)))
  have w6 := w5.r2 X3
  rw [E.1]
  refine r_iload C dL_law_560 rfl ?_
  refine r_ic_eq C dL_law_562 (t := 567) (by decide) ⟨by omega, by omega⟩ ⟨by omega, by omega⟩ (fun e9 => ?_) (fun e9 => absurd ek.symm e9)
  refine r_iload C dL_law_567 rfl ?_
  refine r_if_ne C dL_law_569 (t := 584) (by decide) ⟨by omega, by omega⟩ (fun e8 => ?_) (fun e8 => ?_)
  · skip
    refine r_goto C dL_law_584 (t := 1625) (by decide) ?_
    exact K _ _ _ _ ⟨A1, u1, hc1, h2, ho1, wv, w6, E.2, R2, O1, XN⟩ _ _ (by omega) (by omega)
  · skip
    refine r_aload_n C dL_law_572 (i := 3) rfl rfl ?_
    refine r_iconst C dL_law_573 ?_
    have c0 : c = 0 := ek.symm.trans e8
    have om : o ∈ hD H3 := (w6.1 o).mpr (Or.inr (Or.inr O1.1))
    have oq := w6.2.2.2.2.2 o O1.1
    refine r_lald C dL_law_574 om (oq.1.trans O1.2.1) (by decide) (by rw [oq.2.1, O1.2.2.1]; decide) (by decide) ?_
    rw [show hI H3 o 0 = wv from (oq.2.2.1 0).trans O1.2.2.2, ew c0]
    refine r_iload C dL_law_575 rfl ?_
    have hzr : inR z := by rw [(y02 c0).1]; exact R.rg _ _
    refine r_i2l C dL_law_577 hzr ?_
    refine r_lcmp C dL_law_578 (hzr) (hzr) ?_
    rw [if_pos rfl]
    refine r_if_eq C dL_law_579 (t := 584) (by decide) inR0 (fun _ => ?_) (fun e7 => absurd rfl e7)
    refine r_goto C dL_law_584 (t := 1625) (by decide) ?_
    exact K _ _ _ _ ⟨A1, u1, hc1, h2, ho1, wv, w6, E.2, R2, O1, XN⟩ _ _ (by omega) (by omega)
set_option maxRecDepth 100000 in
set_option maxHeartbeats 4000000 in
theorem LW_snapshot {gx : GX} {Qr : Option AV → Hp → Prop} {Qx : String → Hp → Prop} {J : JT} (C : Cl gx 14 (aM gx 13) mLaw Qr Qx J) {x q o : Nat} {ar : Nat → Nat} {t i : Int} {g : GT} {H : Hp} {cc ss : Nat} {y5 y6 : Option AV} (hx : ∀ j, inR (gx.2.2.2.1 j)) (hL : gx.2.2.1 ≤ 2560) (i0 : 0 ≤ i) (i5 : i + 5 ≤ gx.2.2.1) (t0 : 0 ≤ t) (t1 : t ≤ 9999) (hw : WD gx x q o ar t g H) (hcc : 300 ≤ cc) (hss : 3000 ≤ ss) (K : ∀ g' H' y5' y6', WD gx x q o ar (t + 1) g' H' → ∀ c' s', cc ≤ c' + 300 → ss ≤ s' + 3000 → J 1625 [some (vr gx.2.1), some (vr x), some (vr q), some (vr o), some (vi i), y5', y6'] [] H' c' s') : J 587 [some (vr gx.2.1), some (vr x), some (vr q), some (vr o), some (vi i), y5, y6] [] H cc ss := by
  obtain ⟨A, u, hc, hm, ho, w0, w3, Z, R, O, X⟩ := hw
  have W := Z.1.2.1
  have B := W.b
  obtain ⟨s, hs⟩ : ∃ s, s = up g 0 0 0 := ⟨_, rfl⟩
  have s00 : s 0 0 = 0 := by rw [hs, up_self]
  have Zs : Rs gx x A u s hc := by rw [hs]; exact Z.up0 0 inR0
  have hg : ∀ k, k ≠ 0 → ∀ j, s k j = g k j := fun k hk j => by rw [hs, up_ne hk]
  have Xs : XG t s := xg_sm X (fun k hk j => hg k (by omega) j)
  have hvv : ∀ j, 0 ≤ g 12 j ∧ g 12 j < 1000000 := fun j => by have := X.2.2.2.2.2.2.2 j; omega
  have hvs : ∀ j, 0 ≤ s 12 j ∧ s 12 j < 1000000 := fun j => by have := Xs.2.2.2.2.2.2.2 j; omega
  obtain ⟨v1, ev1⟩ : ∃ v, v = gx.2.2.2.1 (i + 1).toNat := ⟨_, rfl⟩
  have hv1 : inR v1 := by rw [ev1]; exact hx _
  refine r_aload_n C dL_law_587 (i := 1) rfl rfl ?_
  refine r_aload_n C dL_law_588 (i := 0) rfl rfl ?_
  refine r_iload C dL_law_589 rfl ?_
  refine r_iconst C dL_law_591 ?_
  refine r_iadd C dL_law_592 ?_
  refine r_ialdS C dL_law_593 (by omega) (by omega) (by omega) ?_
  rw [← ev1]
  refine r_aload_n C dL_law_594 (i := 3) rfl rfl ?_
  refine r_callSX C (As := [vr x, vi v1, vr o]) dL_law_595 sL_128 (fun v hv => by simp only [List.mem_cons, List.not_mem_nil, or_false] at hv; rcases hv with z | z | z <;> (rw [z]; rfl)) (Nat.le_of_ble_eq_true rfl) (c1 := 20) (s1 := 400) (by omega) (by omega) (aM_mono _ _ _ _ _ _ _ _ _ _ _ (C_L_snapshot w3 Zs O hv1 ) (fun vv H1 hvv9 => ?_) (fun _ _ z => z.elim))
  obtain ⟨kk, wv, g1, A1, u1, hc1, ho1, rfl, w4, Z1, O1, cnd, y0, yn⟩ := hvv9
  refine r_istore C dL_law_598 (Nat.le_of_ble_eq_true rfl) ?_
  dsimp only [List.set]
  refine r_aload_n C dL_law_600 (i := 2) rfl rfl ?_
  refine r_aload_n C dL_law_601 (i := 0) rfl rfl ?_
  refine r_iload C dL_law_602 rfl ?_
  refine r_iconst C dL_law_604 ?_
  refine r_iadd C dL_law_605 ?_
  refine r_ialdS C dL_law_606 (by omega) (by omega) (by omega) ?_
  rw [← ev1]
  have qm : q ∈ hD H1 := (w4.1 q).mpr (Or.inr (Or.inl R.1.1))
  have qk : hK H1 q = 7 := (w4.2.2.2.2.1 q R.1.1).1.trans R.1.2
  refine r_callV C (As := [vi v1]) dL_law_607 sL_130 (fun v hv => by rw [List.mem_singleton.mp hv]; rfl) (ci := 6) (by decide) rfl qm qk (Nat.le_of_ble_eq_true rfl) (c1 := 0) (s1 := 0) (Nat.zero_le _) (Nat.zero_le _) (aM_w w4.r (C_X5_snapshot R B hv1 (fun c z h2 g2 cnd2 y02 yn2 R2 H2 X2 => ?_)))
  have w5 := w4.r2 X2
  rw [← hs] at y02
  have ek : kk = c := c2_eq cnd cnd2 (by unfold flP; rw [hg 22 (by decide)]) (fun _ => by rw [hg 22 (by decide), hg 23 (by decide)])
  have cr := c2_r cnd2
  have e1 : kk = 0 → g1 = snG s v1 := fun h0 => (y0 h0).2
  have e2 : c = 0 → g2 = snG s v1 := fun h0 => (y02 h0).2
  have ew : c = 0 → wv = z := fun h0 => by
    rw [(y0 (ek.trans h0)).1, (y02 h0).1]
    exact (hg 22 (by decide) 0)
  have E := op_end hs ek e1 yn e2 yn2 (fun h0 => (sn_0 s v1).trans s00) Z1 cr
  have XN : XG (t + 1) g2 := xg_end X (fun h0 => xg_sn Xs Zs.1.2.1.b (c2_0 cnd (ek.trans h0)).1.1 (c2_0 cnd (ek.trans h0)).1.2) e2 yn2
  refine r_istore C dL_law_610 (Nat.le_of_ble_eq_true rfl) ?_
  dsimp only [List.set]
  refine r_aload_n C dL_law_612 (i := 2) rfl rfl ?_
  have qm2 : q ∈ hD H2 := (w5.1 q).mpr (Or.inr (Or.inl R2.1.1))
  have qk2 : hK H2 q = 7 := (w5.2.2.2.2.1 q R2.1.1).1.trans R2.1.2
  refine r_callV C (As := []) dL_law_613 sL_101 (fun v hv => by cases hv) (ci := 6) (by decide) rfl qm2 qk2 (Nat.le_of_ble_eq_true rfl) (c1 := 0) (s1 := 0) (Nat.zero_le _) (Nat.zero_le _) (aM_w w5.r (C_X5_thrown R2 (fun H3 X3 => ?_)))
  have w6 := w5.r2 X3
  rw [E.1]
  refine r_iload C dL_law_616 rfl ?_
  refine r_ic_eq C dL_law_618 (t := 623) (by decide) ⟨by omega, by omega⟩ ⟨by omega, by omega⟩ (fun e9 => ?_) (fun e9 => absurd ek.symm e9)
  refine r_iload C dL_law_623 rfl ?_
  refine r_if_ne C dL_law_625 (t := 640) (by decide) ⟨by omega, by omega⟩ (fun e8 => ?_) (fun e8 => ?_)
  · skip
    refine r_goto C dL_law_640 (t := 1625) (by decide) ?_
    exact K _ _ _ _ ⟨A1, u1, hc1, h2, ho1, wv, w6, E.2, R2, O1, XN⟩ _ _ (by omega) (by omega)
  · skip
    refine r_aload_n C dL_law_628 (i := 3) rfl rfl ?_
    refine r_iconst C dL_law_629 ?_
    have c0 : c = 0 := ek.symm.trans e8
    have om : o ∈ hD H3 := (w6.1 o).mpr (Or.inr (Or.inr O1.1))
    have oq := w6.2.2.2.2.2 o O1.1
    refine r_lald C dL_law_630 om (oq.1.trans O1.2.1) (by decide) (by rw [oq.2.1, O1.2.2.1]; decide) (by decide) ?_
    rw [show hI H3 o 0 = wv from (oq.2.2.1 0).trans O1.2.2.2, ew c0]
    refine r_iload C dL_law_631 rfl ?_
    have hzr : inR z := by rw [(y02 c0).1]; exact R.rg _ _
    refine r_i2l C dL_law_633 hzr ?_
    refine r_lcmp C dL_law_634 (hzr) (hzr) ?_
    rw [if_pos rfl]
    refine r_if_eq C dL_law_635 (t := 640) (by decide) inR0 (fun _ => ?_) (fun e7 => absurd rfl e7)
    refine r_goto C dL_law_640 (t := 1625) (by decide) ?_
    exact K _ _ _ _ ⟨A1, u1, hc1, h2, ho1, wv, w6, E.2, R2, O1, XN⟩ _ _ (by omega) (by omega)
set_option maxRecDepth 100000 in
set_option maxHeartbeats 4000000 in
theorem LW_remove {gx : GX} {Qr : Option AV → Hp → Prop} {Qx : String → Hp → Prop} {J : JT} (C : Cl gx 14 (aM gx 13) mLaw Qr Qx J) {x q o : Nat} {ar : Nat → Nat} {t i : Int} {g : GT} {H : Hp} {cc ss : Nat} {y5 y6 : Option AV} (hx : ∀ j, inR (gx.2.2.2.1 j)) (hL : gx.2.2.1 ≤ 2560) (i0 : 0 ≤ i) (i5 : i + 5 ≤ gx.2.2.1) (t0 : 0 ≤ t) (t1 : t ≤ 9999) (hw : WD gx x q o ar t g H) (hcc : 300 ≤ cc) (hss : 3000 ≤ ss) (K : ∀ g' H' y5' y6', WD gx x q o ar (t + 1) g' H' → ∀ c' s', cc ≤ c' + 300 → ss ≤ s' + 3000 → J 1625 [some (vr gx.2.1), some (vr x), some (vr q), some (vr o), some (vi i), y5', y6'] [] H' c' s') : J 643 [some (vr gx.2.1), some (vr x), some (vr q), some (vr o), some (vi i), y5, y6] [] H cc ss := by
  obtain ⟨A, u, hc, hm, ho, w0, w3, Z, R, O, X⟩ := hw
  have W := Z.1.2.1
  have B := W.b
  obtain ⟨s, hs⟩ : ∃ s, s = up g 0 0 0 := ⟨_, rfl⟩
  have s00 : s 0 0 = 0 := by rw [hs, up_self]
  have Zs : Rs gx x A u s hc := by rw [hs]; exact Z.up0 0 inR0
  have hg : ∀ k, k ≠ 0 → ∀ j, s k j = g k j := fun k hk j => by rw [hs, up_ne hk]
  have Xs : XG t s := xg_sm X (fun k hk j => hg k (by omega) j)
  have hvv : ∀ j, 0 ≤ g 12 j ∧ g 12 j < 1000000 := fun j => by have := X.2.2.2.2.2.2.2 j; omega
  have hvs : ∀ j, 0 ≤ s 12 j ∧ s 12 j < 1000000 := fun j => by have := Xs.2.2.2.2.2.2.2 j; omega
  obtain ⟨v1, ev1⟩ : ∃ v, v = gx.2.2.2.1 (i + 1).toNat := ⟨_, rfl⟩
  have hv1 : inR v1 := by rw [ev1]; exact hx _
  refine r_aload_n C dL_law_643 (i := 1) rfl rfl ?_
  refine r_aload_n C dL_law_644 (i := 0) rfl rfl ?_
  refine r_iload C dL_law_645 rfl ?_
  refine r_iconst C dL_law_647 ?_
  refine r_iadd C dL_law_648 ?_
  refine r_ialdS C dL_law_649 (by omega) (by omega) (by omega) ?_
  rw [← ev1]
  refine r_callSX C (As := [vr x, vi v1]) dL_law_650 sL_131 (fun v hv => by simp only [List.mem_cons, List.not_mem_nil, or_false] at hv; rcases hv with z | z <;> (rw [z]; rfl)) (Nat.le_of_ble_eq_true rfl) (c1 := 2) (s1 := 12) (by omega) (by omega) (aM_mono _ _ _ _ _ _ _ _ _ _ _ (C_L_remove w3 Zs O hv1 ) (fun vv H1 hvv9 => ?_) (fun _ _ z => z.elim))
  obtain ⟨kk, wv, g1, A1, u1, hc1, ho1, rfl, w4, Z1, O1, cnd, y0, yn⟩ := hvv9
  refine r_istore C dL_law_653 (Nat.le_of_ble_eq_true rfl) ?_
  dsimp only [List.set]
  refine r_aload_n C dL_law_655 (i := 2) rfl rfl ?_
  refine r_aload_n C dL_law_656 (i := 0) rfl rfl ?_
  refine r_iload C dL_law_657 rfl ?_
  refine r_iconst C dL_law_659 ?_
  refine r_iadd C dL_law_660 ?_
  refine r_ialdS C dL_law_661 (by omega) (by omega) (by omega) ?_
  rw [← ev1]
  have qm : q ∈ hD H1 := (w4.1 q).mpr (Or.inr (Or.inl R.1.1))
  have qk : hK H1 q = 7 := (w4.2.2.2.2.1 q R.1.1).1.trans R.1.2
  refine r_callV C (As := [vi v1]) dL_law_662 sL_134 (fun v hv => by rw [List.mem_singleton.mp hv]; rfl) (ci := 6) (by decide) rfl qm qk (Nat.le_of_ble_eq_true rfl) (c1 := 0) (s1 := 0) (Nat.zero_le _) (Nat.zero_le _) (aM_w w4.r (C_X5_remove R B hv1 (fun c h2 g2 cnd2 y02 yn2 R2 H2 X2 => ?_)))
  have w5 := w4.r2 X2
  rw [← hs] at y02
  have ek : kk = c := c2_eq cnd cnd2 (by unfold flP; rw [hg 22 (by decide)]) (fun _ => by rw [hg 23 (by decide)])
  have cr := c2_r cnd2
  have e1 : kk = 0 → g1 = rmG s v1 := y0
  have e2 : c = 0 → g2 = rmG s v1 := y02
  have E := op_end hs ek e1 yn e2 yn2 (fun h0 => by unfold rmG; rw [up_ne (by decide), up_ne (by decide)]; exact s00) Z1 cr
  have XN : XG (t + 1) g2 := xg_end X (fun h0 => xg_rm Xs _) e2 yn2
  refine r_aload_n C dL_law_665 (i := 2) rfl rfl ?_
  have qm2 : q ∈ hD H2 := (w5.1 q).mpr (Or.inr (Or.inl R2.1.1))
  have qk2 : hK H2 q = 7 := (w5.2.2.2.2.1 q R2.1.1).1.trans R2.1.2
  refine r_callV C (As := []) dL_law_666 sL_101 (fun v hv => by cases hv) (ci := 6) (by decide) rfl qm2 qk2 (Nat.le_of_ble_eq_true rfl) (c1 := 0) (s1 := 0) (Nat.zero_le _) (Nat.zero_le _) (aM_w w5.r (C_X5_thrown R2 (fun H3 X3 => ?_)))
  have w6 := w5.r2 X3
  rw [E.1]
  refine r_iload C dL_law_669 rfl ?_
  refine r_ic_eq C dL_law_671 (t := 676) (by decide) ⟨by omega, by omega⟩ ⟨by omega, by omega⟩ (fun e9 => ?_) (fun e9 => absurd ek.symm e9)
  refine r_goto C dL_law_676 (t := 1625) (by decide) ?_
  exact K _ _ _ _ ⟨A1, u1, hc1, h2, ho1, wv, w6, E.2, R2, O1, XN⟩ _ _ (by omega) (by omega)
