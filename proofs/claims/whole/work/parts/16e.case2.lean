/-! ===== the law, case by case, 2 ===== -/
set_option maxRecDepth 100000 in
set_option maxHeartbeats 4000000 in
theorem LW_piece {gx : GX} {Qr : Option AV → Hp → Prop} {Qx : String → Hp → Prop} {J : JT} (C : Cl gx 14 (aM gx 13) mLaw Qr Qx J) {x q o : Nat} {ar : Nat → Nat} {t i : Int} {g : GT} {H : Hp} {cc ss : Nat} {y5 y6 : Option AV} (hx : ∀ j, inR (gx.2.2.2.1 j)) (hL : gx.2.2.1 ≤ 2560) (i0 : 0 ≤ i) (i5 : i + 5 ≤ gx.2.2.1) (t0 : 0 ≤ t) (t1 : t ≤ 9999) (hw : WD gx x q o ar t g H) (hcc : 300 ≤ cc) (hss : 3000 ≤ ss) (K : ∀ g' H' y5' y6', WD gx x q o ar (t + 1) g' H' → ∀ c' s', cc ≤ c' + 300 → ss ≤ s' + 3000 → J 1625 [some (vr gx.2.1), some (vr x), some (vr q), some (vr o), some (vi i), y5', y6'] [] H' c' s') : J 1154 [some (vr gx.2.1), some (vr x), some (vr q), some (vr o), some (vi i), y5, y6] [] H cc ss := by
  obtain ⟨A, u, hc, hm, ho, w0, w3, Z, R, O, X⟩ := hw
  have W := Z.1.2.1
  have B := W.b
  obtain ⟨s, hs⟩ : ∃ s, s = up g 0 0 0 := ⟨_, rfl⟩
  have s00 : s 0 0 = 0 := by rw [hs, up_self]
  have Zs : Rs gx x A u s hc := by rw [hs]; exact Z.up0 0 inR0
  have hg : ∀ k, k ≠ 0 → ∀ j, s k j = g k j := fun k hk j => by rw [hs, up_ne hk]
  have Xs : XG t s := xg_sm X (fun k hk j => hg k (by omega) j)
  have hvv : ∀ j, 0 ≤ g 12 j ∧ g 12 j < 1000000 := fun j => by have := X.2.2.2.2.2.2.2 j; omega
  have hvs : ∀ j, 0 ≤ s 12 j ∧ s 12 j < 1000000 := fun j => by have := Xs.2.2.2.2.2.2.2 j; omega
  obtain ⟨v1, ev1⟩ : ∃ v, v = gx.2.2.2.1 (i + 1).toNat := ⟨_, rfl⟩
  have hv1 : inR v1 := by rw [ev1]; exact hx _
  obtain ⟨v2, ev2⟩ : ∃ v, v = gx.2.2.2.1 (i + 2).toNat := ⟨_, rfl⟩
  have hv2 : inR v2 := by rw [ev2]; exact hx _
  refine r_aload_n C dL_law_1154 (i := 1) rfl rfl ?_
  refine r_aload_n C dL_law_1155 (i := 0) rfl rfl ?_
  refine r_iload C dL_law_1156 rfl ?_
  refine r_iconst C dL_law_1158 ?_
  refine r_iadd C dL_law_1159 ?_
  refine r_ialdS C dL_law_1160 (by omega) (by omega) (by omega) ?_
  rw [← ev1]
  refine r_aload_n C dL_law_1161 (i := 0) rfl rfl ?_
  refine r_iload C dL_law_1162 rfl ?_
  refine r_iconst C dL_law_1164 ?_
  refine r_iadd C dL_law_1165 ?_
  refine r_ialdS C dL_law_1166 (by omega) (by omega) (by omega) ?_
  rw [← ev2]
  refine r_aload_n C dL_law_1167 (i := 3) rfl rfl ?_
  refine r_callSX C (As := [vr x, vi v1, vi v2, vr o]) dL_law_1168 sL_157 (fun v hv => by simp only [List.mem_cons, List.not_mem_nil, or_false] at hv; rcases hv with z | z | z | z <;> (rw [z]; rfl)) (Nat.le_of_ble_eq_true rfl) (c1 := 2) (s1 := 12) (by omega) (by omega) (aM_mono _ _ _ _ _ _ _ _ _ _ _ (C_L_piece w3 Zs O hv1 hv2 ) (fun vv H1 hvv9 => ?_) (fun _ _ z => z.elim))
  obtain ⟨kk, wv, g1, A1, u1, hc1, ho1, rfl, w4, Z1, O1, cnd, y0, yn⟩ := hvv9
  refine r_istore C dL_law_1171 (Nat.le_of_ble_eq_true rfl) ?_
  dsimp only [List.set]
  refine r_aload_n C dL_law_1173 (i := 2) rfl rfl ?_
  refine r_aload_n C dL_law_1174 (i := 0) rfl rfl ?_
  refine r_iload C dL_law_1175 rfl ?_
  refine r_iconst C dL_law_1177 ?_
  refine r_iadd C dL_law_1178 ?_
  refine r_ialdS C dL_law_1179 (by omega) (by omega) (by omega) ?_
  rw [← ev1]
  refine r_aload_n C dL_law_1180 (i := 0) rfl rfl ?_
  refine r_iload C dL_law_1181 rfl ?_
  refine r_iconst C dL_law_1183 ?_
  refine r_iadd C dL_law_1184 ?_
  refine r_ialdS C dL_law_1185 (by omega) (by omega) (by omega) ?_
  rw [← ev2]
  have qm : q ∈ hD H1 := (w4.1 q).mpr (Or.inr (Or.inl R.1.1))
  have qk : hK H1 q = 7 := (w4.2.2.2.2.1 q R.1.1).1.trans R.1.2
  refine r_callV C (As := [vi v1, vi v2]) dL_law_1186 sL_159 (fun v hv => by simp only [List.mem_cons, List.not_mem_nil, or_false] at hv; rcases hv with z | z <;> (rw [z]; rfl)) (ci := 6) (by decide) rfl qm qk (Nat.le_of_ble_eq_true rfl) (c1 := 0) (s1 := 0) (Nat.zero_le _) (Nat.zero_le _) (aM_w w4.r (C_X5_piece R B hv1 hv2 (fun c z h2 g2 cnd2 y02 yn2 R2 H2 X2 => ?_)))
  have w5 := w4.r2 X2
  rw [← hs] at y02
  have ek : kk = c := c2_eq cnd cnd2 (by unfold pcP; rw [hg 11 (by decide)]) (fun _ => Iff.rfl)
  have cr := c2_r cnd2
  have e1 : kk = 0 → g1 = s := fun h0 => (y0 h0).2
  have e2 : c = 0 → g2 = s := fun h0 => (y02 h0).2
  have ew : c = 0 → wv = z := fun h0 => by
    rw [(y0 (ek.trans h0)).1, (y02 h0).1]
    exact (pv_c hg v1 v2)
  have E := op_end hs ek e1 yn e2 yn2 (fun h0 => s00) Z1 cr
  have XN : XG (t + 1) g2 := xg_end X (fun h0 => xg_le Xs) e2 yn2
  refine r_istore C dL_law_1189 (Nat.le_of_ble_eq_true rfl) ?_
  dsimp only [List.set]
  refine r_aload_n C dL_law_1191 (i := 2) rfl rfl ?_
  have qm2 : q ∈ hD H2 := (w5.1 q).mpr (Or.inr (Or.inl R2.1.1))
  have qk2 : hK H2 q = 7 := (w5.2.2.2.2.1 q R2.1.1).1.trans R2.1.2
  refine r_callV C (As := []) dL_law_1192 sL_101 (fun v hv => by cases hv) (ci := 6) (by decide) rfl qm2 qk2 (Nat.le_of_ble_eq_true rfl) (c1 := 0) (s1 := 0) (Nat.zero_le _) (Nat.zero_le _) (aM_w w5.r (C_X5_thrown R2 (fun H3 X3 => ?_)))
  have w6 := w5.r2 X3
  rw [E.1]
  refine r_iload C dL_law_1195 rfl ?_
  refine r_ic_eq C dL_law_1197 (t := 1202) (by decide) ⟨by omega, by omega⟩ ⟨by omega, by omega⟩ (fun e9 => ?_) (fun e9 => absurd ek.symm e9)
  refine r_iload C dL_law_1202 rfl ?_
  refine r_if_ne C dL_law_1204 (t := 1219) (by decide) ⟨by omega, by omega⟩ (fun e8 => ?_) (fun e8 => ?_)
  · skip
    refine r_goto C dL_law_1219 (t := 1625) (by decide) ?_
    exact K _ _ _ _ ⟨A1, u1, hc1, h2, ho1, wv, w6, E.2, R2, O1, XN⟩ _ _ (by omega) (by omega)
  · skip
    refine r_aload_n C dL_law_1207 (i := 3) rfl rfl ?_
    refine r_iconst C dL_law_1208 ?_
    have c0 : c = 0 := ek.symm.trans e8
    have om : o ∈ hD H3 := (w6.1 o).mpr (Or.inr (Or.inr O1.1))
    have oq := w6.2.2.2.2.2 o O1.1
    refine r_lald C dL_law_1209 om (oq.1.trans O1.2.1) (by decide) (by rw [oq.2.1, O1.2.2.1]; decide) (by decide) ?_
    rw [show hI H3 o 0 = wv from (oq.2.2.1 0).trans O1.2.2.2, ew c0]
    refine r_iload C dL_law_1210 rfl ?_
    have hzr : inR z := by rw [(y02 c0).1]; exact pv_rg R.rg B (c2_0 cnd2 c0).1 _
    refine r_i2l C dL_law_1212 hzr ?_
    refine r_lcmp C dL_law_1213 (hzr) (hzr) ?_
    rw [if_pos rfl]
    refine r_if_eq C dL_law_1214 (t := 1219) (by decide) inR0 (fun _ => ?_) (fun e7 => absurd rfl e7)
    refine r_goto C dL_law_1219 (t := 1625) (by decide) ?_
    exact K _ _ _ _ ⟨A1, u1, hc1, h2, ho1, wv, w6, E.2, R2, O1, XN⟩ _ _ (by omega) (by omega)
set_option maxRecDepth 100000 in
set_option maxHeartbeats 4000000 in
theorem LW_copyAt {gx : GX} {Qr : Option AV → Hp → Prop} {Qx : String → Hp → Prop} {J : JT} (C : Cl gx 14 (aM gx 13) mLaw Qr Qx J) {x q o : Nat} {ar : Nat → Nat} {t i : Int} {g : GT} {H : Hp} {cc ss : Nat} {y5 y6 : Option AV} (hx : ∀ j, inR (gx.2.2.2.1 j)) (hL : gx.2.2.1 ≤ 2560) (i0 : 0 ≤ i) (i5 : i + 5 ≤ gx.2.2.1) (t0 : 0 ≤ t) (t1 : t ≤ 9999) (hw : WD gx x q o ar t g H) (hcc : 300 ≤ cc) (hss : 3000 ≤ ss) (K : ∀ g' H' y5' y6', WD gx x q o ar (t + 1) g' H' → ∀ c' s', cc ≤ c' + 300 → ss ≤ s' + 3000 → J 1625 [some (vr gx.2.1), some (vr x), some (vr q), some (vr o), some (vi i), y5', y6'] [] H' c' s') : J 1222 [some (vr gx.2.1), some (vr x), some (vr q), some (vr o), some (vi i), y5, y6] [] H cc ss := by
  obtain ⟨A, u, hc, hm, ho, w0, w3, Z, R, O, X⟩ := hw
  have W := Z.1.2.1
  have B := W.b
  obtain ⟨s, hs⟩ : ∃ s, s = up g 0 0 0 := ⟨_, rfl⟩
  have s00 : s 0 0 = 0 := by rw [hs, up_self]
  have Zs : Rs gx x A u s hc := by rw [hs]; exact Z.up0 0 inR0
  have hg : ∀ k, k ≠ 0 → ∀ j, s k j = g k j := fun k hk j => by rw [hs, up_ne hk]
  have Xs : XG t s := xg_sm X (fun k hk j => hg k (by omega) j)
  have hvv : ∀ j, 0 ≤ g 12 j ∧ g 12 j < 1000000 := fun j => by have := X.2.2.2.2.2.2.2 j; omega
  have hvs : ∀ j, 0 ≤ s 12 j ∧ s 12 j < 1000000 := fun j => by have := Xs.2.2.2.2.2.2.2 j; omega
  obtain ⟨v1, ev1⟩ : ∃ v, v = gx.2.2.2.1 (i + 1).toNat := ⟨_, rfl⟩
  have hv1 : inR v1 := by rw [ev1]; exact hx _
  obtain ⟨v2, ev2⟩ : ∃ v, v = gx.2.2.2.1 (i + 2).toNat := ⟨_, rfl⟩
  have hv2 : inR v2 := by rw [ev2]; exact hx _
  refine r_aload_n C dL_law_1222 (i := 1) rfl rfl ?_
  refine r_aload_n C dL_law_1223 (i := 0) rfl rfl ?_
  refine r_iload C dL_law_1224 rfl ?_
  refine r_iconst C dL_law_1226 ?_
  refine r_iadd C dL_law_1227 ?_
  refine r_ialdS C dL_law_1228 (by omega) (by omega) (by omega) ?_
  rw [← ev1]
  refine r_aload_n C dL_law_1229 (i := 0) rfl rfl ?_
  refine r_iload C dL_law_1230 rfl ?_
  refine r_iconst C dL_law_1232 ?_
  refine r_iadd C dL_law_1233 ?_
  refine r_ialdS C dL_law_1234 (by omega) (by omega) (by omega) ?_
  rw [← ev2]
  refine r_aload_n C dL_law_1235 (i := 3) rfl rfl ?_
  refine r_callSX C (As := [vr x, vi v1, vi v2, vr o]) dL_law_1236 sL_160 (fun v hv => by simp only [List.mem_cons, List.not_mem_nil, or_false] at hv; rcases hv with z | z | z | z <;> (rw [z]; rfl)) (Nat.le_of_ble_eq_true rfl) (c1 := 2) (s1 := 12) (by omega) (by omega) (aM_mono _ _ _ _ _ _ _ _ _ _ _ (C_L_copyAt w3 Zs O hv1 hv2 ) (fun vv H1 hvv9 => ?_) (fun _ _ z => z.elim))
  obtain ⟨kk, wv, g1, A1, u1, hc1, ho1, rfl, w4, Z1, O1, cnd, y0, yn⟩ := hvv9
  refine r_istore C dL_law_1239 (Nat.le_of_ble_eq_true rfl) ?_
  dsimp only [List.set]
  refine r_aload_n C dL_law_1241 (i := 2) rfl rfl ?_
  refine r_aload_n C dL_law_1242 (i := 0) rfl rfl ?_
  refine r_iload C dL_law_1243 rfl ?_
  refine r_iconst C dL_law_1245 ?_
  refine r_iadd C dL_law_1246 ?_
  refine r_ialdS C dL_law_1247 (by omega) (by omega) (by omega) ?_
  rw [← ev1]
  refine r_aload_n C dL_law_1248 (i := 0) rfl rfl ?_
  refine r_iload C dL_law_1249 rfl ?_
  refine r_iconst C dL_law_1251 ?_
  refine r_iadd C dL_law_1252 ?_
  refine r_ialdS C dL_law_1253 (by omega) (by omega) (by omega) ?_
  rw [← ev2]
  have qm : q ∈ hD H1 := (w4.1 q).mpr (Or.inr (Or.inl R.1.1))
  have qk : hK H1 q = 7 := (w4.2.2.2.2.1 q R.1.1).1.trans R.1.2
  refine r_callV C (As := [vi v1, vi v2]) dL_law_1254 sL_162 (fun v hv => by simp only [List.mem_cons, List.not_mem_nil, or_false] at hv; rcases hv with z | z <;> (rw [z]; rfl)) (ci := 6) (by decide) rfl qm qk (Nat.le_of_ble_eq_true rfl) (c1 := 0) (s1 := 0) (Nat.zero_le _) (Nat.zero_le _) (aM_w w4.r (C_X5_copyAt R B hv1 hv2 (fun c z h2 g2 cnd2 y02 yn2 R2 H2 X2 => ?_)))
  have w5 := w4.r2 X2
  rw [← hs] at y02
  have ek : kk = c := c1_eq cnd cnd2 (by unfold pcP; rw [hg 11 (by decide), hg 16 (by decide)])
  have cr := c1_r cnd2
  have e1 : kk = 0 → g1 = s := fun h0 => (y0 h0).2
  have e2 : c = 0 → g2 = s := fun h0 => (y02 h0).2
  have ew : c = 0 → wv = z := fun h0 => by
    rw [(y0 (ek.trans h0)).1, (y02 h0).1]
    exact (hg 17 (by decide) _)
  have E := op_end hs ek e1 yn e2 yn2 (fun h0 => s00) Z1 cr
  have XN : XG (t + 1) g2 := xg_end X (fun h0 => xg_le Xs) e2 yn2
  refine r_istore C dL_law_1257 (Nat.le_of_ble_eq_true rfl) ?_
  dsimp only [List.set]
  refine r_aload_n C dL_law_1259 (i := 2) rfl rfl ?_
  have qm2 : q ∈ hD H2 := (w5.1 q).mpr (Or.inr (Or.inl R2.1.1))
  have qk2 : hK H2 q = 7 := (w5.2.2.2.2.1 q R2.1.1).1.trans R2.1.2
  refine r_callV C (As := []) dL_law_1260 sL_101 (fun v hv => by cases hv) (ci := 6) (by decide) rfl qm2 qk2 (Nat.le_of_ble_eq_true rfl) (c1 := 0) (s1 := 0) (Nat.zero_le _) (Nat.zero_le _) (aM_w w5.r (C_X5_thrown R2 (fun H3 X3 => ?_)))
  have w6 := w5.r2 X3
  rw [E.1]
  refine r_iload C dL_law_1263 rfl ?_
  refine r_ic_eq C dL_law_1265 (t := 1270) (by decide) ⟨by omega, by omega⟩ ⟨by omega, by omega⟩ (fun e9 => ?_) (fun e9 => absurd ek.symm e9)
  refine r_iload C dL_law_1270 rfl ?_
  refine r_if_ne C dL_law_1272 (t := 1287) (by decide) ⟨by omega, by omega⟩ (fun e8 => ?_) (fun e8 => ?_)
  · skip
    refine r_goto C dL_law_1287 (t := 1625) (by decide) ?_
    exact K _ _ _ _ ⟨A1, u1, hc1, h2, ho1, wv, w6, E.2, R2, O1, XN⟩ _ _ (by omega) (by omega)
  · skip
    refine r_aload_n C dL_law_1275 (i := 3) rfl rfl ?_
    refine r_iconst C dL_law_1276 ?_
    have c0 : c = 0 := ek.symm.trans e8
    have om : o ∈ hD H3 := (w6.1 o).mpr (Or.inr (Or.inr O1.1))
    have oq := w6.2.2.2.2.2 o O1.1
    refine r_lald C dL_law_1277 om (oq.1.trans O1.2.1) (by decide) (by rw [oq.2.1, O1.2.2.1]; decide) (by decide) ?_
    rw [show hI H3 o 0 = wv from (oq.2.2.1 0).trans O1.2.2.2, ew c0]
    refine r_iload C dL_law_1278 rfl ?_
    have hzr : inR z := by rw [(y02 c0).1]; exact R.rg _ _
    refine r_i2l C dL_law_1280 hzr ?_
    refine r_lcmp C dL_law_1281 (hzr) (hzr) ?_
    rw [if_pos rfl]
    refine r_if_eq C dL_law_1282 (t := 1287) (by decide) inR0 (fun _ => ?_) (fun e7 => absurd rfl e7)
    refine r_goto C dL_law_1287 (t := 1625) (by decide) ?_
    exact K _ _ _ _ ⟨A1, u1, hc1, h2, ho1, wv, w6, E.2, R2, O1, XN⟩ _ _ (by omega) (by omega)
set_option maxRecDepth 100000 in
set_option maxHeartbeats 4000000 in
theorem LW_on {gx : GX} {Qr : Option AV → Hp → Prop} {Qx : String → Hp → Prop} {J : JT} (C : Cl gx 14 (aM gx 13) mLaw Qr Qx J) {x q o : Nat} {ar : Nat → Nat} {t i : Int} {g : GT} {H : Hp} {cc ss : Nat} {y5 y6 : Option AV} (hx : ∀ j, inR (gx.2.2.2.1 j)) (hL : gx.2.2.1 ≤ 2560) (i0 : 0 ≤ i) (i5 : i + 5 ≤ gx.2.2.1) (t0 : 0 ≤ t) (t1 : t ≤ 9999) (hw : WD gx x q o ar t g H) (hcc : 300 ≤ cc) (hss : 3000 ≤ ss) (K : ∀ g' H' y5' y6', WD gx x q o ar (t + 1) g' H' → ∀ c' s', cc ≤ c' + 300 → ss ≤ s' + 3000 → J 1625 [some (vr gx.2.1), some (vr x), some (vr q), some (vr o), some (vi i), y5', y6'] [] H' c' s') : J 1290 [some (vr gx.2.1), some (vr x), some (vr q), some (vr o), some (vi i), y5, y6] [] H cc ss := by
  obtain ⟨A, u, hc, hm, ho, w0, w3, Z, R, O, X⟩ := hw
  have W := Z.1.2.1
  have B := W.b
  obtain ⟨s, hs⟩ : ∃ s, s = up g 0 0 0 := ⟨_, rfl⟩
  have s00 : s 0 0 = 0 := by rw [hs, up_self]
  have Zs : Rs gx x A u s hc := by rw [hs]; exact Z.up0 0 inR0
  have hg : ∀ k, k ≠ 0 → ∀ j, s k j = g k j := fun k hk j => by rw [hs, up_ne hk]
  have Xs : XG t s := xg_sm X (fun k hk j => hg k (by omega) j)
  have hvv : ∀ j, 0 ≤ g 12 j ∧ g 12 j < 1000000 := fun j => by have := X.2.2.2.2.2.2.2 j; omega
  have hvs : ∀ j, 0 ≤ s 12 j ∧ s 12 j < 1000000 := fun j => by have := Xs.2.2.2.2.2.2.2 j; omega
  obtain ⟨v1, ev1⟩ : ∃ v, v = gx.2.2.2.1 (i + 1).toNat := ⟨_, rfl⟩
  have hv1 : inR v1 := by rw [ev1]; exact hx _
  obtain ⟨v2, ev2⟩ : ∃ v, v = gx.2.2.2.1 (i + 2).toNat := ⟨_, rfl⟩
  have hv2 : inR v2 := by rw [ev2]; exact hx _
  obtain ⟨v3, ev3⟩ : ∃ v, v = gx.2.2.2.1 (i + 3).toNat := ⟨_, rfl⟩
  have hv3 : inR v3 := by rw [ev3]; exact hx _
  refine r_aload_n C dL_law_1290 (i := 1) rfl rfl ?_
  refine r_aload_n C dL_law_1291 (i := 0) rfl rfl ?_
  refine r_iload C dL_law_1292 rfl ?_
  refine r_iconst C dL_law_1294 ?_
  refine r_iadd C dL_law_1295 ?_
  refine r_ialdS C dL_law_1296 (by omega) (by omega) (by omega) ?_
  rw [← ev1]
  refine r_aload_n C dL_law_1297 (i := 0) rfl rfl ?_
  refine r_iload C dL_law_1298 rfl ?_
  refine r_iconst C dL_law_1300 ?_
  refine r_iadd C dL_law_1301 ?_
  refine r_ialdS C dL_law_1302 (by omega) (by omega) (by omega) ?_
  rw [← ev2]
  refine r_aload_n C dL_law_1303 (i := 0) rfl rfl ?_
  refine r_iload C dL_law_1304 rfl ?_
  refine r_iconst C dL_law_1306 ?_
  refine r_iadd C dL_law_1307 ?_
  refine r_ialdS C dL_law_1308 (by omega) (by omega) (by omega) ?_
  rw [← ev3]
  refine r_aload_n C dL_law_1309 (i := 3) rfl rfl ?_
  refine r_callSX C (As := [vr x, vi v1, vi v2, vi v3, vr o]) dL_law_1310 sL_163 (fun v hv => by simp only [List.mem_cons, List.not_mem_nil, or_false] at hv; rcases hv with z | z | z | z | z <;> (rw [z]; rfl)) (Nat.le_of_ble_eq_true rfl) (c1 := 3) (s1 := 18) (by omega) (by omega) (aM_mono _ _ _ _ _ _ _ _ _ _ _ (C_L_on w3 Zs O hv1 hv2 hv3 ) (fun vv H1 hvv9 => ?_) (fun _ _ z => z.elim))
  obtain ⟨kk, wv, g1, A1, u1, hc1, ho1, rfl, w4, Z1, O1, cnd, y0, yn⟩ := hvv9
  refine r_istore C dL_law_1313 (Nat.le_of_ble_eq_true rfl) ?_
  dsimp only [List.set]
  refine r_aload_n C dL_law_1315 (i := 2) rfl rfl ?_
  refine r_aload_n C dL_law_1316 (i := 0) rfl rfl ?_
  refine r_iload C dL_law_1317 rfl ?_
  refine r_iconst C dL_law_1319 ?_
  refine r_iadd C dL_law_1320 ?_
  refine r_ialdS C dL_law_1321 (by omega) (by omega) (by omega) ?_
  rw [← ev1]
  refine r_aload_n C dL_law_1322 (i := 0) rfl rfl ?_
  refine r_iload C dL_law_1323 rfl ?_
  refine r_iconst C dL_law_1325 ?_
  refine r_iadd C dL_law_1326 ?_
  refine r_ialdS C dL_law_1327 (by omega) (by omega) (by omega) ?_
  rw [← ev2]
  refine r_aload_n C dL_law_1328 (i := 0) rfl rfl ?_
  refine r_iload C dL_law_1329 rfl ?_
  refine r_iconst C dL_law_1331 ?_
  refine r_iadd C dL_law_1332 ?_
  refine r_ialdS C dL_law_1333 (by omega) (by omega) (by omega) ?_
  rw [← ev3]
  have qm : q ∈ hD H1 := (w4.1 q).mpr (Or.inr (Or.inl R.1.1))
  have qk : hK H1 q = 7 := (w4.2.2.2.2.1 q R.1.1).1.trans R.1.2
  refine r_callV C (As := [vi v1, vi v2, vi v3]) dL_law_1334 sL_165 (fun v hv => by simp only [List.mem_cons, List.not_mem_nil, or_false] at hv; rcases hv with z | z | z <;> (rw [z]; rfl)) (ci := 6) (by decide) rfl qm qk (Nat.le_of_ble_eq_true rfl) (c1 := 0) (s1 := 0) (Nat.zero_le _) (Nat.zero_le _) (aM_w w4.r (C_X5_on R B hv1 hv2 hv3 (fun c z h2 g2 cnd2 y02 yn2 R2 H2 X2 => ?_)))
  have w5 := w4.r2 X2
  rw [← hs] at y02
  have ek : kk = c := c2_eq cnd cnd2 (by unfold ndP pcP; rw [hg 4 (by decide), hg 11 (by decide)]) (fun _ => Iff.rfl)
  have cr := c2_r cnd2
  have e1 : kk = 0 → g1 = s := fun h0 => (y0 h0).2
  have e2 : c = 0 → g2 = s := fun h0 => (y02 h0).2
  have ew : c = 0 → wv = z := fun h0 => by
    rw [(y0 (ek.trans h0)).1, (y02 h0).1]
    exact (by rw [hg 18 (by decide), hg 19 (by decide), hg 21 (by decide)])
  have E := op_end hs ek e1 yn e2 yn2 (fun h0 => s00) Z1 cr
  have XN : XG (t + 1) g2 := xg_end X (fun h0 => xg_le Xs) e2 yn2
  refine r_istore C dL_law_1337 (Nat.le_of_ble_eq_true rfl) ?_
  dsimp only [List.set]
  refine r_aload_n C dL_law_1339 (i := 2) rfl rfl ?_
  have qm2 : q ∈ hD H2 := (w5.1 q).mpr (Or.inr (Or.inl R2.1.1))
  have qk2 : hK H2 q = 7 := (w5.2.2.2.2.1 q R2.1.1).1.trans R2.1.2
  refine r_callV C (As := []) dL_law_1340 sL_101 (fun v hv => by cases hv) (ci := 6) (by decide) rfl qm2 qk2 (Nat.le_of_ble_eq_true rfl) (c1 := 0) (s1 := 0) (Nat.zero_le _) (Nat.zero_le _) (aM_w w5.r (C_X5_thrown R2 (fun H3 X3 => ?_)))
  have w6 := w5.r2 X3
  rw [E.1]
  refine r_iload C dL_law_1343 rfl ?_
  refine r_ic_eq C dL_law_1345 (t := 1350) (by decide) ⟨by omega, by omega⟩ ⟨by omega, by omega⟩ (fun e9 => ?_) (fun e9 => absurd ek.symm e9)
  refine r_iload C dL_law_1350 rfl ?_
  refine r_if_ne C dL_law_1352 (t := 1367) (by decide) ⟨by omega, by omega⟩ (fun e8 => ?_) (fun e8 => ?_)
  · skip
    refine r_goto C dL_law_1367 (t := 1625) (by decide) ?_
    exact K _ _ _ _ ⟨A1, u1, hc1, h2, ho1, wv, w6, E.2, R2, O1, XN⟩ _ _ (by omega) (by omega)
  · skip
    refine r_aload_n C dL_law_1355 (i := 3) rfl rfl ?_
    refine r_iconst C dL_law_1356 ?_
    have c0 : c = 0 := ek.symm.trans e8
    have om : o ∈ hD H3 := (w6.1 o).mpr (Or.inr (Or.inr O1.1))
    have oq := w6.2.2.2.2.2 o O1.1
    refine r_lald C dL_law_1357 om (oq.1.trans O1.2.1) (by decide) (by rw [oq.2.1, O1.2.2.1]; decide) (by decide) ?_
    rw [show hI H3 o 0 = wv from (oq.2.2.1 0).trans O1.2.2.2, ew c0]
    refine r_iload C dL_law_1358 rfl ?_
    have hzr : inR z := by rw [(y02 c0).1]; split; exact inRn1; split; exact R.rg _ _; split; exact R.rg _ _; exact R.rg _ _
    refine r_i2l C dL_law_1360 hzr ?_
    refine r_lcmp C dL_law_1361 (hzr) (hzr) ?_
    rw [if_pos rfl]
    refine r_if_eq C dL_law_1362 (t := 1367) (by decide) inR0 (fun _ => ?_) (fun e7 => absurd rfl e7)
    refine r_goto C dL_law_1367 (t := 1625) (by decide) ?_
    exact K _ _ _ _ ⟨A1, u1, hc1, h2, ho1, wv, w6, E.2, R2, O1, XN⟩ _ _ (by omega) (by omega)
set_option maxRecDepth 100000 in
set_option maxHeartbeats 4000000 in
theorem LW_cellOn {gx : GX} {Qr : Option AV → Hp → Prop} {Qx : String → Hp → Prop} {J : JT} (C : Cl gx 14 (aM gx 13) mLaw Qr Qx J) {x q o : Nat} {ar : Nat → Nat} {t i : Int} {g : GT} {H : Hp} {cc ss : Nat} {y5 y6 : Option AV} (hx : ∀ j, inR (gx.2.2.2.1 j)) (hL : gx.2.2.1 ≤ 2560) (i0 : 0 ≤ i) (i5 : i + 5 ≤ gx.2.2.1) (t0 : 0 ≤ t) (t1 : t ≤ 9999) (hw : WD gx x q o ar t g H) (hcc : 300 ≤ cc) (hss : 3000 ≤ ss) (K : ∀ g' H' y5' y6', WD gx x q o ar (t + 1) g' H' → ∀ c' s', cc ≤ c' + 300 → ss ≤ s' + 3000 → J 1625 [some (vr gx.2.1), some (vr x), some (vr q), some (vr o), some (vi i), y5', y6'] [] H' c' s') : J 1370 [some (vr gx.2.1), some (vr x), some (vr q), some (vr o), some (vi i), y5, y6] [] H cc ss := by
  obtain ⟨A, u, hc, hm, ho, w0, w3, Z, R, O, X⟩ := hw
  have W := Z.1.2.1
  have B := W.b
  obtain ⟨s, hs⟩ : ∃ s, s = up g 0 0 0 := ⟨_, rfl⟩
  have s00 : s 0 0 = 0 := by rw [hs, up_self]
  have Zs : Rs gx x A u s hc := by rw [hs]; exact Z.up0 0 inR0
  have hg : ∀ k, k ≠ 0 → ∀ j, s k j = g k j := fun k hk j => by rw [hs, up_ne hk]
  have Xs : XG t s := xg_sm X (fun k hk j => hg k (by omega) j)
  have hvv : ∀ j, 0 ≤ g 12 j ∧ g 12 j < 1000000 := fun j => by have := X.2.2.2.2.2.2.2 j; omega
  have hvs : ∀ j, 0 ≤ s 12 j ∧ s 12 j < 1000000 := fun j => by have := Xs.2.2.2.2.2.2.2 j; omega
  obtain ⟨v1, ev1⟩ : ∃ v, v = gx.2.2.2.1 (i + 1).toNat := ⟨_, rfl⟩
  have hv1 : inR v1 := by rw [ev1]; exact hx _
  obtain ⟨v2, ev2⟩ : ∃ v, v = gx.2.2.2.1 (i + 2).toNat := ⟨_, rfl⟩
  have hv2 : inR v2 := by rw [ev2]; exact hx _
  obtain ⟨v3, ev3⟩ : ∃ v, v = gx.2.2.2.1 (i + 3).toNat := ⟨_, rfl⟩
  have hv3 : inR v3 := by rw [ev3]; exact hx _
  refine r_aload_n C dL_law_1370 (i := 1) rfl rfl ?_
  refine r_aload_n C dL_law_1371 (i := 0) rfl rfl ?_
  refine r_iload C dL_law_1372 rfl ?_
  refine r_iconst C dL_law_1374 ?_
  refine r_iadd C dL_law_1375 ?_
  refine r_ialdS C dL_law_1376 (by omega) (by omega) (by omega) ?_
  rw [← ev1]
  refine r_aload_n C dL_law_1377 (i := 0) rfl rfl ?_
  refine r_iload C dL_law_1378 rfl ?_
  refine r_iconst C dL_law_1380 ?_
  refine r_iadd C dL_law_1381 ?_
  refine r_ialdS C dL_law_1382 (by omega) (by omega) (by omega) ?_
  rw [← ev2]
  refine r_aload_n C dL_law_1383 (i := 0) rfl rfl ?_
  refine r_iload C dL_law_1384 rfl ?_
  refine r_iconst C dL_law_1386 ?_
  refine r_iadd C dL_law_1387 ?_
  refine r_ialdS C dL_law_1388 (by omega) (by omega) (by omega) ?_
  rw [← ev3]
  refine r_aload_n C dL_law_1389 (i := 3) rfl rfl ?_
  refine r_callSX C (As := [vr x, vi v1, vi v2, vi v3, vr o]) dL_law_1390 sL_166 (fun v hv => by simp only [List.mem_cons, List.not_mem_nil, or_false] at hv; rcases hv with z | z | z | z | z <;> (rw [z]; rfl)) (Nat.le_of_ble_eq_true rfl) (c1 := 3) (s1 := 18) (by omega) (by omega) (aM_mono _ _ _ _ _ _ _ _ _ _ _ (C_L_cellOn w3 Zs O hv1 hv2 hv3 ) (fun vv H1 hvv9 => ?_) (fun _ _ z => z.elim))
  obtain ⟨kk, wv, g1, A1, u1, hc1, ho1, rfl, w4, Z1, O1, cnd, y0, yn⟩ := hvv9
  refine r_istore C dL_law_1393 (Nat.le_of_ble_eq_true rfl) ?_
  dsimp only [List.set]
  refine r_aload_n C dL_law_1395 (i := 2) rfl rfl ?_
  refine r_aload_n C dL_law_1396 (i := 0) rfl rfl ?_
  refine r_iload C dL_law_1397 rfl ?_
  refine r_iconst C dL_law_1399 ?_
  refine r_iadd C dL_law_1400 ?_
  refine r_ialdS C dL_law_1401 (by omega) (by omega) (by omega) ?_
  rw [← ev1]
  refine r_aload_n C dL_law_1402 (i := 0) rfl rfl ?_
  refine r_iload C dL_law_1403 rfl ?_
  refine r_iconst C dL_law_1405 ?_
  refine r_iadd C dL_law_1406 ?_
  refine r_ialdS C dL_law_1407 (by omega) (by omega) (by omega) ?_
  rw [← ev2]
  refine r_aload_n C dL_law_1408 (i := 0) rfl rfl ?_
  refine r_iload C dL_law_1409 rfl ?_
  refine r_iconst C dL_law_1411 ?_
  refine r_iadd C dL_law_1412 ?_
  refine r_ialdS C dL_law_1413 (by omega) (by omega) (by omega) ?_
  rw [← ev3]
  have qm : q ∈ hD H1 := (w4.1 q).mpr (Or.inr (Or.inl R.1.1))
  have qk : hK H1 q = 7 := (w4.2.2.2.2.1 q R.1.1).1.trans R.1.2
  refine r_callV C (As := [vi v1, vi v2, vi v3]) dL_law_1414 sL_168 (fun v hv => by simp only [List.mem_cons, List.not_mem_nil, or_false] at hv; rcases hv with z | z | z <;> (rw [z]; rfl)) (ci := 6) (by decide) rfl qm qk (Nat.le_of_ble_eq_true rfl) (c1 := 0) (s1 := 0) (Nat.zero_le _) (Nat.zero_le _) (aM_w w4.r (C_X5_cellOn R B hv1 hv2 hv3 (fun c z h2 g2 cnd2 y02 yn2 R2 H2 X2 => ?_)))
  have w5 := w4.r2 X2
  rw [← hs] at y02
  have ek : kk = c := c1_eq cnd cnd2 (by unfold ndP pcP; rw [hg 4 (by decide), hg 11 (by decide)])
  have cr := c1_r cnd2
  have e1 : kk = 0 → g1 = s := fun h0 => (y0 h0).2
  have e2 : c = 0 → g2 = s := fun h0 => (y02 h0).2
  have ew : c = 0 → wv = z := fun h0 => by
    rw [(y0 (ek.trans h0)).1, (y02 h0).1]
    exact (by rw [hg 18 (by decide), hg 19 (by decide), hg 20 (by decide)])
  have E := op_end hs ek e1 yn e2 yn2 (fun h0 => s00) Z1 cr
  have XN : XG (t + 1) g2 := xg_end X (fun h0 => xg_le Xs) e2 yn2
  refine r_istore C dL_law_1417 (Nat.le_of_ble_eq_true rfl) ?_
  dsimp only [List.set]
  refine r_aload_n C dL_law_1419 (i := 2) rfl rfl ?_
  have qm2 : q ∈ hD H2 := (w5.1 q).mpr (Or.inr (Or.inl R2.1.1))
  have qk2 : hK H2 q = 7 := (w5.2.2.2.2.1 q R2.1.1).1.trans R2.1.2
  refine r_callV C (As := []) dL_law_1420 sL_101 (fun v hv => by cases hv) (ci := 6) (by decide) rfl qm2 qk2 (Nat.le_of_ble_eq_true rfl) (c1 := 0) (s1 := 0) (Nat.zero_le _) (Nat.zero_le _) (aM_w w5.r (C_X5_thrown R2 (fun H3 X3 => ?_)))
  have w6 := w5.r2 X3
  rw [E.1]
  refine r_iload C dL_law_1423 rfl ?_
  refine r_ic_eq C dL_law_1425 (t := 1430) (by decide) ⟨by omega, by omega⟩ ⟨by omega, by omega⟩ (fun e9 => ?_) (fun e9 => absurd ek.symm e9)
  refine r_iload C dL_law_1430 rfl ?_
  refine r_if_ne C dL_law_1432 (t := 1447) (by decide) ⟨by omega, by omega⟩ (fun e8 => ?_) (fun e8 => ?_)
  · skip
    refine r_goto C dL_law_1447 (t := 1625) (by decide) ?_
    exact K _ _ _ _ ⟨A1, u1, hc1, h2, ho1, wv, w6, E.2, R2, O1, XN⟩ _ _ (by omega) (by omega)
  · skip
    refine r_aload_n C dL_law_1435 (i := 3) rfl rfl ?_
    refine r_iconst C dL_law_1436 ?_
    have c0 : c = 0 := ek.symm.trans e8
    have om : o ∈ hD H3 := (w6.1 o).mpr (Or.inr (Or.inr O1.1))
    have oq := w6.2.2.2.2.2 o O1.1
    refine r_lald C dL_law_1437 om (oq.1.trans O1.2.1) (by decide) (by rw [oq.2.1, O1.2.2.1]; decide) (by decide) ?_
    rw [show hI H3 o 0 = wv from (oq.2.2.1 0).trans O1.2.2.2, ew c0]
    refine r_iload C dL_law_1438 rfl ?_
    have hzr : inR z := by rw [(y02 c0).1]; split; exact inRn1; exact R.rg _ _
    refine r_i2l C dL_law_1440 hzr ?_
    refine r_lcmp C dL_law_1441 (hzr) (hzr) ?_
    rw [if_pos rfl]
    refine r_if_eq C dL_law_1442 (t := 1447) (by decide) inR0 (fun _ => ?_) (fun e7 => absurd rfl e7)
    refine r_goto C dL_law_1447 (t := 1625) (by decide) ?_
    exact K _ _ _ _ ⟨A1, u1, hc1, h2, ho1, wv, w6, E.2, R2, O1, XN⟩ _ _ (by omega) (by omega)
set_option maxRecDepth 100000 in
set_option maxHeartbeats 4000000 in
theorem LW_load {gx : GX} {Qr : Option AV → Hp → Prop} {Qx : String → Hp → Prop} {J : JT} (C : Cl gx 14 (aM gx 13) mLaw Qr Qx J) {x q o : Nat} {ar : Nat → Nat} {t i : Int} {g : GT} {H : Hp} {cc ss : Nat} {y5 y6 : Option AV} (hx : ∀ j, inR (gx.2.2.2.1 j)) (hL : gx.2.2.1 ≤ 2560) (i0 : 0 ≤ i) (i5 : i + 5 ≤ gx.2.2.1) (t0 : 0 ≤ t) (t1 : t ≤ 9999) (hw : WD gx x q o ar t g H) (hcc : 300 ≤ cc) (hss : 3000 ≤ ss) (K : ∀ g' H' y5' y6', WD gx x q o ar (t + 1) g' H' → ∀ c' s', cc ≤ c' + 300 → ss ≤ s' + 3000 → J 1625 [some (vr gx.2.1), some (vr x), some (vr q), some (vr o), some (vi i), y5', y6'] [] H' c' s') : J 1450 [some (vr gx.2.1), some (vr x), some (vr q), some (vr o), some (vi i), y5, y6] [] H cc ss := by
  obtain ⟨A, u, hc, hm, ho, w0, w3, Z, R, O, X⟩ := hw
  have W := Z.1.2.1
  have B := W.b
  obtain ⟨s, hs⟩ : ∃ s, s = up g 0 0 0 := ⟨_, rfl⟩
  have s00 : s 0 0 = 0 := by rw [hs, up_self]
  have Zs : Rs gx x A u s hc := by rw [hs]; exact Z.up0 0 inR0
  have hg : ∀ k, k ≠ 0 → ∀ j, s k j = g k j := fun k hk j => by rw [hs, up_ne hk]
  have Xs : XG t s := xg_sm X (fun k hk j => hg k (by omega) j)
  have hvv : ∀ j, 0 ≤ g 12 j ∧ g 12 j < 1000000 := fun j => by have := X.2.2.2.2.2.2.2 j; omega
  have hvs : ∀ j, 0 ≤ s 12 j ∧ s 12 j < 1000000 := fun j => by have := Xs.2.2.2.2.2.2.2 j; omega
  obtain ⟨v1, ev1⟩ : ∃ v, v = gx.2.2.2.1 (i + 1).toNat := ⟨_, rfl⟩
  have hv1 : inR v1 := by rw [ev1]; exact hx _
  refine r_aload_n C dL_law_1450 (i := 1) rfl rfl ?_
  refine r_aload_n C dL_law_1451 (i := 0) rfl rfl ?_
  refine r_iload C dL_law_1452 rfl ?_
  refine r_iconst C dL_law_1454 ?_
  refine r_iadd C dL_law_1455 ?_
  refine r_ialdS C dL_law_1456 (by omega) (by omega) (by omega) ?_
  rw [← ev1]
  refine r_aload_n C dL_law_1457 (i := 3) rfl rfl ?_
  refine r_callSX C (As := [vr x, vi v1, vr o]) dL_law_1458 sL_169 (fun v hv => by simp only [List.mem_cons, List.not_mem_nil, or_false] at hv; rcases hv with z | z | z <;> (rw [z]; rfl)) (Nat.le_of_ble_eq_true rfl) (c1 := 1) (s1 := 6) (by omega) (by omega) (aM_mono _ _ _ _ _ _ _ _ _ _ _ (C_L_load w3 Zs O hv1 ) (fun vv H1 hvv9 => ?_) (fun _ _ z => z.elim))
  obtain ⟨kk, wv, g1, A1, u1, hc1, ho1, rfl, w4, Z1, O1, cnd, y0, yn⟩ := hvv9
  refine r_istore C dL_law_1461 (Nat.le_of_ble_eq_true rfl) ?_
  dsimp only [List.set]
  refine r_aload_n C dL_law_1463 (i := 2) rfl rfl ?_
  refine r_aload_n C dL_law_1464 (i := 0) rfl rfl ?_
  refine r_iload C dL_law_1465 rfl ?_
  refine r_iconst C dL_law_1467 ?_
  refine r_iadd C dL_law_1468 ?_
  refine r_ialdS C dL_law_1469 (by omega) (by omega) (by omega) ?_
  rw [← ev1]
  have qm : q ∈ hD H1 := (w4.1 q).mpr (Or.inr (Or.inl R.1.1))
  have qk : hK H1 q = 7 := (w4.2.2.2.2.1 q R.1.1).1.trans R.1.2
  refine r_callV C (As := [vi v1]) dL_law_1470 sL_171 (fun v hv => by rw [List.mem_singleton.mp hv]; rfl) (ci := 6) (by decide) rfl qm qk (Nat.le_of_ble_eq_true rfl) (c1 := 0) (s1 := 0) (Nat.zero_le _) (Nat.zero_le _) (aM_w w4.r (C_X5_load R B hv1 (fun c z h2 g2 cnd2 y02 yn2 R2 H2 X2 => ?_)))
  have w5 := w4.r2 X2
  rw [← hs] at y02
  have ek : kk = c := c1_eq cnd cnd2 (by unfold ndP; rw [hg 4 (by decide)])
  have cr := c1_r cnd2
  have e1 : kk = 0 → g1 = s := fun h0 => (y0 h0).2
  have e2 : c = 0 → g2 = s := fun h0 => (y02 h0).2
  have ew : c = 0 → wv = z := fun h0 => by
    rw [(y0 (ek.trans h0)).1, (y02 h0).1]
    exact (lo_c hg v1)
  have E := op_end hs ek e1 yn e2 yn2 (fun h0 => s00) Z1 cr
  have XN : XG (t + 1) g2 := xg_end X (fun h0 => xg_le Xs) e2 yn2
  refine r_istore C dL_law_1473 (Nat.le_of_ble_eq_true rfl) ?_
  dsimp only [List.set]
  refine r_aload_n C dL_law_1475 (i := 2) rfl rfl ?_
  have qm2 : q ∈ hD H2 := (w5.1 q).mpr (Or.inr (Or.inl R2.1.1))
  have qk2 : hK H2 q = 7 := (w5.2.2.2.2.1 q R2.1.1).1.trans R2.1.2
  refine r_callV C (As := []) dL_law_1476 sL_101 (fun v hv => by cases hv) (ci := 6) (by decide) rfl qm2 qk2 (Nat.le_of_ble_eq_true rfl) (c1 := 0) (s1 := 0) (Nat.zero_le _) (Nat.zero_le _) (aM_w w5.r (C_X5_thrown R2 (fun H3 X3 => ?_)))
  have w6 := w5.r2 X3
  rw [E.1]
  refine r_iload C dL_law_1479 rfl ?_
  refine r_ic_eq C dL_law_1481 (t := 1486) (by decide) ⟨by omega, by omega⟩ ⟨by omega, by omega⟩ (fun e9 => ?_) (fun e9 => absurd ek.symm e9)
  refine r_iload C dL_law_1486 rfl ?_
  refine r_if_ne C dL_law_1488 (t := 1503) (by decide) ⟨by omega, by omega⟩ (fun e8 => ?_) (fun e8 => ?_)
  · skip
    refine r_goto C dL_law_1503 (t := 1625) (by decide) ?_
    exact K _ _ _ _ ⟨A1, u1, hc1, h2, ho1, wv, w6, E.2, R2, O1, XN⟩ _ _ (by omega) (by omega)
  · skip
    refine r_aload_n C dL_law_1491 (i := 3) rfl rfl ?_
    refine r_iconst C dL_law_1492 ?_
    have c0 : c = 0 := ek.symm.trans e8
    have om : o ∈ hD H3 := (w6.1 o).mpr (Or.inr (Or.inr O1.1))
    have oq := w6.2.2.2.2.2 o O1.1
    refine r_lald C dL_law_1493 om (oq.1.trans O1.2.1) (by decide) (by rw [oq.2.1, O1.2.2.1]; decide) (by decide) ?_
    rw [show hI H3 o 0 = wv from (oq.2.2.1 0).trans O1.2.2.2, ew c0]
    refine r_iload C dL_law_1494 rfl ?_
    have hzr : inR z := by rw [(y02 c0).1]; exact lo_rg B _
    refine r_i2l C dL_law_1496 hzr ?_
    refine r_lcmp C dL_law_1497 (hzr) (hzr) ?_
    rw [if_pos rfl]
    refine r_if_eq C dL_law_1498 (t := 1503) (by decide) inR0 (fun _ => ?_) (fun e7 => absurd rfl e7)
    refine r_goto C dL_law_1503 (t := 1625) (by decide) ?_
    exact K _ _ _ _ ⟨A1, u1, hc1, h2, ho1, wv, w6, E.2, R2, O1, XN⟩ _ _ (by omega) (by omega)
set_option maxRecDepth 100000 in
set_option maxHeartbeats 4000000 in
theorem LW_isCounted {gx : GX} {Qr : Option AV → Hp → Prop} {Qx : String → Hp → Prop} {J : JT} (C : Cl gx 14 (aM gx 13) mLaw Qr Qx J) {x q o : Nat} {ar : Nat → Nat} {t i : Int} {g : GT} {H : Hp} {cc ss : Nat} {y5 y6 : Option AV} (hx : ∀ j, inR (gx.2.2.2.1 j)) (hL : gx.2.2.1 ≤ 2560) (i0 : 0 ≤ i) (i5 : i + 5 ≤ gx.2.2.1) (t0 : 0 ≤ t) (t1 : t ≤ 9999) (hw : WD gx x q o ar t g H) (hcc : 300 ≤ cc) (hss : 3000 ≤ ss) (K : ∀ g' H' y5' y6', WD gx x q o ar (t + 1) g' H' → ∀ c' s', cc ≤ c' + 300 → ss ≤ s' + 3000 → J 1625 [some (vr gx.2.1), some (vr x), some (vr q), some (vr o), some (vi i), y5', y6'] [] H' c' s') : J 1506 [some (vr gx.2.1), some (vr x), some (vr q), some (vr o), some (vi i), y5, y6] [] H cc ss := by
  obtain ⟨A, u, hc, hm, ho, w0, w3, Z, R, O, X⟩ := hw
  have W := Z.1.2.1
  have B := W.b
  obtain ⟨s, hs⟩ : ∃ s, s = up g 0 0 0 := ⟨_, rfl⟩
  have s00 : s 0 0 = 0 := by rw [hs, up_self]
  have Zs : Rs gx x A u s hc := by rw [hs]; exact Z.up0 0 inR0
  have hg : ∀ k, k ≠ 0 → ∀ j, s k j = g k j := fun k hk j => by rw [hs, up_ne hk]
  have Xs : XG t s := xg_sm X (fun k hk j => hg k (by omega) j)
  have hvv : ∀ j, 0 ≤ g 12 j ∧ g 12 j < 1000000 := fun j => by have := X.2.2.2.2.2.2.2 j; omega
  have hvs : ∀ j, 0 ≤ s 12 j ∧ s 12 j < 1000000 := fun j => by have := Xs.2.2.2.2.2.2.2 j; omega
  obtain ⟨v1, ev1⟩ : ∃ v, v = gx.2.2.2.1 (i + 1).toNat := ⟨_, rfl⟩
  have hv1 : inR v1 := by rw [ev1]; exact hx _
  refine r_aload_n C dL_law_1506 (i := 1) rfl rfl ?_
  refine r_aload_n C dL_law_1507 (i := 0) rfl rfl ?_
  refine r_iload C dL_law_1508 rfl ?_
  refine r_iconst C dL_law_1510 ?_
  refine r_iadd C dL_law_1511 ?_
  refine r_ialdS C dL_law_1512 (by omega) (by omega) (by omega) ?_
  rw [← ev1]
  refine r_aload_n C dL_law_1513 (i := 3) rfl rfl ?_
  refine r_callSX C (As := [vr x, vi v1, vr o]) dL_law_1514 sL_172 (fun v hv => by simp only [List.mem_cons, List.not_mem_nil, or_false] at hv; rcases hv with z | z | z <;> (rw [z]; rfl)) (Nat.le_of_ble_eq_true rfl) (c1 := 1) (s1 := 6) (by omega) (by omega) (aM_mono _ _ _ _ _ _ _ _ _ _ _ (C_L_isCounted w3 Zs O hv1 ) (fun vv H1 hvv9 => ?_) (fun _ _ z => z.elim))
  obtain ⟨kk, wv, g1, A1, u1, hc1, ho1, rfl, w4, Z1, O1, cnd, y0, yn⟩ := hvv9
  refine r_istore C dL_law_1517 (Nat.le_of_ble_eq_true rfl) ?_
  dsimp only [List.set]
  refine r_aload_n C dL_law_1519 (i := 2) rfl rfl ?_
  refine r_aload_n C dL_law_1520 (i := 0) rfl rfl ?_
  refine r_iload C dL_law_1521 rfl ?_
  refine r_iconst C dL_law_1523 ?_
  refine r_iadd C dL_law_1524 ?_
  refine r_ialdS C dL_law_1525 (by omega) (by omega) (by omega) ?_
  rw [← ev1]
  have qm : q ∈ hD H1 := (w4.1 q).mpr (Or.inr (Or.inl R.1.1))
  have qk : hK H1 q = 7 := (w4.2.2.2.2.1 q R.1.1).1.trans R.1.2
  refine r_callV C (As := [vi v1]) dL_law_1526 sL_174 (fun v hv => by rw [List.mem_singleton.mp hv]; rfl) (ci := 6) (by decide) rfl qm qk (Nat.le_of_ble_eq_true rfl) (c1 := 0) (s1 := 0) (Nat.zero_le _) (Nat.zero_le _) (aM_w w4.r (C_X5_isCounted R B hv1 (fun c z h2 g2 cnd2 y02 yn2 R2 H2 X2 => ?_)))
  have w5 := w4.r2 X2
  rw [← hs] at y02
  have ek : kk = c := c1_eq cnd cnd2 (by unfold ndP; rw [hg 4 (by decide)])
  have cr := c1_r cnd2
  have e1 : kk = 0 → g1 = s := fun h0 => (y0 h0).2
  have e2 : c = 0 → g2 = s := fun h0 => (y02 h0).2
  have ew : c = 0 → wv = bz z := fun h0 => by
    rw [(y0 (ek.trans h0)).1, (y02 h0).1]
    exact congrArg bz (hg 9 (by decide) v1)
  have E := op_end hs ek e1 yn e2 yn2 (fun h0 => s00) Z1 cr
  have XN : XG (t + 1) g2 := xg_end X (fun h0 => xg_le Xs) e2 yn2
  refine r_istore C dL_law_1529 (Nat.le_of_ble_eq_true rfl) ?_
  dsimp only [List.set]
  refine r_aload_n C dL_law_1531 (i := 2) rfl rfl ?_
  have qm2 : q ∈ hD H2 := (w5.1 q).mpr (Or.inr (Or.inl R2.1.1))
  have qk2 : hK H2 q = 7 := (w5.2.2.2.2.1 q R2.1.1).1.trans R2.1.2
  refine r_callV C (As := []) dL_law_1532 sL_101 (fun v hv => by cases hv) (ci := 6) (by decide) rfl qm2 qk2 (Nat.le_of_ble_eq_true rfl) (c1 := 0) (s1 := 0) (Nat.zero_le _) (Nat.zero_le _) (aM_w w5.r (C_X5_thrown R2 (fun H3 X3 => ?_)))
  have w6 := w5.r2 X3
  rw [E.1]
  refine r_iload C dL_law_1535 rfl ?_
  refine r_ic_eq C dL_law_1537 (t := 1542) (by decide) ⟨by omega, by omega⟩ ⟨by omega, by omega⟩ (fun e9 => ?_) (fun e9 => absurd ek.symm e9)
  refine r_iload C dL_law_1542 rfl ?_
  refine r_if_ne C dL_law_1544 (t := 1566) (by decide) ⟨by omega, by omega⟩ (fun e8 => ?_) (fun e8 => ?_)
  · skip
    refine r_goto C dL_law_1566 (t := 1625) (by decide) ?_
    exact K _ _ _ _ ⟨A1, u1, hc1, h2, ho1, wv, w6, E.2, R2, O1, XN⟩ _ _ (by omega) (by omega)
  · skip
    refine r_aload_n C dL_law_1547 (i := 3) rfl rfl ?_
    refine r_iconst C dL_law_1548 ?_
    have c0 : c = 0 := ek.symm.trans e8
    have om : o ∈ hD H3 := (w6.1 o).mpr (Or.inr (Or.inr O1.1))
    have oq := w6.2.2.2.2.2 o O1.1
    refine r_lald C dL_law_1549 om (oq.1.trans O1.2.1) (by decide) (by rw [oq.2.1, O1.2.2.1]; decide) (by decide) ?_
    rw [show hI H3 o 0 = wv from (oq.2.2.1 0).trans O1.2.2.2, ew c0]
    refine r_iload C dL_law_1550 rfl ?_
    refine lw_bl C dL_law_1552 dL_law_1555 dL_law_1556 dL_law_1559 (by rw [(y02 c0).1]; exact R.rg _ _) ?_
    refine r_lcmp C dL_law_1560 (bz_r z) (bz_r z) ?_
    rw [if_pos rfl]
    refine r_if_eq C dL_law_1561 (t := 1566) (by decide) inR0 (fun _ => ?_) (fun e7 => absurd rfl e7)
    refine r_goto C dL_law_1566 (t := 1625) (by decide) ?_
    exact K _ _ _ _ ⟨A1, u1, hc1, h2, ho1, wv, w6, E.2, R2, O1, XN⟩ _ _ (by omega) (by omega)
set_option maxRecDepth 100000 in
set_option maxHeartbeats 4000000 in
theorem LW_walk {gx : GX} {Qr : Option AV → Hp → Prop} {Qx : String → Hp → Prop} {J : JT} (C : Cl gx 14 (aM gx 13) mLaw Qr Qx J) {x q o : Nat} {ar : Nat → Nat} {t i : Int} {g : GT} {H : Hp} {cc ss : Nat} {y5 y6 : Option AV} (hx : ∀ j, inR (gx.2.2.2.1 j)) (hL : gx.2.2.1 ≤ 2560) (i0 : 0 ≤ i) (i5 : i + 5 ≤ gx.2.2.1) (t0 : 0 ≤ t) (t1 : t ≤ 9999) (hw : WD gx x q o ar t g H) (hcc : 300 ≤ cc) (hss : 3000 ≤ ss) (K : ∀ g' H' y5' y6', WD gx x q o ar (t + 1) g' H' → ∀ c' s', cc ≤ c' + 300 → ss ≤ s' + 3000 → J 1625 [some (vr gx.2.1), some (vr x), some (vr q), some (vr o), some (vi i), y5', y6'] [] H' c' s') : J 1569 [some (vr gx.2.1), some (vr x), some (vr q), some (vr o), some (vi i), y5, y6] [] H cc ss := by
  obtain ⟨A, u, hc, hm, ho, w0, w3, Z, R, O, X⟩ := hw
  have W := Z.1.2.1
  have B := W.b
  obtain ⟨s, hs⟩ : ∃ s, s = up g 0 0 0 := ⟨_, rfl⟩
  have s00 : s 0 0 = 0 := by rw [hs, up_self]
  have Zs : Rs gx x A u s hc := by rw [hs]; exact Z.up0 0 inR0
  have hg : ∀ k, k ≠ 0 → ∀ j, s k j = g k j := fun k hk j => by rw [hs, up_ne hk]
  have Xs : XG t s := xg_sm X (fun k hk j => hg k (by omega) j)
  have hvv : ∀ j, 0 ≤ g 12 j ∧ g 12 j < 1000000 := fun j => by have := X.2.2.2.2.2.2.2 j; omega
  have hvs : ∀ j, 0 ≤ s 12 j ∧ s 12 j < 1000000 := fun j => by have := Xs.2.2.2.2.2.2.2 j; omega
  obtain ⟨v1, ev1⟩ : ∃ v, v = gx.2.2.2.1 (i + 1).toNat := ⟨_, rfl⟩
  have hv1 : inR v1 := by rw [ev1]; exact hx _
  refine r_aload_n C dL_law_1569 (i := 1) rfl rfl ?_
  refine r_aload_n C dL_law_1570 (i := 0) rfl rfl ?_
  refine r_iload C dL_law_1571 rfl ?_
  refine r_iconst C dL_law_1573 ?_
  refine r_iadd C dL_law_1574 ?_
  refine r_ialdS C dL_law_1575 (by omega) (by omega) (by omega) ?_
  rw [← ev1]
  refine r_aload_n C dL_law_1576 (i := 3) rfl rfl ?_
  refine r_callSX C (As := [vr x, vi v1, vr o]) dL_law_1577 sL_175 (fun v hv => by simp only [List.mem_cons, List.not_mem_nil, or_false] at hv; rcases hv with z | z | z <;> (rw [z]; rfl)) (Nat.le_of_ble_eq_true rfl) (c1 := 1) (s1 := 6) (by omega) (by omega) (aM_mono _ _ _ _ _ _ _ _ _ _ _ (C_L_walk w3 Zs O hv1 ) (fun vv H1 hvv9 => ?_) (fun _ _ z => z.elim))
  obtain ⟨kk, wv, g1, A1, u1, hc1, ho1, rfl, w4, Z1, O1, cnd, y0, yn⟩ := hvv9
  refine r_istore C dL_law_1580 (Nat.le_of_ble_eq_true rfl) ?_
  dsimp only [List.set]
  refine r_aload_n C dL_law_1582 (i := 2) rfl rfl ?_
  refine r_aload_n C dL_law_1583 (i := 0) rfl rfl ?_
  refine r_iload C dL_law_1584 rfl ?_
  refine r_iconst C dL_law_1586 ?_
  refine r_iadd C dL_law_1587 ?_
  refine r_ialdS C dL_law_1588 (by omega) (by omega) (by omega) ?_
  rw [← ev1]
  have qm : q ∈ hD H1 := (w4.1 q).mpr (Or.inr (Or.inl R.1.1))
  have qk : hK H1 q = 7 := (w4.2.2.2.2.1 q R.1.1).1.trans R.1.2
  refine r_callV C (As := [vi v1]) dL_law_1589 sL_177 (fun v hv => by rw [List.mem_singleton.mp hv]; rfl) (ci := 6) (by decide) rfl qm qk (Nat.le_of_ble_eq_true rfl) (c1 := 0) (s1 := 0) (Nat.zero_le _) (Nat.zero_le _) (aM_w w4.r (C_X5_walk R B hv1 (fun c z h2 g2 cnd2 y02 yn2 R2 H2 X2 => ?_)))
  have w5 := w4.r2 X2
  rw [← hs] at y02
  have ek : kk = c := c1_eq cnd cnd2 Iff.rfl
  have cr := c1_r cnd2
  have e1 : kk = 0 → g1 = s := fun h0 => (y0 h0).2
  have e2 : c = 0 → g2 = s := fun h0 => (y02 h0).2
  have ew : c = 0 → wv = z := fun h0 => by
    rw [(y0 (ek.trans h0)).1, (y02 h0).1]
    exact (wk_c hg v1)
  have E := op_end hs ek e1 yn e2 yn2 (fun h0 => s00) Z1 cr
  have XN : XG (t + 1) g2 := xg_end X (fun h0 => xg_le Xs) e2 yn2
  refine r_istore C dL_law_1592 (Nat.le_of_ble_eq_true rfl) ?_
  dsimp only [List.set]
  refine r_aload_n C dL_law_1594 (i := 2) rfl rfl ?_
  have qm2 : q ∈ hD H2 := (w5.1 q).mpr (Or.inr (Or.inl R2.1.1))
  have qk2 : hK H2 q = 7 := (w5.2.2.2.2.1 q R2.1.1).1.trans R2.1.2
  refine r_callV C (As := []) dL_law_1595 sL_101 (fun v hv => by cases hv) (ci := 6) (by decide) rfl qm2 qk2 (Nat.le_of_ble_eq_true rfl) (c1 := 0) (s1 := 0) (Nat.zero_le _) (Nat.zero_le _) (aM_w w5.r (C_X5_thrown R2 (fun H3 X3 => ?_)))
  have w6 := w5.r2 X3
  rw [E.1]
  refine r_iload C dL_law_1598 rfl ?_
  refine r_ic_eq C dL_law_1600 (t := 1605) (by decide) ⟨by omega, by omega⟩ ⟨by omega, by omega⟩ (fun e9 => ?_) (fun e9 => absurd ek.symm e9)
  refine r_iload C dL_law_1605 rfl ?_
  refine r_if_ne C dL_law_1607 (t := 1622) (by decide) ⟨by omega, by omega⟩ (fun e8 => ?_) (fun e8 => ?_)
  · skip
    refine r_goto C dL_law_1622 (t := 1625) (by decide) ?_
    exact K _ _ _ _ ⟨A1, u1, hc1, h2, ho1, wv, w6, E.2, R2, O1, XN⟩ _ _ (by omega) (by omega)
  · skip
    refine r_aload_n C dL_law_1610 (i := 3) rfl rfl ?_
    refine r_iconst C dL_law_1611 ?_
    have c0 : c = 0 := ek.symm.trans e8
    have om : o ∈ hD H3 := (w6.1 o).mpr (Or.inr (Or.inr O1.1))
    have oq := w6.2.2.2.2.2 o O1.1
    refine r_lald C dL_law_1612 om (oq.1.trans O1.2.1) (by decide) (by rw [oq.2.1, O1.2.2.1]; decide) (by decide) ?_
    rw [show hI H3 o 0 = wv from (oq.2.2.1 0).trans O1.2.2.2, ew c0]
    refine r_iload C dL_law_1613 rfl ?_
    have hzr : inR z := by rw [(y02 c0).1]; exact wk_rg B _
    refine r_i2l C dL_law_1615 hzr ?_
    refine r_lcmp C dL_law_1616 (hzr) (hzr) ?_
    rw [if_pos rfl]
    refine r_if_eq C dL_law_1617 (t := 1622) (by decide) inR0 (fun _ => ?_) (fun e7 => absurd rfl e7)
    refine r_goto C dL_law_1622 (t := 1625) (by decide) ?_
    exact K _ _ _ _ ⟨A1, u1, hc1, h2, ho1, wv, w6, E.2, R2, O1, XN⟩ _ _ (by omega) (by omega)
