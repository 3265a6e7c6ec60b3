/-! ===== the library's own, ends ===== -/
theorem mx1 : Cond.static Lib.Math.max.name ∈ tb := tbm1 203 (by decide +kernel) (by decide +kernel)
theorem mx2 : Cond.initialized "java/lang/Math" ∈ tb := tbm1 13 (by decide +kernel) (by decide +kernel)
theorem mx3 : Cond.code Lib.Math.max.name Lib.Math.max.code 2 (some .int) ∈ tb := tbm1 204 (by decide +kernel) (by decide +kernel)
theorem mn1 : Cond.static Lib.Math.min.name ∈ tb := tbm2 76 (by decide +kernel) (by decide +kernel)
theorem mn3 : Cond.code Lib.Math.min.name Lib.Math.min.code 2 (some .int) ∈ tb := tbm2 77 (by decide +kernel) (by decide +kernel)
theorem cp1 : Cond.native arraycopyName ∈ tb := tbm2 80 (by decide +kernel) (by decide +kernel)
theorem cp2 : Cond.static arraycopyName ∈ tb := tbm2 79 (by decide +kernel) (by decide +kernel)
theorem cp3 : Cond.initialized "java/lang/System" ∈ tb := tbm1 17 (by decide +kernel) (by decide +kernel)
section SND
variable {p : Program} {l : Launch} {e : Env} {R : Room} {s s0 : State} {m : MethodId} {args a0 : Array Value} {below : List Frame} {meth : Method} {c : Code} {Q : State → Prop} {D : va_G} {cy : Nat → ClassId} {gx : GX} {M : MI} {nL : Nat}
theorem cellE_cp_ne {h : Hp} {x y b : Nat} {sp dp n : Int} (hb : b ≠ y) : cellE cy (hCp h x sp y dp n) b = cellE cy h b := by
  have e : ∀ j, hP (hCp h x sp y dp n) b j = hP h b j := fun j => by show (if b = y ∧ dp ≤ j ∧ j < dp + n then _ else _) = _; rw [if_neg (fun q => hb q.1)]; rfl
  unfold cellE
  simp only [show hK (hCp h x sp y dp n) = hK h from rfl, show hN (hCp h x sp y dp n) = hN h from rfl, show hI (hCp h x sp y dp n) = hI h from rfl, fldV, e]
theorem cast_asg (hts : ∀ w ∈ tb, w.before args s = true) {a b : String} (h : Cond.castable a b ∈ tb) : ∀ comp c0 : ClassId, s.vm.findClass b = some comp → s.vm.findClass a = some c0 → s.vm.assignable c0 comp = true := by
  intro comp c0 h1 h2
  obtain ⟨x, y, e1, e2, e3⟩ := Cond.castable_spec (hts _ h)
  cases e1.symm.trans h2
  cases e2.symm.trans h1
  exact e3
theorem cl7 (C : Cx p l e s m meth c s0 a0 D cy gx M) (hfr : 1 ≤ R.frames) (hlo : 41 ≤ R.locals) (hml : nL = M.2.2.1) : Cl7 M (JW p l e R s m args below meth c Q s0 D cy nL) := by
  obtain ⟨hx, hb, hmx, hown, hW, hsz, hbel, hlk, hnm, hret, htab⟩ := C.2
  have hts : ∀ w ∈ tb, w.before args s = true := C.hts
  have hKK := C.K
  refine ⟨?_, ?_, ?_⟩
  · intro pc ls st h c0 s1 ix x y hd hw h1 h2 hst kk H locs cells slots lsA hR hS hc hs hn hnl hl
    have q := kk H locs cells slots lsA hR hS hc hs hn hnl hl
    have hcs := cat_sum st
    refine va_mmax hx hb (by rw [hmx, ← hml]; exact hl.1.symm) hown (hts _ hw) (hts _ mx1) (hts _ mx2) (hts _ mx3) hfr (by omega) (by omega) (by omega) hd ?_
    have ev : (if zI x < zI y then zI y else zI x) = zI (if x < y then y else x) := by
      by_cases z : x < y
      · rw [if_pos z, if_pos ((zI_lt h1 h2).mpr z)]
      · rw [if_neg z, if_neg (fun z2 => z ((zI_lt h1 h2).mp z2))]
    rw [ev]
    exact q
  · intro pc ls st h c0 s1 ix x y hd hw h1 h2 hst kk H locs cells slots lsA hR hS hc hs hn hnl hl
    have q := kk H locs cells slots lsA hR hS hc hs hn hnl hl
    have hcs := cat_sum st
    refine va_mmin hx hb (by rw [hmx, ← hml]; exact hl.1.symm) hown (hts _ hw) (hts _ mn1) (hts _ mx2) (hts _ mn3) hfr (by omega) (by omega) (by omega) hd ?_
    have ev : (if zI y < zI x then zI y else zI x) = zI (if y < x then y else x) := by
      by_cases z : y < x
      · rw [if_pos z, if_pos ((zI_lt h2 h1).mpr z)]
      · rw [if_neg z, if_neg (fun z2 => z ((zI_lt h2 h1).mp z2))]
    rw [ev]
    exact q
  · intro pc ls st h c0 s1 ix b0 b1 sp dp n hd hw ha0 hk0 ha1 hk1 g1 g2 g3 g4 g5 g6 g7 hel hst kk H locs cells slots lsA hR hS hc hs hn hnl hl
    have hcs := cat_sum st
    obtain ⟨k0, e1, e2⟩ := hR.at ha0 (cellE_13 hk0)
    obtain ⟨k1, e3, e4⟩ := hR.at ha1 (cellE_13 hk1)
    have neg : ∀ z : Int, 0 ≤ z → z < 2147483648 → ¬ zI z < 0 := fun z z0 z1 => by rw [zI_0, zI_lt ⟨by omega, z1⟩ inR0]; omega
    have c1 := zI_cl g1 (by omega)
    have c2 := zI_cl g2 (by omega)
    have c3 := zI_cl g3 (by omega)
    refine va_copyM hx hb (by rw [hmx, ← hml]; exact hl.1.symm) hown (hts _ hw) (hts _ cp1) (hts _ cp2) (hts _ cp3) hKK hR.1 hR.2.1 hS k0 k1 3 3 e2 e4 rfl rfl (neg sp g1 (by omega)) (neg dp g2 (by omega)) (neg n g3 (by omega)) (by rw [c1, c3]; omega) (by rw [c2, c3]; omega) ?_ hfr ?_ hd (fun H1 locs1 P1 D1 S1 => kk H1 locs1 cells slots lsA (hR.upd (h2 := hCp h b0 sp b1 dp n) ha1 e3 rfl ?_ (fun b hb => cellE_cp_ne hb) P1 D1 S1 hsz hbel) S1 hc hs hn hnl hl)
    · intro i hi y hy
      rw [c3] at hi
      rw [c1] at hy
      obtain ⟨hyd, ci, hci, hky, hcast⟩ := hel (i : Int) (by omega) (by omega) y (by rw [← hy]; show _ = hP h b0 ((sp.toNat + i : Nat) : Int); congr 1; omega)
      obtain ⟨k2, e5, e6⟩ := hR.at hyd (cellE_obj hky hci)
      exact va_rAny hKK hR.1 e6 (vcl_at hci) (cast_asg hts hcast)
    · show ((st.map tv).map fun v => v.category).sum + (7 + 11) ≤ R.locals
      omega
    · rw [cellE_13 (h := hCp h b0 sp b1 dp n) hk1]
      congr 1
      congr 1
      show ((hN h b1, Sum.inr (Sum.inr (Sum.inr (Sum.inr (fun j : Nat => hP (hCp h b0 sp b1 dp n) b1 j))))) : vp_A) = (hN h b1, _)
      congr 5
      funext j
      show (if b1 = b1 ∧ dp ≤ (j : Int) ∧ (j : Int) < dp + n then hP h b0 (sp + ((j : Int) - dp)) else hP h b1 j) = va_cpy (fun j : Nat => hP h b0 j) (fun j : Nat => hP h b1 j) (zI sp).toNatClampNeg (zI dp).toNatClampNeg (zI n).toNatClampNeg j
      unfold va_cpy
      rw [c1, c2, c3]
      by_cases z : dp ≤ (j : Int) ∧ (j : Int) < dp + n
      · rw [if_pos ⟨rfl, z⟩, if_pos (by omega)]
        congr 1
        omega
      · rw [if_neg (fun q => z q.2), if_neg (by omega)]
/-- no table: a throw goes out -/
theorem out_none {Qr : Option AV → Hp → Prop} {Qx : String → Hp → Prop} (C : Cx p l e s m meth c s0 a0 D cy gx M) (hno : M.2.2.2.2 = none) (hlw : M.1.name ≠ "law") : Out p l e R s m args below meth c (vx_MQ below (QcA s0 D cy Qr) (XCA s0 D cy Qx) args s R.cells R.slots (aB s0)) s0 D cy M nL Qx := by
  obtain ⟨hx, hb, hmx, hown, hW, hsz, hbel, hlk, hnm, hret, htab⟩ := C.2
  have htab := htab hlw
  intro pc ls cc ss E h' hq H1 locs1 cells slots lsA rest q9 ce hR hS hc hs hn hnl hl hce hcv hcl
  unfold cat0 at hq
  rw [hno] at hq htab
  have htab : c.exceptionTable.toList = [] := htab
  refine vx_out (fun x hxx => by rw [htab] at hxx; cases hxx) hlk hce hcv hcl (fun t ht hal => ⟨h', hq, by rw [ht]; exact hR, hS.F ht⟩) hS.2.2 (by omega) (by omega)
/-- a table: the row that takes it -/
theorem out_some {Qx : String → Hp → Prop} {hh : List (Nat × Nat × Nat × Nat)} (C : Cx p l e s m meth c s0 a0 D cy gx M) (hso : M.2.2.2.2 = some hh) (hlw : M.1.name ≠ "law") : Out p l e R s m args below meth c Q s0 D cy M nL Qx := by
  obtain ⟨hx, hb, hmx, hown, hW, hsz, hbel, hlk, hnm, hret, htab⟩ := C.2
  have htab := htab hlw
  have hts : ∀ w ∈ tb, w.before args s = true := C.hts
  intro pc ls cc ss E h' hq H1 locs1 cells slots lsA rest q9 ce hR hS hc hs hn hnl hl hce hcv hcl
  unfold cat0 at hq
  rw [hso] at hq htab
  obtain ⟨pre, x, suf, nm, rfl, hpre, hx1, hx2, hx3, hlk2, hcast, hJ⟩ := hq
  have htab : c.exceptionTable.toList = tableOf (pre ++ x :: suf) := htab
  have hT : ∀ z : Nat × Nat × Nat × Nat, ExceptionTableEntry := fun z => ⟨z.1, z.2.1, z.2.2.1, z.2.2.2⟩
  refine vx_catch (own := M.1.cls) (name := nm) (E := E) hown (tableOf pre) ⟨x.1, x.2.1, x.2.2.1, x.2.2.2⟩ (tableOf suf) (by rw [htab]; unfold tableOf; rw [List.map_append]; rfl) ?_ ?_ hx3 (hts _ hlk2) (hts _ hcast) hce hcv hcl ?_
  · intro z hz
    obtain ⟨y, hy, rfl⟩ := List.mem_map.mp hz
    obtain ⟨h1, n2, h2, h3⟩ := hpre y hy
    exact Or.inr ⟨h1, n2, hts _ h2, va_Nc.moved hW.alike (C.1.2.2.2.2.2.2.2.2.2.2.2 (E, n2) h3)⟩
  · simp only [covers, Bool.and_eq_true, decide_eq_true_eq]
    exact ⟨hx1, hx2⟩
  · exact hJ q9 H1 locs1 cells slots lsA hR hS hc hs hn hnl hl
theorem rt_of {ty : FieldType} (h : isRT ty = true) : (∃ n, ty = .object n) ∨ ∃ t, ty = .array t := by
  cases ty <;> first | exact Or.inl ⟨_, rfl⟩ | exact Or.inr ⟨_, rfl⟩ | cases h
theorem cl8 {d : Nat} {Qr : Option AV → Hp → Prop} {Qx : String → Hp → Prop} (C : Cx p l e s m meth c s0 a0 D cy gx M) (hfr : d ≤ R.frames) (hlo : 41 * d ≤ R.locals) (hml : nL = M.2.2.1) (hlw : M.1.name ≠ "law") :
    Cl8 d M Qr Qx (JW p l e R s m args below meth c (vx_MQ below (QcA s0 D cy Qr) (XCA s0 D cy Qx) args s R.cells R.slots (aB s0)) s0 D cy nL) := by
  obtain ⟨hx, hb, hmx, hown, hW, hsz, hbel, hlk, hnm, hret, htab⟩ := C.2
  have htab := htab hlw
  have hts : ∀ w ∈ tb, w.before args s = true := C.hts
  refine ⟨?_, ?_, ?_, ?_, ?_⟩
  · intro pc ls h c0 s1 x hd hty hq H locs cells slots lsA hR hS hc hs hn hnl hl
    refine W.widen (k := R.cells) (n := R.slots) (by omega) (by omega) (vx_ret ?_)
    have fin : ∀ t : State, t.heap = H → s.WarmedH t.vm → QcA s0 D cy Qr args s (.returned (some (.int (zI x)))) t := fun t ht _ => ⟨some (vi x), h, rfl, hq, by rw [ht]; exact hR, hS.F ht⟩
    rcases hty with hty | ⟨hty, hx01⟩
    · exact W.iret (v := zI x) hx hb (by rw [hret, hty]) fin hS.2.2 hd hlk
    · exact W.zret (v := zI x) (ty := .boolean) hx hb (by rw [hret, hty]) (by rcases hx01 with rfl | rfl <;> rfl) fin hS.2.2 hd hlk
  · intro pc ls h c0 s1 r ty hd hty hrt hq H locs cells slots lsA hR hS hc hs hn hnl hl
    refine W.widen (k := R.cells) (n := R.slots) (by omega) (by omega) (vx_ret ?_)
    exact W.aret (v := va_rf r) (rt := ty) hx hb (by rw [hret, hty]) (rt_of hrt) (by cases r; exact Or.inl rfl; exact Or.inr ⟨_, rfl⟩) (fun t ht _ => ⟨some (vq r), h, rfl, hq, by rw [ht]; exact hR, hS.F ht⟩) hS.2.2 hd hlk
  · intro pc ls h c0 s1 hd hty hq H locs cells slots lsA hR hS hc hs hn hnl hl
    refine W.widen (k := R.cells) (n := R.slots) (by omega) (by omega) (vx_ret ?_)
    exact W.vret hx hb (by rw [hret, hty]) (fun t ht _ => ⟨none, h, rfl, hq, by rw [ht]; exact hR, hS.F ht⟩) hS.2.2 hd hlk
  · intro pc ls st h c0 s1 E hthr hno h6 hst h1 h2 hq H locs cells slots lsA hR hS hc hs hn hnl hl
    obtain ⟨ik, is, ic, tx, hfit, hstr, hlnk, hini, hat, d0, d3, d49⟩ := hthr
    have hcs := cat_sum st
    obtain ⟨sa, hsa⟩ := C.1.2.2.2.2.2.2.2.2.1 _ hstr
    have hU := C.1.2.2.2.2.2.2.2.2.2.1
    have hN := C.1.2.2.2.2.2.2.2.2.2.2.1
    have hg : ∀ w ∈ Cond.classLink M.1.cls ik E :: Cond.initialized E :: vx_atS M.1.cls ic E exN, vx_ot w = true := by
      intro w hw
      have hk : okW w = true := by
        rcases List.mem_cons.mp hw with q | hw
        · rw [q]; exact (List.mem_filter.mp hlnk).2
        · rcases List.mem_cons.mp hw with q | hw
          · rw [q]; exact (List.mem_filter.mp hini).2
          · exact (List.mem_filter.mp (hat w hw)).2
      unfold okW at hk
      unfold vx_ot
      rw [Bool.or_eq_true] at hk ⊢
      rcases hk with hk | hk
      · exact Or.inr hk
      · rw [Bool.and_eq_true] at hk
        exact Or.inl hk.1
    have hout : ∀ (pc9 : Nat), ∀ x ∈ c.exceptionTable.toList, covers x pc9 = false := fun pc9 x hxx => by
      rw [hno] at htab
      have htab : c.exceptionTable.toList = [] := htab
      rw [htab] at hxx; cases hxx
    have hsl : lsA.size = c.maxLocals := by rw [hmx, ← hml]; exact hl.1
    have hXC : ∀ t : State, s.vm.Alike t.vm → H.size ≤ t.heap.size → (∀ q : Nat, q < H.size → t.heap[q]? = H[q]?) → XCA s0 D cy Qx E s t := fun t _ hz hk => by
      refine ⟨h, hq, ⟨hR.1.kept (fun k q hkq => hk q.1 (hR.1 k q hkq).lt), hR.2.1, Nat.le_trans hR.2.2.1 hz, fun q hlt => ?_⟩, ?_⟩
      · rw [hk q (Nat.lt_of_lt_of_le hlt hR.2.2.1)]; exact hR.2.2.2 q hlt
      · refine ⟨Nat.le_trans hS.1 hz, fun q h9 h8 => ?_⟩
        rw [hk q (Nat.lt_of_lt_of_le h9 hS.1)]
        exact hS.2.1 q h9 h8
    have hf8 : exN.length + 3 < R.frames := by show 2 + 3 < R.frames; omega
    have hl8 : ((st.map tv).map fun v => v.category).sum + (13 * (exN.length + 1) + 43) ≤ R.locals := by show _ + (13 * (2 + 1) + 43) ≤ R.locals; omega
    rcases d49 with ⟨d4, d6, d9⟩ | ⟨d4, d6, d9⟩
    · exact vx_throwS (A := aB s0) (sa := sa) hx hb C.1.1 hown hfit (by decide) (hts _ hlnk) (hts _ hini) (vk_R.warm hW hsa) (fun w hw => hts _ (hat w hw)) hg ((hU.moved hW.alike).kept (fun a ha hn => hbel a ha)) ((hN.moved hW.alike).kept (fun a ha hn => hbel a ha)) hS hsl d0 d3 d4 d6 d9 (hout _) hf8 hl8 (by omega) (by omega) hlk hXC hS.2.2 (by omega) (by omega)
    · exact vx_throwSW (A := aB s0) (sa := sa) hx hb C.1.1 hown hfit (by decide) (hts _ hlnk) (hts _ hini) (vk_R.warm hW hsa) (fun w hw => hts _ (hat w hw)) hg ((hU.moved hW.alike).kept (fun a ha hn => hbel a ha)) ((hN.moved hW.alike).kept (fun a ha hn => hbel a ha)) hS hsl d0 d3 d4 d6 d9 (hout _) hf8 hl8 (by omega) (by omega) hlk hXC hS.2.2 (by omega) (by omega)
  · intro pc ls st h c0 s1 c1 s2 h1 h2 hq H locs cells slots lsA hR hS hc hs hn hnl hl
    exact hq H locs cells slots lsA hR hS (by omega) (by omega) hn hnl hl
end SND
