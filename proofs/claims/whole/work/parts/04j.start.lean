/-! ===== the law's start ===== -/
theorem exact_ref {args : Array Value} {s : State} {t : Term} {cls : String} (h : (Cond.exactly t cls).before args s = true) : ∃ a, t.eval args s none [] s = some (.ref a) := by
  obtain ⟨a, _, _, _, h1, -⟩ := Cond.exactly_spec h
  exact ⟨a, h1⟩
theorem arr_prim {args : Array Value} {s : State} {ty : FieldType} (h : (Cond.arrayClass ty).before args s = true) (hne : ∀ C, ty ≠ .object C) : ∃ cA : ClassId, ArrOfT s cA ty ∧ va_RA s cA ty := by
  obtain ⟨cA, kA, comp, h1, h2, h3⟩ := Cond.arrayClass_spec h
  refine ⟨cA, fun n z => ⟨fun k h => (by cases h), kA, h2, comp, h3⟩, ?_⟩
  cases ty with
  | object C => exact absurd rfl (hne C)
  | _ => exact h1
theorem arr_obj {args : Array Value} {s : State} {C : String} (h : (Cond.arrayOver (.object C)).before args s = true) : ∃ cA : ClassId, ArrOfT s cA (.object C) ∧ va_RA s cA (.object C) := by
  obtain ⟨comp, cA, kA, h1, -, h2, h3, h4⟩ := Cond.arrayOver_spec h
  exact ⟨cA, fun n z => ⟨fun k h => (by cases h), kA, h2, comp, h3⟩, kA, comp, h2, h3, h1, h4⟩
theorem strs_ok {args : Array Value} {s : State} (hw : ∀ w ∈ lw_tbl, w.before args s = true) (hs : ∀ w ∈ flatC (Jvm.Cond.and given_1 narrow_1), w.before args s = true) : ∀ q ∈ strs, ∃ sa, vk_R q.1 q.2.1 q.2.2 sa s := by
  have key : ∀ (own : String) (k : Nat) (tx : String), Cond.stringRef own k tx ∈ lw_tbl → Cond.exactly (.string own k) "java/lang/String" ∈ flatC (Jvm.Cond.and given_1 narrow_1) → ∃ sa, vk_R own k tx sa s := by
    intro own k tx h1 h2
    obtain ⟨sa, e⟩ := exact_ref (hs _ h2)
    exact ⟨sa, vk_R.of (hw _ h1) e⟩
  unfold strs
  exact List.forall_mem_cons.mpr ⟨key "BlockFleet" 249 "no such rack" (tbl1 133 (by decide +kernel)) (by decide +kernel), List.forall_mem_cons.mpr ⟨key "BlockFleet" 39 "room is 1 to 12" (tbl1 169 (by decide +kernel)) (by decide +kernel), List.forall_mem_cons.mpr ⟨key "BlockFleet" 50 "there are 8 nodes" (tbl1 189 (by decide +kernel)) (by decide +kernel), List.forall_mem_cons.mpr ⟨key "BlockFleet" 239 "no such node" (tbl2 94 (by decide +kernel)) (by decide +kernel), List.forall_mem_cons.mpr ⟨key "BlockFleet" 241 "no such piece" (tbl2 120 (by decide +kernel)) (by decide +kernel), List.forall_mem_cons.mpr ⟨key "BlockFleet" 247 "no such cell" (tbl2 125 (by decide +kernel)) (by decide +kernel), List.forall_mem_cons.mpr ⟨key "BlockFleet" 92 "the node has no such cell" (tbl2 134 (by decide +kernel)) (by decide +kernel), List.forall_mem_cons.mpr ⟨key "BlockFleet" 100 "the limit is 0 to 3" (tbl2 151 (by decide +kernel)) (by decide +kernel), List.forall_mem_cons.mpr ⟨key "BlockFleet" 102 "seconds are 1 to 100" (tbl2 159 (by decide +kernel)) (by decide +kernel), List.forall_mem_cons.mpr ⟨key "BlockFleet" 104 "the second would be above 3000" (tbl2 160 (by decide +kernel)) (by decide +kernel), List.forall_mem_cons.mpr ⟨key "BlockFleet" 289 "there are 20 files" (tbl3 79 (by decide +kernel)) (by decide +kernel), List.forall_mem_cons.mpr ⟨key "BlockFleet" 243 "no such file" (tbl3 115 (by decide +kernel)) (by decide +kernel), List.forall_mem_cons.mpr ⟨key "BlockFleet" 253 "the file is not there" (tbl3 119 (by decide +kernel)) (by decide +kernel), List.forall_mem_cons.mpr ⟨key "BlockFleet" 142 "the file is not deleted" (tbl3 134 (by decide +kernel)) (by decide +kernel), List.forall_mem_cons.mpr ⟨key "BlockFleet" 251 "a number is 0 to 999" (tbl3 145 (by decide +kernel)) (by decide +kernel), List.forall_mem_cons.mpr ⟨key "BlockFleet" 300 "the piece cannot be written" (tbl3 165 (by decide +kernel)) (by decide +kernel), List.forall_mem_cons.mpr ⟨key "BlockFleet" 302 "the file would have 7 pieces" (tbl3 170 (by decide +kernel)) (by decide +kernel), List.forall_mem_cons.mpr ⟨key "BlockFleet" 255 "there would be 61 pieces" (tbl3 175 (by decide +kernel)) (by decide +kernel), List.forall_mem_cons.mpr ⟨key "BlockFleet" 311 "a new piece finds no place" (tbl3 215 (by decide +kernel)) (by decide +kernel), List.forall_mem_cons.mpr ⟨key "BlockFleet" 245 "no such place in the file" (tbl3 223 (by decide +kernel)) (by decide +kernel), List.forall_mem_cons.mpr ⟨key "BlockFleet" 166 "the primary has not so many cells" (tbl4 12 (by decide +kernel)) (by decide +kernel), List.forall_mem_cons.mpr ⟨key "BlockFleet" 201 "what is 0 to 5" (tbl4 55 (by decide +kernel)) (by decide +kernel), List.forall_mem_cons.mpr ⟨key "BlockFleet" 205 "no such copy" (tbl4 63 (by decide +kernel)) (by decide +kernel), List.forall_mem_cons.mpr ⟨key "BlockFleet" 208 "what is 0 to 2" (tbl4 71 (by decide +kernel)) (by decide +kernel), List.forall_mem_cons.mpr ⟨key "BlockFleet" 223 "what is 0 to 3" (tbl4 100 (by decide +kernel)) (by decide +kernel), List.forall_mem_nil _⟩⟩⟩⟩⟩⟩⟩⟩⟩⟩⟩⟩⟩⟩⟩⟩⟩⟩⟩⟩⟩⟩⟩⟩⟩
set_option maxRecDepth 100000 in
set_option maxHeartbeats 4000000 in
theorem gl_start {p : Program} {s : State} {m : MethodId} {meth : Method} {c : Code} (l : Launch) (hflags : l.flags = flags0) {b L : Nat} {xs : Nat → Int32} (hL : L ≤ 2560) (C0 : lw_At p s m meth c b L xs) : ∃ (D : va_G) (cy : Nat → ClassId) (t0 mi : Nat), Gl l s #[Value.ref b] D cy (t0, b, L, (fun j => (xs j).toInt), mi) := by
  obtain ⟨hx, hb, hr, hml, hown, hw, hX, hbl, hlocks, hgv⟩ := C0
  have hs := flat_of_before _ hgv
  have hts : ∀ w ∈ tb, w.before #[Value.ref b] s = true := fun w h => hw w (List.mem_filter.mp h).1
  have hA : ∀ a : Nat, a < s.heap.size → ¬ aB s a := fun a h => Nat.not_le.mpr h
  have hk : ∀ ci, ∃ (cC : ClassId) (iS : Nat → Nat), ci < 7 → u_Kn s (cNm ci) (fT ci) (nF ci) cC iS := by
    intro ci
    by_cases h : ci < 7
    · obtain ⟨cC, iS, q⟩ := u_known hts (in_at h) (hts _ (inst_at h))
      exact ⟨cC, iS, fun _ => q⟩
    · exact ⟨0, fun _ => 0, fun q => absurd q h⟩
  obtain ⟨cI, i1, i2⟩ := arr_prim (hts _ ac_int) (fun C h => by cases h)
  obtain ⟨cZ, z1, z2⟩ := arr_prim (hts _ ac_boolean) (fun C h => by cases h)
  obtain ⟨cJ, j1, j2⟩ := arr_prim (hts _ ac_long) (fun C h => by cases h)
  obtain ⟨cO, o1, o2⟩ := arr_obj (hw _ ao_obj)
  obtain ⟨cC, c1, c2⟩ := arr_obj (hw _ ao_copy)
  have hlen := va_eqt (hs (.eq (.length (.static RJx4a65c sDef "[Ljava/lang/Object;")) (.int 0)) (by decide +kernel))
  obtain ⟨t0, ht0, hT⟩ := va_Tof (N := 0) (f := fun _ => Value.null) (A := aB s) (by decide) (hs (.arrayOf (.static RJx4a65c sDef "[Ljava/lang/Object;") (.object "java/lang/Object")) (by decide +kernel)) hlen (fun j hj => absurd hj (Nat.not_lt_zero j)) hA
  obtain ⟨mi, hmi⟩ : ∃ mi : Nat, va_Mi "[Ljava/lang/Object;" mi s := va_Mi.of (hs _ (by decide +kernel))
  refine ⟨(fun ci => Classical.choose (hk ci), fun ci => Classical.choose (Classical.choose_spec (hk ci))), (fun k => match k with | 0 => cI | 1 => cZ | 2 => cJ | 3 => cO | _ => cC), t0, mi, ?_, hw, ⟨?_, ?_⟩, ?_, hT, ?_, hbl, ?_, strs_ok hw hs, ?_, ?_, ?_⟩
  · unfold Launch.stackTraces
    rw [hflags]
    decide +kernel
  · intro ci q hq
    have hci : ci < 7 := (List.getElem?_eq_some_iff.mp hq).1
    rw [vcl_at hci] at hq
    cases hq
    exact Classical.choose_spec (Classical.choose_spec (hk ci)) hci
  · intro k q hq
    match k, hq with
    | 0, hq => cases hq; exact ⟨i1, i2⟩
    | 1, hq => cases hq; exact ⟨z1, z2⟩
    | 2, hq => cases hq; exact ⟨j1, j2⟩
    | 3, hq => cases hq; exact ⟨o1, o2⟩
    | 4, hq => cases hq; exact ⟨c1, c2⟩
    | k + 5, hq => cases hq
  · exact va_Zof (hw _ (tbl1 43 (by decide +kernel))) (hts _ (ini_at (ci := 0) (by decide))) ht0 hA
  · obtain ⟨scr, h1, h2, h3, h4, h5⟩ := hX
    exact ⟨scr, h1, h2, h3, h4, fun j hj => by rw [h5 j hj]; show _ = some (Value.int (zI (xs j).toInt)); rw [zI_of]⟩
  · refine ⟨?_, hmi⟩
    show L < 1000000
    omega
  · exact vx_Zqof (hw _ (tbl1 119 (by decide +kernel))) (hw _ (tbl1 6 (by decide +kernel))) (hs _ (by decide +kernel)) hA
  · exact vx_Zqof (hw _ (tbl1 121 (by decide +kernel))) (hw _ (tbl1 6 (by decide +kernel))) (hs _ (by decide +kernel)) hA
  · unfold exP
    exact List.forall_mem_cons.mpr ⟨va_Nc.of (hs _ (by decide +kernel)), List.forall_mem_cons.mpr ⟨va_Nc.of (hs _ (by decide +kernel)), List.forall_mem_cons.mpr ⟨va_Nc.of (hs _ (by decide +kernel)), List.forall_mem_nil _⟩⟩⟩
/-- the law as a plain method -/
abbrev mLaw : MI := (⟨RL, "law", "([I)Z"⟩, code, 7, ret, none)
def hp0 : Hp := ([], fun _ => 0, fun _ => 0, fun _ _ => 0, fun _ _ => none)
/-- the law's whole walk, said of plain heaps -/
theorem law_start {p : Program} {e : Env} {s : State} {m : MethodId} {below : List Frame} {meth : Method} {c : Code} (l : Launch) (hflags : l.flags = flags0) {b L : Nat} {xs : Nat → Int32} (hL : L ≤ 2560) (C0 : lw_At p s m meth c b L xs)
    (hrun : ∀ t0 mi : Nat, aM (t0, b, L, (fun j => (xs j).toInt), mi) 14 mLaw [vr b] hp0 601024 7293034 (fun v _ => v = some (vi 1)) (fun _ _ => False)) : W p l e room_1 s m #[Value.ref b] below meth c s.heap [] 0 0 (lw_Z below #[Value.ref b] s) (entryFrame m ([Value.ref b] : List Value).toArray 7) := by
  obtain ⟨D, cy, t0, mi, hG⟩ := gl_start l hflags hL C0
  obtain ⟨hx, hb, hr, hml, hown, hw, hX, hbl, hlocks, hgv⟩ := id C0
  have h0 : ∀ (k : Nat) (q : Nat × va_E), (va_pl (hD hp0) (cellE cy hp0))[k]? = some q → False := by
    intro k q h
    simp [va_pl, hD, hp0] at h
  have hR0 : Rel s D cy hp0 s.heap := ⟨fun k q h => absurd (h0 k q h) id, ⟨fun i j p q h => absurd (h0 i p h) id, fun k q h => absurd (h0 k q h) id⟩, Nat.le_refl _, fun _ _ => rfl⟩
  have C : Cx p l e s m meth c s #[Value.ref b] D cy (t0, b, L, (fun j => (xs j).toInt), mi) mLaw := ⟨hG, hx, hb, hml, hown, State.WarmedH.refl s, Nat.le_refl _, fun _ _ => rfl, hlocks, fun q => absurd q (by decide), hr, fun q => absurd rfl q⟩
  refine entry_go (As := [vr b]) (h := hp0) (D := D) (cy := cy) (s0 := s) (c1 := 601024) (s1 := 7293034) rfl (Nat.le_of_ble_eq_true rfl) (noL_of (fun v hv => by rw [List.mem_singleton.mp hv]; rfl)) hR0 (Nat.le_refl _) (Nat.le_refl _) ?_
  refine hrun t0 mi _ ⟨cl1 hx hb, cl2 hx hb, cl3 hx hb, cl4 C ?_ ?_ rfl, cl5 C, cl6 C (snd hG 13) ?_ (Nat.le_refl _) (Nat.le_refl _) rfl, cl7 C ?_ ?_ rfl, ?_⟩
  · exact Nat.le_of_ble_eq_true rfl
  · exact Nat.le_of_ble_eq_true rfl
  · intro pc ls cc ss E h' hq
    exact absurd hq id
  · exact Nat.le_of_ble_eq_true rfl
  · exact Nat.le_of_ble_eq_true rfl
  · refine ⟨?_, ?_, ?_, ?_, ?_⟩
    · intro pc ls h c0 s1 v hd hty hq H locs cells slots lsA hR hS hc hs hn hnl hl
      have ev : v = 1 := by
        have := Option.some.inj hq
        exact Sum.inl.inj this
      subst ev
      refine va_forget (fun q hq => hS.2.2 q hq) ?_
      refine W.widen (k := 601024) (n := 7293034) (by have : cells + c0 ≤ 601024 := hc; omega) (by have : slots + s1 ≤ 7293034 := hs; omega) ?_
      exact lw_ret hx hb hr hlocks hd
    · intro pc ls h c0 s1 r ty hd hty hrt hq
      exact absurd (Option.some.inj hq) (by intro z; cases z)
    · intro pc ls h c0 s1 hd hty hq
      cases hq
    · intro pc ls st h c0 s1 E hthr hno h6 hst h1 h2 hq
      exact absurd hq id
    · intro pc ls st h c0 s1 c1 s2 h1 h2 hq H locs cells slots lsA hR hS hc hs hn hnl hl
      exact hq H locs cells slots lsA hR hS (by omega) (by omega) hn hnl hl
