/-! ===== calls ===== -/
section SND
variable {p : Program} {l : Launch} {e : Env} {R : Room} {s s0 : State} {m : MethodId} {args a0 : Array Value} {below : List Frame} {meth : Method} {c : Code} {Q : State → Prop} {D : va_G} {cy : Nat → ClassId} {gx : GX} {M : MI} {nL : Nat}
def PcA (s0 : State) (D : va_G) (cy : Nat → ClassId) (As : List AV) (h : Hp) : Array Value → State → Prop := fun v U => v = (As.map tv).toArray ∧ s0.WarmedH U.vm ∧ Rel s0 D cy h U.heap
def QcA (s0 : State) (D : va_G) (cy : Nat → ClassId) (Qr : Option AV → Hp → Prop) : Array Value → State → Outcome → State → Prop := fun _ st o t => ∃ (v : Option AV) (h : Hp), o = .returned (v.map tv) ∧ Qr v h ∧ Rel s0 D cy h t.heap ∧ va_F (aB s0) st t
def XCA (s0 : State) (D : va_G) (cy : Nat → ClassId) (Qx : String → Hp → Prop) : String → State → State → Prop := fun E st t => ∃ h : Hp, Qx E h ∧ Rel s0 D cy h t.heap ∧ va_F (aB s0) st t
abbrev rmD (d c1 s1 : Nat) : Room := { frames := d, cells := c1, slots := s1, locals := 41 * d }
/-- what a method's plain run says of the machine, at depth d -/
def Snd (l : Launch) (s0 : State) (D : va_G) (cy : Nat → ClassId) (gx : GX) (d : Nat) : Prop := ∀ (N : MI) (As : List AV) (h : Hp) (c1 s1 : Nat) (Qr : Option AV → Hp → Prop) (Qx : String → Hp → Prop), okM N → As.length ≤ N.2.2.1 → noLong (As.map some) → aM gx d N As h c1 s1 Qr Qx →
  vx_Met l N.1 [mW N] (rmD d c1 s1) (PcA s0 D cy As h) (QcA s0 D cy Qr) (XCA s0 D cy Qx) c1 s1 (aB s0)
theorem pc_blind {As : List AV} {h : Hp} : FrameBlind (PcA s0 D cy As h) := fun _ _ _ _ q => q
theorem call_go {H : Heap} {locs : List Loc} {cells slots mc ms : Nat} {pc : Nat} {lsA : Array Slot} {st0 rest : List Value} {a : Array Value} {Qr : Option AV → Hp → Prop} {Qx : String → Hp → Prop}
    (hr : vx_Run p l e R s m args below meth c H locs cells slots mc ms (F0 m pc lsA st0) rest (QcA s0 D cy Qr a) (XCA s0 D cy Qx) (aB s0)) (hS : va_S (aB s0) s.heap H locs)
    (kx : ∀ (E : String) (ce : Cell) (q9 : Addr) (h' : Hp) (H1 : Heap) (locs1 : List Loc), Qx E h' → Rel s0 D cy h' H1 → va_S (aB s0) s.heap H1 locs1 → H1[q9]? = some ce → ce.vm = .none → s.vm.findClass E = some ce.cls → vx_W p l e R s m args below meth c H1 locs1 (cells + mc) (slots + ms) Q (F0 m pc lsA rest) q9)
    (kk : ∀ (v : Option AV) (h' : Hp) (H1 : Heap) (locs1 : List Loc), Qr v h' → Rel s0 D cy h' H1 → va_S (aB s0) s.heap H1 locs1 → W p l e R s m args below meth c H1 locs1 (cells + mc) (slots + ms) Q (F0 m (pc + 3) lsA ((v.map tv).toList ++ rest))) :
    W p l e R s m args below meth c H locs cells slots Q (F0 m pc lsA st0) := by
  intro T hT X
  rcases hr T hT X with ⟨v, st₀, t, T', L, h0, X', hL, e1, e2, ⟨w, h', hv, hq, hrl, hF⟩, st⟩ | ⟨q, st₀, t, T', L, E, ce, h0, X', hL, e1, e2, ⟨h', hq, hrl, hF⟩, hce, hcv, hcl, st⟩
  · cases hv
    obtain ⟨k1, k2, k3⟩ := vx_keep h0 e1 hS (fun q _ h => h) (fun q h => h) hL hF
    obtain ⟨t2, a1, b1⟩ := kk w h' T'.heap (locs ++ L) hq (by rw [e1]; exact hrl) k3 T' rfl X'
    exact ⟨t2, st t2 a1, b1⟩
  · obtain ⟨k1, k2, k3⟩ := vx_keep h0 e1 hS (fun q _ h => h) (fun q h => h) hL hF
    obtain ⟨t2, a1, b1⟩ := kx E ce q h' T'.heap (locs ++ L) hq (by rw [e1]; exact hrl) k3 (by rw [e1]; exact hce) hcv hcl T' rfl X'
    exact ⟨t2, st.trans a1, b1⟩
theorem mW_none {N : MI} (h : N.2.2.2.2 = none) : mW N = .code N.1 N.2.1 N.2.2.1 N.2.2.2.1 := by
  unfold mW; rw [h]
theorem cw_b {N : MI} {own : String} {ix n d c1 s1 : Nat} {R' : Room} (hts : ∀ w ∈ tb, w.before args s = true) (hok : okM N) (hno : N.2.2.2.2 = none) (hl : Cond.methodLink own ix N.1 ∈ tb) (hds : (parseMethodDescriptor N.1.desc).map (fun d => d.parameters.length) = some n) (hf : d + 1 ≤ R'.frames) (hlo : 41 * (d + 1) ≤ R'.locals) :
    CallB R' s args own ix N.1 N.2.1 N.2.2.1 N.2.2.2.1 [mW N] (rmD d c1 s1) c1 s1 n := by
  obtain ⟨h1, h2, h3, h4, h5⟩ := hok
  have hw := mW_none hno
  refine ⟨rfl, rfl, hf, (by show 8 + (N.2.2.1 + 11) + 41 * d ≤ R'.locals; omega), ?_, ?_, ?_, hts _ h3, h4, ?_, hts _ hl⟩
  · intro w hm a' U hW
    rw [List.mem_singleton.mp hm, hw]
    have q := hts _ h1
    rw [hw] at q
    exact word_at hW (Or.inl rfl) q
  · rw [hw]; exact List.mem_singleton.mpr rfl
  · have q := hts _ h1
    rw [hw] at q
    exact q
  · intro sig h
    rw [h] at hds
    exact (Option.some.inj hds).symm
theorem noL_of {As : List AV} (h : ∀ v ∈ As, catV v = 1) : noLong (As.map some) := by
  intro j w hj
  rw [List.getElem?_map] at hj
  cases q : As[j]? with
  | none => rw [q] at hj; cases hj
  | some v =>
    rw [q] at hj
    rw [← Option.some.inj (Option.some.inj hj)]
    exact h v (List.mem_of_getElem? q)
/-- where a throw is caught, or goes out -/
def Out (p : Program) (l : Launch) (e : Env) (R : Room) (s : State) (m : MethodId) (args : Array Value) (below : List Frame) (meth : Method) (c : Code) (Q : State → Prop) (s0 : State) (D : va_G) (cy : Nat → ClassId) (M : MI) (nL : Nat) (Qx : String → Hp → Prop) : Prop :=
  ∀ (pc : Nat) (ls : List (Option AV)) (cc ss : Nat) (E : String) (h' : Hp), cat0 M Qx (JW p l e R s m args below meth c Q s0 D cy nL) pc ls cc ss E h' →
    ∀ (H1 : Heap) (locs1 : List Loc) (cells slots : Nat) (lsA : Array Slot) (rest : List Value) (q9 : Addr) (ce : Cell), Rel s0 D cy h' H1 → va_S (aB s0) s.heap H1 locs1 → cells + cc ≤ R.cells → slots + ss ≤ R.slots → ls.length = nL → noLong ls → lv_has lsA nL (lvOf 0 ls) → H1[q9]? = some ce → ce.vm = .none → s.vm.findClass E = some ce.cls → vx_W p l e R s m args below meth c H1 locs1 cells slots Q (F0 m pc lsA rest) q9
theorem aft_go {pc : Nat} {ls : List (Option AV)} {st : List AV} {cc ss c1 s1 : Nat} {v : Option AV} {h' : Hp} (hq : aft (JW p l e R s m args below meth c Q s0 D cy nL) pc ls st (cc - c1) (ss - s1) v h') {H1 : Heap} {locs1 : List Loc} {cells slots : Nat} {lsA : Array Slot} (hR : Rel s0 D cy h' H1) (hS : va_S (aB s0) s.heap H1 locs1) (hc : cells + cc ≤ R.cells) (hs : slots + ss ≤ R.slots) (h1 : c1 ≤ cc) (h2 : s1 ≤ ss) (hn : ls.length = nL) (hnl : noLong ls) (hl : lv_has lsA nL (lvOf 0 ls)) :
    W p l e R s m args below meth c H1 locs1 (cells + c1) (slots + s1) Q (F0 m (pc + 3) lsA ((v.map tv).toList ++ st.map tv)) := by
  cases v with
  | none => exact hq H1 locs1 (cells + c1) (slots + s1) lsA hR hS (by omega) (by omega) hn hnl hl
  | some w => exact hq H1 locs1 (cells + c1) (slots + s1) lsA hR hS (by omega) (by omega) hn hnl hl
theorem room_st {pc : Nat} {lsA : Array Slot} {st0 : List Value} (st : List AV) (h : st.length ≤ 4) : 2 * (F0 m pc lsA st0).monitorRoom + ((st.map tv).map fun v => v.category).sum ≤ 8 := lv_room (by have := cat_sum st; omega)
theorem cl6 {d : Nat} {Qx : String → Hp → Prop} (C : Cx p l e s m meth c s0 a0 D cy gx M) (hSnd : Snd l s0 D cy gx d) (hO : Out p l e R s m args below meth c Q s0 D cy M nL Qx) (hfr : d + 1 ≤ R.frames) (hlo : 41 * (d + 1) ≤ R.locals) (hml : nL = M.2.2.1) : Cl6 (aM gx d) M Qx (JW p l e R s m args below meth c Q s0 D cy nL) := by
  obtain ⟨hx, hb, hmx, hown, hW, hsz, hbel, hlk, hnm, hret, htab⟩ := C.2
  have hts : ∀ w ∈ tb, w.before args s = true := C.hts
  have hKK := C.K
  have hF : CallFix p m c M.2.1 nL s args [] M.1.cls := ⟨hx, hb, by rw [hmx, hml], hown, fun _ h => by cases h⟩
  refine ⟨?_, ?_, ?_, ?_, ?_⟩
  · intro pc ls st h c0 sl ix ci N a As c1 s1 hd hcv hcat hci hcn ha hka hst h1 h2 hcall H locs cells slots lsA hR hS hc hs hn hnl hl
    obtain ⟨hok, hno, hlk1, hin, hse, hds, hle⟩ := hcv
    have hM := hSnd N (vr a :: As) h c1 s1 _ _ hok (by rw [List.length_cons]; omega) (noL_of (fun v hv => (List.mem_cons.mp hv).elim (fun q => by rw [q]; rfl) (hcat v))) hcall
    have hPre : ∀ U : State, U.heap = H → s.WarmedH U.vm → PcA s0 D cy (vr a :: As) h (Value.ref a :: As.map tv).toArray U := fun U hU hWU => ⟨rfl, State.WarmedH.trans hW hWU, by rw [hU]; exact hR⟩
    have est : ((As.reverse ++ vr a :: st).map tv) = (As.map tv).reverse ++ Value.ref a :: st.map tv := by rw [List.map_append, List.map_reverse]; rfl
    have hr := vx_runV (e := e) (below := below) (meth := meth) (H := H) (locs := locs) (cells := cells) (slots := slots) (g := F0 m pc lsA ((As.reverse ++ vr a :: st).map tv)) (rest := st.map tv) (As := As.map tv) hF hM (C := N.1.cls) ⟨cw_b (c1 := c1) (s1 := s1) hts hok hno hlk1 hds hfr hlo, hts _ hin, hts _ hse⟩ ⟨pc_blind, by
      obtain ⟨k0, e1, e2⟩ := hR.at ha (cellE_obj hka hci)
      have q := va_recv hKK hR.1 (vcl_at hci) e2
      rw [show ((cNm ci, fT ci, nF ci) : vw_C).1 = N.1.cls from hcn] at q
      exact q, hPre⟩ rfl (List.length_map _) hl.1 est (room_st st hst) hd ⟨by omega, by omega⟩
    exact call_go hr hS (fun E ce q9 h' H1 locs1 hq hR1 hS1 hce hcv9 hcl => hO pc ls _ _ E h' hq H1 locs1 _ _ lsA _ q9 ce hR1 hS1 (by omega) (by omega) hn hnl hl hce hcv9 hcl) (fun v h' H1 locs1 hq hR1 hS1 => aft_go hq hR1 hS1 hc hs h1 h2 hn hnl hl)
  · intro pc ls st h c0 sl ix N As c1 s1 hd hcv hcat hst h1 h2 hcall H locs cells slots lsA hR hS hc hs hn hnl hl
    obtain ⟨hok, hno, hlk1, hstt, hds, hle⟩ := hcv
    have hM := hSnd N As h c1 s1 _ _ hok (by omega) (noL_of hcat) hcall
    have hPre : ∀ U : State, U.heap = H → s.WarmedH U.vm → PcA s0 D cy As h (As.map tv).toArray U := fun U hU hWU => ⟨rfl, State.WarmedH.trans hW hWU, by rw [hU]; exact hR⟩
    have est : ((As.reverse ++ st).map tv) = (As.map tv).reverse ++ st.map tv := by rw [List.map_append, List.map_reverse]
    have hr := vx_runS (e := e) (below := below) (meth := meth) (H := H) (locs := locs) (cells := cells) (slots := slots) (g := F0 m pc lsA ((As.reverse ++ st).map tv)) (rest := st.map tv) (As := As.map tv) hF hM ⟨cw_b (c1 := c1) (s1 := s1) hts hok hno hlk1 hds hfr hlo, hts _ hstt⟩ ⟨pc_blind, hPre⟩ rfl (List.length_map _) hl.1 est (room_st st hst) hd ⟨by omega, by omega⟩
    exact call_go hr hS (fun E ce q9 h' H1 locs1 hq hR1 hS1 hce hcv9 hcl => hO pc ls _ _ E h' hq H1 locs1 _ _ lsA _ q9 ce hR1 hS1 (by omega) (by omega) hn hnl hl hce hcv9 hcl) (fun v h' H1 locs1 hq hR1 hS1 => aft_go hq hR1 hS1 hc hs h1 h2 hn hnl hl)
  · intro pc ls st h c0 sl ix N As c1 s1 hd hcv hcat hst h1 h2 hcall H locs cells slots lsA hR hS hc hs hn hnl hl
    obtain ⟨hok, hno, hlk1, hstt, hds, hle⟩ := hcv
    have hM := hSnd N As h c1 s1 _ _ hok (by omega) (noL_of hcat) hcall
    have hPre : ∀ U : State, U.heap = H → s.WarmedH U.vm → PcA s0 D cy As h (As.map tv).toArray U := fun U hU hWU => ⟨rfl, State.WarmedH.trans hW hWU, by rw [hU]; exact hR⟩
    have est : ((As.reverse ++ st).map tv) = (As.map tv).reverse ++ st.map tv := by rw [List.map_append, List.map_reverse]
    obtain ⟨hh, hno⟩ := Option.ne_none_iff_exists'.mp hno
    have hw : mW N = .codeWith N.1 N.2.1 N.2.2.1 N.2.2.2.1 hh := by unfold mW; rw [hno]
    have hcode : (Cond.codeWith N.1 N.2.1 N.2.2.1 N.2.2.2.1 hh).before args s = true := by rw [← hw]; exact hts _ hok.1
    have hr := vx_runSX (e := e) (below := below) (meth := meth) (H := H) (locs := locs) (cells := cells) (slots := slots) (g := F0 m pc lsA ((As.reverse ++ st).map tv)) (rest := st.map tv) (As := As.map tv) (bytes := N.2.1) (maxL := N.2.2.1) (ret := N.2.2.2.1) (n := As.length) hF hM (hh := hh) ⟨⟨rfl, rfl, hfr, (by show 8 + (N.2.2.1 + 11) + 41 * d ≤ R.locals; have := hok.2.2.2.2; omega), (fun w hm a' U hWU => by rw [List.mem_singleton.mp hm, hw]; exact word_at hWU (Or.inl rfl) hcode), by rw [hw]; exact List.mem_singleton.mpr rfl⟩, hcode, hts _ hok.2.2.1, hok.2.2.2.1, (fun sig h9 => by rw [h9] at hds; exact (Option.some.inj hds).symm), hts _ hlk1, hts _ hstt⟩ ⟨pc_blind, hPre⟩ rfl (List.length_map _) hl.1 est (room_st st hst) hd ⟨by omega, by omega⟩
    exact call_go hr hS (fun E ce q9 h' H1 locs1 hq hR1 hS1 hce hcv9 hcl => hO pc ls _ _ E h' hq H1 locs1 _ _ lsA _ q9 ce hR1 hS1 (by omega) (by omega) hn hnl hl hce hcv9 hcl) (fun v h' H1 locs1 hq hR1 hS1 => aft_go hq hR1 hS1 hc hs h1 h2 hn hnl hl)
  · intro pc ls st h c0 sl ix N a As c1 s1 hd hcv hcat hst h1 h2 hcall H locs cells slots lsA hR hS hc hs hn hnl hl
    obtain ⟨hok, hno, hlk1, hin, hni, hrt, hds, hle⟩ := hcv
    have hM := hSnd N (vr a :: As) h c1 s1 _ _ hok (by rw [List.length_cons]; omega) (noL_of (fun v hv => (List.mem_cons.mp hv).elim (fun q => by rw [q]; rfl) (hcat v))) hcall
    have hPre : ∀ U : State, U.heap = H → s.WarmedH U.vm → PcA s0 D cy (vr a :: As) h (Value.ref a :: As.map tv).toArray U := fun U hU hWU => ⟨rfl, State.WarmedH.trans hW hWU, by rw [hU]; exact hR⟩
    have est : ((As.reverse ++ vr a :: st).map tv) = (As.map tv).reverse ++ Value.ref a :: st.map tv := by rw [List.map_append, List.map_reverse]; rfl
    have hcb := cw_b (R' := R) (c1 := c1) (s1 := s1) hts hok hno hlk1 hds hfr hlo
    rw [hrt] at hcb
    have hr := vx_runI (e := e) (below := below) (meth := meth) (H := H) (locs := locs) (cells := cells) (slots := slots) (g := F0 m pc lsA ((As.reverse ++ vr a :: st).map tv)) (rest := st.map tv) (As := As.map tv) hF hM ⟨hcb, hni, hts _ hin⟩ ⟨pc_blind, hPre⟩ rfl (List.length_map _) hl.1 est (room_st st hst) hd ⟨by omega, by omega⟩
    exact call_go hr hS (fun E ce q9 h' H1 locs1 hq hR1 hS1 hce hcv9 hcl => hO pc ls _ _ E h' hq H1 locs1 _ _ lsA _ q9 ce hR1 hS1 (by omega) (by omega) hn hnl hl hce hcv9 hcl) (fun v h' H1 locs1 hq hR1 hS1 => aft_go hq hR1 hS1 hc hs h1 h2 hn hnl hl)
  · intro pc ls st h c0 sl ix N host a As c1 s1 hd hcv hcat hst h1 h2 hcall H locs cells slots lsA hR hS hc hs hn hnl hl
    obtain ⟨hok, hno, hlk1, hin, hni, hrt, hds, hle⟩ := hcv
    have hM := hSnd N (vr a :: As) h c1 s1 _ _ hok (by rw [List.length_cons]; omega) (noL_of (fun v hv => (List.mem_cons.mp hv).elim (fun q => by rw [q]; rfl) (hcat v))) hcall
    have hPre : ∀ U : State, U.heap = H → s.WarmedH U.vm → PcA s0 D cy (vr a :: As) h (Value.ref a :: As.map tv).toArray U := fun U hU hWU => ⟨rfl, State.WarmedH.trans hW hWU, by rw [hU]; exact hR⟩
    have est : ((As.reverse ++ vr a :: st).map tv) = (As.map tv).reverse ++ Value.ref a :: st.map tv := by rw [List.map_append, List.map_reverse]; rfl
    have hw := mW_none hno
    have hcode : (Cond.code N.1 N.2.1 N.2.2.1 none).before args s = true := by have q := hts _ hok.1; rw [hw, hrt] at q; exact q
    have hr := vx_runIN (e := e) (below := below) (meth := meth) (H := H) (locs := locs) (cells := cells) (slots := slots) (g := F0 m pc lsA ((As.reverse ++ vr a :: st).map tv)) (rest := st.map tv) (As := As.map tv) (bytes := N.2.1) (maxL := N.2.2.1) (n := As.length) hF hM ⟨⟨⟨rfl, rfl, hfr, (by show 8 + (N.2.2.1 + 11) + 41 * d ≤ R.locals; have := hok.2.2.2.2; omega), (fun w hm a' U hWU => by rw [List.mem_singleton.mp hm, hw, hrt]; exact word_at hWU (Or.inl rfl) hcode), by rw [hw, hrt]; exact List.mem_singleton.mpr rfl⟩, hcode, hts _ hok.2.2.1, hok.2.2.2.1, (fun sig h9 => by rw [h9] at hds; exact (Option.some.inj hds).symm), va_Nw.use rfl (va_Nw.warmM hW (va_Nw.of rfl (C.1.2.1 _ hlk1)))⟩, hni, hts _ hin⟩ ⟨pc_blind, hPre⟩ rfl (List.length_map _) hl.1 est (room_st st hst) hd ⟨by omega, by omega⟩
    exact call_go hr hS (fun E ce q9 h' H1 locs1 hq hR1 hS1 hce hcv9 hcl => hO pc ls _ _ E h' hq H1 locs1 _ _ lsA _ q9 ce hR1 hS1 (by omega) (by omega) hn hnl hl hce hcv9 hcl) (fun v h' H1 locs1 hq hR1 hS1 => aft_go hq hR1 hS1 hc hs h1 h2 hn hnl hl)
end SND
