/-! ===== fields, new objects, casts ===== -/
section SND
variable {p : Program} {l : Launch} {e : Env} {R : Room} {s s0 : State} {m : MethodId} {args a0 : Array Value} {below : List Frame} {meth : Method} {c : Code} {Q : State → Prop} {D : va_G} {cy : Nat → ClassId} {gx : GX} {M : MI} {nL : Nat}

theorem inst_at {ci : Nat} (h : ci < 7) : Cond.instantiable (cNm ci) (nF ci) ∈ tb := by
  match ci, h with
  | 0, _ => exact tbm1 31 (by decide +kernel) (by decide +kernel)
  | 1, _ => exact tbm1 207 (by decide +kernel) (by decide +kernel)
  | 2, _ => exact tbm3 80 (by decide +kernel) (by decide +kernel)
  | 3, _ => exact tbm1 197 (by decide +kernel) (by decide +kernel)
  | 4, _ => exact tbm3 176 (by decide +kernel) (by decide +kernel)
  | 5, _ => exact tbm1 23 (by decide +kernel) (by decide +kernel)
  | 6, _ => exact tbm4 105 (by decide +kernel) (by decide +kernel)

theorem ini_at {ci : Nat} (h : ci < 7) : Cond.initialized (cNm ci) ∈ tb := by
  match ci, h with
  | 0, _ => exact tbm1 4 (by decide +kernel) (by decide +kernel)
  | 1, _ => exact tbm1 14 (by decide +kernel) (by decide +kernel)
  | 2, _ => exact tbm1 20 (by decide +kernel) (by decide +kernel)
  | 3, _ => exact tbm1 12 (by decide +kernel) (by decide +kernel)
  | 4, _ => exact tbm1 21 (by decide +kernel) (by decide +kernel)
  | 5, _ => exact tbm1 1 (by decide +kernel) (by decide +kernel)
  | 6, _ => exact tbm1 5 (by decide +kernel) (by decide +kernel)

theorem oi_at1 : Cond.instanceMethod Lib.objectInit ∈ tb := tbm1 28 (by decide +kernel) (by decide +kernel)
theorem oi_at2 : Cond.code Lib.objectInit ⟨#[0xb1]⟩ 1 none ∈ tb := tbm1 29 (by decide +kernel) (by decide +kernel)
theorem cat_le (v : AV) : catV v ≤ 2 := by
  rcases v with z | r | z
  · exact Nat.le_of_ble_eq_true rfl
  · exact Nat.le_of_ble_eq_true rfl
  · exact Nat.le_of_ble_eq_true rfl
theorem cat_sum : ∀ st : List AV, ((st.map tv).map fun v => v.category).sum ≤ 2 * st.length
  | [] => Nat.le_refl _
  | v :: t => by
    have h1 := cat_sum t
    have h2 := cat_le v
    simp only [List.map_cons, List.sum_cons, List.length_cons, tv_cat]
    omega

theorem dv_dec : ∀ ci, ci < 7 → ∀ k, k < nF ci → defaultValue (fY ci k) = (if isRf ci k = true then Value.null else Value.int 0) := by decide +kernel
theorem okP_n {ci k : Nat} {x : Int} (h : okP ci k x) : narrow (fY ci k) (.int (zI x)) = .int (zI x) ∧ fits (fY ci k) (.int (zI x)) = true := by
  rcases h with h | ⟨h, h1⟩
  · rw [h]; exact ⟨rfl, rfl⟩
  · rw [h]
    rcases h1 with rfl | rfl
    · exact ⟨rfl, rfl⟩
    · exact ⟨rfl, rfl⟩
theorem okP_r {ci k : Nat} {x : Int} (h : okP ci k x) : isRf ci k = false := by
  unfold isRf
  rcases h with h | ⟨h, h1⟩
  · rw [h]; rfl
  · rw [h]; rfl
theorem rf_n {ci k : Nat} (r : Option Nat) (h : isRf ci k = true) : narrow (fY ci k) (va_rf r) = va_rf r ∧ fits (fY ci k) (va_rf r) = true := by
  unfold isRf at h
  revert h
  cases fY ci k <;> intro h <;> first | (cases h; done) | (cases r <;> exact ⟨rfl, rfl⟩)
theorem cellE_13d {h : Hp} {a : Nat} (hk : hK h a = 13) : cellE cy h a = .inl (cy 3, hN h a, .inr (.inr (.inr (.inr (fun j => hP h a j))))) := by
  unfold cellE; rw [if_neg (by omega), if_neg (by omega), if_neg (by omega), if_pos hk]
theorem cl4 (C : Cx p l e s m meth c s0 a0 D cy gx M) (hfr : 1 ≤ R.frames) (hlo : 24 ≤ R.locals) (hml : nL = M.2.2.1) : Cl4 gx M (JW p l e R s m args below meth c Q s0 D cy nL) := by
  obtain ⟨hx, hb, hmx, hown, hW, hsz, hbel, hlk, hnm, hret, htab⟩ := C.2
  have hts : ∀ w ∈ tb, w.before args s = true := C.hts
  have hKK := C.K
  have hA : ∀ q, s.heap.size ≤ q → aB s0 q := fun q h => Nat.le_trans hsz h
  have hMi : va_Mi "[Ljava/lang/Object;" gx.2.2.2.2 s := by
    obtain ⟨-, -, -, -, -, -, -, hLM, -⟩ := C.1
    exact hLM.2.moved hW.alike
  refine ⟨?_, ?_, ?_, ?_, ?_, ?_, ?_, ?_, ?_, ?_, ?_⟩
  · intro pc ls st h c0 s1 ix ci k a hd hf hr ha hka kk H locs cells slots lsA hR hS hc hs hn hnl hl
    obtain ⟨ref, hl1, hsame⟩ := fL_same C hf
    obtain ⟨k0, e1, e2⟩ := hR.at ha (cellE_obj hka hf.1)
    exact va_get hx hb hts (in_at hf.1) hown hKK hR.1 k0 e2 (vcl_at hf.1) k hf.2.1 (hts _ hl1) hsame (v := .int (zI (hI h a k))) (by rw [fld_get hf.2.1, if_neg (by rw [hr]; decide)]) hd (kk H locs cells slots lsA hR hS hc hs hn hnl hl)
  · intro pc ls st h c0 s1 ix ci k a hd hf hr ha hka kk H locs cells slots lsA hR hS hc hs hn hnl hl
    obtain ⟨ref, hl1, hsame⟩ := fL_same C hf
    obtain ⟨k0, e1, e2⟩ := hR.at ha (cellE_obj hka hf.1)
    exact va_get hx hb hts (in_at hf.1) hown hKK hR.1 k0 e2 (vcl_at hf.1) k hf.2.1 (hts _ hl1) hsame (v := va_rf (hP h a k)) (by rw [fld_get hf.2.1, if_pos hr]) hd (kk H locs cells slots lsA hR hS hc hs hn hnl hl)
  · intro pc ls st h c0 s1 ix ci k a x hd hf hfi hok ha hka kk H locs cells slots lsA hR hS hc hs hn hnl hl
    obtain ⟨ref, hl1, hsame⟩ := fL_same C hf
    obtain ⟨k0, e1, e2⟩ := hR.at ha (cellE_obj hka hf.1)
    have q0 := fun (H1 : Heap) (locs1 : List Loc) (P1 : va_P D vcl ((va_pl (hD h) (cellE cy h)).set k0 (a, .inr (ci, (fldV ci h a).set k (.int (zI x))))) H1) (D1 : va_D (aB s0) ((va_pl (hD h) (cellE cy h)).set k0 (a, .inr (ci, (fldV ci h a).set k (.int (zI x)))))) (S1 : va_S (aB s0) s.heap H1 locs1) =>
      kk H1 locs1 cells slots lsA (hR.upd (h2 := wI h a k x) ha e1 rfl (by rw [cellE_obj (h := wI h a k x) hka hf.1, fld_setI hf.2.1 (okP_r hok)]) (fun b hb => cellE_wI_ne hb) P1 D1 S1 hsz hbel) S1 hc hs hn hnl hl
    rcases hfi with hfi | ⟨hfi, hini, hdc⟩
    · exact va_put hx hb hts (in_at hf.1) (fY ci) (ty_at hf.1) (nm_at hf.1) hown hKK hR.1 hR.2.1 hS k0 e2 (vcl_at hf.1) k hf.2.1 (hts _ hl1) hsame hfi (ty_at hf.1 k hf.2.1) (okP_n hok).1 (okP_n hok).2 (by rw [fld_len]; exact hf.2.1) hd q0
    · exact va_putF hx hb hts (in_at hf.1) (fY ci) (ty_at hf.1) (nm_at hf.1) hown hKK hR.1 hR.2.1 hS k0 e2 (vcl_at hf.1) k hf.2.1 (hts _ hl1) hsame hfi (hnm hini) hdc (ty_at hf.1 k hf.2.1) (okP_n hok).1 (okP_n hok).2 (by rw [fld_len]; exact hf.2.1) hd q0
  · intro pc ls st h c0 s1 ix ci k a r hd hf hfi hok ha hka kk H locs cells slots lsA hR hS hc hs hn hnl hl
    obtain ⟨ref, hl1, hsame⟩ := fL_same C hf
    obtain ⟨k0, e1, e2⟩ := hR.at ha (cellE_obj hka hf.1)
    have q0 := fun (H1 : Heap) (locs1 : List Loc) (P1 : va_P D vcl ((va_pl (hD h) (cellE cy h)).set k0 (a, .inr (ci, (fldV ci h a).set k (va_rf r)))) H1) (D1 : va_D (aB s0) ((va_pl (hD h) (cellE cy h)).set k0 (a, .inr (ci, (fldV ci h a).set k (va_rf r))))) (S1 : va_S (aB s0) s.heap H1 locs1) =>
      kk H1 locs1 cells slots lsA (hR.upd (h2 := wP h a k r) ha e1 rfl (by rw [cellE_obj (h := wP h a k r) hka hf.1, fld_setP hf.2.1 hok]) (fun b hb => cellE_wP_ne hb) P1 D1 S1 hsz hbel) S1 hc hs hn hnl hl
    rcases hfi with hfi | ⟨hfi, hini, hdc⟩
    · exact va_put hx hb hts (in_at hf.1) (fY ci) (ty_at hf.1) (nm_at hf.1) hown hKK hR.1 hR.2.1 hS k0 e2 (vcl_at hf.1) k hf.2.1 (hts _ hl1) hsame hfi (ty_at hf.1 k hf.2.1) (rf_n r hok).1 (rf_n r hok).2 (by rw [fld_len]; exact hf.2.1) hd q0
    · exact va_putF hx hb hts (in_at hf.1) (fY ci) (ty_at hf.1) (nm_at hf.1) hown hKK hR.1 hR.2.1 hS k0 e2 (vcl_at hf.1) k hf.2.1 (hts _ hl1) hsame hfi (hnm hini) hdc (ty_at hf.1 k hf.2.1) (rf_n r hok).1 (rf_n r hok).2 (by rw [fld_len]; exact hf.2.1) hd q0
  · intro pc ls st h c0 s1 ix hd hw kk H locs cells slots lsA hR hS hc hs hn hnl hl
    exact va_gets hx hb (v := .ref gx.1) (((C.1.2.2.2.1).moved hW.alike).kept (fun a ha hn => hbel a ha)) hS hown (hts _ hw) (fun _ q => q) hd (kk H locs cells slots lsA hR hS hc hs hn hnl hl)
  · intro pc ls st h c0 s1 ix ci hd hci hw h1 h2 kk H locs cells slots lsA hR hS hc hs hn hnl hl
    refine va_new (fs := (List.range (nF ci)).map (fun k => if isRf ci k = true then Value.null else Value.int 0)) hx hb hts (in_at hci) (fY ci) (ty_at hci) hown (hts _ hw) (hts _ (inst_at hci)) (hts _ (ini_at hci)) hKK hR.1 hR.2.1 hS hA (vcl_at hci) (fun j hj => ?_) (by omega) (by omega) hd (fun q H1 P1 D1 S1 => ?_)
    · rw [dv_dec ci hci j hj]
      unfold vp_V
      rw [List.getD_eq_getElem?_getD, List.getElem?_map, List.getElem?_range hj]
      rfl
    · refine kk q (fresh_of D1) H1 locs (cells + 1) (slots + nF ci) lsA (Rel.new (h := h) (fresh_of D1) rfl ?_ (fun b hb => cellE_new_ne hb) P1 D1 S1 hsz hbel) S1 (by omega) (by omega) hn hnl hl
      have hkq : hK (hNew h q (ci + 1) (nF ci)) q = ci + 1 := by show (if q = q then ci + 1 else _) = _; rw [if_pos rfl]
      rw [cellE_obj hkq hci]
      unfold fldV
      have e : ∀ k : Nat, (if isRf ci k = true then va_rf (hP (hNew h q (ci + 1) (nF ci)) q k) else Value.int (zI (hI (hNew h q (ci + 1) (nF ci)) q k))) = (if isRf ci k = true then Value.null else Value.int 0) := by
        intro k
        have e1 : hP (hNew h q (ci + 1) (nF ci)) q k = none := by show (if q = q then none else _) = _; rw [if_pos rfl]
        have e2 : hI (hNew h q (ci + 1) (nF ci)) q k = 0 := by show (if q = q then (0 : Int) else _) = _; rw [if_pos rfl]
        rw [e1, e2]
        rfl
      simp only [e]
  · intro pc ls st h c0 s1 ix ci a hd hci hw ha hka kk H locs cells slots lsA hR hS hc hs hn hnl hl
    obtain ⟨k0, e1, e2⟩ := hR.at ha (cellE_obj hka hci)
    exact va_castS hx hb hown (hts _ hw) (hKK.1 ci _ (vcl_at hci)).2 (va_recv hKK hR.1 (vcl_at hci) e2) hd (kk H locs cells slots lsA hR hS hc hs hn hnl hl)
  · intro pc ls st h c0 s1 ix a hd hw hst kk H locs cells slots lsA hR hS hc hs hn hnl hl
    refine W.objInit hx hb hown (hts _ hw) (hts _ oi_at1) (hts _ oi_at2) rfl (by rw [hmx, ← hml]; exact hl.1) rfl hd hfr ?_ (kk H locs cells slots lsA hR hS hc hs hn hnl hl)
    have := cat_sum st
    show 2 * 0 + ((st.map tv).map fun v => v.category).sum + 12 ≤ R.locals
    omega
  · intro pc ls st h c0 s1 ix hd hw kk H locs cells slots lsA hR hS hc hs hn hnl hl
    exact va_ldcM hx hb hown (hts _ hw) hMi hd (kk H locs cells slots lsA hR hS hc hs hn hnl hl)
  · intro pc ls st h c0 s1 ix a hd hw ha hka hst kk H locs cells slots lsA hR hS hc hs hn hnl hl
    obtain ⟨k0, e1, e2⟩ := hR.at ha (cellE_13d hka)
    have := cat_sum st
    exact va_getC hx hb (by rw [hmx, ← hml]; exact hl.1.symm) hown (hts _ hw) (hts _ gc5) (hts _ gc4) (hts _ gc2) (hts _ gc3) hMi ⟨_, hR.1 k0 _ e2, rfl, va_nmO (hKK.2 3 _ rfl).2 rfl⟩ hfr (by omega) hd (kk H locs cells slots lsA hR hS hc hs hn hnl hl)
  · intro pc ls st h c0 s1 ix n hd hw kk H locs cells slots lsA hR hS hc hs hn hnl hl
    exact lv_ldc hx hb hown (hts _ hw) hd (kk H locs cells slots lsA hR hS hc hs hn hnl hl)
end SND
