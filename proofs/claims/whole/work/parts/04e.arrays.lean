/-! ===== arrays ===== -/
theorem ac_int : Cond.arrayClass .int ∈ tb := tbm1 233 (by decide +kernel) (by decide +kernel)
theorem ac_boolean : Cond.arrayClass .boolean ∈ tb := tbm4 192 (by decide +kernel) (by decide +kernel)
theorem ac_long : Cond.arrayClass .long ∈ tb := tbm5 231 (by decide +kernel) (by decide +kernel)
theorem ao_obj : Cond.arrayOver (.object "java/lang/Object") ∈ lw_tbl := tbl2 73 (by decide +kernel)
theorem ao_copy : Cond.arrayOver (.object RX0) ∈ lw_tbl := tbl1 206 (by decide +kernel)
section SND
variable {p : Program} {l : Launch} {e : Env} {R : Room} {s s0 : State} {m : MethodId} {args a0 : Array Value} {below : List Frame} {meth : Method} {c : Code} {Q : State → Prop} {D : va_G} {cy : Nat → ClassId} {gx : GX} {M : MI} {nL : Nat}
theorem cellE_10 {h : Hp} {a : Nat} (hk : hK h a = 10) : cellE cy h a = .inl (cy 0, hN h a, .inl (fun j => zI (hI h a j))) := by
  unfold cellE; rw [if_pos hk]
theorem cellE_11 {h : Hp} {a : Nat} (hk : hK h a = 11) : cellE cy h a = .inl (cy 1, hN h a, .inl (fun j => zI (hI h a j))) := by
  unfold cellE; rw [if_neg (by omega), if_pos hk]
theorem cellE_12 {h : Hp} {a : Nat} (hk : hK h a = 12) : cellE cy h a = .inl (cy 2, hN h a, .inr (.inl (fun j => Int64.ofInt (hI h a j)))) := by
  unfold cellE; rw [if_neg (by omega), if_neg (by omega), if_pos hk]
theorem cellE_13 {h : Hp} {a : Nat} (hk : hK h a = 13) : cellE cy h a = .inl (cy 3, hN h a, .inr (.inr (.inr (.inr (fun j => hP h a j))))) := by
  unfold cellE; rw [if_neg (by omega), if_neg (by omega), if_neg (by omega), if_pos hk]
theorem cellE_14 {h : Hp} {a : Nat} (hk : hK h a = 14) : cellE cy h a = .inl (cy 4, hN h a, .inr (.inr (.inr (.inr (fun j => hP h a j))))) := by
  unfold cellE; rw [if_neg (by omega), if_neg (by omega), if_neg (by omega), if_neg (by omega), if_pos hk]
theorem zI_ix {i : Int} (h0 : 0 ≤ i) (h : i < 2147483648) : (((zI i).toNatClampNeg : Nat) : Int) = i := by
  rw [zI_cl h0 h]; exact Int.toNat_of_nonneg h0
theorem updE (f : Int → Int) {i : Int} (x : Int) (h0 : 0 ≤ i) (h : i < 2147483648) : (fun j : Nat => zI (if (j : Int) = i then x else f j)) = upd (fun j => zI (f j)) (zI i).toNatClampNeg (zI x) := by
  funext j
  show _ = (if j = (zI i).toNatClampNeg then zI x else zI (f j))
  have e := zI_ix h0 h
  by_cases q : (j : Int) = i
  · rw [if_pos q, if_pos (by omega)]
  · rw [if_neg q, if_neg (by omega)]
theorem updEL (f : Int → Int) {i : Int} (x : Int) (h0 : 0 ≤ i) (h : i < 2147483648) : (fun j : Nat => Int64.ofInt (if (j : Int) = i then x else f j)) = vp_updL (fun j => Int64.ofInt (f j)) (zI i).toNatClampNeg (Int64.ofInt x) := by
  funext j
  show _ = (if j = (zI i).toNatClampNeg then Int64.ofInt x else Int64.ofInt (f j))
  have e := zI_ix h0 h
  by_cases q : (j : Int) = i
  · rw [if_pos q, if_pos (by omega)]
  · rw [if_neg q, if_neg (by omega)]
theorem updEP (f : Int → Option Nat) {i : Int} (x : Option Nat) (h0 : 0 ≤ i) (h : i < 2147483648) : (fun j : Nat => (if (j : Int) = i then x else f j)) = va_up (fun j => f j) (zI i).toNatClampNeg x := by
  funext j
  show _ = (if j = (zI i).toNatClampNeg then x else f j)
  have e := zI_ix h0 h
  by_cases q : (j : Int) = i
  · rw [if_pos q, if_pos (by omega)]
  · rw [if_neg q, if_neg (by omega)]
theorem hI_wI_self {h : Hp} {a : Nat} {i x : Int} (j : Int) : hI (wI h a i x) a j = if j = i then x else hI h a j := by
  show (if a = a ∧ j = i then x else _) = _
  by_cases q : j = i
  · rw [if_pos ⟨rfl, q⟩, if_pos q]
  · rw [if_neg (fun z => q z.2), if_neg q]; rfl
theorem hP_wP_self {h : Hp} {a : Nat} {i : Int} {x : Option Nat} (j : Int) : hP (wP h a i x) a j = if j = i then x else hP h a j := by
  show (if a = a ∧ j = i then x else _) = _
  by_cases q : j = i
  · rw [if_pos ⟨rfl, q⟩, if_pos q]
  · rw [if_neg (fun z => q z.2), if_neg q]; rfl
theorem cy_prim {cA : ClassId} {ty : FieldType} {t0 : Nat} (hKK : va_K D vcl (tysOf cy) s) (h0 : (tysOf cy)[t0]? = some (cy t0, ty)) (hK1 : va_K D vcl (tysOf cy ++ [(cA, ty)]) s) : cA = cy t0 := by
  have h1 : va_RA s cA ty := (hK1.2 5 (cA, ty) rfl).2
  have h2 : va_RA s (cy t0) ty := (hKK.2 t0 _ h0).2
  cases ty with
  | object C =>
    obtain ⟨_, _, -, -, -, q1⟩ := h1
    obtain ⟨_, _, -, -, -, q2⟩ := h2
    exact Option.some.inj (q1.symm.trans q2)
  | _ => exact Option.some.inj ((show s.vm.findClass _ = some cA from h1).symm.trans (show s.vm.findClass _ = some (cy t0) from h2))
theorem kNew {h : Hp} {q kd n : Nat} : hK (hNew h q kd n) q = kd := by show (if q = q then kd else _) = _; rw [if_pos rfl]
theorem nNew {h : Hp} {q kd n : Nat} : hN (hNew h q kd n) q = n := by show (if q = q then n else _) = _; rw [if_pos rfl]
theorem iNew {h : Hp} {q kd n : Nat} (j : Int) : hI (hNew h q kd n) q j = 0 := by show (if q = q then (0 : Int) else _) = _; rw [if_pos rfl]
theorem pNew {h : Hp} {q kd n : Nat} (j : Int) : hP (hNew h q kd n) q j = none := by show (if q = q then none else _) = _; rw [if_pos rfl]
theorem cl5 (C : Cx p l e s m meth c s0 a0 D cy gx M) : Cl5 gx M (JW p l e R s m args below meth c Q s0 D cy nL) := by
  obtain ⟨hx, hb, hmx, hown, hW, hsz, hbel, hlk, hnm, hret, htab⟩ := C.2
  have hts : ∀ w ∈ tb, w.before args s = true := C.hts
  have hKK := C.K
  have hA : ∀ q, s.heap.size ≤ q → aB s0 q := fun q h => Nat.le_trans hsz h
  obtain ⟨-, hlw, -, -, hT0, hX0, hbl0, hL0, -⟩ := C.1
  have hT : va_T (.object "java/lang/Object") gx.1 0 (fun _ => .null) (aB s0) s s.heap := (hT0.moved hW.alike).kept (fun a ha hn => hbel a ha)
  have hX : va_X gx.2.1 gx.2.2.1 (fun j => zI (gx.2.2.2.1 j)) s s.heap := (hX0.moved hW.alike).kept (hbel _ hbl0)
  have hbl : gx.2.1 < s.heap.size := Nat.lt_of_lt_of_le hbl0 hsz
  have hbA : ¬ aB s0 gx.2.1 := Nat.not_le.mpr hbl0
  refine ⟨?_, ?_, ?_, ?_, ?_, ?_, ?_, ?_, ?_, ?_, ?_, ?_, ?_, ?_, ?_, ?_, ?_, ?_, ?_, ?_⟩
  · intro pc ls st h c0 s1 a hd ha h1 h2 kk H locs cells slots lsA hR hS hc hs hn hnl hl
    have hk5 : hK h a = 10 ∨ hK h a = 11 ∨ hK h a = 12 ∨ hK h a = 13 ∨ hK h a = 14 := by omega
    rcases hk5 with hk | hk | hk | hk | hk
    · obtain ⟨k0, e1, e2⟩ := hR.at ha (cellE_10 hk)
      exact va_alen hx hb hKK hR.1 k0 0 e2 rfl (v := zI (hN h a)) (zI_nI _).symm hd (kk H locs cells slots lsA hR hS hc hs hn hnl hl)
    · obtain ⟨k0, e1, e2⟩ := hR.at ha (cellE_11 hk)
      exact va_alen hx hb hKK hR.1 k0 1 e2 rfl (v := zI (hN h a)) (zI_nI _).symm hd (kk H locs cells slots lsA hR hS hc hs hn hnl hl)
    · obtain ⟨k0, e1, e2⟩ := hR.at ha (cellE_12 hk)
      exact va_alen hx hb hKK hR.1 k0 2 e2 rfl (v := zI (hN h a)) (zI_nI _).symm hd (kk H locs cells slots lsA hR hS hc hs hn hnl hl)
    · obtain ⟨k0, e1, e2⟩ := hR.at ha (cellE_13 hk)
      exact va_alen hx hb hKK hR.1 k0 3 e2 rfl (v := zI (hN h a)) (zI_nI _).symm hd (kk H locs cells slots lsA hR hS hc hs hn hnl hl)
    · obtain ⟨k0, e1, e2⟩ := hR.at ha (cellE_14 hk)
      exact va_alen hx hb hKK hR.1 k0 4 e2 rfl (v := zI (hN h a)) (zI_nI _).symm hd (kk H locs cells slots lsA hR hS hc hs hn hnl hl)
  · intro pc ls st h c0 s1 hd kk H locs cells slots lsA hR hS hc hs hn hnl hl
    exact va_tlen hx hb hT hS (v := zI 0) rfl hd (kk H locs cells slots lsA hR hS hc hs hn hnl hl)
  · intro pc ls st h c0 s1 hd kk H locs cells slots lsA hR hS hc hs hn hnl hl
    have q := kk H locs cells slots lsA hR hS hc hs hn hnl hl
    refine va_slen hx hb hX hbl hbA hS hd ?_
    rw [show Int32.ofNat gx.2.2.1 = zI (gx.2.2.1 : Int) from (zI_nI _).symm]
    exact q
  · intro pc ls st h c0 s1 a i hd ha hk h0 h1 h2 kk H locs cells slots lsA hR hS hc hs hn hnl hl
    obtain ⟨k0, e1, e2⟩ := hR.at ha (cellE_10 hk)
    have q := kk H locs cells slots lsA hR hS hc hs hn hnl hl
    have ei := zI_ix h0 h2
    rw [← ei] at q
    exact va_iald hx hb hKK hR.1 k0 0 e2 rfl (zI_vp h0 h2 h1) hd q
  · intro pc ls st h c0 s1 i hd h0 h1 h2 kk H locs cells slots lsA hR hS hc hs hn hnl hl
    have q := kk H locs cells slots lsA hR hS hc hs hn hnl hl
    refine va_sld hx hb hX hbl hbA hS (zI_vp h0 h2 h1) hd ?_
    rw [zI_cl h0 h2]
    exact q
  · intro pc ls st h c0 s1 a i hd ha hk h0 h1 h2 kk H locs cells slots lsA hR hS hc hs hn hnl hl
    obtain ⟨k0, e1, e2⟩ := hR.at ha (cellE_11 hk)
    have q := kk H locs cells slots lsA hR hS hc hs hn hnl hl
    have ei := zI_ix h0 h2
    rw [← ei] at q
    exact va_zald hx hb hKK hR.1 k0 1 e2 rfl (zI_vp h0 h2 h1) hd q
  · intro pc ls st h c0 s1 a i hd ha hk h0 h1 h2 kk H locs cells slots lsA hR hS hc hs hn hnl hl
    obtain ⟨k0, e1, e2⟩ := hR.at ha (cellE_12 hk)
    have q := kk H locs cells slots lsA hR hS hc hs hn hnl hl
    have ei := zI_ix h0 h2
    rw [← ei] at q
    exact va_lald hx hb hKK hR.1 k0 2 e2 rfl (zI_vp h0 h2 h1) hd q
  · intro pc ls st h c0 s1 a i hd ha hk h0 h1 h2 kk H locs cells slots lsA hR hS hc hs hn hnl hl
    have q := kk H locs cells slots lsA hR hS hc hs hn hnl hl
    have ei := zI_ix h0 h2
    rw [← ei] at q
    rcases hk with hk | hk
    · obtain ⟨k0, e1, e2⟩ := hR.at ha (cellE_13 hk)
      exact va_aldq hx hb hKK hR.1 k0 3 e2 rfl (zI_vp h0 h2 h1) hd q
    · obtain ⟨k0, e1, e2⟩ := hR.at ha (cellE_14 hk)
      exact va_aldq hx hb hKK hR.1 k0 4 e2 rfl (zI_vp h0 h2 h1) hd q
  · intro pc ls st h c0 s1 a i x hd ha hk h0 h1 h2 kk H locs cells slots lsA hR hS hc hs hn hnl hl
    obtain ⟨k0, e1, e2⟩ := hR.at ha (cellE_10 hk)
    refine va_iast hx hb hKK hR.1 hR.2.1 hS k0 0 e2 rfl (zI_vp h0 h2 h1) hd (fun H1 locs1 P1 D1 S1 => kk H1 locs1 cells slots lsA (hR.upd (h2 := wI h a i x) ha e1 rfl ?_ (fun b hb => cellE_wI_ne hb) P1 D1 S1 hsz hbel) S1 hc hs hn hnl hl)
    rw [cellE_10 (h := wI h a i x) hk]
    simp only [hI_wI_self]
    rw [updE (fun j => hI h a j) x h0 h2]; rfl
  · intro pc ls st h c0 s1 a i x hd ha hk h0 h1 h2 hx01 kk H locs cells slots lsA hR hS hc hs hn hnl hl
    obtain ⟨k0, e1, e2⟩ := hR.at ha (cellE_11 hk)
    refine va_zast hx hb hKK hR.1 hR.2.1 hS k0 1 e2 rfl (zI_vp h0 h2 h1) hd (fun H1 locs1 P1 D1 S1 => kk H1 locs1 cells slots lsA (hR.upd (h2 := wI h a i x) ha e1 rfl ?_ (fun b hb => cellE_wI_ne hb) P1 D1 S1 hsz hbel) S1 hc hs hn hnl hl)
    rw [cellE_11 (h := wI h a i x) hk]
    simp only [hI_wI_self]
    have ez : vp_nar .boolean (zI x) = zI x := by
      rcases hx01 with rfl | rfl
      · rfl
      · rfl
    rw [updE (fun j => hI h a j) x h0 h2, ez]; rfl
  · intro pc ls st h c0 s1 a i x hd ha hk h0 h1 h2 kk H locs cells slots lsA hR hS hc hs hn hnl hl
    obtain ⟨k0, e1, e2⟩ := hR.at ha (cellE_12 hk)
    refine va_last hx hb hKK hR.1 hR.2.1 hS k0 2 e2 rfl (zI_vp h0 h2 h1) hd (fun H1 locs1 P1 D1 S1 => kk H1 locs1 cells slots lsA (hR.upd (h2 := wI h a i x) ha e1 rfl ?_ (fun b hb => cellE_wI_ne hb) P1 D1 S1 hsz hbel) S1 hc hs hn hnl hl)
    rw [cellE_12 (h := wI h a i x) hk]
    simp only [hI_wI_self]
    rw [updEL (fun j => hI h a j) x h0 h2]; rfl
  · intro pc ls st h c0 s1 a v ci i hd ha hk h0 h1 h2 hv hkv hci hcast kk H locs cells slots lsA hR hS hc hs hn hnl hl
    obtain ⟨k0, e1, e2⟩ := hR.at ha (cellE_13 hk)
    obtain ⟨k1, e3, e4⟩ := hR.at hv (cellE_obj hkv hci)
    refine va_astqO hx hb hKK hR.1 hR.2.1 hS k0 3 k1 ci e2 rfl (C.hts (args := #[]) _ hcast) e4 (vcl_at hci) (zI_vp h0 h2 h1) hd (fun H1 locs1 P1 D1 S1 => kk H1 locs1 cells slots lsA (hR.upd (h2 := wP h a i (some v)) ha e1 rfl ?_ (fun b hb => cellE_wP_ne hb) P1 D1 S1 hsz hbel) S1 hc hs hn hnl hl)
    rw [cellE_13 (h := wP h a i (some v)) hk]
    simp only [hP_wP_self]
    rw [updEP (fun j => hP h a j) (some v) h0 h2]; rfl
  · intro pc ls st h c0 s1 a i hd ha hk h0 h1 h2 kk H locs cells slots lsA hR hS hc hs hn hnl hl
    obtain ⟨k0, e1, e2⟩ := hR.at ha (cellE_13 hk)
    refine va_astqN hx hb hKK hR.1 hR.2.1 hS k0 3 e2 rfl (zI_vp h0 h2 h1) hd (fun H1 locs1 P1 D1 S1 => kk H1 locs1 cells slots lsA (hR.upd (h2 := wP h a i none) ha e1 rfl ?_ (fun b hb => cellE_wP_ne hb) P1 D1 S1 hsz hbel) S1 hc hs hn hnl hl)
    rw [cellE_13 (h := wP h a i none) hk]
    simp only [hP_wP_self]
    rw [updEP (fun j => hP h a j) none h0 h2]; rfl
  · intro pc ls st h c0 s1 a v i hd ha hk h0 h1 h2 hv hkv kk H locs cells slots lsA hR hS hc hs hn hnl hl
    obtain ⟨k0, e1, e2⟩ := hR.at ha (cellE_14 hk)
    obtain ⟨k1, e3, e4⟩ := hR.at hv (cellE_obj (ci := 1) hkv (by omega))
    refine va_astq hx hb hKK hR.1 hR.2.1 hS k0 4 k1 1 (r := (RX0, TX0, 5)) e2 rfl e4 rfl (zI_vp h0 h2 h1) hd (fun H1 locs1 P1 D1 S1 => kk H1 locs1 cells slots lsA (hR.upd (h2 := wP h a i (some v)) ha e1 rfl ?_ (fun b hb => cellE_wP_ne hb) P1 D1 S1 hsz hbel) S1 hc hs hn hnl hl)
    rw [cellE_14 (h := wP h a i (some v)) hk]
    simp only [hP_wP_self]
    rw [updEP (fun j => hP h a j) (some v) h0 h2]; rfl
  · intro pc ls st h c0 s1 n hd h0 h1 h2 h3 kk H locs cells slots lsA hR hS hc hs hn hnl hl
    refine va_newa (atype := .int) hx hb (hts _ ac_int) (ty := .int) rfl hKK hR.1 hR.2.1 hS hA (N' := n.toNat) (a0 := (n.toNat, .inl (fun _ => 0))) (fun cA => rfl) (by rw [zI_0, zI_lt ⟨by omega, by omega⟩ inR0]; omega) (zI_cl h0 (by omega)) (by show n.toNat * 4 ≤ _; omega) (by omega) (by omega) hd (fun q cA H1 K1 P1 D1 S1 => ?_)
    have hcA := cy_prim (t0 := 0) hKK rfl K1
    refine kk q (fresh_of D1) H1 locs (cells + 1) (slots + n.toNat) lsA (Rel.new (h := h) (fresh_of D1) rfl ?_ (fun b hb => cellE_new_ne hb) P1 D1 S1 hsz hbel) S1 (by omega) (by omega) hn hnl hl
    rw [cellE_10 kNew, nNew, hcA]
    simp only [iNew]
    rfl
  · intro pc ls st h c0 s1 n hd h0 h1 h2 h3 kk H locs cells slots lsA hR hS hc hs hn hnl hl
    refine va_newa (atype := .boolean) hx hb (hts _ ac_boolean) (ty := .boolean) rfl hKK hR.1 hR.2.1 hS hA (N' := n.toNat) (a0 := (n.toNat, .inl (fun _ => 0))) (fun cA => rfl) (by rw [zI_0, zI_lt ⟨by omega, by omega⟩ inR0]; omega) (zI_cl h0 (by omega)) (by show n.toNat * 1 ≤ _; omega) (by omega) (by omega) hd (fun q cA H1 K1 P1 D1 S1 => ?_)
    have hcA := cy_prim (t0 := 1) hKK rfl K1
    refine kk q (fresh_of D1) H1 locs (cells + 1) (slots + n.toNat) lsA (Rel.new (h := h) (fresh_of D1) rfl ?_ (fun b hb => cellE_new_ne hb) P1 D1 S1 hsz hbel) S1 (by omega) (by omega) hn hnl hl
    rw [cellE_11 kNew, nNew, hcA]
    simp only [iNew]
    rfl
  · intro pc ls st h c0 s1 n hd h0 h1 h2 h3 kk H locs cells slots lsA hR hS hc hs hn hnl hl
    refine va_newa (atype := .long) hx hb (hts _ ac_long) (ty := .long) rfl hKK hR.1 hR.2.1 hS hA (N' := n.toNat) (a0 := (n.toNat, .inr (.inl (fun _ => 0)))) (fun cA => rfl) (by rw [zI_0, zI_lt ⟨by omega, by omega⟩ inR0]; omega) (zI_cl h0 (by omega)) (by show n.toNat * 8 ≤ _; omega) (by omega) (by omega) hd (fun q cA H1 K1 P1 D1 S1 => ?_)
    have hcA := cy_prim (t0 := 2) hKK rfl K1
    refine kk q (fresh_of D1) H1 locs (cells + 1) (slots + n.toNat) lsA (Rel.new (h := h) (fresh_of D1) rfl ?_ (fun b hb => cellE_new_ne hb) P1 D1 S1 hsz hbel) S1 (by omega) (by omega) hn hnl hl
    rw [cellE_12 kNew, nNew, hcA]
    simp only [iNew]
    rfl
  · intro pc ls st h c0 s1 ix n hd hw h0 h1 h2 h3 kk H locs cells slots lsA hR hS hc hs hn hnl hl
    refine va_newq hx hb hown (hts _ hw) (((va_AO.of (hlw _ ao_obj) : va_AO "java/lang/Object" s0)).moved hW.alike) hKK hR.1 hR.2.1 hS hA (N' := n.toNat) (by rw [zI_0, zI_lt ⟨by omega, by omega⟩ inR0]; omega) (zI_cl h0 (by omega)) (by omega) (by omega) (by omega) hd (fun q cA H1 K1 P1 D1 S1 => ?_)
    have hcA := cy_prim (t0 := 3) hKK rfl K1
    refine kk q (fresh_of D1) H1 locs (cells + 1) (slots + n.toNat) lsA (Rel.new (h := h) (fresh_of D1) rfl ?_ (fun b hb => cellE_new_ne hb) P1 D1 S1 hsz hbel) S1 (by omega) (by omega) hn hnl hl
    rw [cellE_13 kNew, nNew, hcA]
    simp only [pNew]
  · intro pc ls st h c0 s1 ix n hd hw h0 h1 h2 h3 kk H locs cells slots lsA hR hS hc hs hn hnl hl
    refine va_newq hx hb hown (hts _ hw) (((va_AO.of (hlw _ ao_copy) : va_AO RX0 s0)).moved hW.alike) hKK hR.1 hR.2.1 hS hA (N' := n.toNat) (by rw [zI_0, zI_lt ⟨by omega, by omega⟩ inR0]; omega) (zI_cl h0 (by omega)) (by omega) (by omega) (by omega) hd (fun q cA H1 K1 P1 D1 S1 => ?_)
    have hcA := cy_prim (t0 := 4) hKK rfl K1
    refine kk q (fresh_of D1) H1 locs (cells + 1) (slots + n.toNat) lsA (Rel.new (h := h) (fresh_of D1) rfl ?_ (fun b hb => cellE_new_ne hb) P1 D1 S1 hsz hbel) S1 (by omega) (by omega) hn hnl hl
    rw [cellE_14 kNew, nNew, hcA]
    simp only [pNew]
  · intro pc ls st h c0 s1 kk H locs cells slots lsA hR hS hc hs hn hnl hl
    refine kk (fun hq => ?_) H locs cells slots lsA hR hS hc hs hn hnl hl
    obtain ⟨k, hk⟩ := va_pl_get (X := []) (f := cellE cy h) hq
    rw [List.nil_append] at hk
    obtain ⟨cell, e1, e2, e3, e4, e5, e6, e7⟩ := hT0
    exact e7 (hR.2.1.2 k _ hk)
end SND
