section SND
variable {p : Program} {l : Launch} {e : Env} {R : Room} {s s0 : State} {m : MethodId} {args a0 : Array Value} {below : List Frame} {meth : Method} {c : Code} {Q : State → Prop} {D : va_G} {cy : Nat → ClassId} {gx : GX} {M : MI} {nL : Nat}

theorem cl1 (hx : p.tables.exec = Jvm.exec) (hb : c.code = M.2.1) : Cl1 M.2.1 (JW p l e R s m args below meth c Q s0 D cy nL) := by
  refine ⟨?_, ?_, ?_, ?_, ?_, ?_, ?_, ?_, ?_, ?_, ?_, ?_, ?_, ?_⟩
  · intro pc ls st h c0 s1 n hd k H locs cells slots lsA hR hS hc hs hn hnl hl
    exact lv_iconst hx hb hd rfl (k H locs cells slots lsA hR hS hc hs hn hnl hl)
  · intro pc ls st h c0 s1 n hd hv k H locs cells slots lsA hR hS hc hs hn hnl hl
    exact lv_bipush hx hb hd hv (k H locs cells slots lsA hR hS hc hs hn hnl hl)
  · intro pc ls st h c0 s1 n hd hv k H locs cells slots lsA hR hS hc hs hn hnl hl
    exact lv_sipush hx hb hd hv (k H locs cells slots lsA hR hS hc hs hn hnl hl)
  · intro pc ls st h c0 s1 n hd k H locs cells slots lsA hR hS hc hs hn hnl hl
    refine lv_lconst hx hb hd (v := Int64.ofInt ((n : Nat) : Int)) ?_ (k H locs cells slots lsA hR hS hc hs hn hnl hl)
    apply Int64.toBitVec_inj.mp
    simp
  · intro pc ls st h c0 s1 hd k H locs cells slots lsA hR hS hc hs hn hnl hl
    exact lv_null hx hb hd (k H locs cells slots lsA hR hS hc hs hn hnl hl)
  · intro pc ls st h c0 s1 k0 i x hd hi hg k H locs cells slots lsA hR hS hc hs hn hnl hl
    exact lv_iload_n hx hb hd hi (lv_get hl hg) (k H locs cells slots lsA hR hS hc hs hn hnl hl)
  · intro pc ls st h c0 s1 i x hd hg k H locs cells slots lsA hR hS hc hs hn hnl hl
    exact lv_iload hx hb hd (lv_get hl hg) (k H locs cells slots lsA hR hS hc hs hn hnl hl)
  · intro pc ls st h c0 s1 k0 i r hd hi hg k H locs cells slots lsA hR hS hc hs hn hnl hl
    cases r with
    | none => exact lv_aload_nN hx hb hd hi (lv_get hl hg) (k H locs cells slots lsA hR hS hc hs hn hnl hl)
    | some a => exact lv_aload_n hx hb hd hi (lv_get hl hg) (k H locs cells slots lsA hR hS hc hs hn hnl hl)
  · intro pc ls st h c0 s1 i r hd hg k H locs cells slots lsA hR hS hc hs hn hnl hl
    cases r with
    | none => exact lv_aloadN hx hb hd (lv_get hl hg) (k H locs cells slots lsA hR hS hc hs hn hnl hl)
    | some a => exact lv_aload hx hb hd (lv_get hl hg) (k H locs cells slots lsA hR hS hc hs hn hnl hl)
  · intro pc ls st h c0 s1 k0 i x hd hi hlt k H locs cells slots lsA hR hS hc hs hn hnl hl
    exact lv_istore_n hx hb hd hi hl (by rw [← hn]; exact hlt) rfl (fun lsB hB => k H locs cells slots lsB hR hS hc hs (by rw [List.length_set]; exact hn) (noLong_set hnl rfl) (lv_put hB hnl))
  · intro pc ls st h c0 s1 i x hd hlt k H locs cells slots lsA hR hS hc hs hn hnl hl
    exact lv_istore hx hb hd hl (by rw [← hn]; exact hlt) rfl (fun lsB hB => k H locs cells slots lsB hR hS hc hs (by rw [List.length_set]; exact hn) (noLong_set hnl rfl) (lv_put hB hnl))
  · intro pc ls st h c0 s1 k0 i r hd hi hlt k H locs cells slots lsA hR hS hc hs hn hnl hl
    cases r with
    | none => exact lv_astore_nN hx hb hd hi hl (by rw [← hn]; exact hlt) rfl (fun lsB hB => k H locs cells slots lsB hR hS hc hs (by rw [List.length_set]; exact hn) (noLong_set hnl rfl) (lv_put (v := vn) hB hnl))
    | some a => exact lv_astore_n hx hb hd hi hl (by rw [← hn]; exact hlt) rfl (fun lsB hB => k H locs cells slots lsB hR hS hc hs (by rw [List.length_set]; exact hn) (noLong_set hnl rfl) (lv_put (v := vr a) hB hnl))
  · intro pc ls st h c0 s1 i r hd hlt k H locs cells slots lsA hR hS hc hs hn hnl hl
    cases r with
    | none => exact lv_astoreN hx hb hd hl (by rw [← hn]; exact hlt) rfl (fun lsB hB => k H locs cells slots lsB hR hS hc hs (by rw [List.length_set]; exact hn) (noLong_set hnl rfl) (lv_put (v := vn) hB hnl))
    | some a => exact lv_astore hx hb hd hl (by rw [← hn]; exact hlt) rfl (fun lsB hB => k H locs cells slots lsB hR hS hc hs (by rw [List.length_set]; exact hn) (noLong_set hnl rfl) (lv_put (v := vr a) hB hnl))
  · intro pc ls st h c0 s1 i n x hd hg k H locs cells slots lsA hR hS hc hs hn hnl hl
    have hm := lvOf_get ls 0 i (vi x) hg
    rw [Nat.zero_add] at hm
    obtain ⟨kk, hkk⟩ := List.getElem?_of_mem hm
    exact lv_iinc (v := zI (x + n)) hx hb hd hl hkk (by rw [zI_add]; rfl) (by rw [← hn]; exact (List.getElem?_eq_some_iff.mp hg).1) rfl (fun lsB hB => k H locs cells slots lsB hR hS hc hs (by rw [List.length_set]; exact hn) (noLong_set hnl rfl) (lv_put hB hnl))

theorem cl2 (hx : p.tables.exec = Jvm.exec) (hb : c.code = M.2.1) : Cl2 M.2.1 (JW p l e R s m args below meth c Q s0 D cy nL) := by
  refine ⟨?_, ?_, ?_, ?_, ?_, ?_, ?_, ?_, ?_, ?_, ?_, ?_, ?_, ?_, ?_⟩
  · intro pc ls st h c0 s1 x y hd k H locs cells slots lsA hR hS hc hs hn hnl hl
    exact lv_iadd hx hb hd (by have q := k H locs cells slots lsA hR hS hc hs hn hnl hl; rw [← zI_add]; exact q)
  · intro pc ls st h c0 s1 x y hd k H locs cells slots lsA hR hS hc hs hn hnl hl
    exact lv_isub hx hb hd (by have q := k H locs cells slots lsA hR hS hc hs hn hnl hl; rw [← zI_sub]; exact q)
  · intro pc ls st h c0 s1 x y hd k H locs cells slots lsA hR hS hc hs hn hnl hl
    exact lv_imul hx hb hd (by have q := k H locs cells slots lsA hR hS hc hs hn hnl hl; rw [← zI_mul]; exact q)
  · intro pc ls st h c0 s1 x y hd k H locs cells slots lsA hR hS hc hs hn hnl hl
    refine lv_iand hx hb hd ?_
    have q := k H locs cells slots lsA hR hS hc hs hn hnl hl
    rw [← zI_of (zI x &&& zI y)]
    exact q
  · intro pc ls st h c0 s1 x y hd k H locs cells slots lsA hR hS hc hs hn hnl hl
    refine lv_ior hx hb hd ?_
    have q := k H locs cells slots lsA hR hS hc hs hn hnl hl
    rw [← zI_of (zI x ||| zI y)]
    exact q
  · intro pc ls st h c0 s1 x y hd k H locs cells slots lsA hR hS hc hs hn hnl hl
    refine lv_ixor hx hb hd ?_
    have q := k H locs cells slots lsA hR hS hc hs hn hnl hl
    rw [← zI_of (zI x ^^^ zI y)]
    exact q
  · intro pc ls st h c0 s1 x y hd k H locs cells slots lsA hR hS hc hs hn hnl hl
    refine lv_ishl hx hb hd ?_
    have q := k H locs cells slots lsA hR hS hc hs hn hnl hl
    rw [← zI_of (zI x <<< (zI y &&& 31))]
    exact q
  · intro pc ls st h c0 s1 x y hd k H locs cells slots lsA hR hS hc hs hn hnl hl
    refine lv_ishr hx hb hd ?_
    have q := k H locs cells slots lsA hR hS hc hs hn hnl hl
    rw [← zI_of (zI x >>> (zI y &&& 31))]
    exact q
  · intro pc ls st h c0 s1 x y hd h0 h1 h2 h3 k H locs cells slots lsA hR hS hc hs hn hnl hl
    refine lv_irem hx hb hd ?_ ?_
    · rw [zI_0, zI_eq ⟨by omega, h3⟩ inR0]; omega
    · have q := k H locs cells slots lsA hR hS hc hs hn hnl hl
      obtain ⟨xn, rfl⟩ := Int.eq_ofNat_of_zero_le h0
      obtain ⟨yn, rfl⟩ := Int.eq_ofNat_of_zero_le (Int.le_of_lt h2)
      have e := pk_rem (a := xn) (d := yn) (by omega) (by omega) (by omega)
      rw [← zI_nI, ← zI_nI, ← zI_nI] at e
      rw [e, Int.natCast_emod]
      exact q
  · intro pc ls st h c0 s1 x hd hr k H locs cells slots lsA hR hS hc hs hn hnl hl
    refine lv_i2l hx hb hd (v := Int64.ofInt x) ?_ (k H locs cells slots lsA hR hS hc hs hn hnl hl)
    show Int64.ofInt (zI x).toInt = Int64.ofInt x
    rw [zI_to hr]
  · intro pc ls st h c0 s1 x y hd hrx hry k H locs cells slots lsA hR hS hc hs hn hnl hl
    refine W.lcmp hx hb hd ?_
    have q := k H locs cells slots lsA hR hS hc hs hn hnl hl
    have ex : (Int64.ofInt x).toInt = x := by
      obtain ⟨a1, a2⟩ := hrx
      have e64 : (Int64.size : Int) = 18446744073709551616 := rfl
      rw [Int64.toInt_ofInt]; exact Int.bmod_eq_of_le (by omega) (by omega)
    have ey : (Int64.ofInt y).toInt = y := by
      obtain ⟨a1, a2⟩ := hry
      have e64 : (Int64.size : Int) = 18446744073709551616 := rfl
      rw [Int64.toInt_ofInt]; exact Int.bmod_eq_of_le (by omega) (by omega)
    have hv : lg_cmp (Int64.ofInt x) (Int64.ofInt y) = zI (if x = y then 0 else if y < x then 1 else -1) := by
      unfold lg_cmp
      simp only [gt_iff_lt, Int64.lt_iff_toInt_lt, ← Int64.toInt_inj, ex, ey]
      by_cases h1 : x = y
      · simp [h1, zI]
      · by_cases h2 : y < x
        · simp [h1, h2, zI]
        · simp [h1, h2, zI]
    rw [hv]
    exact q
  · intro pc ls st h c0 s1 v hd hv k H locs cells slots lsA hR hS hc hs hn hnl hl
    exact lv_dup hx hb hd (by rw [tv_cat]; exact hv) (k H locs cells slots lsA hR hS hc hs hn hnl hl)
  · intro pc ls st h c0 s1 v hd hv k H locs cells slots lsA hR hS hc hs hn hnl hl
    exact lv_pop hx hb hd (va := tv v) (by rw [tv_cat]; exact hv) (k H locs cells slots lsA hR hS hc hs hn hnl hl)
  · intro pc ls st h c0 s1 v w hd hv hw k H locs cells slots lsA hR hS hc hs hn hnl hl
    exact lv_dup_x1 hx hb hd (va := tv v) (vb := tv w) (by rw [tv_cat]; exact hv) (by rw [tv_cat]; exact hw) (k H locs cells slots lsA hR hS hc hs hn hnl hl)
  · intro pc ls st h c0 s1 v w hd hv hw k H locs cells slots lsA hR hS hc hs hn hnl hl
    exact lv_dup2_11 hx hb hd (va := tv v) (vb := tv w) (by rw [tv_cat]; exact hv) (by rw [tv_cat]; exact hw) (k H locs cells slots lsA hR hS hc hs hn hnl hl)

theorem cl3 (hx : p.tables.exec = Jvm.exec) (hb : c.code = M.2.1) : Cl3 M.2.1 (JW p l e R s m args below meth c Q s0 D cy nL) := by
  refine ⟨?_, ?_, ?_, ?_, ?_, ?_, ?_, ?_, ?_, ?_, ?_, ?_, ?_, ?_, ?_, ?_, ?_, ?_, ?_⟩
  · intro pc ls st h c0 s1 off t hd ht k H locs cells slots lsA hR hS hc hs hn hnl hl
    exact lv_goto hx hb hd ht (k H locs cells slots lsA hR hS hc hs hn hnl hl)
  · intro pc ls st h c0 s1 off t x hd ht hr kt kf H locs cells slots lsA hR hS hc hs hn hnl hl
    exact lv_if_eq hx hb hd ht (fun q => kt ((zI_eq hr inR0).mp q) H locs cells slots lsA hR hS hc hs hn hnl hl) (fun q => kf (fun z => q ((zI_eq hr inR0).mpr z)) H locs cells slots lsA hR hS hc hs hn hnl hl)
  · intro pc ls st h c0 s1 off t x hd ht hr kt kf H locs cells slots lsA hR hS hc hs hn hnl hl
    exact lv_if_ne hx hb hd ht (fun q => kt (fun z => q ((zI_eq hr inR0).mpr z)) H locs cells slots lsA hR hS hc hs hn hnl hl) (fun q => kf ((zI_eq hr inR0).mp q) H locs cells slots lsA hR hS hc hs hn hnl hl)
  · intro pc ls st h c0 s1 off t x hd ht hr kt kf H locs cells slots lsA hR hS hc hs hn hnl hl
    exact lv_if_lt hx hb hd ht (fun q => kt ((zI_lt hr inR0).mp q) H locs cells slots lsA hR hS hc hs hn hnl hl) (fun q => kf (Int.not_lt.mp (fun z => q ((zI_lt hr inR0).mpr z))) H locs cells slots lsA hR hS hc hs hn hnl hl)
  · intro pc ls st h c0 s1 off t x hd ht hr kt kf H locs cells slots lsA hR hS hc hs hn hnl hl
    exact lv_if_ge hx hb hd ht (fun q => kt ((zI_le inR0 hr).mp q) H locs cells slots lsA hR hS hc hs hn hnl hl) (fun q => kf (Int.not_le.mp (fun z => q ((zI_le inR0 hr).mpr z))) H locs cells slots lsA hR hS hc hs hn hnl hl)
  · intro pc ls st h c0 s1 off t x hd ht hr kt kf H locs cells slots lsA hR hS hc hs hn hnl hl
    exact lv_if_gt hx hb hd ht (fun q => kt ((zI_lt inR0 hr).mp q) H locs cells slots lsA hR hS hc hs hn hnl hl) (fun q => kf (Int.not_lt.mp (fun z => q ((zI_lt inR0 hr).mpr z))) H locs cells slots lsA hR hS hc hs hn hnl hl)
  · intro pc ls st h c0 s1 off t x hd ht hr kt kf H locs cells slots lsA hR hS hc hs hn hnl hl
    exact lv_if_le hx hb hd ht (fun q => kt ((zI_le hr inR0).mp q) H locs cells slots lsA hR hS hc hs hn hnl hl) (fun q => kf (Int.not_le.mp (fun z => q ((zI_le hr inR0).mpr z))) H locs cells slots lsA hR hS hc hs hn hnl hl)
  · intro pc ls st h c0 s1 off t x y hd ht hr1 hr2 kt kf H locs cells slots lsA hR hS hc hs hn hnl hl
    exact lv_icmp_eq hx hb hd ht (fun q => kt ((zI_eq hr1 hr2).mp q) H locs cells slots lsA hR hS hc hs hn hnl hl) (fun q => kf (fun z => q ((zI_eq hr1 hr2).mpr z)) H locs cells slots lsA hR hS hc hs hn hnl hl)
  · intro pc ls st h c0 s1 off t x y hd ht hr1 hr2 kt kf H locs cells slots lsA hR hS hc hs hn hnl hl
    exact lv_icmp_ne hx hb hd ht (fun q => kt (fun z => q ((zI_eq hr1 hr2).mpr z)) H locs cells slots lsA hR hS hc hs hn hnl hl) (fun q => kf ((zI_eq hr1 hr2).mp q) H locs cells slots lsA hR hS hc hs hn hnl hl)
  · intro pc ls st h c0 s1 off t x y hd ht hr1 hr2 kt kf H locs cells slots lsA hR hS hc hs hn hnl hl
    exact lv_icmp_lt hx hb hd ht (fun q => kt ((zI_lt hr1 hr2).mp q) H locs cells slots lsA hR hS hc hs hn hnl hl) (fun q => kf (Int.not_lt.mp (fun z => q ((zI_lt hr1 hr2).mpr z))) H locs cells slots lsA hR hS hc hs hn hnl hl)
  · intro pc ls st h c0 s1 off t x y hd ht hr1 hr2 kt kf H locs cells slots lsA hR hS hc hs hn hnl hl
    exact lv_icmp_ge hx hb hd ht (fun q => kt ((zI_le hr2 hr1).mp q) H locs cells slots lsA hR hS hc hs hn hnl hl) (fun q => kf (Int.not_le.mp (fun z => q ((zI_le hr2 hr1).mpr z))) H locs cells slots lsA hR hS hc hs hn hnl hl)
  · intro pc ls st h c0 s1 off t x y hd ht hr1 hr2 kt kf H locs cells slots lsA hR hS hc hs hn hnl hl
    exact lv_icmp_gt hx hb hd ht (fun q => kt ((zI_lt hr2 hr1).mp q) H locs cells slots lsA hR hS hc hs hn hnl hl) (fun q => kf (Int.not_lt.mp (fun z => q ((zI_lt hr2 hr1).mpr z))) H locs cells slots lsA hR hS hc hs hn hnl hl)
  · intro pc ls st h c0 s1 off t x y hd ht hr1 hr2 kt kf H locs cells slots lsA hR hS hc hs hn hnl hl
    exact lv_icmp_le hx hb hd ht (fun q => kt ((zI_le hr1 hr2).mp q) H locs cells slots lsA hR hS hc hs hn hnl hl) (fun q => kf (Int.not_le.mp (fun z => q ((zI_le hr1 hr2).mpr z))) H locs cells slots lsA hR hS hc hs hn hnl hl)
  · intro pc ls st h c0 s1 off t r hd ht kn ks H locs cells slots lsA hR hS hc hs hn hnl hl
    cases r with
    | none => exact lv_ifnullN hx hb hd ht (kn rfl H locs cells slots lsA hR hS hc hs hn hnl hl)
    | some a => exact lv_ifnull hx hb hd (ks a rfl H locs cells slots lsA hR hS hc hs hn hnl hl)
  · intro pc ls st h c0 s1 off t r hd ht ks kn H locs cells slots lsA hR hS hc hs hn hnl hl
    cases r with
    | none => exact lv_ifnonnullN hx hb hd (kn rfl H locs cells slots lsA hR hS hc hs hn hnl hl)
    | some a => exact lv_ifnonnull hx hb hd ht (ks a rfl H locs cells slots lsA hR hS hc hs hn hnl hl)
  · intro pc ls st h c0 s1 off t r q hd ht kt kf H locs cells slots lsA hR hS hc hs hn hnl hl
    exact lv_acmp_eq hx hb hd ht (fun z => kt z H locs cells slots lsA hR hS hc hs hn hnl hl) (fun z => kf z H locs cells slots lsA hR hS hc hs hn hnl hl)
  · intro pc ls st h c0 s1 off t r q hd ht kt kf H locs cells slots lsA hR hS hc hs hn hnl hl
    exact lv_acmp_ne hx hb hd ht (fun z => kt z H locs cells slots lsA hR hS hc hs hn hnl hl) (fun z => kf z H locs cells slots lsA hR hS hc hs hn hnl hl)
  · intro pc ls st h c0 s1 df lo hi offs len off t x hd hr h1 h2 ho ht k H locs cells slots lsA hR hS hc hs hn hnl hl
    exact lv_tableIn hx hb hd (by rw [zI_to hr]; omega) (by rw [zI_to hr]; omega) (by rw [zI_to hr]; exact ho) ht (k H locs cells slots lsA hR hS hc hs hn hnl hl)
  · intro pc ls st h c0 s1 df lo hi offs len t x hd hr h1 ht k H locs cells slots lsA hR hS hc hs hn hnl hl
    exact lv_tableOut hx hb hd (by rw [zI_to hr]; exact h1) ht (k H locs cells slots lsA hR hS hc hs hn hnl hl)

end SND
