/-! ===== a piece made ready for a writer ===== -/
def PT2 (g : GT) (o l i : Int) (s : GT) : Prop :=
  IV1 s ∧ s 11 0 = g 11 0 + 1 ∧ s 12 (g 11 0) = 1 ∧ s 13 (g 11 0) = -1 ∧ SAME (fun k => k ≠ 11 ∧ k ≠ 12 ∧ k ≠ 13 ∧ k ≠ 14 ∧ k ≠ 16 ∧ k ≠ 17 ∧ k ≠ 18 ∧ k ≠ 19 ∧ k ≠ 20 ∧ k ≠ 21) g s ∧
  (∀ m, KN s (g 11 0) m → g 7 m ≠ 0 ∧ s 19 (60 * m + g 11 0) = g 19 (60 * l + o)) ∧ (∀ m p, 0 ≤ p → p < g 11 0 → s 19 (60 * m + p) = g 19 (60 * m + p)) ∧
  (s 16 (g 11 0) = 0 → s = npG g ∧ ∀ k, 0 ≤ k → k < i → ¬ roomP g o (g 17 (8 * o + k)))
theorem room_np {g : GT} (B : BD g) (Z : HZ g) (h : g 11 0 < 60) {o n : Int} (ho : o ≠ g 11 0) (h0 : 0 ≤ n) (h1 : n < 8) : roomP (npG g) o n ↔ roomP g o n := by
  unfold roomP goodP
  rw [load_np B Z h h0 h1, np_ne g (k := 7) (by decide), np_ne g (k := 18) (by decide), np_ne g (k := 6) (by decide), np_12, if_neg ho]
theorem pt2_i {g : GT} (I : IV1 g) (Z : HZ g) (h : g 11 0 < 60) {o l : Int} (ho0 : 0 ≤ o) (ho1 : o < g 11 0) {i : Int} (hi0 : 0 ≤ i) (hi1 : i ≤ g 16 o) : PT2 g o l i (itrI (ptF o l (g 11 0)) i (npG g)) := by
  have b1 := I.1.nn
  have b2 := I.1.np
  have key : ∀ m : Nat, (m : Int) ≤ g 16 o → PT2 g o l m (itrI (ptF o l (g 11 0)) m (npG g)) := by
    intro m
    induction m with
    | zero =>
      intro _
      exact ⟨iv1_np I h, np_11 g, by show npG g 12 _ = _; rw [np_12, if_pos rfl], by show npG g 13 _ = _; rw [np_13, if_pos rfl], fun k hk j => np_ne g (by omega) j, fun m h => absurd h (np_kn m), fun m p a b => np_ne g (k := 19) (by decide) _, fun _ => ⟨rfl, fun k a b => by omega⟩⟩
    | succ m ih =>
      intro hm
      have P := pt_i (l := l) I.1 I.2.1 h ho0 ho1 (i := m) (by omega) (by omega)
      rw [show ((m + 1 : Nat) : Int) = (m : Int) + 1 by omega, itrI_s _ _ (by omega)]
      have A := ih (by omega)
      obtain ⟨s, hs⟩ : ∃ s, s = itrI (ptF o l (g 11 0)) m (npG g) := ⟨_, rfl⟩
      rw [← hs] at A P ⊢
      obtain ⟨SI, s11, s12, s13, SS, sk, s19, s0⟩ := A
      obtain ⟨-, -, -, -, -, -, -, p16, p17, pc, py⟩ := P
      have e17 : s 17 (8 * o + m) = g 17 (8 * o + m) := p17 _ (by have := I.1.cp o ho0 ho1; omega)
      have e4 := SS 4 (by decide) 0
      have bcy := I.1.cy o m ho0 ho1 (by omega) (by omega)
      have bco := I.1.cp o ho0 ho1
      unfold ptF
      rw [e17]
      by_cases hr : roomP s o (g 17 (8 * o + m))
      · rw [if_pos hr]
        obtain ⟨n, hn⟩ : ∃ n, n = g 17 (8 * o + m) := ⟨_, rfl⟩
        rw [← hn] at hr bcy ⊢
        have ne : ∀ k, k ≠ 18 ∧ k ≠ 19 ∧ k ≠ 20 ∧ k ≠ 21 → ∀ j, gtG s n (g 11 0) l o k j = s k j := fun k hk j => gt_ne _ _ _ _ _ hk j
        have I3 := iv1_gt SI (p := g 11 0) b2.1 (by omega) n l o
        have nk : ¬ KN s (g 11 0) n := by
          rintro ⟨j, j0, j1, j2⟩
          obtain ⟨k, k0, k1, k2⟩ := py j j0 j1
          rw [k2, hn] at j2
          exact I.2.1 o ho0 ho1 k m k0 k1 (by omega) j2
        have kc : ∀ m, KN (gtG s n (g 11 0) l o) (g 11 0) m ↔ KN s (g 11 0) m := fun m => KN.c (fun j => ne 16 (by decide) j) (fun j => ne 17 (by decide) j) _ m
        refine ⟨iv1_kn I3 b2.1 (by rw [ne 11 (by decide)]; omega) bcy.1 (by rw [ne 4 (by decide)]; omega) (fun q => nk ((kc n).mp q)) (by rw [gt_18, if_pos rfl, ne 12 (by decide)]), ?_, ?_, ?_, fun k hk j => ?_, fun m' hm' => ?_, fun m' p' a b => ?_, fun q => ?_⟩
        · rw [kn_ne _ _ _ (by decide) (by decide), ne 11 (by decide), s11]
        · rw [kn_ne _ _ _ (by decide) (by decide), ne 12 (by decide), s12]
        · rw [kn_ne _ _ _ (by decide) (by decide), ne 13 (by decide), s13]
        · rw [kn_ne _ _ _ (by omega) (by omega), ne k (by omega)]
          exact SS k (by omega) j
        · rw [kn_kn (by rw [ne 16 (by decide)]; omega), kc] at hm'
          rw [kn_ne _ _ _ (by decide) (by decide), gt_19, s19 l o ho0 ho1]
          rcases hm' with q | q
          · have := sk m' q
            refine ⟨this.1, ?_⟩
            split
            · rfl
            · exact this.2
          · rw [q, if_pos rfl]
            exact ⟨by rw [← SS 7 (by decide)]; exact hr.1.1, rfl⟩
        · rw [kn_ne _ _ _ (by decide) (by decide), gt_19, if_neg (by omega)]
          exact s19 m' p' a b
        · rw [kn_16, ne 16 (by decide)] at q
          omega
      · rw [if_neg hr]
        refine ⟨SI, s11, s12, s13, SS, sk, s19, fun q => ?_⟩
        have a := s0 q
        refine ⟨a.1, fun k k0 k1 => ?_⟩
        by_cases e : k = m
        · rw [e]
          rw [a.1, room_np I.1 Z h (by omega) bcy.1 (by omega)] at hr
          exact hr
        · exact a.2 k k0 (by omega)
  have := key i.toNat (by omega)
  rwa [Int.toNat_of_nonneg hi0] at this
theorem ptG_f {g : GT} (I : IV1 g) (Z : HZ g) {f z : Int} (hf0 : 0 ≤ f) (hf1 : f < g 22 0) (hz0 : 0 ≤ z) (hz1 : z < g 25 f) (hc : cpP g (g 26 (6 * f + z))) :
    IV1 (ptG g f z) ∧ ptG g f z 11 0 = g 11 0 + 1 ∧ ptG g f z 12 (g 11 0) = 1 ∧ ptG g f z 13 (g 11 0) = -1 ∧ SAME (fun k => k ≠ 11 ∧ k ≠ 12 ∧ k ≠ 13 ∧ k ≠ 14 ∧ k ≠ 16 ∧ k ≠ 17 ∧ k ≠ 18 ∧ k ≠ 19 ∧ k ≠ 20 ∧ k ≠ 21 ∧ k ≠ 26) g (ptG g f z) ∧
    (∀ m, KN (ptG g f z) (g 11 0) m → g 7 m ≠ 0 ∧ ptG g f z 19 (60 * m + g 11 0) = g 19 (60 * fgG g (g 26 (6 * f + z)) 0 + g 26 (6 * f + z))) ∧ 0 < ptG g f z 16 (g 11 0) := by
  have b2 := I.1.np
  have bre := I.1.re f z hf0 hf1 hz0 hz1
  obtain ⟨o, ho⟩ : ∃ o, o = g 26 (6 * f + z) := ⟨_, rfl⟩
  have d : ptG g f z = up (itrI (ptF o (fgG g o 0) (g 11 0)) (g 16 o) (npG g)) 26 (6 * f + z) (g 11 0) := by rw [ho]; rfl
  rw [← ho] at bre hc ⊢
  have bco := I.1.cp o bre.1 bre.2
  have A := pt2_i I Z hc.2 (l := fgG g o 0) bre.1 bre.2 bco.1 (Int.le_refl _)
  obtain ⟨s, hs⟩ : ∃ s, s = itrI (ptF o (fgG g o 0) (g 11 0)) (g 16 o) (npG g) := ⟨_, rfl⟩
  obtain ⟨t, ht⟩ : ∃ t, t = ptG g f z := ⟨_, rfl⟩
  rw [← hs] at A d
  rw [← ht] at d ⊢
  obtain ⟨SI, s11, s12, s13, SS, sk, s19, s0⟩ := A
  have ne : ∀ k, k ≠ 26 → ∀ j, t k j = s k j := fun k hk j => by rw [d, up_ne hk]
  have kc : ∀ p m, KN t p m ↔ KN s p m := fun p m => KN.c (fun j => ne 16 (by decide) j) (fun j => ne 17 (by decide) j) p m
  refine ⟨by rw [d]; exact iv1_up SI (bd_row SI.1 b2.1 (by omega)) (by decide) (fun q => absurd q (by decide)), by rw [ne 11 (by decide), s11], by rw [ne 12 (by decide), s12], by rw [ne 13 (by decide), s13], fun k hk j => by rw [ne k (by omega)]; exact SS k (by omega) j, fun m hm => ?_, ?_⟩
  · rw [ne 19 (by decide)]
    exact sk m ((kc _ m).mp hm)
  · rw [ne 16 (by decide)]
    have scp := SI.1.cp (g 11 0) b2.1 (by omega)
    by_cases q : s 16 (g 11 0) = 0
    · exfalso
      obtain ⟨k, k0, k1, k2⟩ := hc.1
      exact (s0 q).2 k k0 k1 k2
    · omega
theorem fu_kn (g : GT) (p : Int) : fuG g p = -1 ∨ (KN g p (fuG g p) ∧ g 7 (fuG g p) ≠ 0) := by
  rcases pick_kn (g := g) p (fun n => decide (g 7 n ≠ 0)) with h | h
  · exact Or.inl h
  · exact Or.inr ⟨h.1, of_decide_eq_true h.2⟩
theorem fu_ne {g : GT} (B : BD g) {p m : Int} (hp0 : 0 ≤ p) (hp1 : p < g 11 0) (h : KN g p m) (hu : g 7 m ≠ 0) : fuG g p ≠ -1 := by
  intro e
  rcases pick_d g p (fun n => decide (g 7 n ≠ 0)) with ⟨-, a⟩ | ⟨k, k0, k1, k2, -⟩
  · obtain ⟨k, k0, k1, k2⟩ := h
    have := of_decide_eq_false (a k k0 k1)
    rw [k2] at this
    exact this hu
  · have := B.cy p k hp0 hp1 k0 k1
    have e2 : fuG g p = g 17 (8 * p + k) := k2
    omega
/-- what readies leaves, as far as the next write needs it -/
theorem rd_f {t : GT} (I : IV1 t) {f z : Int} (Z : 0 < fwG t (t 26 (6 * f + z)) f → HZ t) (hf0 : 0 ≤ f) (hf1 : f < t 22 0) (hz0 : 0 ≤ z) (hz1 : z < t 25 f) (hc : cwP t f (t 26 (6 * f + z))) :
    IV1 (rdG t f z) ∧ (0 ≤ rdP t f z ∧ rdP t f z < rdG t f z 11 0) ∧ (0 ≤ rdG t f z 13 (rdP t f z) ∧ rdG t f z 13 (rdP t f z) < 8) ∧
    rdG t f z 19 (60 * rdG t f z 13 (rdP t f z) + rdP t f z) = t 19 (60 * ffG t f (t 26 (6 * f + z)) + t 26 (6 * f + z)) := by
  have b1 := I.1.nn
  have b2 := I.1.np
  have bre := I.1.re f z hf0 hf1 hz0 hz1
  obtain ⟨o, ho⟩ : ∃ o, o = t 26 (6 * f + z) := ⟨_, rfl⟩
  rw [← ho] at bre hc Z ⊢
  by_cases hs : 0 < fwG t o f
  · -- shared
    have cp := hc.2.resolve_left (fun q => q hs)
    have PF := ptG_f I (Z hs) hf0 hf1 hz0 hz1 (by rw [← ho]; exact cp)
    rw [← ho] at PF
    obtain ⟨p1, p2, p3, p4, p5, p6, p7⟩ := PF
    have e1 : rd1 t f z = ptG t f z := by unfold rd1; rw [← ho, if_pos hs]
    have e2 : rdP t f z = t 11 0 := by unfold rdP; rw [← ho, if_pos hs]
    have hff : ffG t f o = fgG t o 0 := if_pos hs
    obtain ⟨s, hsd⟩ : ∃ s, s = ptG t f z := ⟨_, rfl⟩
    rw [← hsd] at p1 p2 p3 p4 p5 p6 p7 e1
    have e3 : rdG t f z = lsG s (t 11 0) := by
      unfold rdG
      rw [e1, e2, if_neg (fun q => q.1.1 p4)]
    have kn0 : KN s (t 11 0) (s 17 (8 * t 11 0 + 0)) := ⟨0, by omega, p7, rfl⟩
    have hu0 := p6 _ kn0
    have fun0 : fuG s (t 11 0) ≠ -1 := fu_ne p1.1 b2.1 (by omega) kn0 (by rw [p5 7 (by decide)]; exact hu0.1)
    have L := ls_f p1 b2.1 (show t 11 0 < s 11 0 by omega) fun0
    have fk := (fu_kn s (t 11 0)).resolve_left fun0
    have fr := KN.r p1.1 b2.1 (by omega) fk.1
    have e4 := p5 4 (by decide) 0
    rw [e2, e3, L.2.1 11 (by decide), L.2.2.1, L.2.1 19 (by decide), hff]
    exact ⟨L.1, by omega, by omega, (p6 _ fk.1).2⟩
  · have e1 : rd1 t f z = t := by unfold rd1; rw [← ho, if_neg hs]
    have e2 : rdP t f z = o := by unfold rdP; rw [← ho, if_neg hs]
    by_cases hl : leaseP t o ∧ t 7 (t 13 o) ≠ 0
    · have e3 : rdG t f z = t := by
        unfold rdG
        rw [e1, e2, if_pos hl]
      have hff : ffG t f o = t 13 o := by unfold ffG; rw [if_neg hs, if_pos hl]
      have := I.1.pr o bre.1 bre.2
      have h1 := hl.1.1
      rw [e2, e3, hff]
      exact ⟨I, bre, by omega, rfl⟩
    · have hff : ffG t f o = fuG t o := by unfold ffG; rw [if_neg hs, if_neg hl]
      have hne : fuG t o ≠ -1 := by rw [← hff]; exact hc.1
      have e3 : rdG t f z = lsG t o := by
        unfold rdG
        rw [e1, e2, if_neg hl]
      have L := ls_f I bre.1 bre.2 hne
      have fk := (fu_kn t o).resolve_left hne
      have fr := KN.r I.1 bre.1 bre.2 fk.1
      rw [e2, e3, L.2.1 11 (by decide), L.2.2.1, L.2.1 19 (by decide), hff]
      exact ⟨L.1, bre, by omega, rfl⟩
/-- after a new piece, the writer can write -/
theorem ad_cw {g : GT} (I : IV1 g) (Z : HZ g) (hh : hpP g) {f : Int} (hf0 : 0 ≤ f) (hf1 : f < g 22 0) (hr : g 25 f < 6) :
    cwP (adG g f) f (g 11 0) ∧ adG g f 19 (60 * ffG (adG g f) f (g 11 0) + g 11 0) = 0 := by
  have b2 := I.1.np
  obtain ⟨a1, a2, a3, a4, a5, a6, a7, a8, a9, a10⟩ := adG_f I Z hh hf0 hf1 hr
  obtain ⟨t, ht⟩ : ∃ t, t = adG g f := ⟨_, rfl⟩
  rw [← ht] at a1 a2 a3 a4 a5 a6 a7 a8 a9 a10 ⊢
  have ns : ¬ 0 < fwG t (g 11 0) f := by omega
  have hff : ffG t f (g 11 0) = fuG t (g 11 0) := by unfold ffG; rw [if_neg ns, if_neg (fun q => q.1.1 a4)]
  have kn0 : KN t (g 11 0) (t 17 (8 * g 11 0 + 0)) := ⟨0, by omega, a7, rfl⟩
  have hu0 := a6 _ kn0
  have fun0 : fuG t (g 11 0) ≠ -1 := fu_ne a1.1 b2.1 (by omega) kn0 (by rw [a5 7 (by decide)]; exact hu0.1)
  have fk := (fu_kn t (g 11 0)).resolve_left fun0
  rw [hff]
  exact ⟨⟨by rw [hff]; exact fun0, Or.inl ns⟩, (a6 _ fk.1).2⟩
def ap1 (s : GT) (f : Int) : GT := if s 25 f = 0 ∨ (ffG s f (s 26 (6 * f + s 25 f - 1)) ≠ -1 ∧ s 19 (60 * ffG s f (s 26 (6 * f + s 25 f - 1)) + s 26 (6 * f + s 25 f - 1)) = 4) then adG s f else s
theorem ap1_y {s : GT} {f : Int} (h : fuP s f) : ap1 s f = adG s f := if_pos h
theorem ap1_n {s : GT} {f : Int} (h : ¬ fuP s f) : ap1 s f = s := if_neg h
theorem ad_12 {g : GT} (B : BD g) (D : DC g) (h : g 11 0 < 60) (f j : Int) : adG g f 12 j = npG g 12 j := by
  have A := ad_i B D h (i := 3) (by omega) (by omega)
  have d : adG g f 12 j = ad1 g 12 j := by unfold adG; rw [up_ne (by decide), up_ne (by decide)]
  rw [d]
  exact A.2.2.2.1 12 (by decide) j
theorem ap_f {s : GT} (I : IV1 s) (Z : HZ s) {f : Int} (hf0 : 0 ≤ f) (hf1 : f < s 22 0) (hc : caP s f) (hv : ∀ j, 0 ≤ s 12 j ∧ s 12 j < 1000000) :
    IV1 (ap1 s f) ∧ ap1 s f 22 0 = s 22 0 ∧ (1 ≤ ap1 s f 25 f ∧ ap1 s f 25 f ≤ 6) ∧ cwP (ap1 s f) f (ap1 s f 26 (6 * f + (ap1 s f 25 f - 1))) ∧
    (0 ≤ ap1 s f 19 (60 * ffG (ap1 s f) f (ap1 s f 26 (6 * f + (ap1 s f 25 f - 1))) + ap1 s f 26 (6 * f + (ap1 s f 25 f - 1))) ∧ ap1 s f 19 (60 * ffG (ap1 s f) f (ap1 s f 26 (6 * f + (ap1 s f 25 f - 1))) + ap1 s f 26 (6 * f + (ap1 s f 25 f - 1))) < 4) ∧
    (0 < fwG (ap1 s f) (ap1 s f 26 (6 * f + (ap1 s f 25 f - 1))) f → HZ (ap1 s f)) ∧ (∀ j, 0 ≤ ap1 s f 12 j ∧ ap1 s f 12 j < 1000000) ∧ ap1 s f 1 0 = s 1 0 := by
  have br := I.1.rw f hf0 hf1
  rcases hc.2 with ⟨hu, hr, hh⟩ | ⟨hu, hcw⟩
  · obtain ⟨a1, a2, a3, a4, a5, a6, a7, a8, a9, a10⟩ := adG_f I Z hh hf0 hf1 hr
    have C := ad_cw I Z hh hf0 hf1 hr
    have a12 := ad_12 I.1 I.2.1 hh.2 f
    rw [ap1_y hu]
    obtain ⟨t, ht⟩ : ∃ t, t = adG s f := ⟨_, rfl⟩
    rw [← ht] at a1 a2 a3 a4 a5 a6 a7 a8 a9 a10 C a12 ⊢
    have e : t 26 (6 * f + (t 25 f - 1)) = s 11 0 := by rw [a8, show 6 * f + (s 25 f + 1 - 1) = 6 * f + s 25 f by omega, a9]
    rw [e]
    refine ⟨a1, a5 22 (by decide) 0, by omega, C.1, by rw [C.2]; omega, fun q => by omega, fun j => ?_, a5 1 (by decide) 0⟩
    rw [a12 j, np_12]
    split
    · omega
    · exact hv j
  · rw [ap1_n hu, show 6 * f + (s 25 f - 1) = 6 * f + s 25 f - 1 by omega]
    have h0 : s 25 f ≠ 0 := fun q => hu (Or.inl q)
    have c4 := I.2.2.1 (60 * ffG s f (s 26 (6 * f + s 25 f - 1)) + s 26 (6 * f + s 25 f - 1))
    have n4 : s 19 (60 * ffG s f (s 26 (6 * f + s 25 f - 1)) + s 26 (6 * f + s 25 f - 1)) ≠ 4 := fun q => hu (Or.inr ⟨hcw.1, q⟩)
    exact ⟨I, rfl, by omega, hcw, by omega, fun _ => Z, hv, rfl⟩
theorem ca_c {s g : GT} (h : ∀ k, k ≠ 0 → ∀ j, s k j = g k j) (f : Int) : caP s f ↔ caP g f := by
  unfold caP fuP hpP openP cwP cpP roomP ffG leaseP fgG fuG goodP pick fwG fcG loadG
  simp only [h 1 (by decide), h 4 (by decide), h 6 (by decide), h 7 (by decide), h 9 (by decide), h 11 (by decide), h 12 (by decide), h 13 (by decide), h 14 (by decide), h 16 (by decide), h 17 (by decide), h 18 (by decide), h 19 (by decide), h 21 (by decide), h 22 (by decide), h 23 (by decide), h 25 (by decide), h 26 (by decide)]
theorem cw_c {s g : GT} (h : ∀ k, k ≠ 0 → ∀ j, s k j = g k j) (f p : Int) : cwP s f p ↔ cwP g f p := by
  unfold cwP cpP roomP ffG leaseP fgG fuG goodP pick fwG fcG loadG
  simp only [h 1 (by decide), h 6 (by decide), h 7 (by decide), h 11 (by decide), h 12 (by decide), h 13 (by decide), h 14 (by decide), h 16 (by decide), h 17 (by decide), h 18 (by decide), h 21 (by decide), h 22 (by decide), h 23 (by decide), h 25 (by decide), h 26 (by decide)]
theorem ff_c {s g : GT} (h : ∀ k, k ≠ 0 → ∀ j, s k j = g k j) (f p : Int) : ffG s f p = ffG g f p := by
  unfold ffG leaseP fgG fuG goodP pick fwG fcG
  simp only [h 1 (by decide), h 7 (by decide), h 12 (by decide), h 13 (by decide), h 14 (by decide), h 16 (by decide), h 17 (by decide), h 18 (by decide), h 21 (by decide), h 22 (by decide), h 23 (by decide), h 25 (by decide), h 26 (by decide)]
