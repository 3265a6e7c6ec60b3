/-! ===== the class: a new node ===== -/
def AN (A : Nat → Int → Nat) (n0 : Int) (q ps : Nat) (sl ar : Int → Nat) : Nat → Int → Nat := fun k j => if k = 0 ∧ j = n0 then q else if k = 1 ∧ j = n0 then ps else if k = 2 ∧ 12 * n0 ≤ j ∧ j < 12 * n0 + 12 then sl (j - 12 * n0) else if k = 3 ∧ 12 * n0 ≤ j ∧ j < 12 * n0 + 12 then ar (j - 12 * n0) else A k j
def UN (u : GT) (n0 : Int) : GT := fun k j => if k = 0 ∧ 12 * n0 ≤ j ∧ j < 12 * n0 + 12 then -1 else if k = 3 ∧ j = n0 then 0 else u k j
def NEWN (n0 b : Int) (k : Nat) (j : Int) : Prop := (k = 0 ∧ j = n0) ∨ (k = 1 ∧ j = n0) ∨ ((k = 2 ∨ k = 3) ∧ 12 * n0 ≤ j ∧ j < 12 * n0 + b)
theorem nd_e (g : GT) (a b : Int) {k : Nat} {j : Int} (h : ¬ (k = 4 ∧ j = 0)) (h2 : ¬ ((k = 5 ∨ k = 6 ∨ k = 7 ∨ k = 9 ∨ k = 10) ∧ j = g 4 0)) : ndG g a b k j = g k j := by
  unfold ndG up
  rw [if_neg (by omega), if_neg (by omega), if_neg (by omega), if_neg (by omega), if_neg (by omega), if_neg (by omega)]
theorem nd_4 (g : GT) (a b : Int) : ndG g a b 4 0 = g 4 0 + 1 := by unfold ndG; rw [up_self]
theorem nd_5 (g : GT) (a b j : Int) : ndG g a b 5 j = if j = g 4 0 then a else g 5 j := by
  unfold ndG
  rw [up_ne (by decide), up_ne (by decide), up_ne (by decide), up_ne (by decide), up_ne (by decide), up_at]
theorem nd_6 (g : GT) (a b j : Int) : ndG g a b 6 j = if j = g 4 0 then b else g 6 j := by
  unfold ndG
  rw [up_ne (by decide), up_ne (by decide), up_ne (by decide), up_ne (by decide), up_at, up_ne (by decide)]
theorem nd_7 (g : GT) (a b j : Int) : ndG g a b 7 j = if j = g 4 0 then 1 else g 7 j := by
  unfold ndG
  rw [up_ne (by decide), up_ne (by decide), up_ne (by decide), up_at, up_ne (by decide), up_ne (by decide)]
theorem nd_9 (g : GT) (a b j : Int) : ndG g a b 9 j = if j = g 4 0 then 1 else g 9 j := by
  unfold ndG
  rw [up_ne (by decide), up_ne (by decide), up_at, up_ne (by decide), up_ne (by decide), up_ne (by decide)]
theorem nd_10 (g : GT) (a b j : Int) : ndG g a b 10 j = if j = g 4 0 then -1 else g 10 j := by
  unfold ndG
  rw [up_ne (by decide), up_at, up_ne (by decide), up_ne (by decide), up_ne (by decide), up_ne (by decide)]
section ENs
variable {gx : GX} {x : Nat} {A : Nat → Int → Nat} {u : GT} {m : Int} {g : GT} {h h1 h' : Hp}
theorem AN_old {n0 : Int} {q ps : Nat} {sl ar : Int → Nat} {k : Nat} {j : Int} (h1 : ¬ ((k = 0 ∨ k = 1) ∧ j = n0)) (h2 : ¬ ((k = 2 ∨ k = 3) ∧ 12 * n0 ≤ j ∧ j < 12 * n0 + 12)) : AN A n0 q ps sl ar k j = A k j := by
  unfold AN
  rw [if_neg (by omega), if_neg (by omega), if_neg (by omega), if_neg (by omega)]
theorem AN_0 {n0 : Int} {q ps : Nat} {sl ar : Int → Nat} : AN A n0 q ps sl ar 0 n0 = q := if_pos ⟨rfl, rfl⟩
theorem AN_1 {n0 : Int} {q ps : Nat} {sl ar : Int → Nat} : AN A n0 q ps sl ar 1 n0 = ps := by
  unfold AN
  rw [if_neg (by omega), if_pos ⟨rfl, rfl⟩]
theorem AN_2 {n0 i : Int} {q ps : Nat} {sl ar : Int → Nat} (i0 : 0 ≤ i) (i1 : i < 12) : AN A n0 q ps sl ar 2 (12 * n0 + i) = sl i := by
  unfold AN
  rw [if_neg (by omega), if_neg (by omega), if_pos ⟨rfl, by omega, by omega⟩, show 12 * n0 + i - 12 * n0 = i by omega]
theorem AN_3 {n0 i : Int} {q ps : Nat} {sl ar : Int → Nat} (i0 : 0 ≤ i) (i1 : i < 12) : AN A n0 q ps sl ar 3 (12 * n0 + i) = ar i := by
  unfold AN
  rw [if_neg (by omega), if_neg (by omega), if_neg (by omega), if_pos ⟨rfl, by omega, by omega⟩, show 12 * n0 + i - 12 * n0 = i by omega]
theorem UN_e {n0 : Int} {k : Nat} {j : Int} (h1 : ¬ (k = 0 ∧ 12 * n0 ≤ j ∧ j < 12 * n0 + 12)) (h2 : ¬ (k = 3 ∧ j = n0)) : UN u n0 k j = u k j := by
  unfold UN
  rw [if_neg h1, if_neg h2]
theorem Rp.extN (R : Rp gx x A u m g h) (B : BD g) (ph : ∀ p, 0 ≤ p → p < g 11 0 → g 13 p ≠ -1 → g 13 p < g 4 0) {q ps : Nat} {sl ar : Int → Nat} {a b : Int} (O : OT h h1 (fun _ => False)) (hg1 : gx.1 ∉ hD h1) (hg : gx.1 ∉ hD h') (ha : inR a) (hb : 1 ≤ b ∧ b ≤ 12)
    (hq : q ∉ hD h) (N : (q ∈ hD h1 ∧ hK h1 q = 4) ∧ hP h1 q 2 = some ps ∧ (ps ∉ hD h ∧ ps ∈ hD h1 ∧ hK h1 ps = 14 ∧ (hN h1 ps : Int) = b) ∧ (hI h1 q 0 = g 4 0 ∧ hI h1 q 1 = a ∧ hI h1 q 3 = 0 ∧ hI h1 q 4 = 1 ∧ hI h1 q 5 = 1 ∧ hI h1 q 7 = -1)) (P : ∀ k, 0 ≤ k → k < b → NS1 h h1 ps (sl k) (ar k) k) (D : ∀ k l, 0 ≤ k → k < b → 0 ≤ l → l < b → (sl k = sl l ∨ ar k = ar l) → k = l)
    (L : LC gx h1 h' (A 8 0) (g 4 0 + 1) (fun j => if j = g 4 0 then some q else some (A 0 j))) : Rp gx x (AN A (g 4 0) q ps sl ar) (UN u (g 4 0)) m (ndG g a b) h' := by
  have b1 := B.nn
  obtain ⟨n0, hn0⟩ : ∃ n0, n0 = g 4 0 := ⟨_, rfl⟩
  rw [← hn0] at N L b1 ⊢
  have R1 := R.gar O hg1
  have e4 : ndG g a b 4 0 = n0 + 1 := by rw [nd_4, hn0]
  have eg : ∀ k j, ¬ (k = 4 ∧ j = 0) → ¬ ((k = 5 ∨ k = 6 ∨ k = 7 ∨ k = 9 ∨ k = 10) ∧ j = n0) → ndG g a b k j = g k j := fun k j c1 c2 => nd_e g a b c1 (by rw [← hn0]; exact c2)
  have e6 : ndG g a b 6 n0 = b := by rw [nd_6, if_pos hn0]
  have e11 := eg 11 0 (by omega) (by omega)
  have e22 := eg 22 0 (by omega) (by omega)
  have eA : ∀ k j, ¬ ((k = 0 ∨ k = 1) ∧ j = n0) → ¬ ((k = 2 ∨ k = 3) ∧ 12 * n0 ≤ j ∧ j < 12 * n0 + 12) → AN A n0 q ps sl ar k j = A k j := fun k j c1 c2 => AN_old c1 c2
  have eU : ∀ k j, ¬ (k = 0 ∧ 12 * n0 ≤ j ∧ j < 12 * n0 + 12) → ¬ (k = 3 ∧ j = n0) → UN u n0 k j = u k j := fun k j c1 c2 => UN_e c1 c2
  have v0 : VA g 8 0 := ⟨by decide, by decide⟩
  have l0 : LK 8 := Or.inr (Or.inr rfl)
  -- what is not a list, nor its row, stays
  have keep : ∀ z, z ∈ hD h1 → hK h1 z ≠ 1 → hK h1 z ≠ 13 → z ∈ hD h' ∧ hK h' z = hK h1 z ∧ hN h' z = hN h1 z ∧ (∀ j, hI h' z j = hI h1 z j) ∧ (∀ j, hP h' z j = hP h1 z j) := fun z hz k1 k13 => by
    obtain ⟨o1, o2, o3, o4⟩ := L.2.1 z hz
    obtain ⟨oi, op⟩ := o4 (R1.nsk l0 v0 hz k1 k13)
    exact ⟨o1, o2, o3, oi, op⟩
  have kq := keep q N.1.1 (by rw [N.1.2]; decide) (by rw [N.1.2]; decide)
  have kp := keep ps N.2.2.1.2.1 (by rw [N.2.2.1.2.2.1]; decide) (by rw [N.2.2.1.2.2.1]; decide)
  have split : ∀ k j, VA (ndG g a b) k j → VA g k j ∨ NEWN n0 b k j := by
    intro k j v
    have two : 0 ≤ j → j / 12 < ndG g a b 4 0 → j % 12 < ndG g a b 6 (j / 12) → (0 ≤ j ∧ j / 12 < g 4 0 ∧ j % 12 < g 6 (j / 12)) ∨ (12 * n0 ≤ j ∧ j < 12 * n0 + b) := fun j0 j1 j2 => by
      rw [e4] at j1
      by_cases c : j / 12 = n0
      · rw [c, e6] at j2
        right
        omega
      · rw [eg 6 _ (by omega) (by omega)] at j2
        left
        exact ⟨j0, by omega, j2⟩
    match k, v with
    | 0, v =>
      have c1 : j < ndG g a b 4 0 := v.2
      have c0 : 0 ≤ j := v.1
      rw [e4] at c1
      by_cases c : j = n0
      · exact Or.inr (Or.inl ⟨rfl, c⟩)
      · exact Or.inl ⟨c0, by omega⟩
    | 1, v =>
      have c1 : j < ndG g a b 4 0 := v.2
      have c0 : 0 ≤ j := v.1
      rw [e4] at c1
      by_cases c : j = n0
      · exact Or.inr (Or.inr (Or.inl ⟨rfl, c⟩))
      · exact Or.inl ⟨c0, by omega⟩
    | 2, v =>
      rcases two v.1 v.2.1 v.2.2 with c | c
      · exact Or.inl c
      · exact Or.inr (Or.inr (Or.inr ⟨Or.inl rfl, c⟩))
    | 3, v =>
      rcases two v.1 v.2.1 v.2.2 with c | c
      · exact Or.inl c
      · exact Or.inr (Or.inr (Or.inr ⟨Or.inr rfl, c⟩))
    | 4, v => exact Or.inl ⟨v.1, by have c := v.2; rw [e11] at c; exact c⟩
    | 5, v => exact Or.inl ⟨v.1, by have c := v.2; rw [e11] at c; exact c⟩
    | 6, v => exact Or.inl ⟨v.1, by have c := v.2; rw [e22] at c; exact c⟩
    | 7, v => exact Or.inl ⟨v.1, by have c := v.2; rw [e22] at c; exact c⟩
    | 8, v => exact Or.inl v
    | _ + 9, v => exact absurd v id
  have old : ∀ k j, VA g k j → AN A n0 q ps sl ar k j = A k j := by
    intro k j v
    match k, v with
    | 0, v => exact eA 0 j (by have c : j < g 4 0 := v.2; omega) (by omega)
    | 1, v => exact eA 1 j (by have c : j < g 4 0 := v.2; omega) (by omega)
    | 2, v => exact eA 2 j (by omega) (by have c : j / 12 < g 4 0 := v.2.1; omega)
    | 3, v => exact eA 3 j (by omega) (by have c : j / 12 < g 4 0 := v.2.1; omega)
    | 4, v => exact eA 4 j (by omega) (by omega)
    | 5, v => exact eA 5 j (by omega) (by omega)
    | 6, v => exact eA 6 j (by omega) (by omega)
    | 7, v => exact eA 7 j (by omega) (by omega)
    | 8, v => exact eA 8 j (by omega) (by omega)
    | _ + 9, v => exact absurd v id
  refine ⟨hg, ?_, fun n a0 a1 => ?_, fun n i a0 a1 a2 a3 => ?_, fun p a0 a1 => ?_, fun f a0 a1 => ?_, ?_, ?_, fun k j => ?_, fun k j => ?_, fun n a0 a1 => ?_⟩
  · obtain ⟨xa, xb, xc, x1, x2, x3⟩ := R1.xx
    obtain ⟨o1, o2, o3, oi, op⟩ := keep x xa.1 (by rw [xa.2]; decide) (by rw [xa.2]; decide)
    refine ⟨⟨o1, o2.trans xa.2⟩, ?_, ?_, ?_, ?_, ?_⟩
    · rw [op, op, op, eA 8 0 (by omega) (by omega), eA 8 1 (by omega) (by omega), eA 8 2 (by omega) (by omega)]; exact xb
    · rw [oi, oi, oi, eg 1 0 (by omega) (by omega), eg 2 0 (by omega) (by omega), eg 3 0 (by omega) (by omega)]; exact xc
    · rw [e4, eA 8 0 (by omega) (by omega)]
      refine L.1.c (fun i i0 i1 => ?_)
      by_cases c : i = n0
      · rw [if_pos c, c, AN_0]
      · rw [if_neg c, eA 0 i (by omega) (by omega)]
    · rw [eA 8 1 (by omega) (by omega)]
      refine (x2.ot L.2.1 (R1.nsl l0 v0 l0 ⟨by decide, by decide⟩ (by omega)) (fun c ec hc => R1.nsb l0 v0 l0 ⟨by decide, by decide⟩ (by omega) ec hc)).c (fun i i0 i1 => ?_)
      rw [eA 4 i (by omega) (by omega)]
    · rw [e22, eA 8 2 (by omega) (by omega)]
      refine (x3.ot L.2.1 (R1.nsl l0 v0 l0 ⟨by decide, by decide⟩ (by omega)) (fun c ec hc => R1.nsb l0 v0 l0 ⟨by decide, by decide⟩ (by omega) ec hc)).c (fun i i0 i1 => ?_)
      rw [eA 6 i (by omega) (by omega)]
  · rw [e4] at a1
    by_cases c : n = n0
    · subst c
      unfold RN
      rw [AN_0, AN_1, e6, nd_5, if_pos hn0, nd_7, if_pos hn0, nd_9, if_pos hn0, nd_10, if_pos hn0]
      have u3 : UN u n 3 n = 0 := by unfold UN; rw [if_neg (by omega), if_pos ⟨rfl, rfl⟩]
      rw [u3]
      refine ⟨⟨kq.1, kq.2.1.trans N.1.2⟩, ⟨(kq.2.2.2.2 2).trans N.2.1, kp.1, kp.2.1.trans N.2.2.1.2.2.1, by rw [kp.2.2.1]; exact N.2.2.1.2.2.2⟩, ?_⟩
      have y := N.2.2.2
      simp only [kq.2.2.2.1]
      exact ⟨y.1, y.2.1, y.2.2.1, y.2.2.2.1, y.2.2.2.2.1, fun z => absurd z (by decide), y.2.2.2.2.2⟩
    · have c1 : n < g 4 0 := by omega
      exact ((R1.lN l0 v0 L a0 c1).a (eA 0 n (by omega) (by omega)) (eA 1 n (by omega) (by omega))).c (fun k hk => eg k n (by omega) (by omega)) (eU 3 n (by omega) (by omega))
  · rw [e4] at a1
    by_cases c : n = n0
    · subst c
      rw [e6] at a3
      obtain ⟨y1, y2, y3, y4⟩ := P i a2 a3
      have ks := keep (sl i) y2.2.1 (by rw [y2.2.2]; decide) (by rw [y2.2.2]; decide)
      have kr := keep (ar i) y3.2.2.1 (by rw [y3.2.2.2.1]; decide) (by rw [y3.2.2.2.1]; decide)
      have u0 : UN u n 0 (12 * n + i) = -1 := if_pos ⟨rfl, by omega, by omega⟩
      unfold RS
      rw [AN_1, AN_2 a2 (by omega), AN_3 a2 (by omega), u0]
      exact ⟨(kp.2.2.2.2 i).trans y1, ⟨ks.1, ks.2.1.trans y2.2.2⟩, ⟨(ks.2.2.2.2 4).trans y3.1, kr.1, kr.2.1.trans y3.2.2.2.1, kr.2.2.1.trans y3.2.2.2.2⟩, Or.inl ⟨rfl, (ks.2.2.2.2 0).trans y4⟩⟩
    · have c1 : n < g 4 0 := by omega
      rw [eg 6 n (by omega) (by omega)] at a3
      have rm := R.room a0 c1
      exact ((R1.lS l0 v0 L a0 c1 a2 a3).a (eA 1 n (by omega) (by omega)) (eA 2 _ (by omega) (by omega)) (eA 3 _ (by omega) (by omega)) (fun _ _ => eA 4 _ (by omega) (by omega))).c (eU 0 _ (by omega) (by omega)) (by omega) (fun t _ _ _ => ⟨eg 18 t (by omega) (by omega), eg 19 t (by omega) (by omega), eg 21 t (by omega) (by omega), fun c _ _ => eg 20 _ (by omega) (by omega)⟩)
  · rw [e11] at a1
    exact ((R1.lQ l0 v0 L a0 a1 (fun z => absurd z.1 (by decide))).a (eA 4 p (by omega) (by omega)) (eA 5 p (by omega) (by omega)) (fun z => eA 0 _ (by have := ph p a0 a1 z; omega) (by omega)) (fun k k0 k1 => eA 0 _ (by have := B.cy p k a0 a1 k0 k1; omega) (by omega))).c (fun k hk => eg k p (by omega) (by omega)) (fun k _ _ => eg 17 _ (by omega) (by omega)) (eU 1 p (by omega) (by omega)) (eU 2 p (by omega) (by omega)) (eU 6 p (by omega) (by omega))
  · rw [e22] at a1
    exact ((R1.lF l0 v0 L a0 a1 (fun z => absurd z.1 (by decide))).a (eA 6 f (by omega) (by omega)) (eA 7 f (by omega) (by omega)) (fun k _ _ => eA 4 _ (by omega) (by omega))).c (eU 4 f (by omega) (by omega)) (eU 5 f (by omega) (by omega)) (fun z => ⟨(eg 23 f (by omega) (by omega)).symm.trans z, eg 24 f (by omega) (by omega)⟩) (fun k _ _ => eg 26 _ (by omega) (by omega))
  · -- names are of different things
    have new : ∀ k j, NEWN n0 b k j → AN A n0 q ps sl ar k j ∉ hD h ∧ hK h1 (AN A n0 q ps sl ar k j) = (if k = 0 then 4 else if k = 1 then 14 else if k = 2 then 2 else 10) := by
      rintro k j (⟨rfl, rfl⟩ | ⟨rfl, rfl⟩ | ⟨rfl | rfl, c0, c1⟩)
      · rw [AN_0]; exact ⟨hq, N.1.2⟩
      · rw [AN_1]; exact ⟨N.2.2.1.1, N.2.2.1.2.2.1⟩
      · have y := P (j - 12 * n0) (by omega) (by omega)
        have e := AN_2 (A := A) (n0 := n0) (q := q) (ps := ps) (sl := sl) (ar := ar) (i := j - 12 * n0) (by omega) (by omega)
        rw [show 12 * n0 + (j - 12 * n0) = j by omega] at e
        rw [e]; exact ⟨y.2.1.1, y.2.1.2.2⟩
      · have y := P (j - 12 * n0) (by omega) (by omega)
        have e := AN_3 (A := A) (n0 := n0) (q := q) (ps := ps) (sl := sl) (ar := ar) (i := j - 12 * n0) (by omega) (by omega)
        rw [show 12 * n0 + (j - 12 * n0) = j by omega] at e
        rw [e]; exact ⟨y.2.2.1.2.1, y.2.2.1.2.2.2.1⟩
    intro k j k' j' v v' e
    rcases split k j v with c | c <;> rcases split k' j' v' with d | d
    · rw [old k j c, old k' j' d] at e
      exact R.ap k j k' j' c d e
    · rw [old k j c] at e
      exact absurd (e ▸ R.mem c) (new k' j' d).1
    · rw [old k' j' d] at e
      exact absurd (e ▸ R.mem d) (new k j c).1
    · have kk := (new k j c).2
      rw [e, (new k' j' d).2] at kk
      have ek : k = k' := by
        rcases c with c | c | c <;> rcases d with d | d | d <;> (try rcases c.1 with c1 | c1) <;> (try rcases d.1 with d1 | d1) <;> (try simp only [c.1] at kk) <;> (try simp only [d.1] at kk) <;> (try simp only [c1] at kk) <;> (try simp only [d1] at kk) <;> first | omega | (exfalso; revert kk; decide)
      subst ek
      refine ⟨rfl, ?_⟩
      rcases c with c | c | c <;> rcases d with d | d | d <;> try omega
      have s2 : ∀ t, 12 * n0 ≤ t → t < 12 * n0 + b → AN A n0 q ps sl ar 2 t = sl (t - 12 * n0) ∧ AN A n0 q ps sl ar 3 t = ar (t - 12 * n0) := fun t t0 t1 => by
        have x2 := AN_2 (A := A) (n0 := n0) (q := q) (ps := ps) (sl := sl) (ar := ar) (i := t - 12 * n0) (by omega) (by omega)
        have x3 := AN_3 (A := A) (n0 := n0) (q := q) (ps := ps) (sl := sl) (ar := ar) (i := t - 12 * n0) (by omega) (by omega)
        rw [show 12 * n0 + (t - 12 * n0) = t by omega] at x2 x3
        exact ⟨x2, x3⟩
      have z := D (j - 12 * n0) (j' - 12 * n0) (by omega) (by omega) (by omega) (by omega) (by
        rcases c.1 with c1 | c1
        · left; rw [c1, (s2 j c.2.1 c.2.2).1, (s2 j' d.2.1 d.2.2).1] at e; exact e
        · right; rw [c1, (s2 j c.2.1 c.2.2).2, (s2 j' d.2.1 d.2.2).2] at e; exact e)
      omega
  · have BKg := BK.lc R1 l0 v0 L hg
    have lk : ∀ k j, LK k → VA (ndG g a b) k j → VA g k j := fun k j l v => (split k j v).resolve_right (fun c => by
      unfold NEWN at c
      rcases l with z | z | z <;> omega)
    intro k j k' j' y l l' v v' hy e e'
    have w := lk k j l v
    have w' := lk k' j' l' v'
    rw [old k j w] at e
    rw [old k' j' w'] at e'
    exact BKg k j k' j' y l l' w w' hy e e'
  · unfold ndG
    exact rgu (rgu (rgu (rgu (rgu (rgu R.rg ha) ⟨by omega, by omega⟩) inR1) inR1) inRn1) ⟨by omega, by omega⟩ k j
  · unfold UN
    split
    · exact inRn1
    · split
      · exact inR0
      · exact R.ru k j
  · rw [e4] at a1
    rw [nd_6]
    split
    · omega
    · exact R.room a0 (by omega)
end ENs
theorem iw_nd {g : GT} (W : IW g) (a b : Int) (h : g 4 0 < 8) : IW (ndG g a b) := by
  have B := W.b
  have b1 := B.nn
  have I := W.i
  have e : ∀ k, k ≠ 4 ∧ k ≠ 5 ∧ k ≠ 6 ∧ k ≠ 7 ∧ k ≠ 9 ∧ k ≠ 10 → ∀ j, ndG g a b k j = g k j := fun k hk j => nd_e g a b (by omega) (by omega)
  have e4 := nd_4 g a b
  have BN : BD (ndG g a b) := by
    refine ⟨by rw [e4]; omega, by rw [e 11 (by decide)]; exact B.np, by rw [e 22 (by decide)]; exact B.nf, fun n => ?_, fun n => ?_, fun p => by rw [e 15 (by decide)]; exact B.2.2.2.2.2.1 p, fun p h0 h1 => ?_, fun p k h0 h1 h2 h3 => ?_, fun f h0 h1 => ?_, fun f k h0 h1 h2 h3 => ?_, fun p h0 h1 => ?_⟩
    · rw [nd_7]; split
      · exact Or.inr rfl
      · exact B.isup n
    · rw [nd_9]; split
      · exact Or.inr rfl
      · exact B.ct n
    · rw [e 11 (by decide)] at h1; rw [e 16 (by decide)]; exact B.cp p h0 h1
    · rw [e 11 (by decide)] at h1; rw [e 16 (by decide)] at h3; rw [e 17 (by decide), e4]
      have := B.cy p k h0 h1 h2 h3; omega
    · rw [e 22 (by decide)] at h1; rw [e 25 (by decide)]; exact B.rw f h0 h1
    · rw [e 22 (by decide)] at h1; rw [e 25 (by decide)] at h3; rw [e 26 (by decide), e 11 (by decide)]; exact B.re f k h0 h1 h2 h3
    · rw [e 11 (by decide)] at h1; rw [e 13 (by decide)]; exact B.pr p h0 h1
  refine ⟨⟨BN, dc_same I.2.1 (fun k hk j => e k (by omega) j), cl_same I.2.2.1 (fun j => e 19 (by decide) j), fun p n h0 h1 h2 => ?_, fun p h0 h1 => ?_⟩, fun n p h0 h1 h2 h3 h4 => ?_, W.p.c (fun k hk => e k (by omega)), W.w.c (fun k hk => e k (by omega)), W.n.c (e 18 (by decide))⟩
  · rw [e 11 (by decide)] at h1
    rw [e 18 (by decide), e 12 (by decide)]
    exact I.2.2.2.1 p n h0 h1 ((KN.c (fun j => e 16 (by decide) j) (fun j => e 17 (by decide) j) p n).mp h2)
  · rw [e 11 (by decide)] at h1
    rw [e 12 (by decide)]
    exact I.2.2.2.2 p h0 h1
  · rw [e4, e 11 (by decide)] at h4
    rw [e 18 (by decide)]
    exact W.z n p h0 h1 h2 h3 (by omega)
theorem ci_nd {u g : GT} (C : CI u g) (W : IW g) (a b : Int) (h : g 4 0 < 8) (rm : ∀ n, 0 ≤ n → n < g 4 0 → g 6 n ≤ 12) (hb : b ≤ 12) : CI (UN u (g 4 0)) (ndG g a b) := by
  have b1 := W.b.nn
  have b2 := W.b.np
  have e : ∀ k, k ≠ 4 ∧ k ≠ 5 ∧ k ≠ 6 ∧ k ≠ 7 ∧ k ≠ 9 ∧ k ≠ 10 → ∀ j, ndG g a b k j = g k j := fun k hk j => nd_e g a b (by omega) (by omega)
  have e4 := nd_4 g a b
  have uo : ∀ n i, n ≠ g 4 0 → 0 ≤ i → i < 12 → UN u (g 4 0) 0 (12 * n + i) = u 0 (12 * n + i) := fun n i c i0 i1 => UN_e (by omega) (by omega)
  have un : ∀ i, 0 ≤ i → i < 12 → UN u (g 4 0) 0 (12 * g 4 0 + i) = -1 := fun i i0 i1 => if_pos ⟨rfl, by omega, by omega⟩
  have e6 : ∀ n, n ≠ g 4 0 → ndG g a b 6 n = g 6 n := fun n c => by rw [nd_6, if_neg c]
  have e6n : ndG g a b 6 (g 4 0) = b := by rw [nd_6, if_pos rfl]
  have z0 : ∀ p, 0 ≤ p → p < g 11 0 → g 18 (60 * g 4 0 + p) = 0 := fun p p0 p1 => W.z (g 4 0) p b1.1 h p0 (by omega) (Or.inl (Int.le_refl _))
  have lo : ∀ n, loadG (ndG g a b) n = loadG g n := fun n => by
    unfold loadG
    rw [e 11 (by decide)]
    simp only [e 18 (by decide)]
  unfold CI
  rw [e4, e 11 (by decide)]
  simp only [e 18 (by decide)]
  refine ⟨fun n i n0 n1 i0 i1 hu => ?_, fun n p n0 n1 p0 p1 hh => ?_, fun n i j n0 n1 i0 i1 j0 j1 hu hv => ?_, fun n n0 n1 => ?_⟩
  · by_cases c : n = g 4 0
    · rw [c, e6n] at i1
      rw [c, un i i0 (by omega)] at hu
      omega
    · rw [e6 n c] at i1
      have r := rm n n0 (by omega)
      rw [uo n i c i0 (by omega)] at hu ⊢
      exact C.1 n i n0 (by omega) i0 i1 hu
  · by_cases c : n = g 4 0
    · rw [c, z0 p p0 p1] at hh
      omega
    · have n2 : n < g 4 0 := by omega
      obtain ⟨i, i0, i1, hu⟩ := C.cov n0 n2 p0 p1 hh
      have r := rm n n0 n2
      exact ⟨i, i0, by rw [e6 n c]; exact i1, by rw [uo n i c i0 (by omega)]; exact hu⟩
  · by_cases c : n = g 4 0
    · rw [c, e6n] at i1
      rw [c, un i i0 (by omega)] at hu
      omega
    · have n2 : n < g 4 0 := by omega
      rw [e6 n c] at i1 j1
      have r := rm n n0 n2
      rw [uo n i c i0 (by omega)] at hu hv
      rw [uo n j c j0 (by omega)] at hv
      exact C.2.2.1 n i j n0 n2 i0 i1 j0 j1 hu hv
  · rw [lo]
    by_cases c : n = g 4 0
    · have ll : loadG g n = 0 := by
        unfold loadG
        refine cnt_z (fun k k0 k1 => decide_eq_false ?_)
        rw [c, z0 k k0 k1]
        decide
      rw [ll, c]
      unfold UN
      rw [if_neg (by omega), if_pos ⟨rfl, rfl⟩]
    · rw [UN_e (by omega) (by omega)]
      exact C.tk n0 (by omega)

set_option maxRecDepth 100000 in
set_option maxHeartbeats 4000000 in
theorem C_X4_node {gx : GX} {d : Nat} {Qr : Option AV → Hp → Prop} {Qx : String → Hp → Prop} {x : Nat} {A : Nat → Int → Nat} {u g : GT} {h : Hp} {a b : Int} (Z : Rs gx x A u g h) (ha : inR a) (hb : inR b) (K : inP a 0 3 → inP b 1 12 → g 4 0 ≠ 8 → ∀ A' u' h1, Rs gx x A' u' (ndG g a b) h1 → Qr (some (vi (g 4 0))) h1) (kx1 : ¬ inP a 0 3 → Qx "java/lang/IndexOutOfBoundsException" h) (kx2 : inP a 0 3 → ¬ inP b 1 12 → Qx "java/lang/IllegalArgumentException" h) (kx3 : inP a 0 3 → inP b 1 12 → ¬ g 4 0 ≠ 8 → Qx "java/lang/IllegalStateException" h) : aM gx (d + 7) mX4_node [vr x, vi a, vi b] h 60 400 Qr Qx := by
  intro J C
  show J 0 [some (vr x), some (vi a), some (vi b), none] [] h 60 400
  have R := Z.1.1; have W := Z.1.2.1; have Ci := Z.1.2.2; have F := Z.2.1; have I := W.i; have B := W.b; have b1 := B.nn; have b2 := B.np; have b3 := B.nf; have Zd := Z.1.z
  refine r_iload_n C dX4_node_0 (i := 1) rfl rfl ?_
  refine c_S1 C dX4_node_1 sX4_33 rfl (Nat.le_of_ble_eq_true rfl) 1 6 (by omega) (by omega) (C_X4_requireRack ha (fun hd => ?_) (fun hd => ?_))
  · skip
    refine r_iload_n C dX4_node_4 (i := 2) rfl rfl ?_
    refine r_iconst C dX4_node_5 ?_
    refine r_ic_lt C dX4_node_6 (t := 15) (by decide) (by first | assumption | exact R.rg _ _ | exact R.ru _ _ | (unfold inR; omega)) (by first | assumption | exact R.rg _ _ | exact R.ru _ _ | (unfold inR; omega)) (fun c6 => ?_) (fun c6 => ?_)
    · skip
      refine r_thr C tX4_node_15 rfl (by omega) (Nat.le_of_ble_eq_true rfl) (by omega) (by omega) ?_
      exact kx2 (by omega) (by omega)
    · skip
      refine r_iload_n C dX4_node_9 (i := 2) rfl rfl ?_
      refine r_bipush C dX4_node_10 (by decide) ?_
      refine r_ic_le C dX4_node_12 (t := 25) (by decide) (by first | assumption | exact R.rg _ _ | exact R.ru _ _ | (unfold inR; omega)) (by first | assumption | exact R.rg _ _ | exact R.ru _ _ | (unfold inR; omega)) (fun c12 => ?_) (fun c12 => ?_)
      · skip
        refine r_aload_n C dX4_node_25 (i := 0) rfl rfl ?_
        refine c_5_0 C dX4_node_26 fX4_10 R  ?_
        refine c_szN C dX4_node_29 sX4_44 R  (Nat.le_of_ble_eq_true rfl) ?_
        refine r_bipush C dX4_node_32 (by decide) ?_
        refine r_ic_lt C dX4_node_34 (t := 47) (by decide) (by first | assumption | exact R.rg _ _ | exact R.ru _ _ | (unfold inR; omega)) (by first | assumption | exact R.rg _ _ | exact R.ru _ _ | (unfold inR; omega)) (fun c34 => ?_) (fun c34 => ?_)
        · skip
          refine r_new C dX4_node_47 (ci := 3) (by decide) kX4_53 (by omega) (by show 8 ≤ _; omega) (fun q hq => ?_)
          refine r_gxn C (fun hgq => ?_)
          have R0 := R
          have OTq : OT h (hNew h q 4 8) (fun _ => False) := OT.nw hq 4 8
          have R := R0.gar OTq hgq
          have hqD : q ∈ hD (hNew h q 4 8) := List.mem_append.mpr (Or.inr (List.mem_singleton.mpr rfl))
          have hqK : hK (hNew h q 4 8) q = 4 := if_pos rfl
          refine r_dup C dX4_node_50 rfl ?_
          refine r_aload_n C dX4_node_51 (i := 0) rfl rfl ?_
          refine c_5_0 C dX4_node_52 fX4_10 R  ?_
          refine c_szN C dX4_node_55 sX4_44 R  (Nat.le_of_ble_eq_true rfl) ?_
          refine r_iload_n C dX4_node_58 (i := 1) rfl rfl ?_
          refine r_iload_n C dX4_node_59 (i := 2) rfl rfl ?_
          refine r_callI C dX4_node_60 sX4_55 (As := [vi (g 4 0), vi a, vi b]) (fun v hv => by simp only [List.mem_cons, List.not_mem_nil, or_false] at hv; rcases hv with z | z | z <;> (rw [z]; rfl)) (Nat.le_of_ble_eq_true rfl) (c1 := 30) (s1 := 200) (by omega) (by show 200 ≤ _ - 8; omega) (C_X2_init hqD hqK (by omega) (fun ps sl ar h1 N P D => ?_))
          refine r_gxn C (fun hg1 => ?_)
          have OT1 : OT h h1 (fun _ => False) := OTq.tr2 N.1 (fun b hb e => hq (e ▸ hb))
          have sub : ∀ z, z ∉ hD (hNew h q 4 8) → z ∉ hD h := fun z hz y => hz (List.mem_append.mpr (Or.inl y))
          have R1 := R0.gar OT1 hg1
          refine r_astore_n C dX4_node_63 (i := 3) rfl (Nat.le_of_ble_eq_true rfl) ?_
          dsimp only [List.set]
          have R := R1
          refine r_aload_n C dX4_node_64 (i := 0) rfl rfl ?_
          refine c_5_0 C dX4_node_65 fX4_10 R  ?_
          refine r_aload_n C dX4_node_68 (i := 3) rfl rfl ?_
          have LA := R1.xx.2.2.2.1
          have hE : ∀ j, 0 ≤ j → j < g 4 0 → ∀ y, (fun n => some (A 0 n)) j = some y → y ∈ hD h1 ∧ ∃ ci, ci < 7 ∧ hK h1 y = ci + 1 ∧ Cond.castable (cNm ci) "java/lang/Object" ∈ tb := fun j j0 j1 y hy => by
            have n := (R1.n j0 j1).1
            have e : A 0 j = y := Option.some.inj hy
            rw [← e]
            exact ⟨n.1, 3, by decide, n.2, castO_3⟩
          refine r_callV C (As := [vr q]) dX4_node_69 sX4_58 (fun v hv => by rw [List.mem_singleton.mp hv]; rfl) (ci := 0) (by decide) rfl LA.1.1 LA.1.2 (Nat.le_of_ble_eq_true rfl) (c1 := 1) (s1 := 10) (by omega) (by show 10 ≤ _ - 8 - 200; omega) (C_AL_add1 LA (by omega) N.2.1.1 N.2.1.2 (by decide) castO_3 (fun h2 L2 => ?_))
          refine r_gxn C (fun hg2 => ?_)
          have R2 := R0.extN B (fun p p0 p1 z => (W.p.b B p0 p1 z).2) OT1 hg1 hg2 ha (by omega) hq ⟨N.2.1, N.2.2.1, ⟨sub ps N.2.2.2.1.1, N.2.2.2.1.2⟩, N.2.2.2.2⟩ (fun k k0 k1 => ⟨(P k k0 k1).1, ⟨sub _ (P k k0 k1).2.1.1, (P k k0 k1).2.1.2⟩, ⟨(P k k0 k1).2.2.1.1, sub _ (P k k0 k1).2.2.1.2.1, (P k k0 k1).2.2.1.2.2⟩, (P k k0 k1).2.2.2⟩) D L2
          have W2 := iw_nd W a b (by omega)
          have C2 := ci_nd Ci W a b (by omega) R0.rml (by omega)
          have ne : ∀ k, k ≠ 4 ∧ k ≠ 5 ∧ k ≠ 6 ∧ k ≠ 7 ∧ k ≠ 9 ∧ k ≠ 10 → ∀ j, ndG g a b k j = g k j := fun k hk j => nd_e g a b (by omega) (by omega)
          have uo : ∀ k, k ≠ 0 ∧ k ≠ 3 → ∀ j, UN u (g 4 0) k j = u k j := fun k hk j => UN_e (by omega) (by omega)
          have Z2 : Rs gx x (AN A (g 4 0) q ps sl ar) (UN u (g 4 0)) (ndG g a b) h2 := by
            show Rt gx x _ (ndG g a b 11 0) (ndG g a b 1 0) _ _ _
            rw [ne 11 (by decide), ne 1 (by decide)]
            exact ⟨⟨R2, W2, C2⟩, F.c (uo 2 (by decide)) (uo 4 (by decide)) (uo 5 (by decide)) (fun k hk j => ne k (by omega) j), fun p p0 p1 => (uo 6 (by decide) p).trans (Z.2.2.1 p p0 p1), fun p p0 p1 => by rw [uo 1 (by decide)]; exact Z.2.2.2 p p0 p1⟩
          have rq := (R2.n b1.1 (show g 4 0 < ndG g a b 4 0 by rw [nd_4]; omega))
          unfold RN at rq
          rw [AN_0] at rq
          refine r_pop C dX4_node_72 rfl ?_
          refine r_aload_n C dX4_node_73 (i := 3) rfl rfl ?_
          refine r_getI C dX4_node_74 fX4_62 rfl rq.1.1 rq.1.2 ?_
          rw [show hI h2 q (0 : Nat) = g 4 0 from rq.2.2.1]
          refine r_iret C dX4_node_77 (Or.inl rfl) ?_
          exact K (by omega) (by omega) (by omega) _ _ _ Z2
        · skip
          refine r_thr C tX4_node_37 rfl (by omega) (Nat.le_of_ble_eq_true rfl) (by omega) (by omega) ?_
          exact kx3 (by omega) (by omega) (by omega)
      · skip
        refine r_thr C tX4_node_15 rfl (by omega) (Nat.le_of_ble_eq_true rfl) (by omega) (by omega) ?_
        exact kx2 (by omega) (by omega)
  · skip
    exact kx1 (by omega)

