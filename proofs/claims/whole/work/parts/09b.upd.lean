/-! ===== a change of one object ===== -/
theorem OT.wi1 (h : Hp) (a : Nat) (k v : Int) : OT h (wI h a k v) (fun b => b = a) := OT.wi h (S := fun b => b = a) rfl k v
theorem OT.wp1 (h : Hp) (a : Nat) (k : Int) (v : Option Nat) : OT h (wP h a k v) (fun b => b = a) := OT.wp h (S := fun b => b = a) rfl k v
section UPs
variable {gx : GX} {x : Nat} {A : Nat → Int → Nat} {u u' : GT} {m m' : Int} {g g' : GT} {h h' : Hp} {S : Nat → Prop}
/-- a node's own cells -/
theorem Rp.wN (R : Rp gx x A u m g h) {n0 : Int} (h0 : 0 ≤ n0) (h1 : n0 < g 4 0) (O : OT h h' (fun b => b = A 0 n0)) (D : hD h' = hD h) (hn : RN A u' g' h' n0)
    (eg : ∀ k j, ¬ ((k = 7 ∨ k = 8 ∨ k = 9 ∨ k = 10) ∧ j = n0) → g' k j = g k j) (eu : ∀ k j, ¬ (k = 3 ∧ j = n0) → u' k j = u k j) (rg : ∀ k j, inR (g' k j)) (ru : ∀ k j, inR (u' k j)) : Rp gx x A u' m g' h' := by
  have kk := (R.n h0 h1).1.2
  have ne : ∀ b, hK h b ≠ 4 → ¬ (b = A 0 n0) := fun b hb z => hb (z ▸ kk)
  have e4 := eg 4 0 (by omega)
  have e11 := eg 11 0 (by omega)
  have e22 := eg 22 0 (by omega)
  refine ⟨by rw [D]; exact R.gxn, R.tX O (fun b hb => ne b (by omega)) (fun k hk => eg k 0 (by omega)), fun n a0 a1 => ?_, fun n i a0 a1 a2 a3 => ?_, fun p a0 a1 => ?_, fun f a0 a1 => ?_, R.ap.c (fun k j hk => eg k j (by omega)), (BK.ot R O D (fun b hb => ne b (by omega))).c (fun k j hk => eg k j (by omega)), rg, ru, fun n a0 a1 => ?_⟩
  · rw [e4] at a1
    by_cases z : n = n0
    · rw [z]; exact hn
    · exact ((R.n a0 a1).ot O (fun q => z (R.ap 0 n 0 n0 ⟨a0, a1⟩ ⟨h0, h1⟩ q).2)).c (fun k hk => eg k n (by omega)) (eu 3 n (by omega))
  · rw [e4] at a1
    rw [eg 6 n (by omega)] at a3
    exact R.tS O (fun b hb => ne b (by omega)) a0 a1 a2 a3 (eu 0 _ (by omega)) (by omega) (fun t _ _ _ => ⟨eg 18 t (by omega), eg 19 t (by omega), eg 21 t (by omega), fun c _ _ => eg 20 _ (by omega)⟩)
  · rw [e11] at a1
    exact R.tQ O (fun b hb => ne b (by omega)) a0 a1 (fun k hk => eg k p (by omega)) (fun k _ _ => eg 17 _ (by omega)) (eu 1 p (by omega)) (eu 2 p (by omega)) (eu 6 p (by omega))
  · rw [e22] at a1
    exact R.tF O (fun b hb => ne b (by omega)) a0 a1 (eu 4 f (by omega)) (eu 5 f (by omega)) (fun z => ⟨(eg 23 f (by omega)).symm.trans z, eg 24 f (by omega)⟩) (fun k _ _ => eg 26 _ (by omega))
  · rw [e4] at a1
    rw [eg 6 n (by omega)]
    exact R.room a0 a1
/-- a place's own cells -/
theorem Rp.wS (R : Rp gx x A u m g h) {n0 i0 : Int} (h0 : 0 ≤ n0) (h1 : n0 < g 4 0) (h2 : 0 ≤ i0) (h3 : i0 < g 6 n0) (O : OT h h' (fun b => b = A 2 (12 * n0 + i0) ∨ b = A 3 (12 * n0 + i0))) (D : hD h' = hD h) (hn : RS A u' g' h' n0 i0)
    (eg : ∀ k j, ¬ (18 ≤ k ∧ k ≤ 21) → g' k j = g k j)
    (ee : ∀ n i, 0 ≤ n → n < g 4 0 → 0 ≤ i → i < g 6 n → ¬ (n = n0 ∧ i = i0) → 0 ≤ u 0 (12 * n + i) → ∀ t, t = 60 * n + u 0 (12 * n + i) → g' 18 t = g 18 t ∧ g' 19 t = g 19 t ∧ g' 21 t = g 21 t ∧ ∀ c, 0 ≤ c → c < g 19 t → g' 20 (4 * t + c) = g 20 (4 * t + c))
    (eu : ∀ k j, ¬ (k = 0 ∧ j = 12 * n0 + i0) → u' k j = u k j) (rg : ∀ k j, inR (g' k j)) (ru : ∀ k j, inR (u' k j)) : Rp gx x A u' m g' h' := by
  have s0 := R.s h0 h1 h2 h3
  have k2 := s0.2.1.2
  have k3 := s0.2.2.1.2.2.1
  have ne : ∀ b, hK h b ≠ 2 → hK h b ≠ 10 → ¬ (b = A 2 (12 * n0 + i0) ∨ b = A 3 (12 * n0 + i0)) := fun b hb hc z => z.elim (fun z => hb (z ▸ k2)) (fun z => hc (z ▸ k3))
  have e4 := eg 4 0 (by omega)
  have e11 := eg 11 0 (by omega)
  have e22 := eg 22 0 (by omega)
  have r0 := R.room h0 h1
  refine ⟨by rw [D]; exact R.gxn, R.tX O (fun b hb => ne b (by omega) (by omega)) (fun k hk => eg k 0 (by omega)), fun n a0 a1 => ?_, fun n i a0 a1 a2 a3 => ?_, fun p a0 a1 => ?_, fun f a0 a1 => ?_, R.ap.c (fun k j hk => eg k j (by omega)), (BK.ot R O D (fun b hb => ne b (by omega) (by omega))).c (fun k j hk => eg k j (by omega)), rg, ru, fun n a0 a1 => ?_⟩
  · rw [e4] at a1
    exact R.tN O (fun b hb => ne b (by omega) (by omega)) a0 a1 (fun k hk => eg k n (by omega)) (eu 3 n (by omega))
  · rw [e4] at a1
    rw [eg 6 n (by omega)] at a3
    by_cases z : n = n0 ∧ i = i0
    · obtain ⟨rfl, rfl⟩ := z; exact hn
    · have r1 := R.room a0 a1
      have n1 := (R.n a0 a1).2.1
      have zz : 12 * n + i ≠ 12 * n0 + i0 := by omega
      refine ((R.s a0 a1 a2 a3).ot n1.2.1 O (ne _ (by omega) (by omega)) (fun q => ?_) (fun q => ?_)).c (eu 0 _ (by omega)) (by omega) (fun t et t0 _ => ee n i a0 a1 a2 a3 z t0 t et)
      · rcases q with q | q
        · exact zz (R.ap 2 _ 2 _ (VA.s (Or.inl rfl) a0 a1 a2 a3 r1.2) (VA.s (Or.inl rfl) h0 h1 h2 h3 r0.2) q).2
        · exact absurd (R.ap 2 _ 3 _ (VA.s (Or.inl rfl) a0 a1 a2 a3 r1.2) (VA.s (Or.inr rfl) h0 h1 h2 h3 r0.2) q).1 (by decide)
      · rcases q with q | q
        · exact absurd (R.ap 3 _ 2 _ (VA.s (Or.inr rfl) a0 a1 a2 a3 r1.2) (VA.s (Or.inl rfl) h0 h1 h2 h3 r0.2) q).1 (by decide)
        · exact zz (R.ap 3 _ 3 _ (VA.s (Or.inr rfl) a0 a1 a2 a3 r1.2) (VA.s (Or.inr rfl) h0 h1 h2 h3 r0.2) q).2
  · rw [e11] at a1
    exact R.tQ O (fun b hb => ne b (by omega) (by omega)) a0 a1 (fun k hk => eg k p (by omega)) (fun k _ _ => eg 17 _ (by omega)) (eu 1 p (by omega)) (eu 2 p (by omega)) (eu 6 p (by omega))
  · rw [e22] at a1
    exact R.tF O (fun b hb => ne b (by omega) (by omega)) a0 a1 (eu 4 f (by omega)) (eu 5 f (by omega)) (fun z => ⟨(eg 23 f (by omega)).symm.trans z, eg 24 f (by omega)⟩) (fun k _ _ => eg 26 _ (by omega))
  · rw [e4] at a1
    rw [eg 6 n (by omega)]
    exact R.room a0 a1
/-- a piece's own cells -/
theorem Rp.wQ (R : Rp gx x A u m g h) {p0 : Int} (h0 : 0 ≤ p0) (h1 : p0 < g 11 0) (O : OT h h' (fun b => b = A 4 p0)) (D : hD h' = hD h) (hn : RQ gx A u' g' h' p0)
    (eg : ∀ k j, ¬ ((k = 12 ∨ k = 13 ∨ k = 14) ∧ j = p0) → g' k j = g k j) (eu : ∀ k j, ¬ ((k = 1 ∨ k = 2) ∧ j = p0) → u' k j = u k j) (rg : ∀ k j, inR (g' k j)) (ru : ∀ k j, inR (u' k j)) : Rp gx x A u' m g' h' := by
  have kk := (R.q h0 h1).1.2
  have ne : ∀ b, hK h b ≠ 5 → ¬ (b = A 4 p0) := fun b hb z => hb (z ▸ kk)
  have e4 := eg 4 0 (by omega)
  have e11 := eg 11 0 (by omega)
  have e22 := eg 22 0 (by omega)
  refine ⟨by rw [D]; exact R.gxn, R.tX O (fun b hb => ne b (by omega)) (fun k hk => eg k 0 (by omega)), fun n a0 a1 => ?_, fun n i a0 a1 a2 a3 => ?_, fun p a0 a1 => ?_, fun f a0 a1 => ?_, R.ap.c (fun k j hk => eg k j (by omega)), (BK.ot R O D (fun b hb => ne b (by omega))).c (fun k j hk => eg k j (by omega)), rg, ru, fun n a0 a1 => ?_⟩
  · rw [e4] at a1
    exact R.tN O (fun b hb => ne b (by omega)) a0 a1 (fun k hk => eg k n (by omega)) (eu 3 n (by omega))
  · rw [e4] at a1
    rw [eg 6 n (by omega)] at a3
    exact R.tS O (fun b hb => ne b (by omega)) a0 a1 a2 a3 (eu 0 _ (by omega)) (by omega) (fun t _ _ _ => ⟨eg 18 t (by omega), eg 19 t (by omega), eg 21 t (by omega), fun c _ _ => eg 20 _ (by omega)⟩)
  · rw [e11] at a1
    by_cases z : p = p0
    · rw [z]; exact hn
    · have q := R.q a0 a1
      exact (q.ot O (fun y => z (R.ap 4 p 4 p0 ⟨a0, a1⟩ ⟨h0, h1⟩ y).2) (ne _ (by rw [q.2.2.2.2.1.2]; decide)) (fun a ea ha => ne _ (by rw [q.2.2.2.2.k13 R.gxn ea ha]; decide))).c (fun k hk => eg k p (by omega)) (fun k _ _ => eg 17 _ (by omega)) (eu 1 p (by omega)) (eu 2 p (by omega)) (eu 6 p (by omega))
  · rw [e22] at a1
    exact R.tF O (fun b hb => ne b (by omega)) a0 a1 (eu 4 f (by omega)) (eu 5 f (by omega)) (fun z => ⟨(eg 23 f (by omega)).symm.trans z, eg 24 f (by omega)⟩) (fun k _ _ => eg 26 _ (by omega))
  · rw [e4] at a1
    rw [eg 6 n (by omega)]
    exact R.room a0 a1
/-- a file's own cells -/
theorem Rp.wF (R : Rp gx x A u m g h) {f0 : Int} (h0 : 0 ≤ f0) (h1 : f0 < g 22 0) (O : OT h h' (fun b => b = A 6 f0)) (D : hD h' = hD h) (hn : RF gx A u' g' h' f0)
    (eg : ∀ k j, ¬ ((k = 23 ∨ k = 24) ∧ j = f0) → g' k j = g k j) (eu : ∀ k j, ¬ (k = 4 ∧ j = f0) → u' k j = u k j) (rg : ∀ k j, inR (g' k j)) (ru : ∀ k j, inR (u' k j)) : Rp gx x A u' m g' h' := by
  have kk := (R.f h0 h1).1.2
  have ne : ∀ b, hK h b ≠ 3 → ¬ (b = A 6 f0) := fun b hb z => hb (z ▸ kk)
  have e4 := eg 4 0 (by omega)
  have e11 := eg 11 0 (by omega)
  have e22 := eg 22 0 (by omega)
  refine ⟨by rw [D]; exact R.gxn, R.tX O (fun b hb => ne b (by omega)) (fun k hk => eg k 0 (by omega)), fun n a0 a1 => ?_, fun n i a0 a1 a2 a3 => ?_, fun p a0 a1 => ?_, fun f a0 a1 => ?_, R.ap.c (fun k j hk => eg k j (by omega)), (BK.ot R O D (fun b hb => ne b (by omega))).c (fun k j hk => eg k j (by omega)), rg, ru, fun n a0 a1 => ?_⟩
  · rw [e4] at a1
    exact R.tN O (fun b hb => ne b (by omega)) a0 a1 (fun k hk => eg k n (by omega)) (eu 3 n (by omega))
  · rw [e4] at a1
    rw [eg 6 n (by omega)] at a3
    exact R.tS O (fun b hb => ne b (by omega)) a0 a1 a2 a3 (eu 0 _ (by omega)) (by omega) (fun t _ _ _ => ⟨eg 18 t (by omega), eg 19 t (by omega), eg 21 t (by omega), fun c _ _ => eg 20 _ (by omega)⟩)
  · rw [e11] at a1
    exact R.tQ O (fun b hb => ne b (by omega)) a0 a1 (fun k hk => eg k p (by omega)) (fun k _ _ => eg 17 _ (by omega)) (eu 1 p (by omega)) (eu 2 p (by omega)) (eu 6 p (by omega))
  · rw [e22] at a1
    by_cases z : f = f0
    · rw [z]; exact hn
    · have q := R.f a0 a1
      exact (q.ot O (fun y => z (R.ap 6 f 6 f0 ⟨a0, a1⟩ ⟨h0, h1⟩ y).2) (ne _ (by rw [q.2.2.2.1.2]; decide)) (fun a ea ha => ne _ (by rw [q.2.2.2.k13 R.gxn ea ha]; decide))).c (eu 4 f (by omega)) (eu 5 f (by omega)) (fun y => ⟨(eg 23 f (by omega)).symm.trans y, eg 24 f (by omega)⟩) (fun k _ _ => eg 26 _ (by omega))
  · rw [e4] at a1
    rw [eg 6 n (by omega)]
    exact R.room a0 a1
/-- the fleet's own cells -/
theorem Rp.wX (R : Rp gx x A u m g h) (O : OT h h' (fun b => b = x)) (D : hD h' = hD h) (hn : RX gx x A m g' h')
    (eg : ∀ k j, ¬ (k = 1 ∨ k = 2 ∨ k = 3) → g' k j = g k j) (rg : ∀ k j, inR (g' k j)) : Rp gx x A u m g' h' := by
  have kk := R.xx.1.2
  have ne : ∀ b, hK h b ≠ 6 → ¬ (b = x) := fun b hb z => hb (z ▸ kk)
  have e4 := eg 4 0 (by omega)
  have e11 := eg 11 0 (by omega)
  have e22 := eg 22 0 (by omega)
  refine ⟨by rw [D]; exact R.gxn, hn, fun n a0 a1 => ?_, fun n i a0 a1 a2 a3 => ?_, fun p a0 a1 => ?_, fun f a0 a1 => ?_, R.ap.c (fun k j hk => eg k j (by omega)), (BK.ot R O D (fun b hb => ne b (by omega))).c (fun k j hk => eg k j (by omega)), rg, R.ru, fun n a0 a1 => ?_⟩
  · rw [e4] at a1
    exact R.tN O (fun b hb => ne b (by omega)) a0 a1 (fun k hk => eg k n (by omega)) rfl
  · rw [e4] at a1
    rw [eg 6 n (by omega)] at a3
    exact R.tS O (fun b hb => ne b (by omega)) a0 a1 a2 a3 rfl (by omega) (fun t _ _ _ => ⟨eg 18 t (by omega), eg 19 t (by omega), eg 21 t (by omega), fun c _ _ => eg 20 _ (by omega)⟩)
  · rw [e11] at a1
    exact R.tQ O (fun b hb => ne b (by omega)) a0 a1 (fun k hk => eg k p (by omega)) (fun k _ _ => eg 17 _ (by omega)) rfl rfl rfl
  · rw [e22] at a1
    exact R.tF O (fun b hb => ne b (by omega)) a0 a1 rfl rfl (fun z => ⟨(eg 23 f (by omega)).symm.trans z, eg 24 f (by omega)⟩) (fun k _ _ => eg 26 _ (by omega))
  · rw [e4] at a1
    rw [eg 6 n (by omega)]
    exact R.room a0 a1
theorem rgu {i v : Int} {k : Nat} (r : ∀ k j, inR (g k j)) (hv : inR v) : ∀ k' j, inR (up g k i v k' j) := fun k' j => by
  unfold up
  split
  · exact hv
  · exact r k' j
/-! single cells -/
theorem Rp.node_up (R : Rp gx x A u m g h) {n v : Int} (h0 : 0 ≤ n) (h1 : n < g 4 0) (hv : inR v) (hd : v = 0 → hI h (A 0 n) 6 = g 8 n) : Rp gx x A u m (up g 7 n v) (wI h (A 0 n) (4 : Nat) v) := by
  obtain ⟨a, b, c1, c2, c3, c4, c5, c6, c7⟩ := R.n h0 h1
  refine R.wN h0 h1 (OT.wi1 h _ _ _) rfl ⟨a, ⟨b.1, b.2.1, b.2.2.1, by rw [up_ne (by decide)]; exact b.2.2.2⟩, ?_⟩ (fun k j hk => ?_) (fun _ _ _ => rfl) (rgu R.rg hv) R.ru
  · refine ⟨?_, ?_, ?_, ?_, ?_, ?_, ?_⟩
    · rw [i_wi, if_neg (by omega)]; exact c1
    · rw [i_wi, if_neg (by omega), up_ne (by decide)]; exact c2
    · rw [i_wi, if_neg (by omega)]; exact c3
    · rw [i_wi, if_pos ⟨rfl, rfl⟩, up_self]
    · rw [i_wi, if_neg (by omega), up_ne (by decide)]; exact c5
    · rw [i_wi, if_neg (by omega), up_self, up_ne (by decide)]; exact hd
    · rw [i_wi, if_neg (by omega), up_ne (by decide)]; exact c7
  · unfold up; rw [if_neg (by omega)]
theorem Rp.node_ct (R : Rp gx x A u m g h) {n v : Int} (h0 : 0 ≤ n) (h1 : n < g 4 0) (hv : inR v) : Rp gx x A u m (up g 9 n v) (wI h (A 0 n) (5 : Nat) v) := by
  obtain ⟨a, b, c1, c2, c3, c4, c5, c6, c7⟩ := R.n h0 h1
  refine R.wN h0 h1 (OT.wi1 h _ _ _) rfl ⟨a, ⟨b.1, b.2.1, b.2.2.1, by rw [up_ne (by decide)]; exact b.2.2.2⟩, ?_⟩ (fun k j hk => ?_) (fun _ _ _ => rfl) (rgu R.rg hv) R.ru
  · refine ⟨?_, ?_, ?_, ?_, ?_, ?_, ?_⟩
    · rw [i_wi, if_neg (by omega)]; exact c1
    · rw [i_wi, if_neg (by omega), up_ne (by decide)]; exact c2
    · rw [i_wi, if_neg (by omega)]; exact c3
    · rw [i_wi, if_neg (by omega), up_ne (by decide)]; exact c4
    · rw [i_wi, if_pos ⟨rfl, rfl⟩, up_self]
    · rw [i_wi, if_neg (by omega), up_ne (by decide), up_ne (by decide)]; exact c6
    · rw [i_wi, if_neg (by omega), up_ne (by decide)]; exact c7
  · unfold up; rw [if_neg (by omega)]
theorem Rp.node_lk (R : Rp gx x A u m g h) {n v : Int} (h0 : 0 ≤ n) (h1 : n < g 4 0) (hv : inR v) : Rp gx x A u m (up g 10 n v) (wI h (A 0 n) (7 : Nat) v) := by
  obtain ⟨a, b, c1, c2, c3, c4, c5, c6, c7⟩ := R.n h0 h1
  refine R.wN h0 h1 (OT.wi1 h _ _ _) rfl ⟨a, ⟨b.1, b.2.1, b.2.2.1, by rw [up_ne (by decide)]; exact b.2.2.2⟩, ?_⟩ (fun k j hk => ?_) (fun _ _ _ => rfl) (rgu R.rg hv) R.ru
  · refine ⟨?_, ?_, ?_, ?_, ?_, ?_, ?_⟩
    · rw [i_wi, if_neg (by omega)]; exact c1
    · rw [i_wi, if_neg (by omega), up_ne (by decide)]; exact c2
    · rw [i_wi, if_neg (by omega)]; exact c3
    · rw [i_wi, if_neg (by omega), up_ne (by decide)]; exact c4
    · rw [i_wi, if_neg (by omega), up_ne (by decide)]; exact c5
    · rw [i_wi, if_neg (by omega), up_ne (by decide), up_ne (by decide)]; exact c6
    · rw [i_wi, if_pos ⟨rfl, rfl⟩, up_self]
  · unfold up; rw [if_neg (by omega)]
theorem Rp.node_ds (R : Rp gx x A u m g h) {n v : Int} (h0 : 0 ≤ n) (h1 : n < g 4 0) (hv : inR v) : Rp gx x A u m (up g 8 n v) (wI h (A 0 n) (6 : Nat) v) := by
  obtain ⟨a, b, c1, c2, c3, c4, c5, c6, c7⟩ := R.n h0 h1
  refine R.wN h0 h1 (OT.wi1 h _ _ _) rfl ⟨a, ⟨b.1, b.2.1, b.2.2.1, by rw [up_ne (by decide)]; exact b.2.2.2⟩, ?_⟩ (fun k j hk => ?_) (fun _ _ _ => rfl) (rgu R.rg hv) R.ru
  · refine ⟨?_, ?_, ?_, ?_, ?_, ?_, ?_⟩
    · rw [i_wi, if_neg (by omega)]; exact c1
    · rw [i_wi, if_neg (by omega), up_ne (by decide)]; exact c2
    · rw [i_wi, if_neg (by omega)]; exact c3
    · rw [i_wi, if_neg (by omega), up_ne (by decide)]; exact c4
    · rw [i_wi, if_neg (by omega), up_ne (by decide)]; exact c5
    · rw [i_wi, if_pos ⟨rfl, rfl⟩, up_self]; exact fun _ => rfl
    · rw [i_wi, if_neg (by omega), up_ne (by decide)]; exact c7
  · unfold up; rw [if_neg (by omega)]
theorem Rp.node_tk (R : Rp gx x A u m g h) {n v : Int} (h0 : 0 ≤ n) (h1 : n < g 4 0) (hv : inR v) : Rp gx x A (up u 3 n v) m g (wI h (A 0 n) (3 : Nat) v) := by
  obtain ⟨a, b, c1, c2, c3, c4, c5, c6, c7⟩ := R.n h0 h1
  refine R.wN h0 h1 (OT.wi1 h _ _ _) rfl ⟨a, b, ?_⟩ (fun _ _ _ => rfl) (fun k j hk => ?_) R.rg (rgu R.ru hv)
  · refine ⟨?_, ?_, ?_, ?_, ?_, ?_, ?_⟩
    · rw [i_wi, if_neg (by omega)]; exact c1
    · rw [i_wi, if_neg (by omega)]; exact c2
    · rw [i_wi, if_pos ⟨rfl, rfl⟩, up_self]
    · rw [i_wi, if_neg (by omega)]; exact c4
    · rw [i_wi, if_neg (by omega)]; exact c5
    · rw [i_wi, if_neg (by omega)]; exact c6
    · rw [i_wi, if_neg (by omega)]; exact c7
  · unfold up; rw [if_neg (by omega)]
theorem Rp.fl_sec (R : Rp gx x A u m g h) {v : Int} (hv : inR v) : Rp gx x A u m (up g 1 0 v) (wI h x (3 : Nat) v) := by
  obtain ⟨a, b, ⟨c1, c2, c3⟩, l1, l2, l3⟩ := R.xx
  have ne : ∀ b, hK h b ≠ 6 → ¬ (b = x) := fun b hb z => hb (z ▸ R.xx.1.2)
  have O : OT h (wI h x (3 : Nat) v) (fun b => b = x) := OT.wi1 h _ _ _
  have lo : ∀ {l n f}, LI gx h l n f → LI gx (wI h x (3 : Nat) v) l n f := fun L => L.ot O (ne _ (by rw [L.1.2]; decide)) (fun a ea ha => ne _ (by rw [L.k13 R.gxn ea ha]; decide))
  refine R.wX O rfl ⟨a, b, ⟨?_, ?_, ?_⟩, ?_, lo l2, ?_⟩ (fun k j hk => ?_) (rgu R.rg hv)
  · rw [i_wi, if_pos ⟨rfl, rfl⟩, up_self]
  · rw [i_wi, if_neg (by omega), up_ne (by decide)]; exact c2
  · rw [i_wi, if_neg (by omega), up_ne (by decide)]; exact c3
  · rw [up_ne (by decide)]; exact lo l1
  · rw [up_ne (by decide)]; exact lo l3
  · unfold up; rw [if_neg (by omega)]
theorem Rp.fl_lim (R : Rp gx x A u m g h) {v : Int} (hv : inR v) : Rp gx x A u m (up g 2 0 v) (wI h x (4 : Nat) v) := by
  obtain ⟨a, b, ⟨c1, c2, c3⟩, l1, l2, l3⟩ := R.xx
  have ne : ∀ b, hK h b ≠ 6 → ¬ (b = x) := fun b hb z => hb (z ▸ R.xx.1.2)
  have O : OT h (wI h x (4 : Nat) v) (fun b => b = x) := OT.wi1 h _ _ _
  have lo : ∀ {l n f}, LI gx h l n f → LI gx (wI h x (4 : Nat) v) l n f := fun L => L.ot O (ne _ (by rw [L.1.2]; decide)) (fun a ea ha => ne _ (by rw [L.k13 R.gxn ea ha]; decide))
  refine R.wX O rfl ⟨a, b, ⟨?_, ?_, ?_⟩, ?_, lo l2, ?_⟩ (fun k j hk => ?_) (rgu R.rg hv)
  · rw [i_wi, if_neg (by omega), up_ne (by decide)]; exact c1
  · rw [i_wi, if_pos ⟨rfl, rfl⟩, up_self]
  · rw [i_wi, if_neg (by omega), up_ne (by decide)]; exact c3
  · rw [up_ne (by decide)]; exact lo l1
  · rw [up_ne (by decide)]; exact lo l3
  · unfold up; rw [if_neg (by omega)]
theorem Rp.fl_bal (R : Rp gx x A u m g h) {v : Int} (hv : inR v) : Rp gx x A u m (up g 3 0 v) (wI h x (5 : Nat) v) := by
  obtain ⟨a, b, ⟨c1, c2, c3⟩, l1, l2, l3⟩ := R.xx
  have ne : ∀ b, hK h b ≠ 6 → ¬ (b = x) := fun b hb z => hb (z ▸ R.xx.1.2)
  have O : OT h (wI h x (5 : Nat) v) (fun b => b = x) := OT.wi1 h _ _ _
  have lo : ∀ {l n f}, LI gx h l n f → LI gx (wI h x (5 : Nat) v) l n f := fun L => L.ot O (ne _ (by rw [L.1.2]; decide)) (fun a ea ha => ne _ (by rw [L.k13 R.gxn ea ha]; decide))
  refine R.wX O rfl ⟨a, b, ⟨?_, ?_, ?_⟩, ?_, lo l2, ?_⟩ (fun k j hk => ?_) (rgu R.rg hv)
  · rw [i_wi, if_neg (by omega), up_ne (by decide)]; exact c1
  · rw [i_wi, if_neg (by omega), up_ne (by decide)]; exact c2
  · rw [i_wi, if_pos ⟨rfl, rfl⟩, up_self]
  · rw [up_ne (by decide)]; exact lo l1
  · rw [up_ne (by decide)]; exact lo l3
  · unfold up; rw [if_neg (by omega)]
/-- the fields of a piece: 1 version, 2 files, 4 the lease's end, 5 mended -/
theorem Rp.pc_ver (R : Rp gx x A u m g h) {p v : Int} (h0 : 0 ≤ p) (h1 : p < g 11 0) (hv : inR v) : Rp gx x A u m (up g 12 p v) (wI h (A 4 p) (1 : Nat) v) := by
  obtain ⟨a, ⟨c1, c2, c3, c4, c5⟩, d1, d2, d3⟩ := R.q h0 h1
  have ne : ∀ b, hK h b ≠ 5 → ¬ (b = A 4 p) := fun b hb z => hb (z ▸ a.2)
  have O : OT h (wI h (A 4 p) (1 : Nat) v) (fun b => b = A 4 p) := OT.wi1 h _ _ _
  refine R.wQ h0 h1 O rfl ⟨a, ?_, by rw [up_ne (by decide)]; exact d1, d2, ?_⟩ (fun k j hk => ?_) (fun _ _ _ => rfl) (rgu R.rg hv) R.ru
  · refine ⟨?_, ?_, ?_, ?_, ?_⟩
    · rw [i_wi, if_neg (by omega)]; exact c1
    · rw [i_wi, if_pos ⟨rfl, rfl⟩, up_self]
    · rw [i_wi, if_neg (by omega)]; exact c3
    · rw [i_wi, if_neg (by omega), up_ne (by decide)]; exact c4
    · rw [i_wi, if_neg (by omega)]; exact c5
  · rw [up_ne (by decide)]
    exact (d3.ot O (ne _ (by rw [d3.1.2]; decide)) (fun a ea ha => ne _ (by rw [d3.k13 R.gxn ea ha]; decide))).c (fun i _ _ => by rw [up_ne (by decide)])
  · unfold up; rw [if_neg (by omega)]
theorem Rp.pc_inf (R : Rp gx x A u m g h) {p v : Int} (h0 : 0 ≤ p) (h1 : p < g 11 0) (hv : inR v) : Rp gx x A (up u 2 p v) m g (wI h (A 4 p) (2 : Nat) v) := by
  obtain ⟨a, ⟨c1, c2, c3, c4, c5⟩, d1, d2, d3⟩ := R.q h0 h1
  have ne : ∀ b, hK h b ≠ 5 → ¬ (b = A 4 p) := fun b hb z => hb (z ▸ a.2)
  have O : OT h (wI h (A 4 p) (2 : Nat) v) (fun b => b = A 4 p) := OT.wi1 h _ _ _
  refine R.wQ h0 h1 O rfl ⟨a, ?_, d1, d2, ?_⟩ (fun _ _ _ => rfl) (fun k j hk => ?_) R.rg (rgu R.ru hv)
  · refine ⟨?_, ?_, ?_, ?_, ?_⟩
    · rw [i_wi, if_neg (by omega)]; exact c1
    · rw [i_wi, if_neg (by omega)]; exact c2
    · rw [i_wi, if_pos ⟨rfl, rfl⟩, up_self]
    · rw [i_wi, if_neg (by omega)]; exact c4
    · rw [i_wi, if_neg (by omega), up_ne (by decide)]; exact c5
  · exact d3.ot O (ne _ (by rw [d3.1.2]; decide)) (fun a ea ha => ne _ (by rw [d3.k13 R.gxn ea ha]; decide))
  · unfold up; rw [if_neg (by omega)]
theorem Rp.pc_md (R : Rp gx x A u m g h) {p v : Int} (h0 : 0 ≤ p) (h1 : p < g 11 0) (hv : inR v) : Rp gx x A (up u 1 p v) m g (wI h (A 4 p) (5 : Nat) v) := by
  obtain ⟨a, ⟨c1, c2, c3, c4, c5⟩, d1, d2, d3⟩ := R.q h0 h1
  have ne : ∀ b, hK h b ≠ 5 → ¬ (b = A 4 p) := fun b hb z => hb (z ▸ a.2)
  have O : OT h (wI h (A 4 p) (5 : Nat) v) (fun b => b = A 4 p) := OT.wi1 h _ _ _
  refine R.wQ h0 h1 O rfl ⟨a, ?_, d1, d2, ?_⟩ (fun _ _ _ => rfl) (fun k j hk => ?_) R.rg (rgu R.ru hv)
  · refine ⟨?_, ?_, ?_, ?_, ?_⟩
    · rw [i_wi, if_neg (by omega)]; exact c1
    · rw [i_wi, if_neg (by omega)]; exact c2
    · rw [i_wi, if_neg (by omega), up_ne (by decide)]; exact c3
    · rw [i_wi, if_neg (by omega)]; exact c4
    · rw [i_wi, if_pos ⟨rfl, rfl⟩, up_self]
  · exact d3.ot O (ne _ (by rw [d3.1.2]; decide)) (fun a ea ha => ne _ (by rw [d3.k13 R.gxn ea ha]; decide))
  · unfold up; rw [if_neg (by omega)]
/-- the lease: who is the primary, until when -/
theorem Rp.pc_ls (R : Rp gx x A u m g h) {p v w : Int} {r : Option Nat} (h0 : 0 ≤ p) (h1 : p < g 11 0) (hv : inR v) (hw : inR w) (hr : r = if v = -1 then none else some (A 0 v)) : Rp gx x A u m (up (up g 13 p v) 14 p w) (wI (wP h (A 4 p) (3 : Nat) r) (A 4 p) (4 : Nat) w) := by
  obtain ⟨a, ⟨c1, c2, c3, c4, c5⟩, d1, d2, d3⟩ := R.q h0 h1
  have ne : ∀ b, hK h b ≠ 5 → ¬ (b = A 4 p) := fun b hb z => hb (z ▸ a.2)
  have O : OT h (wI (wP h (A 4 p) (3 : Nat) r) (A 4 p) (4 : Nat) w) (fun b => b = A 4 p) := (OT.wp1 h _ _ _).trans (OT.wi1 _ _ _ _)
  have iw : ∀ b k, hI (wI (wP h (A 4 p) (3 : Nat) r) (A 4 p) (4 : Nat) w) b k = if b = A 4 p ∧ k = (4 : Nat) then w else hI h b k := fun _ _ => rfl
  have pw : ∀ b k, hP (wI (wP h (A 4 p) (3 : Nat) r) (A 4 p) (4 : Nat) w) b k = if b = A 4 p ∧ k = (3 : Nat) then r else hP h b k := fun _ _ => rfl
  refine R.wQ h0 h1 O rfl ⟨a, ?_, ?_, ?_, ?_⟩ (fun k j hk => ?_) (fun _ _ _ => rfl) (rgu (rgu R.rg hv) hw) R.ru
  · refine ⟨?_, ?_, ?_, ?_, ?_⟩
    · rw [iw, if_neg (by omega)]; exact c1
    · rw [iw, if_neg (by omega), up_ne (by decide), up_ne (by decide)]; exact c2
    · rw [iw, if_neg (by omega)]; exact c3
    · rw [iw, if_pos ⟨rfl, rfl⟩, up_self]
    · rw [iw, if_neg (by omega)]; exact c5
  · rw [pw, if_pos ⟨rfl, rfl⟩, up_ne (by decide), up_self]; exact hr
  · exact ⟨by rw [pw, if_neg (by omega)]; exact d2.1, fun z => by rw [pw, if_neg (fun y => by have := d3.1.2; rw [y.1, a.2] at this; omega)]; exact d2.2 z⟩
  · rw [up_ne (by decide), up_ne (by decide)]
    exact (d3.ot O (ne _ (by rw [d3.1.2]; decide)) (fun a ea ha => ne _ (by rw [d3.k13 R.gxn ea ha]; decide))).c (fun i _ _ => by rw [up_ne (by decide), up_ne (by decide)])
  · unfold up; rw [if_neg (by omega), if_neg (by omega)]
theorem Rp.fi_st (R : Rp gx x A u m g h) {f v : Int} (h0 : 0 ≤ f) (h1 : f < g 22 0) (hv : inR v) (hd : v = 1 → g 23 f = 1) : Rp gx x A (up u 4 f v) m (up g 23 f v) (wI h (A 6 f) (1 : Nat) v) := by
  obtain ⟨a, ⟨c1, c2, c3⟩, d2, d3⟩ := R.f h0 h1
  have ne : ∀ b, hK h b ≠ 3 → ¬ (b = A 6 f) := fun b hb z => hb (z ▸ a.2)
  have O : OT h (wI h (A 6 f) (1 : Nat) v) (fun b => b = A 6 f) := OT.wi1 h _ _ _
  refine R.wF h0 h1 O rfl ⟨a, ?_, d2, ?_⟩ (fun k j hk => ?_) (fun k j hk => ?_) (rgu R.rg hv) (rgu R.ru hv)
  · refine ⟨?_, ?_, ?_⟩
    · rw [i_wi, if_neg (by omega)]; exact c1
    · rw [i_wi, if_pos ⟨rfl, rfl⟩, up_self]
    · rw [i_wi, if_neg (by omega), up_self, up_ne (by decide)]; exact fun z => c3 (hd z)
  · rw [up_ne (by decide)]
    exact (d3.ot O (ne _ (by rw [d3.1.2]; decide)) (fun a ea ha => ne _ (by rw [d3.k13 R.gxn ea ha]; decide))).c (fun i _ _ => by rw [up_ne (by decide)])
  · unfold up; rw [if_neg (by omega)]
  · unfold up; rw [if_neg (by omega)]
theorem Rp.fi_dl (R : Rp gx x A u m g h) {f v : Int} (h0 : 0 ≤ f) (h1 : f < g 22 0) (hv : inR v) : Rp gx x A (up u 4 f 1) m (up (up g 23 f 1) 24 f v) (wI (wI h (A 6 f) (1 : Nat) 1) (A 6 f) (2 : Nat) v) := by
  obtain ⟨a, ⟨c1, c2, c3⟩, d2, d3⟩ := R.f h0 h1
  have ne : ∀ b, hK h b ≠ 3 → ¬ (b = A 6 f) := fun b hb z => hb (z ▸ a.2)
  have O : OT h (wI (wI h (A 6 f) (1 : Nat) 1) (A 6 f) (2 : Nat) v) (fun b => b = A 6 f) := (OT.wi1 h _ _ _).trans (OT.wi1 _ _ _ _)
  refine R.wF h0 h1 O rfl ⟨a, ?_, d2, ?_⟩ (fun k j hk => ?_) (fun k j hk => ?_) (rgu (rgu R.rg inR1) hv) (rgu R.ru inR1)
  · refine ⟨?_, ?_, ?_⟩
    · rw [i_wi, if_neg (by omega), i_wi, if_neg (by omega)]; exact c1
    · rw [i_wi, if_neg (by omega), i_wi, if_pos ⟨rfl, rfl⟩, up_self]
    · rw [i_wi, if_pos ⟨rfl, rfl⟩, up_self]; exact fun _ => rfl
  · rw [up_ne (by decide)]
    exact (d3.ot O (ne _ (by rw [d3.1.2]; decide)) (fun a ea ha => ne _ (by rw [d3.k13 R.gxn ea ha]; decide))).c (fun i _ _ => by rw [up_ne (by decide), up_ne (by decide)])
  · unfold up; rw [if_neg (by omega), if_neg (by omega)]
  · unfold up; rw [if_neg (by omega)]
end UPs
