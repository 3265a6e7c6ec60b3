/-! ===== a place for a copy changes ===== -/
section SLs
variable {gx : GX} {x : Nat} {A : Nat → Int → Nat} {u : GT} {m : Int} {g g' : GT} {h h' : Hp}
theorem inRn1 : inR (-1) := ⟨by decide, by decide⟩
theorem Rp.slotI (R : Rp gx x A u m g h) {n i p : Int} (h0 : 0 ≤ n) (h1 : n < g 4 0) (h2 : 0 ≤ i) (h3 : i < g 6 n) (hu : u 0 (12 * n + i) = p) (hp : 0 ≤ p) (np : g 11 0 ≤ 60)
    (inj : ∀ j, 0 ≤ j → j < g 6 n → u 0 (12 * n + j) = p → j = i) (cl : ∀ j, g 19 j ≤ 4)
    (O : OT h h' (fun b => b = A 2 (12 * n + i) ∨ b = A 3 (12 * n + i))) (D : hD h' = hD h) (hq : ∀ b k, hP h' b k = hP h b k) (hs : SV A g' h' (12 * n + i) (60 * n + p))
    (eg : ∀ k j, ¬ ((k = 18 ∨ k = 19 ∨ k = 21) ∧ j = 60 * n + p) → ¬ (k = 20 ∧ 4 * (60 * n + p) ≤ j ∧ j < 4 * (60 * n + p) + 4) → g' k j = g k j) (rg : ∀ k j, inR (g' k j)) : Rp gx x A u m g' h' := by
  have oc := R.oc h0 h1 h2 h3 hu hp
  have s := R.s h0 h1 h2 h3
  have n1 := (R.n h0 h1).2.1
  refine R.wS h0 h1 h2 h3 O D ⟨?_, ?_, ?_, Or.inr ?_⟩ (fun k j hk => eg k j (by omega) (by omega)) (fun n' i' a0 a1 a2 a3 ne z0 t et => ?_) (fun _ _ _ => rfl) rg R.ru
  · rw [hq]; exact s.1
  · have o := O _ s.2.1.1
    exact ⟨o.1, o.2.1.trans s.2.1.2⟩
  · have o := O _ s.2.2.1.2.1
    exact ⟨by rw [hq]; exact s.2.2.1.1, o.1, o.2.1.trans s.2.2.1.2.2.1, o.2.2.1.trans s.2.2.1.2.2.2⟩
  · rw [hu, hq, eg 11 0 (by omega) (by omega)]
    exact ⟨⟨hp, oc.1⟩, oc.2.1, hs⟩
  · have oc' := R.oc a0 a1 a2 a3 rfl z0
    have tt : t ≠ 60 * n + p := by
      intro e
      have e1 : n' = n := by omega
      subst e1
      have e2 : u 0 (12 * n' + i') = p := by omega
      exact ne ⟨rfl, inj i' a2 a3 e2⟩
    have c := cl t
    exact ⟨eg 18 t (by omega) (by omega), eg 19 t (by omega) (by omega), eg 21 t (by omega) (by omega), fun c c0 c1 => eg 20 _ (by omega) (by omega)⟩
/-- a place becomes free -/
theorem Rp.slotF (R : Rp gx x A u m g h) {n i : Int} (h0 : 0 ≤ n) (h1 : n < g 4 0) (h2 : 0 ≤ i) (h3 : i < g 6 n) : Rp gx x A (up u 0 (12 * n + i) (-1)) m g (wP h (A 2 (12 * n + i)) (0 : Nat) none) := by
  have s := R.s h0 h1 h2 h3
  have kk := s.2.1.2
  have k1 := (R.n h0 h1).2.1.2.2.1
  have ne1 : A 1 n ≠ A 2 (12 * n + i) := fun z => by rw [z] at k1; omega
  refine R.wS h0 h1 h2 h3 (OT.wp h (Or.inl rfl) _ _) rfl ⟨?_, s.2.1, ?_, Or.inl ⟨up_self, ?_⟩⟩ (fun _ _ _ => rfl) (fun _ _ _ _ _ _ _ _ _ _ => ⟨rfl, rfl, rfl, fun _ _ _ => rfl⟩) (fun k j hk => ?_) R.rg (rgu R.ru inRn1)
  · rw [p_wp, if_neg (fun z => ne1 z.1)]; exact s.1
  · rw [p_wp, if_neg (by omega)]; exact s.2.2.1
  · rw [p_wp, if_pos ⟨rfl, rfl⟩]
  · unfold up; rw [if_neg (by omega)]
/-- a free place is taken for a piece -/
theorem Rp.slotB (R : Rp gx x A u m g h) {n i q : Int} (h0 : 0 ≤ n) (h1 : n < g 4 0) (h2 : 0 ≤ i) (h3 : i < g 6 n) (q0 : 0 ≤ q) (q1 : q < g 11 0) (np : g 11 0 ≤ 60)
    (no : ∀ j, 0 ≤ j → j < g 6 n → u 0 (12 * n + j) ≠ q) (cl : ∀ j, g 19 j ≤ 4) :
    Rp gx x A (up u 0 (12 * n + i) q) m (up (up (up g 18 (60 * n + q) (g 12 q)) 19 (60 * n + q) 0) 21 (60 * n + q) 0)
      (wI (wI (wI (wP h (A 2 (12 * n + i)) (0 : Nat) (some (A 4 q))) (A 2 (12 * n + i)) (1 : Nat) (g 12 q)) (A 2 (12 * n + i)) (2 : Nat) 0) (A 2 (12 * n + i)) (3 : Nat) 0) := by
  have s := R.s h0 h1 h2 h3
  have kk := s.2.1.2
  have k1 := (R.n h0 h1).2.1.2.2.1
  have ne1 : A 1 n ≠ A 2 (12 * n + i) := fun z => by rw [z] at k1; omega
  have r := (R.q q0 q1)
  have eg : ∀ k j, ¬ ((k = 18 ∨ k = 19 ∨ k = 21) ∧ j = 60 * n + q) → (up (up (up g 18 (60 * n + q) (g 12 q)) 19 (60 * n + q) 0) 21 (60 * n + q) 0) k j = g k j := fun k j hk => by
    unfold up; rw [if_neg (by omega), if_neg (by omega), if_neg (by omega)]
  have pw : ∀ b k, hP (wI (wI (wI (wP h (A 2 (12 * n + i)) (0 : Nat) (some (A 4 q))) (A 2 (12 * n + i)) (1 : Nat) (g 12 q)) (A 2 (12 * n + i)) (2 : Nat) 0) (A 2 (12 * n + i)) (3 : Nat) 0) b k = if b = A 2 (12 * n + i) ∧ k = (0 : Nat) then some (A 4 q) else hP h b k := fun _ _ => rfl
  have iw : ∀ b k, hI (wI (wI (wI (wP h (A 2 (12 * n + i)) (0 : Nat) (some (A 4 q))) (A 2 (12 * n + i)) (1 : Nat) (g 12 q)) (A 2 (12 * n + i)) (2 : Nat) 0) (A 2 (12 * n + i)) (3 : Nat) 0) b k = if b = A 2 (12 * n + i) ∧ k = (3 : Nat) then 0 else if b = A 2 (12 * n + i) ∧ k = (2 : Nat) then 0 else if b = A 2 (12 * n + i) ∧ k = (1 : Nat) then g 12 q else hI h b k := fun _ _ => rfl
  have O : OT h (wI (wI (wI (wP h (A 2 (12 * n + i)) (0 : Nat) (some (A 4 q))) (A 2 (12 * n + i)) (1 : Nat) (g 12 q)) (A 2 (12 * n + i)) (2 : Nat) 0) (A 2 (12 * n + i)) (3 : Nat) 0) (fun b => b = A 2 (12 * n + i) ∨ b = A 3 (12 * n + i)) := (((OT.wp h (Or.inl rfl) _ _).trans (OT.wi _ (Or.inl rfl) _ _)).trans (OT.wi _ (Or.inl rfl) _ _)).trans (OT.wi _ (Or.inl rfl) _ _)
  refine R.wS h0 h1 h2 h3 O rfl ⟨?_, s.2.1, ?_, Or.inr ?_⟩ (fun k j hk => eg k j (by omega)) (fun n' i' a0 a1 a2 a3 ne z0 t et => ?_) (fun k j hk => ?_) (rgu (rgu (rgu R.rg (R.rg _ _)) ⟨by decide, by decide⟩) ⟨by decide, by decide⟩) (rgu R.ru ⟨by omega, by omega⟩)
  · rw [pw, if_neg (fun z => ne1 z.1)]; exact s.1
  · rw [pw, if_neg (by omega)]; exact s.2.2.1
  · rw [up_self, eg 11 0 (by omega)]
    refine ⟨⟨q0, q1⟩, by rw [pw, if_pos ⟨rfl, rfl⟩], ?_, ?_, ?_, fun c c0 c1 => ?_⟩
    · rw [iw, if_neg (by omega), if_neg (by omega), if_pos ⟨rfl, rfl⟩, up_ne (by decide), up_ne (by decide), up_self]
    · rw [iw, if_neg (by omega), if_pos ⟨rfl, rfl⟩, up_ne (by decide), up_self]
    · rw [iw, if_pos ⟨rfl, rfl⟩, up_self]
    · rw [up_ne (by decide), up_self] at c1
      exfalso; omega
  · have oc' := R.oc a0 a1 a2 a3 rfl z0
    have tt : t ≠ 60 * n + q := by
      intro e
      have e1 : n' = n := by omega
      subst e1
      have e2 : u 0 (12 * n' + i') = q := by omega
      exact no i' a2 a3 e2
    exact ⟨eg 18 t (by omega), eg 19 t (by omega), eg 21 t (by omega), fun c c0 c1 => eg 20 _ (by omega)⟩
  · unfold up; rw [if_neg (by omega)]
end SLs
