/-! ===== counting, and the places for copies ===== -/
theorem cnt_up {f f' : Int → Bool} {N p : Int} (e : ∀ k, 0 ≤ k → k < N → k ≠ p → f' k = f k) : (p < N → 0 ≤ p → f p = true → f' p = false → cnt f' N = cnt f N - 1) ∧ ((0 ≤ p → N ≤ p) → cnt f' N = cnt f N) := by
  have key : ∀ m : Nat, (m : Int) ≤ N ∨ m = 0 → (p < m → 0 ≤ p → f p = true → f' p = false → cntN f' m = cntN f m - 1) ∧ ((0 ≤ p → (m : Int) ≤ p) → cntN f' m = cntN f m) := by
    intro m
    induction m with
    | zero => exact fun _ => ⟨fun a b => by omega, fun _ => rfl⟩
    | succ m ih =>
      intro hm
      obtain ⟨i1, i2⟩ := ih (by omega)
      refine ⟨fun a b c d => ?_, fun a => ?_⟩
      · show cntN f' m + (if f' m = true then 1 else 0) = cntN f m + (if f m = true then 1 else 0) - 1
        by_cases q : (m : Int) = p
        · rw [i2 (fun _ => by omega), q, c, d]
          rw [if_neg (by decide), if_pos rfl]
          omega
        · rw [i1 (by omega) b c d, e m (by omega) (by omega) q]
          omega
      · show cntN f' m + (if f' m = true then 1 else 0) = cntN f m + (if f m = true then 1 else 0)
        rw [i2 (fun z => by have := a z; omega), e m (by omega) (by omega) (fun q => by have := a (by omega); omega)]
  obtain ⟨k1, k2⟩ := key N.toNat (by omega)
  unfold cnt
  exact ⟨fun a b c d => k1 (by omega) b c d, fun a => k2 (fun z => by have := a z; omega)⟩
theorem cnt_off {f f' : Int → Bool} {N p : Int} (h0 : 0 ≤ p) (h1 : p < N) (hf : f p = true) (hf' : f' p = false) (e : ∀ k, 0 ≤ k → k < N → k ≠ p → f' k = f k) : cnt f' N = cnt f N - 1 := (cnt_up e).1 h1 h0 hf hf'
theorem cnt_on {f f' : Int → Bool} {N p : Int} (h0 : 0 ≤ p) (h1 : p < N) (hf : f p = false) (hf' : f' p = true) (e : ∀ k, 0 ≤ k → k < N → k ≠ p → f' k = f k) : cnt f' N = cnt f N + 1 := by
  have := cnt_off h0 h1 hf' hf (fun k a b c => (e k a b c).symm)
  omega
theorem cnt_c {f f' : Int → Bool} {N : Int} (e : ∀ k, 0 ≤ k → k < N → f' k = f k) : cnt f' N = cnt f N := (cnt_up (p := -1) (fun k a b _ => e k a b)).2 (fun z => by omega)
theorem cnt_inj (N : Int) : ∀ (R : Nat) (f : Int → Bool) (s : Nat → Int), (∀ i, i < R → (0 ≤ s i ∧ s i < N) ∧ f (s i) = true) → (∀ i j, i < j → j < R → s i ≠ s j) → (R : Int) ≤ cnt f N := by
  intro R
  induction R with
  | zero => intro f s _ _; have := (cnt_b f N).1; omega
  | succ R ih =>
    intro f s h1 h2
    have hR := h1 R (by omega)
    have i1 := ih (fun k => if k = s R then false else f k) s (fun i hi => ⟨(h1 i (by omega)).1, by
      show (if s i = s R then false else f (s i)) = true
      rw [if_neg (h2 i R hi (by omega))]
      exact (h1 i (by omega)).2⟩) (fun i j a b => h2 i j a (by omega))
    have e := cnt_off (f := f) (f' := fun k => if k = s R then false else f k) hR.1.1 hR.1.2 hR.2 (if_pos rfl) (fun k _ _ c => if_neg c)
    omega
theorem load_cc {g g' : GT} {n : Int} (e11 : g' 11 0 = g 11 0) (e18 : ∀ p, 0 ≤ p → p < g 11 0 → (0 < g' 18 (60 * n + p) ↔ 0 < g 18 (60 * n + p))) : loadG g' n = loadG g n := by
  unfold loadG
  rw [e11]
  exact cnt_c (fun k a b => by simp only [e18 k a b])
/-- other columns stay -/
def SU (u u' : GT) : Prop := ∀ k j, k ≠ 0 → k ≠ 3 → u' k j = u k j
theorem SU.refl (u : GT) : SU u u := fun _ _ _ _ => rfl
theorem SU.trans {a b c : GT} (x : SU a b) (y : SU b c) : SU a c := fun k j h1 h2 => (y k j h1 h2).trans (x k j h1 h2)
theorem CI.off {u g g' : GT} (C : CI u g) {n i p : Int} (n0 : 0 ≤ n) (n1 : n < g 4 0) (i0 : 0 ≤ i) (i1 : i < g 6 n) (hu : u 0 (12 * n + i) = p) (hp : 0 ≤ p) (p1 : p < g 11 0) (np : g 11 0 ≤ 60) (rm : ∀ n, 0 ≤ n → n < g 4 0 → g 6 n ≤ 12)
    (rv : ∀ n i, 0 ≤ n → n < g 4 0 → 0 ≤ i → i < g 6 n → u 0 (12 * n + i) < g 11 0)
    (e18 : ∀ j, g' 18 j = if j = 60 * n + p then 0 else g 18 j) (e4 : g' 4 0 = g 4 0) (e6 : ∀ j, g' 6 j = g 6 j) (e11 : g' 11 0 = g 11 0) : CI (up (up u 0 (12 * n + i) (-1)) 3 n (u 3 n - 1)) g' := by
  have eu : ∀ j, (up (up u 0 (12 * n + i) (-1)) 3 n (u 3 n - 1)) 0 j = if j = 12 * n + i then -1 else u 0 j := fun j => by rw [up_ne (by decide), up_at]
  have hp0 := C.occ n0 n1 i0 i1 hu hp
  have rn := rm n n0 n1
  refine ⟨fun n' i' a0 a1 a2 a3 a4 => ?_, fun n' p' a0 a1 a2 a3 a4 => ?_, fun n' i' j' a0 a1 a2 a3 a4 a5 a6 a7 => ?_, fun n' a0 a1 => ?_⟩
  · rw [e4] at a1
    rw [e6] at a3
    have rn' := rm n' a0 a1
    rw [eu] at a4 ⊢
    by_cases c : 12 * n' + i' = 12 * n + i
    · rw [if_pos c] at a4; omega
    · rw [if_neg c] at a4 ⊢
      have r' := rv n' i' a0 a1 a2 a3
      have o := C.1 n' i' a0 a1 a2 a3 a4
      rw [e18, if_neg]
      · exact o
      · intro q
        have q1 : n' = n := by omega
        subst q1
        have q2 := C.2.2.1 n' i' i a0 a1 a2 a3 i0 i1 a4 (by omega)
        exact c (by rw [q2])
  · rw [e4] at a1
    rw [e11] at a3
    rw [e18] at a4
    by_cases c : 60 * n' + p' = 60 * n + p
    · rw [if_pos c] at a4; omega
    · rw [if_neg c] at a4
      obtain ⟨i', j0, j1, j2⟩ := C.cov a0 a1 a2 a3 a4
      refine ⟨i', j0, by rw [e6]; exact j1, ?_⟩
      have rn' := rm n' a0 a1
      rw [eu, if_neg]
      · exact j2
      · intro q
        have q1 : n' = n := by omega
        subst q1
        have q2 : i' = i := by omega
        subst q2
        exact c (by omega)
  · rw [e4] at a1
    rw [e6] at a3 a5
    rw [eu] at a6 a7
    rw [eu] at a7
    by_cases c : 12 * n' + i' = 12 * n + i
    · rw [if_pos c] at a6; omega
    · rw [if_neg c] at a6 a7
      by_cases c2 : 12 * n' + j' = 12 * n + i
      · rw [if_pos c2] at a7; omega
      · rw [if_neg c2] at a7
        exact C.2.2.1 n' i' j' a0 a1 a2 a3 a4 a5 a6 a7
  · rw [e4] at a1
    rw [up_at]
    by_cases c : n' = n
    · subst c
      rw [if_pos rfl, C.tk a0 a1]
      unfold loadG
      rw [e11]
      refine (cnt_off hp p1 (decide_eq_true hp0) ?_ (fun k b0 b1 b2 => ?_)).symm
      · show decide (0 < g' 18 (60 * n' + p)) = false
        rw [e18, if_pos rfl]; rfl
      · show decide (0 < g' 18 (60 * n' + k)) = decide (0 < g 18 (60 * n' + k))
        rw [e18, if_neg (by omega)]
    · rw [if_neg c, up_ne (by decide), C.tk a0 a1]
      exact (load_cc e11 (fun q b0 b1 => by rw [e18, if_neg (by omega)])).symm
theorem CI.on {u g g' : GT} (C : CI u g) {n i q v : Int} (n0 : 0 ≤ n) (n1 : n < g 4 0) (i0 : 0 ≤ i) (i1 : i < g 6 n) (hu : u 0 (12 * n + i) = -1) (hq : 0 ≤ q) (q1 : q < g 11 0) (np : g 11 0 ≤ 60) (rm : ∀ n, 0 ≤ n → n < g 4 0 → g 6 n ≤ 12)
    (rv : ∀ n i, 0 ≤ n → n < g 4 0 → 0 ≤ i → i < g 6 n → u 0 (12 * n + i) < g 11 0) (hz : g 18 (60 * n + q) = 0) (hv : 0 < v)
    (e18 : ∀ j, g' 18 j = if j = 60 * n + q then v else g 18 j) (e4 : g' 4 0 = g 4 0) (e6 : ∀ j, g' 6 j = g 6 j) (e11 : g' 11 0 = g 11 0) : CI (up (up u 0 (12 * n + i) q) 3 n (u 3 n + 1)) g' := by
  have eu : ∀ j, (up (up u 0 (12 * n + i) q) 3 n (u 3 n + 1)) 0 j = if j = 12 * n + i then q else u 0 j := fun j => by rw [up_ne (by decide), up_at]
  have rn := rm n n0 n1
  refine ⟨fun n' i' a0 a1 a2 a3 a4 => ?_, fun n' p' a0 a1 a2 a3 a4 => ?_, fun n' i' j' a0 a1 a2 a3 a4 a5 a6 a7 => ?_, fun n' a0 a1 => ?_⟩
  · rw [e4] at a1
    rw [e6] at a3
    have rn' := rm n' a0 a1
    rw [eu] at a4 ⊢
    by_cases c : 12 * n' + i' = 12 * n + i
    · have q1 : n' = n := by omega
      subst q1
      rw [if_pos c, e18, if_pos rfl]; exact hv
    · rw [if_neg c] at a4 ⊢
      have o := C.1 n' i' a0 a1 a2 a3 a4
      rw [e18]
      split
      · exact hv
      · exact o
  · rw [e4] at a1
    rw [e11] at a3
    rw [e18] at a4
    by_cases c : 60 * n' + p' = 60 * n + q
    · have q1 : n' = n := by omega
      subst q1
      exact ⟨i, i0, by rw [e6]; exact i1, by rw [eu, if_pos rfl]; omega⟩
    · rw [if_neg c] at a4
      obtain ⟨i', j0, j1, j2⟩ := C.cov a0 a1 a2 a3 a4
      have rn' := rm n' a0 a1
      refine ⟨i', j0, by rw [e6]; exact j1, ?_⟩
      rw [eu, if_neg]
      · exact j2
      · intro z
        rw [z] at j2
        omega
  · rw [e4] at a1
    rw [e6] at a3 a5
    have rn' := rm n' a0 a1
    rw [eu] at a6 a7
    rw [eu] at a7
    have no : ∀ k, 0 ≤ k → k < g 6 n' → n' = n → u 0 (12 * n' + k) = q → False := fun k k0 k1 e z => by
      subst e
      have := C.occ a0 a1 k0 k1 z hq
      omega
    by_cases c : 12 * n' + i' = 12 * n + i
    · rw [if_pos c] at a7
      by_cases c2 : 12 * n' + j' = 12 * n + i
      · omega
      · rw [if_neg c2] at a7
        exact (no j' a4 a5 (by omega) a7.symm).elim
    · rw [if_neg c] at a6 a7
      by_cases c2 : 12 * n' + j' = 12 * n + i
      · rw [if_pos c2] at a7
        exact (no i' a2 a3 (by omega) a7).elim
      · rw [if_neg c2] at a7
        exact C.2.2.1 n' i' j' a0 a1 a2 a3 a4 a5 a6 a7
  · rw [e4] at a1
    rw [up_at]
    by_cases c : n' = n
    · subst c
      rw [if_pos rfl, C.tk a0 a1]
      unfold loadG
      rw [e11]
      refine (cnt_on hq q1 ?_ ?_ (fun k b0 b1 b2 => ?_)).symm
      · show decide (0 < g 18 (60 * n' + q)) = false
        rw [hz]; rfl
      · show decide (0 < g' 18 (60 * n' + q)) = true
        rw [e18, if_pos rfl]; exact decide_eq_true hv
      · show decide (0 < g' 18 (60 * n' + k)) = decide (0 < g 18 (60 * n' + k))
        rw [e18, if_neg (by omega)]
    · rw [if_neg c, up_ne (by decide), C.tk a0 a1]
      exact (load_cc e11 (fun q b0 b1 => by rw [e18, if_neg (by omega)])).symm
theorem CI.same {u u' g g' : GT} (C : CI u g) (e0 : ∀ j, u' 0 j = u 0 j) (e3 : ∀ j, u' 3 j = u 3 j) (e18 : ∀ n p, 0 ≤ p → p < g 11 0 → (0 < g' 18 (60 * n + p) ↔ 0 < g 18 (60 * n + p))) (e4 : g' 4 0 = g 4 0) (e6 : ∀ j, g' 6 j = g 6 j) (e11 : g' 11 0 = g 11 0)
    (rv : ∀ n i, 0 ≤ n → n < g 4 0 → 0 ≤ i → i < g 6 n → u 0 (12 * n + i) < g 11 0) : CI u' g' := by
  unfold CI
  rw [e4, e11]
  simp only [e0, e3, e6]
  refine ⟨fun n i a b c d e => (e18 _ _ e (rv n i a b c d)).mpr (C.1 n i a b c d e), fun n p a b c d e => C.2.1 n p a b c d ((e18 n p c d).mp e), C.2.2.1, fun n a b => (C.tk a b).trans (load_cc e11 (fun p c d => e18 n p c d)).symm⟩
/-- a node with room has a free place -/
theorem CI.free {u g : GT} (C : CI u g) {n : Int} (n0 : 0 ≤ n) (n1 : n < g 4 0) (hl : loadG g n < g 6 n) (rv : ∀ i, 0 ≤ i → i < g 6 n → u 0 (12 * n + i) = -1 ∨ (0 ≤ u 0 (12 * n + i) ∧ u 0 (12 * n + i) < g 11 0)) : ∃ i, 0 ≤ i ∧ i < g 6 n ∧ u 0 (12 * n + i) = -1 := by
  by_cases c : ∃ i, 0 ≤ i ∧ i < g 6 n ∧ u 0 (12 * n + i) = -1
  · exact c
  · exfalso
    have no : ∀ i, 0 ≤ i → i < g 6 n → 0 ≤ u 0 (12 * n + i) ∧ u 0 (12 * n + i) < g 11 0 := fun i i0 i1 => (rv i i0 i1).resolve_left (fun z => c ⟨i, i0, i1, z⟩)
    have := cnt_inj (g 11 0) (g 6 n).toNat (fun p => decide (0 < g 18 (60 * n + p))) (fun i => u 0 (12 * n + i)) (fun i hi => ⟨no i (by omega) (by omega), decide_eq_true (C.1 n i n0 n1 (by omega) (by omega) (no i (by omega) (by omega)).1)⟩) (fun i j a b z => by
      have := C.2.2.1 n i j n0 n1 (by omega) (by omega) (by omega) (by omega) (no i (by omega) (by omega)).1 z
      omega)
    have e : loadG g n = cnt (fun p => decide (0 < g 18 (60 * n + p))) (g 11 0) := rfl
    omega
theorem Rp.rv {gx : GX} {x : Nat} {A : Nat → Int → Nat} {u : GT} {m : Int} {g : GT} {h : Hp} (R : Rp gx x A u m g h) (n i : Int) (n0 : 0 ≤ n) (n1 : n < g 4 0) (i0 : 0 ≤ i) (i1 : i < g 6 n) : u 0 (12 * n + i) = -1 ∨ (0 ≤ u 0 (12 * n + i) ∧ u 0 (12 * n + i) < g 11 0) := (R.s n0 n1 i0 i1).2.2.2.imp (fun z => z.1) (fun z => z.1)
theorem Rp.rvl {gx : GX} {x : Nat} {A : Nat → Int → Nat} {u : GT} {m : Int} {g : GT} {h : Hp} (R : Rp gx x A u m g h) (np : 0 ≤ g 11 0) : ∀ n i, 0 ≤ n → n < g 4 0 → 0 ≤ i → i < g 6 n → u 0 (12 * n + i) < g 11 0 := fun n i n0 n1 i0 i1 => by
  have := R.rv n i n0 n1 i0 i1
  omega
theorem Rp.rml {gx : GX} {x : Nat} {A : Nat → Int → Nat} {u : GT} {m : Int} {g : GT} {h : Hp} (R : Rp gx x A u m g h) : ∀ n, 0 ≤ n → n < g 4 0 → g 6 n ≤ 12 := fun n n0 n1 => (R.room n0 n1).2
