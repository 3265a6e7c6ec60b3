/-! ===== the class: sorting out ===== -/
theorem findI_cg {f f' : Int → Bool} {N : Int} (e : ∀ k, 0 ≤ k → k < N → f' k = f k) : findI f' N = findI f N := by
  rcases findI_cases f N with q | ⟨a, b, c, d⟩
  · rw [q.1]; exact findI_none (fun k k0 k1 => (e k k0 k1).trans (q.2 k k0 k1))
  · exact findI_hit a b ((e _ a b).trans c) (fun j j0 j1 => (e j j0 (by omega)).trans (d j j0 j1))
theorem sumI_cg {f f' : Int → Int} {N : Int} (e : ∀ k, 0 ≤ k → k < N → f' k = f k) : sumI f' N = sumI f N := by
  unfold sumI
  have key : ∀ m : Nat, (m : Int) ≤ N ∨ m = 0 → sumN f' m = sumN f m := by
    intro m
    induction m with
    | zero => intro _; rfl
    | succ m ih =>
      intro h
      show sumN f' m + f' m = sumN f m + f m
      rw [ih (by omega), e m (by omega) (by omega)]
  exact key _ (by omega)
theorem fw_cg {g g' : GT} (h : ∀ k, k = 22 ∨ k = 23 ∨ k = 25 ∨ k = 26 → ∀ j, g' k j = g k j) (p b : Int) : fwG g' p b = fwG g p b := by
  unfold fwG fcG
  simp only [h 22 (by omega), h 23 (by omega), h 25 (by omega), h 26 (by omega)]
theorem itrI_cg {F F' : Int → GT → GT} {N : Int} (e : ∀ i s, 0 ≤ i → F' i s = F i s) (g : GT) : itrI F' N g = itrI F N g := by
  unfold itrI
  generalize N.toNat = m
  induction m with
  | zero => rfl
  | succ m ih =>
    show F' m (itr F' m g) = F m (itr F m g)
    rw [ih, e m _ (by omega)]
/-- the piece that a place of the table belongs to, as seen from node n -/
def pof (n : Int) (k : Nat) (j : Int) : Int := if k = 13 ∨ k = 14 ∨ k = 16 then j else if k = 17 then j / 8 else if (k = 18 ∨ k = 19 ∨ k = 21) ∧ 60 * n ≤ j ∧ j < 60 * n + 60 then j - 60 * n else -1
abbrev TCH (k : Nat) : Prop := k = 13 ∨ k = 14 ∨ k = 16 ∨ k = 17 ∨ k = 18 ∨ k = 19 ∨ k = 21
theorem pof_j {n j : Int} {k : Nat} (h : k = 13 ∨ k = 14 ∨ k = 16) : pof n k j = j := if_pos h
theorem pof_17 {n j : Int} : pof n 17 j = j / 8 := rfl
theorem pof_t {n j p : Int} {k : Nat} (h : k = 18 ∨ k = 19 ∨ k = 21) (e : pof n k j = p) (p0 : 0 ≤ p) : j = 60 * n + p ∧ p < 60 := by
  unfold pof at e
  rw [if_neg (by omega), if_neg (by omega)] at e
  split at e <;> omega
theorem pof_t2 {n p : Int} {k : Nat} (h : k = 18 ∨ k = 19 ∨ k = 21) (p0 : 0 ≤ p) (p1 : p < 60) : pof n k (60 * n + p) = p := by
  unfold pof
  rw [if_neg (by omega), if_neg (by omega), if_pos (by omega)]
  omega
theorem pof_n {n j : Int} {k : Nat} (h : ¬ TCH k) : pof n k j = -1 := by
  unfold pof
  rw [if_neg (by omega), if_neg (by omega), if_neg (by omega)]
theorem dq_13 (g : GT) (n p j : Int) : drG g n p 13 j = if j = p ∧ plG g p n ≠ -1 ∧ g 13 p = n then -1 else g 13 j := by
  unfold drG
  by_cases c : plG g p n ≠ -1 ∧ g 13 p = n
  · rw [if_pos c]
    unfold elG
    rw [up_ne (by decide), up_at, fgt_ne _ _ _ (by decide) (by decide), dr1_ne _ _ _ (by decide)]
    by_cases q : j = p
    · rw [if_pos q, if_pos ⟨q, c⟩]
    · rw [if_neg q, if_neg (fun z => q z.1)]
  · rw [if_neg c, fgt_ne _ _ _ (by decide) (by decide), dr1_ne _ _ _ (by decide), if_neg (fun z => c z.2)]
theorem dq_14 (g : GT) (n p j : Int) : drG g n p 14 j = if j = p ∧ plG g p n ≠ -1 ∧ g 13 p = n then -1 else g 14 j := by
  unfold drG
  by_cases c : plG g p n ≠ -1 ∧ g 13 p = n
  · rw [if_pos c]
    unfold elG
    rw [up_at, up_ne (by decide), fgt_ne _ _ _ (by decide) (by decide), dr1_ne _ _ _ (by decide)]
    by_cases q : j = p
    · rw [if_pos q, if_pos ⟨q, c⟩]
    · rw [if_neg q, if_neg (fun z => q z.1)]
  · rw [if_neg c, fgt_ne _ _ _ (by decide) (by decide), dr1_ne _ _ _ (by decide), if_neg (fun z => c z.2)]
theorem dq_x (g : GT) (n p j : Int) {k : Nat} (h : k = 16 ∨ k = 17) : drG g n p k j = fgtG g p n k j := by
  have e : fgtG (dr1 g n p) p n k j = fgtG g p n k j := by
    rw [← dr1_fg]
    exact dr1_ne _ _ _ (by omega) _
  unfold drG
  split
  · rw [el_ne _ _ (by omega)]; exact e
  · exact e
theorem fq_16 (g : GT) (p n j : Int) : fgtG g p n 16 j = if j = p ∧ plG g p n ≠ -1 then g 16 p - 1 else g 16 j := by
  unfold fgtG
  by_cases c : plG g p n = -1
  · rw [if_pos c, if_neg (fun z => z.2 c)]
  · rw [if_neg c]
    by_cases q : j = p
    · rw [if_pos ⟨q, c⟩, q, shf_16]
    · rw [if_neg (fun z => q z.1), shf_16n _ _ _ _ q]
theorem fq_17 (g : GT) (p n j : Int) : fgtG g p n 17 j = if plG g p n ≠ -1 ∧ 8 * p + plG g p n ≤ j ∧ j < 8 * p + (g 16 p - 1) then g 17 (j + 1) else g 17 j := by
  unfold fgtG
  by_cases c : plG g p n = -1
  · rw [if_pos c, if_neg (fun z => z.1 c)]
  · rw [if_neg c, shf_17]
    by_cases q : 8 * p + plG g p n ≤ j ∧ j < 8 * p + (g 16 p - 1)
    · rw [if_pos q, if_pos ⟨c, q⟩]
    · rw [if_neg q, if_neg (fun z => q z.2)]
/-- sorting a piece out touches what belongs to it -/
theorem so_loc {n p : Int} {s : GT} (p0 : 0 ≤ p) (p1 : p < 60) (c0 : 0 ≤ s 16 p) (c8 : s 16 p ≤ 8) {k : Nat} {j : Int} (h : pof n k j ≠ p) : soF n p s k j = s k j := by
  have pb := plG_b (g := s) (p := p) (n := n)
  unfold soF
  split
  · split
    · by_cases t : TCH k
      · rcases t with rfl | rfl | rfl | rfl | rfl | rfl | rfl
        · rw [pof_j (by omega)] at h
          rw [dq_13, if_neg (fun z => h z.1)]
        · rw [pof_j (by omega)] at h
          rw [dq_14, if_neg (fun z => h z.1)]
        · rw [pof_j (by omega)] at h
          rw [dq_x _ _ _ _ (by omega), fq_16, if_neg (fun z => h z.1)]
        · rw [pof_17] at h
          rw [dq_x _ _ _ _ (by omega), fq_17, if_neg (fun z => by omega)]
        · rw [dr_18, if_neg (fun z => h (by rw [z]; exact pof_t2 (by omega) p0 p1))]
        · rw [dr_19, if_neg (fun z => h (by rw [z]; exact pof_t2 (by omega) p0 p1))]
        · rw [dr_21, if_neg (fun z => h (by rw [z]; exact pof_t2 (by omega) p0 p1))]
      · exact dr_ne _ _ _ (by omega) _
    · rename_i c1
      split
      · rename_i c2
        have c3 : s 16 p ≤ 2 := by
          by_cases z : 2 < s 16 p
          · exact absurd (Or.inr (Or.inr ⟨c2, z⟩)) c1
          · omega
        by_cases t : k = 16 ∨ k = 17
        · rcases t with rfl | rfl
          · rw [pof_j (by omega)] at h
            rw [kn_16n _ _ _ h]
          · rw [pof_17] at h
            rw [kn_17, if_neg (fun z => by omega)]
        · exact kn_ne _ _ _ (by omega) (by omega) _
      · rfl
  · rfl
theorem so_cong {n p : Int} {s g : GT} (p0 : 0 ≤ p) (p1 : p < 60) (c0 : 0 ≤ g 16 p) (c8 : g 16 p ≤ 8) (hA : ∀ k j, pof n k j = p ∨ ¬ TCH k → s k j = g k j) {k : Nat} {j : Int} (h : pof n k j = p) : soF n p s k j = soF n p g k j := by
  have e18 : s 18 (60 * n + p) = g 18 (60 * n + p) := hA _ _ (Or.inl (pof_t2 (by omega) p0 p1))
  have e12 : s 12 p = g 12 p := hA _ _ (Or.inr (by omega))
  have e16 : s 16 p = g 16 p := hA _ _ (Or.inl (pof_j (by omega)))
  have e13 : s 13 p = g 13 p := hA _ _ (Or.inl (pof_j (by omega)))
  have efw : fwG s p (-1) = fwG g p (-1) := fw_cg (fun k hk j => hA k j (Or.inr (by omega))) _ _
  have e17 : ∀ i, 0 ≤ i → i < 8 → s 17 (8 * p + i) = g 17 (8 * p + i) := fun i i0 i1 => hA _ _ (Or.inl (by rw [pof_17]; omega))
  have epl : plG s p n = plG g p n := by
    unfold plG
    rw [e16]
    exact findI_cg (fun i i0 i1 => by rw [e17 i i0 (by omega)])
  have pb := plG_b (g := g) (p := p) (n := n)
  unfold soF
  rw [e18, e12, e16, efw, epl]
  by_cases a : 0 < g 18 (60 * n + p)
  · rw [if_pos a, if_pos a]
    by_cases b : fwG g p (-1) = 0 ∨ g 18 (60 * n + p) ≠ g 12 p ∨ (plG g p n = -1 ∧ 2 < g 16 p)
    · rw [if_pos b, if_pos b]
      by_cases t : TCH k
      · rcases t with rfl | rfl | rfl | rfl | rfl | rfl | rfl
        · rw [dq_13, dq_13, epl, e13, hA _ _ (Or.inl h)]
        · rw [dq_14, dq_14, epl, e13, hA _ _ (Or.inl h)]
        · rw [dq_x _ _ _ _ (by omega), dq_x _ _ _ _ (by omega), fq_16, fq_16, epl, e16, hA _ _ (Or.inl h)]
        · rw [dq_x _ _ _ _ (by omega), dq_x _ _ _ _ (by omega), fq_17, fq_17, epl, e16, hA _ _ (Or.inl h)]
          split
          · exact hA _ _ (Or.inl (by rw [pof_17] at h ⊢; omega))
          · rfl
        · rw [dr_18, dr_18, hA _ _ (Or.inl h)]
        · rw [dr_19, dr_19, hA _ _ (Or.inl h)]
        · rw [dr_21, dr_21, hA _ _ (Or.inl h)]
      · rw [dr_ne _ _ _ (by omega), dr_ne _ _ _ (by omega)]
        exact hA _ _ (Or.inl h)
    · rw [if_neg b, if_neg b]
      split
      · by_cases t : k = 16 ∨ k = 17
        · rcases t with rfl | rfl
          · rw [pof_j (by omega)] at h
            subst h
            rw [kn_16, kn_16, e16]
          · rw [kn_17, kn_17, e16]
            split
            · rfl
            · exact hA _ _ (Or.inl h)
        · rw [kn_ne _ _ _ (by omega) (by omega), kn_ne _ _ _ (by omega) (by omega)]
          exact hA _ _ (Or.inl h)
      · exact hA _ _ (Or.inl h)
  · rw [if_neg a, if_neg a]
    exact hA _ _ (Or.inl h)
/-- pieces sorted out in a row's order -/
def soL (n : Int) (l : Int → Int) : Int → GT → GT := fun i s => if 0 ≤ l i then soF n (l i) s else s
theorem so_seq {n : Int} {g : GT} {l : Int → Int} {N : Int} (np : g 11 0 ≤ 60) (cp : ∀ p, 0 ≤ p → p < g 11 0 → 0 ≤ g 16 p ∧ g 16 p ≤ 8) (rl : ∀ i, 0 ≤ i → i < N → l i < g 11 0) (ds : ∀ i j, 0 ≤ i → i < j → j < N → 0 ≤ l i → l i ≠ l j) (N0 : 0 ≤ N) :
    ∀ k j, ((∀ i, 0 ≤ i → i < N → 0 ≤ l i → l i ≠ pof n k j) → itrI (soL n l) N g k j = g k j) ∧ (∀ i, 0 ≤ i → i < N → 0 ≤ l i → l i = pof n k j → itrI (soL n l) N g k j = soF n (l i) g k j) := by
  have key : ∀ m : Nat, (m : Int) ≤ N → ∀ k j, ((∀ i, 0 ≤ i → i < (m : Int) → 0 ≤ l i → l i ≠ pof n k j) → itrI (soL n l) m g k j = g k j) ∧ (∀ i, 0 ≤ i → i < (m : Int) → 0 ≤ l i → l i = pof n k j → itrI (soL n l) m g k j = soF n (l i) g k j) := by
    intro m
    induction m with
    | zero => exact fun _ k j => ⟨fun _ => rfl, fun i a b => by omega⟩
    | succ m ih =>
      intro hm k j
      have S := ih (by omega)
      rw [show ((m + 1 : Nat) : Int) = (m : Int) + 1 by omega, itrI_s _ _ (by omega)]
      obtain ⟨s, hs⟩ : ∃ s, s = itrI (soL n l) m g := ⟨_, rfl⟩
      rw [← hs] at S ⊢
      unfold soL
      by_cases v : 0 ≤ l m
      · rw [if_pos v]
        have lm := rl m (by omega) (by omega)
        have bc := cp (l m) v lm
        have hA : ∀ k j, pof n k j = l m ∨ ¬ TCH k → s k j = g k j := fun k j h => (S k j).1 (fun i i0 i1 v2 e => by
          rcases h with h | h
          · exact ds i m i0 i1 (by omega) v2 (e.trans h)
          · rw [pof_n h] at e; omega)
        have e16 : s 16 (l m) = g 16 (l m) := hA _ _ (Or.inl (pof_j (by omega)))
        by_cases q : pof n k j = l m
        · rw [so_cong v (by omega) bc.1 bc.2 hA q]
          refine ⟨fun h => absurd q.symm (h m (by omega) (by omega) v), fun i i0 i1 v2 e => ?_⟩
          rw [e, q]
        · rw [so_loc v (by omega) (by omega) (by omega) q]
          refine ⟨fun h => (S k j).1 (fun i i0 i1 => h i i0 (by omega)), fun i i0 i1 v2 e => ?_⟩
          by_cases c : i = m
          · rw [c] at e; exact absurd e.symm q
          · exact (S k j).2 i i0 (by omega) v2 e
      · rw [if_neg v]
        refine ⟨fun h => (S k j).1 (fun i i0 i1 => h i i0 (by omega)), fun i i0 i1 v2 e => ?_⟩
        by_cases c : i = m
        · rw [c] at v2; exact absurd v2 v
        · exact (S k j).2 i i0 (by omega) v2 e
  have := key N.toNat (by omega)
  rwa [Int.toNat_of_nonneg N0] at this
theorem so_eq {u g : GT} {n : Int} (C : CI u g) (B : BD g) (N : NN g) (n0 : 0 ≤ n) (n1 : n < g 4 0) (r0 : 0 ≤ g 6 n) (rl : ∀ i, 0 ≤ i → i < g 6 n → u 0 (12 * n + i) < g 11 0) : itrI (soL n (fun i => u 0 (12 * n + i))) (g 6 n) g = soG g n := by
  have b2 := B.np
  have e1 : soG g n = itrI (soL n (fun i => i)) (g 11 0) g := itrI_cg (fun i s h => (if_pos h).symm) g
  have S1 := so_seq (n := n) (l := fun i => u 0 (12 * n + i)) (N := g 6 n) b2.2 B.cp rl (fun i j i0 ij j1 v e => by
    have := C.2.2.1 n i j n0 n1 i0 (by omega) (by omega) j1 v e
    omega) r0
  have S2 := so_seq (n := n) (l := fun i => i) (N := g 11 0) b2.2 B.cp (fun i _ i1 => i1) (fun i j _ ij _ _ e => by omega) b2.1
  rw [e1]
  funext k j
  obtain ⟨a1, a2⟩ := S1 k j
  obtain ⟨c1, c2⟩ := S2 k j
  obtain ⟨q, hq⟩ : ∃ q, q = pof n k j := ⟨_, rfl⟩
  rw [← hq] at a1 a2 c1 c2
  by_cases r : 0 ≤ q ∧ q < g 11 0
  · rw [c2 q r.1 r.2 r.1 rfl]
    by_cases z : 0 < g 18 (60 * n + q)
    · obtain ⟨i, i0, i1, e⟩ := C.cov n0 n1 r.1 r.2 z
      have := a2 i i0 i1 (by omega) e
      rw [this]
      rw [e]
    · rw [a1 (fun i i0 i1 v e => by
        have := C.occ n0 n1 i0 i1 e r.1
        omega)]
      show g k j = (if 0 < g 18 (60 * n + q) then _ else g) k j
      rw [if_neg z]
  · rw [a1 (fun i i0 i1 v e => by
      have := rl i i0 i1
      omega), c1 (fun i i0 i1 v e => by omega)]

set_option maxRecDepth 100000 in
set_option maxHeartbeats 4000000 in
theorem C_X4_sortOutPlaces {gx : GX} {d : Nat} {Qr : Option AV → Hp → Prop} {Qx : String → Hp → Prop} {x : Nat} {A : Nat → Int → Nat} {u : GT} {m : Int} {g : GT} {h : Hp} {n : Int} (Z : Rw gx x A u m g h) (F : ∀ p, 0 ≤ p → p < g 11 0 → u 2 p = fwG g p (-1)) (H : ∀ p, 0 ≤ p → p < g 11 0 → u 6 p = 1) (n0 : 0 ≤ n) (n1 : n < g 4 0) (K : ∀ u' h1, Rw gx x A u' m (soF2 n g) h1 → SU u u' → Qr none h1) : aM gx (d + 7) mX4_sortOutPlaces [vr (A 0 n)] h 0 0 Qr Qx := by
  intro J C
  show J 0 [some (vr (A 0 n)), none, none, none, none, none, none, none] [] h 0 0
  have R := Z.1; have W := Z.2.1; have Ci := Z.2.2; have B := W.b; have b1 := B.nn; have b2 := B.np; have rm := R.room n0 n1; have rl := R.rvl b2.1 n
  refine r_aload_n C dX4_sortOutPlaces_0 (i := 0) rfl rfl ?_
  refine c_3_4 C dX4_sortOutPlaces_1 fX4_69 R (by omega) (by omega) ?_
  refine r_if_ne C dX4_sortOutPlaces_4 (t := 8) (by decide) (by first | assumption | exact R.rg _ _ | exact R.ru _ _ | (unfold inR; omega)) (fun c4 => ?_) (fun c4 => ?_)
  · skip
    refine r_aload_n C dX4_sortOutPlaces_8 (i := 0) rfl rfl ?_
    refine c_3_2 C dX4_sortOutPlaces_9 fX4_367 R (by omega) (by omega) ?_
    have e0 : soF2 n g = soG g n := if_pos c4
    rw [e0, ← so_eq Ci B W.n n0 n1 rm.1 (fun i i0 i1 => rl i n0 n1 i0 i1)] at K
    refine r_astore_n C dX4_sortOutPlaces_12 (i := 1) rfl (Nat.le_of_ble_eq_true rfl) ?_
    dsimp only [List.set]
    refine r_aload_n C dX4_sortOutPlaces_13 (i := 1) rfl rfl ?_
    refine c_len C dX4_sortOutPlaces_14 R (by omega) (by omega) ?_
    refine r_istore_n C dX4_sortOutPlaces_15 (i := 2) rfl (Nat.le_of_ble_eq_true rfl) ?_
    dsimp only [List.set]
    refine r_iconst C dX4_sortOutPlaces_16 ?_
    refine r_istore_n C dX4_sortOutPlaces_17 (i := 3) rfl (Nat.le_of_ble_eq_true rfl) ?_
    dsimp only [List.set]
    suffices LOOP : ∀ (m9 : Nat) (i : Int) (u2 : GT) (h2 : Hp) (y1 y2 y3 y4 : Option AV), g 6 n - i < (m9 : Int) → 0 ≤ i → i ≤ g 6 n → Rw gx x A u2 m (itrI (soL n (fun i => u 0 (12 * n + i))) i g) h2 → SU u u2 → (∀ j, i ≤ j → j < g 6 n → u2 0 (12 * n + j) = u 0 (12 * n + j)) → J 18 [some (vr (A 0 n)), some (vr (A 1 n)), some (vi (g 6 n)), some (vi i), y1, y2, y3, y4] [] h2 0 0 by
      exact LOOP ((g 6 n).toNat + 1) 0 _ _ _ _ _ _ (by omega) (by omega) (by omega) Z (SU.refl _) (fun _ _ _ => rfl)
    intro m9
    induction m9 with
    | zero => intro i u2 h2 y1 y2 y3 y4 hm9 i0 i1 Z2 S2 U2; exact absurd hm9 (by omega)
    | succ m9 ih9 =>
      intro i u2 h2 y1 y2 y3 y4 hm9 i0 i1 Z2 S2 U2
      have T := so_seq (n := n) (l := fun i => u 0 (12 * n + i)) (N := i) b2.2 B.cp (fun j j0 j1 => rl j n0 n1 j0 (by omega)) (fun i j i0 ij j1 v e => by
        have := Ci.2.2.1 n i j n0 n1 i0 (by omega) (by omega) (by omega) v e
        omega) i0
      obtain ⟨s, hs⟩ : ∃ s, s = itrI (soL n (fun i => u 0 (12 * n + i))) i g := ⟨_, rfl⟩
      rw [← hs] at T Z2
      have sne : ∀ k, ¬ TCH k → ∀ j, s k j = g k j := fun k hk j => (T k j).1 (fun i i0 i1 v e => by rw [pof_n hk] at e; omega)
      have R := Z2.1
      have W := Z2.2.1
      have Ci := Z2.2.2
      have s4 := sne 4 (by decide) 0
      have s6 := sne 6 (by decide) n
      have s11 := sne 11 (by decide) 0
      have B2 := W.b
      have efw : ∀ p, fwG s p (-1) = fwG g p (-1) := fun p => fw_cg (fun k hk j => sne k (by omega) j) _ _
      refine r_iload_n C dX4_sortOutPlaces_18 (i := 3) rfl rfl ?_
      refine r_iload_n C dX4_sortOutPlaces_19 (i := 2) rfl rfl ?_
      refine r_ic_ge C dX4_sortOutPlaces_20 (t := 131) (by decide) (by first | assumption | exact R.rg _ _ | exact R.ru _ _ | (unfold inR; omega)) (by first | assumption | exact R.rg _ _ | exact R.ru _ _ | (unfold inR; omega)) (fun c20 => ?_) (fun c20 => ?_)
      · skip
        have e5 : i = g 6 n := by omega
        rw [hs, e5] at Z2
        refine r_ret C dX4_sortOutPlaces_131 rfl ?_
        exact K _ _ Z2 S2
      · skip
        refine r_aload_n C dX4_sortOutPlaces_23 (i := 1) rfl rfl ?_
        refine r_iload_n C dX4_sortOutPlaces_24 (i := 3) rfl rfl ?_
        refine c_pl C dX4_sortOutPlaces_25 R (by omega) (by omega) (by omega) (by omega) ?_
        refine r_astore C dX4_sortOutPlaces_26 (Nat.le_of_ble_eq_true rfl) ?_
        dsimp only [List.set]
        refine r_aload C dX4_sortOutPlaces_28 rfl ?_
        refine c_1_q C dX4_sortOutPlaces_30 fX4_278 R (by omega) (by omega) (by omega) (by omega) ?_
        refine r_astore C dX4_sortOutPlaces_33 (Nat.le_of_ble_eq_true rfl) ?_
        dsimp only [List.set]
        refine r_aload C dX4_sortOutPlaces_35 rfl ?_
        refine r_ifnonnull C dX4_sortOutPlaces_37 (t := 43) (by decide) (fun a37 c37 => ?_) (fun c37 => ?_)
        · skip
          have hl0 : 0 ≤ u 0 (12 * n + i) := by
            have q := Z.1.rv n i n0 n1 i0 (by omega)
            by_cases e : u2 0 (12 * n + i) = -1
            · rw [if_pos e] at c37; cases c37
            · rw [U2 i (Int.le_refl _) (by omega)] at e; omega
          obtain ⟨p, hl⟩ : ∃ p, u 0 (12 * n + i) = p := ⟨_, rfl⟩
          have hu : u2 0 (12 * n + i) = p := (U2 i (Int.le_refl _) (by omega)).trans hl
          have p1 := rl i n0 n1 i0 (by omega)
          rw [hl] at hl0 p1
          rw [if_neg (by omega), hu]
          have hoc := Ci.occ n0 (by omega) i0 (by omega) hu hl0
          have bpl := plG_b (g := s) (p := p) (n := n)
          have bcp := B2.cp p hl0 (by omega)
          refine r_aload C dX4_sortOutPlaces_43 rfl ?_
          refine r_aload_n C dX4_sortOutPlaces_45 (i := 0) rfl rfl ?_
          refine c_VQ1 C dX4_sortOutPlaces_46 sX4_363 rfl R (by omega) (by omega) rfl (Nat.le_of_ble_eq_true rfl) 0 0 (Nat.zero_le _) (Nat.zero_le _) (C_X3_isHeldBy R B2 hl0 (by omega) n0 (by omega) (fun z hz hb => ?_))
          have hb01 := hb.b
          refine r_istore C dX4_sortOutPlaces_49 (Nat.le_of_ble_eq_true rfl) ?_
          dsimp only [List.set]
          refine r_iload C dX4_sortOutPlaces_51 rfl ?_
          refine r_if_ne C dX4_sortOutPlaces_53 (t := 72) (by decide) (by first | assumption | exact R.rg _ _ | exact R.ru _ _ | (unfold inR; omega)) (fun c53 => ?_) (fun c53 => ?_)
          · skip
            have hkn := hb.t c53
            refine r_iconst C dX4_sortOutPlaces_72 ?_
            refine r_istore C dX4_sortOutPlaces_73 (Nat.le_of_ble_eq_true rfl) ?_
            dsimp only [List.set]
            refine r_aload C dX4_sortOutPlaces_75 rfl ?_
            refine c_VQ0 C dX4_sortOutPlaces_77 sX4_225 rfl R (by omega) (by omega)  (Nat.le_of_ble_eq_true rfl) 0 0 (Nat.zero_le _) (Nat.zero_le _) (C_X3_isGone R hl0 (by omega) (fun w hw hg => ?_))
            have hg01 := hg.b
            rw [S2 2 _ (by decide) (by decide), F p hl0 (by omega), ← efw p] at hg
            refine r_if_ne C dX4_sortOutPlaces_80 (t := 101) (by decide) (by first | assumption | exact R.rg _ _ | exact R.ru _ _ | (unfold inR; omega)) (fun c80 => ?_) (fun c80 => ?_)
            · skip
              have hgo := hg.t c80
              refine r_aload_n C dX4_sortOutPlaces_101 (i := 0) rfl rfl ?_
              refine r_aload C dX4_sortOutPlaces_102 rfl ?_
              refine c_S2 C dX4_sortOutPlaces_104 sX4_176 rfl rfl (Nat.le_of_ble_eq_true rfl) 0 0 (Nat.zero_le _) (Nat.zero_le _) (C_X4_drop Z2 n0 (by omega) i0 (by omega) hu hl0 (fun h3 R3 C3 => ?_))
              have Z4 : Rw gx x A (dpU u2 n i) m (drG s n p) h3 := ⟨R3, iw_dr W hl0 (by omega) n, C3⟩
              have eso : soF n p s = drG s n p := by
                unfold soF
                rw [if_pos hoc]
                first
                  | rw [if_pos (Or.inl hgo)]
                  | rw [if_pos (Or.inr (Or.inl (by omega)))]
                  | rw [if_pos (Or.inr (Or.inr ⟨hkn, by omega⟩))]
              refine r_goto C dX4_sortOutPlaces_107 (t := 125) (by decide) ?_
              refine r_iinc C dX4_sortOutPlaces_125 rfl ?_
              dsimp only [List.set]
              refine r_goto C dX4_sortOutPlaces_128 (t := 18) (by decide) ?_
              first
                | exact ih9 _ _ _ _ _ _ _ (by omega) (by omega) (by omega) (by rw [itrI_s _ _ i0, ← hs]; unfold soL; dsimp only; rw [if_neg (by omega)]; exact Z2) S2 (fun j j0 j1 => U2 j (by omega) j1)
                | exact ih9 _ _ _ _ _ _ _ (by omega) (by omega) (by omega) (by rw [itrI_s _ _ i0, ← hs]; unfold soL; dsimp only; rw [if_pos (by omega), hl, eso]; exact Z2) S2 (fun j j0 j1 => U2 j (by omega) j1)
                | exact ih9 _ _ _ _ _ _ _ (by omega) (by omega) (by omega) (by rw [itrI_s _ _ i0, ← hs]; unfold soL; dsimp only; rw [if_pos (by omega), hl, eso]; exact Z3) S2 (fun j j0 j1 => U2 j (by omega) j1)
                | exact ih9 _ _ _ _ _ _ _ (by omega) (by omega) (by omega) (by rw [itrI_s _ _ i0, ← hs]; unfold soL; dsimp only; rw [if_pos (by omega), hl, eso]; exact Z4) (S2.trans (su_dp _ _ _)) (fun j j0 j1 => by unfold dpU; rw [up_ne (by decide), up_off (by omega)]; exact U2 j (by omega) j1)
            · skip
              have hgo := hg.f c80
              refine r_aload C dX4_sortOutPlaces_83 rfl ?_
              refine c_1_1 C dX4_sortOutPlaces_85 fX4_210 R (by omega) (by omega) (by omega) (by omega) hu (by omega) ?_
              refine r_aload C dX4_sortOutPlaces_88 rfl ?_
              refine c_4_1 C dX4_sortOutPlaces_90 fX4_181 R (by omega) (by omega) ?_
              refine r_ic_ne C dX4_sortOutPlaces_93 (t := 101) (by decide) (by first | assumption | exact R.rg _ _ | exact R.ru _ _ | (unfold inR; omega)) (by first | assumption | exact R.rg _ _ | exact R.ru _ _ | (unfold inR; omega)) (fun c93 => ?_) (fun c93 => ?_)
              · skip
                refine r_aload_n C dX4_sortOutPlaces_101 (i := 0) rfl rfl ?_
                refine r_aload C dX4_sortOutPlaces_102 rfl ?_
                refine c_S2 C dX4_sortOutPlaces_104 sX4_176 rfl rfl (Nat.le_of_ble_eq_true rfl) 0 0 (Nat.zero_le _) (Nat.zero_le _) (C_X4_drop Z2 n0 (by omega) i0 (by omega) hu hl0 (fun h3 R3 C3 => ?_))
                have Z4 : Rw gx x A (dpU u2 n i) m (drG s n p) h3 := ⟨R3, iw_dr W hl0 (by omega) n, C3⟩
                have eso : soF n p s = drG s n p := by
                  unfold soF
                  rw [if_pos hoc]
                  first
                    | rw [if_pos (Or.inl hgo)]
                    | rw [if_pos (Or.inr (Or.inl (by omega)))]
                    | rw [if_pos (Or.inr (Or.inr ⟨hkn, by omega⟩))]
                refine r_goto C dX4_sortOutPlaces_107 (t := 125) (by decide) ?_
                refine r_iinc C dX4_sortOutPlaces_125 rfl ?_
                dsimp only [List.set]
                refine r_goto C dX4_sortOutPlaces_128 (t := 18) (by decide) ?_
                first
                  | exact ih9 _ _ _ _ _ _ _ (by omega) (by omega) (by omega) (by rw [itrI_s _ _ i0, ← hs]; unfold soL; dsimp only; rw [if_neg (by omega)]; exact Z2) S2 (fun j j0 j1 => U2 j (by omega) j1)
                  | exact ih9 _ _ _ _ _ _ _ (by omega) (by omega) (by omega) (by rw [itrI_s _ _ i0, ← hs]; unfold soL; dsimp only; rw [if_pos (by omega), hl, eso]; exact Z2) S2 (fun j j0 j1 => U2 j (by omega) j1)
                  | exact ih9 _ _ _ _ _ _ _ (by omega) (by omega) (by omega) (by rw [itrI_s _ _ i0, ← hs]; unfold soL; dsimp only; rw [if_pos (by omega), hl, eso]; exact Z3) S2 (fun j j0 j1 => U2 j (by omega) j1)
                  | exact ih9 _ _ _ _ _ _ _ (by omega) (by omega) (by omega) (by rw [itrI_s _ _ i0, ← hs]; unfold soL; dsimp only; rw [if_pos (by omega), hl, eso]; exact Z4) (S2.trans (su_dp _ _ _)) (fun j j0 j1 => by unfold dpU; rw [up_ne (by decide), up_off (by omega)]; exact U2 j (by omega) j1)
              · skip
                refine r_iload C dX4_sortOutPlaces_96 rfl ?_
                refine r_if_eq C dX4_sortOutPlaces_98 (t := 110) (by decide) (by first | assumption | exact R.rg _ _ | exact R.ru _ _ | (unfold inR; omega)) (fun c98 => ?_) (fun c98 => ?_)
                · skip
                  refine r_iload C dX4_sortOutPlaces_110 rfl ?_
                  refine r_if_ne C dX4_sortOutPlaces_112 (t := 125) (by decide) (by first | assumption | exact R.rg _ _ | exact R.ru _ _ | (unfold inR; omega)) (fun c112 => ?_) (fun c112 => ?_)
                  · skip
                    have hkn2 := hb.t c112
                    have eso : soF n p s = s := by
                      unfold soF
                      rw [if_pos hoc, if_neg (fun z => by rcases z with z | z | z; exact hgo z; omega; exact hkn2 z.1), if_neg hkn2]
                    refine r_iinc C dX4_sortOutPlaces_125 rfl ?_
                    dsimp only [List.set]
                    refine r_goto C dX4_sortOutPlaces_128 (t := 18) (by decide) ?_
                    first
                      | exact ih9 _ _ _ _ _ _ _ (by omega) (by omega) (by omega) (by rw [itrI_s _ _ i0, ← hs]; unfold soL; dsimp only; rw [if_neg (by omega)]; exact Z2) S2 (fun j j0 j1 => U2 j (by omega) j1)
                      | exact ih9 _ _ _ _ _ _ _ (by omega) (by omega) (by omega) (by rw [itrI_s _ _ i0, ← hs]; unfold soL; dsimp only; rw [if_pos (by omega), hl, eso]; exact Z2) S2 (fun j j0 j1 => U2 j (by omega) j1)
                      | exact ih9 _ _ _ _ _ _ _ (by omega) (by omega) (by omega) (by rw [itrI_s _ _ i0, ← hs]; unfold soL; dsimp only; rw [if_pos (by omega), hl, eso]; exact Z3) S2 (fun j j0 j1 => U2 j (by omega) j1)
                      | exact ih9 _ _ _ _ _ _ _ (by omega) (by omega) (by omega) (by rw [itrI_s _ _ i0, ← hs]; unfold soL; dsimp only; rw [if_pos (by omega), hl, eso]; exact Z4) (S2.trans (su_dp _ _ _)) (fun j j0 j1 => by unfold dpU; rw [up_ne (by decide), up_off (by omega)]; exact U2 j (by omega) j1)
                  · skip
                    have hkn2 := Decidable.not_not.mp (hb.f c112)
                    have hnk := pl_none.mp hkn2
                    have h8 := dc_lt B2 W.i.2.1 hl0 (by omega) n0 (by omega) hkn2
                    have eso : soF n p s = knG s p n := by
                      unfold soF
                      rw [if_pos hoc, if_neg (fun z => by rcases z with z | z | z; exact hgo z; omega; omega), if_pos hkn2]
                    refine r_aload C dX4_sortOutPlaces_115 rfl ?_
                    refine c_4_6 C dX4_sortOutPlaces_117 fX4_184 R (by omega) (by omega) ?_
                    refine r_aload_n C dX4_sortOutPlaces_120 (i := 0) rfl rfl ?_
                    have L := (R.q hl0 (show p < s 11 0 by omega)).2.2.2.2
                    have hbk := (R.q hl0 (show p < s 11 0 by omega)).2.2.2.1.2 ((S2 6 p (by decide) (by decide)).trans (H p hl0 p1))
                    have nd := (R.n n0 (show n < s 4 0 by omega)).1
                    refine r_callV C (As := [vr (A 0 n)]) dX4_sortOutPlaces_121 sX4_58 (fun v hv => by rw [List.mem_singleton.mp hv]; rfl) (ci := 0) (by decide) rfl L.1.1 L.1.2 (Nat.le_of_ble_eq_true rfl) (Nat.zero_le _) (Nat.zero_le _) (C_AL_add1z L (by omega) hbk nd.1 nd.2 (by decide) castO_3 (fun h3 L3 => ?_))
                    refine r_gxn C (fun hg => ?_)
                    have R3 := R.kn B2 hl0 (show p < s 11 0 by omega) n0 (show n < s 4 0 by omega) (by omega) L3 hg
                    have Z3 : Rw gx x A u2 m (knG s p n) h3 := ⟨R3, iw_kn W hl0 (by omega) n0 (by omega) hnk (by omega), Ci.same (fun _ => rfl) (fun _ => rfl) (fun n p _ _ => by rw [kn_ne _ _ _ (by decide) (by decide)]) (kn_ne _ _ _ (by decide) (by decide) _) (fun _ => kn_ne _ _ _ (by decide) (by decide) _) (kn_ne _ _ _ (by decide) (by decide) _) (R.rvl (by omega))⟩
                    refine r_pop C dX4_sortOutPlaces_124 rfl ?_
                    refine r_iinc C dX4_sortOutPlaces_125 rfl ?_
                    dsimp only [List.set]
                    refine r_goto C dX4_sortOutPlaces_128 (t := 18) (by decide) ?_
                    first
                      | exact ih9 _ _ _ _ _ _ _ (by omega) (by omega) (by omega) (by rw [itrI_s _ _ i0, ← hs]; unfold soL; dsimp only; rw [if_neg (by omega)]; exact Z2) S2 (fun j j0 j1 => U2 j (by omega) j1)
                      | exact ih9 _ _ _ _ _ _ _ (by omega) (by omega) (by omega) (by rw [itrI_s _ _ i0, ← hs]; unfold soL; dsimp only; rw [if_pos (by omega), hl, eso]; exact Z2) S2 (fun j j0 j1 => U2 j (by omega) j1)
                      | exact ih9 _ _ _ _ _ _ _ (by omega) (by omega) (by omega) (by rw [itrI_s _ _ i0, ← hs]; unfold soL; dsimp only; rw [if_pos (by omega), hl, eso]; exact Z3) S2 (fun j j0 j1 => U2 j (by omega) j1)
                      | exact ih9 _ _ _ _ _ _ _ (by omega) (by omega) (by omega) (by rw [itrI_s _ _ i0, ← hs]; unfold soL; dsimp only; rw [if_pos (by omega), hl, eso]; exact Z4) (S2.trans (su_dp _ _ _)) (fun j j0 j1 => by unfold dpU; rw [up_ne (by decide), up_off (by omega)]; exact U2 j (by omega) j1)
                · skip
                  exact absurd c98 (by decide)
          · skip
            have hkn := Decidable.not_not.mp (hb.f c53)
            refine r_aload C dX4_sortOutPlaces_56 rfl ?_
            refine c_4_6 C dX4_sortOutPlaces_58 fX4_184 R (by omega) (by omega) ?_
            refine c_szH C dX4_sortOutPlaces_61 sX4_44 R (by omega) (by omega) (Nat.le_of_ble_eq_true rfl) ?_
            refine r_iconst C dX4_sortOutPlaces_64 ?_
            refine r_ic_lt C dX4_sortOutPlaces_65 (t := 72) (by decide) (by first | assumption | exact R.rg _ _ | exact R.ru _ _ | (unfold inR; omega)) (by first | assumption | exact R.rg _ _ | exact R.ru _ _ | (unfold inR; omega)) (fun c65 => ?_) (fun c65 => ?_)
            · skip
              refine r_iconst C dX4_sortOutPlaces_72 ?_
              refine r_istore C dX4_sortOutPlaces_73 (Nat.le_of_ble_eq_true rfl) ?_
              dsimp only [List.set]
              refine r_aload C dX4_sortOutPlaces_75 rfl ?_
              refine c_VQ0 C dX4_sortOutPlaces_77 sX4_225 rfl R (by omega) (by omega)  (Nat.le_of_ble_eq_true rfl) 0 0 (Nat.zero_le _) (Nat.zero_le _) (C_X3_isGone R hl0 (by omega) (fun w hw hg => ?_))
              have hg01 := hg.b
              rw [S2 2 _ (by decide) (by decide), F p hl0 (by omega), ← efw p] at hg
              refine r_if_ne C dX4_sortOutPlaces_80 (t := 101) (by decide) (by first | assumption | exact R.rg _ _ | exact R.ru _ _ | (unfold inR; omega)) (fun c80 => ?_) (fun c80 => ?_)
              · skip
                have hgo := hg.t c80
                refine r_aload_n C dX4_sortOutPlaces_101 (i := 0) rfl rfl ?_
                refine r_aload C dX4_sortOutPlaces_102 rfl ?_
                refine c_S2 C dX4_sortOutPlaces_104 sX4_176 rfl rfl (Nat.le_of_ble_eq_true rfl) 0 0 (Nat.zero_le _) (Nat.zero_le _) (C_X4_drop Z2 n0 (by omega) i0 (by omega) hu hl0 (fun h3 R3 C3 => ?_))
                have Z4 : Rw gx x A (dpU u2 n i) m (drG s n p) h3 := ⟨R3, iw_dr W hl0 (by omega) n, C3⟩
                have eso : soF n p s = drG s n p := by
                  unfold soF
                  rw [if_pos hoc]
                  first
                    | rw [if_pos (Or.inl hgo)]
                    | rw [if_pos (Or.inr (Or.inl (by omega)))]
                    | rw [if_pos (Or.inr (Or.inr ⟨hkn, by omega⟩))]
                refine r_goto C dX4_sortOutPlaces_107 (t := 125) (by decide) ?_
                refine r_iinc C dX4_sortOutPlaces_125 rfl ?_
                dsimp only [List.set]
                refine r_goto C dX4_sortOutPlaces_128 (t := 18) (by decide) ?_
                first
                  | exact ih9 _ _ _ _ _ _ _ (by omega) (by omega) (by omega) (by rw [itrI_s _ _ i0, ← hs]; unfold soL; dsimp only; rw [if_neg (by omega)]; exact Z2) S2 (fun j j0 j1 => U2 j (by omega) j1)
                  | exact ih9 _ _ _ _ _ _ _ (by omega) (by omega) (by omega) (by rw [itrI_s _ _ i0, ← hs]; unfold soL; dsimp only; rw [if_pos (by omega), hl, eso]; exact Z2) S2 (fun j j0 j1 => U2 j (by omega) j1)
                  | exact ih9 _ _ _ _ _ _ _ (by omega) (by omega) (by omega) (by rw [itrI_s _ _ i0, ← hs]; unfold soL; dsimp only; rw [if_pos (by omega), hl, eso]; exact Z3) S2 (fun j j0 j1 => U2 j (by omega) j1)
                  | exact ih9 _ _ _ _ _ _ _ (by omega) (by omega) (by omega) (by rw [itrI_s _ _ i0, ← hs]; unfold soL; dsimp only; rw [if_pos (by omega), hl, eso]; exact Z4) (S2.trans (su_dp _ _ _)) (fun j j0 j1 => by unfold dpU; rw [up_ne (by decide), up_off (by omega)]; exact U2 j (by omega) j1)
              · skip
                have hgo := hg.f c80
                refine r_aload C dX4_sortOutPlaces_83 rfl ?_
                refine c_1_1 C dX4_sortOutPlaces_85 fX4_210 R (by omega) (by omega) (by omega) (by omega) hu (by omega) ?_
                refine r_aload C dX4_sortOutPlaces_88 rfl ?_
                refine c_4_1 C dX4_sortOutPlaces_90 fX4_181 R (by omega) (by omega) ?_
                refine r_ic_ne C dX4_sortOutPlaces_93 (t := 101) (by decide) (by first | assumption | exact R.rg _ _ | exact R.ru _ _ | (unfold inR; omega)) (by first | assumption | exact R.rg _ _ | exact R.ru _ _ | (unfold inR; omega)) (fun c93 => ?_) (fun c93 => ?_)
                · skip
                  refine r_aload_n C dX4_sortOutPlaces_101 (i := 0) rfl rfl ?_
                  refine r_aload C dX4_sortOutPlaces_102 rfl ?_
                  refine c_S2 C dX4_sortOutPlaces_104 sX4_176 rfl rfl (Nat.le_of_ble_eq_true rfl) 0 0 (Nat.zero_le _) (Nat.zero_le _) (C_X4_drop Z2 n0 (by omega) i0 (by omega) hu hl0 (fun h3 R3 C3 => ?_))
                  have Z4 : Rw gx x A (dpU u2 n i) m (drG s n p) h3 := ⟨R3, iw_dr W hl0 (by omega) n, C3⟩
                  have eso : soF n p s = drG s n p := by
                    unfold soF
                    rw [if_pos hoc]
                    first
                      | rw [if_pos (Or.inl hgo)]
                      | rw [if_pos (Or.inr (Or.inl (by omega)))]
                      | rw [if_pos (Or.inr (Or.inr ⟨hkn, by omega⟩))]
                  refine r_goto C dX4_sortOutPlaces_107 (t := 125) (by decide) ?_
                  refine r_iinc C dX4_sortOutPlaces_125 rfl ?_
                  dsimp only [List.set]
                  refine r_goto C dX4_sortOutPlaces_128 (t := 18) (by decide) ?_
                  first
                    | exact ih9 _ _ _ _ _ _ _ (by omega) (by omega) (by omega) (by rw [itrI_s _ _ i0, ← hs]; unfold soL; dsimp only; rw [if_neg (by omega)]; exact Z2) S2 (fun j j0 j1 => U2 j (by omega) j1)
                    | exact ih9 _ _ _ _ _ _ _ (by omega) (by omega) (by omega) (by rw [itrI_s _ _ i0, ← hs]; unfold soL; dsimp only; rw [if_pos (by omega), hl, eso]; exact Z2) S2 (fun j j0 j1 => U2 j (by omega) j1)
                    | exact ih9 _ _ _ _ _ _ _ (by omega) (by omega) (by omega) (by rw [itrI_s _ _ i0, ← hs]; unfold soL; dsimp only; rw [if_pos (by omega), hl, eso]; exact Z3) S2 (fun j j0 j1 => U2 j (by omega) j1)
                    | exact ih9 _ _ _ _ _ _ _ (by omega) (by omega) (by omega) (by rw [itrI_s _ _ i0, ← hs]; unfold soL; dsimp only; rw [if_pos (by omega), hl, eso]; exact Z4) (S2.trans (su_dp _ _ _)) (fun j j0 j1 => by unfold dpU; rw [up_ne (by decide), up_off (by omega)]; exact U2 j (by omega) j1)
                · skip
                  refine r_iload C dX4_sortOutPlaces_96 rfl ?_
                  refine r_if_eq C dX4_sortOutPlaces_98 (t := 110) (by decide) (by first | assumption | exact R.rg _ _ | exact R.ru _ _ | (unfold inR; omega)) (fun c98 => ?_) (fun c98 => ?_)
                  · skip
                    refine r_iload C dX4_sortOutPlaces_110 rfl ?_
                    refine r_if_ne C dX4_sortOutPlaces_112 (t := 125) (by decide) (by first | assumption | exact R.rg _ _ | exact R.ru _ _ | (unfold inR; omega)) (fun c112 => ?_) (fun c112 => ?_)
                    · skip
                      have hkn2 := hb.t c112
                      have eso : soF n p s = s := by
                        unfold soF
                        rw [if_pos hoc, if_neg (fun z => by rcases z with z | z | z; exact hgo z; omega; exact hkn2 z.1), if_neg hkn2]
                      refine r_iinc C dX4_sortOutPlaces_125 rfl ?_
                      dsimp only [List.set]
                      refine r_goto C dX4_sortOutPlaces_128 (t := 18) (by decide) ?_
                      first
                        | exact ih9 _ _ _ _ _ _ _ (by omega) (by omega) (by omega) (by rw [itrI_s _ _ i0, ← hs]; unfold soL; dsimp only; rw [if_neg (by omega)]; exact Z2) S2 (fun j j0 j1 => U2 j (by omega) j1)
                        | exact ih9 _ _ _ _ _ _ _ (by omega) (by omega) (by omega) (by rw [itrI_s _ _ i0, ← hs]; unfold soL; dsimp only; rw [if_pos (by omega), hl, eso]; exact Z2) S2 (fun j j0 j1 => U2 j (by omega) j1)
                        | exact ih9 _ _ _ _ _ _ _ (by omega) (by omega) (by omega) (by rw [itrI_s _ _ i0, ← hs]; unfold soL; dsimp only; rw [if_pos (by omega), hl, eso]; exact Z3) S2 (fun j j0 j1 => U2 j (by omega) j1)
                        | exact ih9 _ _ _ _ _ _ _ (by omega) (by omega) (by omega) (by rw [itrI_s _ _ i0, ← hs]; unfold soL; dsimp only; rw [if_pos (by omega), hl, eso]; exact Z4) (S2.trans (su_dp _ _ _)) (fun j j0 j1 => by unfold dpU; rw [up_ne (by decide), up_off (by omega)]; exact U2 j (by omega) j1)
                    · skip
                      have hkn2 := Decidable.not_not.mp (hb.f c112)
                      have hnk := pl_none.mp hkn2
                      have h8 := dc_lt B2 W.i.2.1 hl0 (by omega) n0 (by omega) hkn2
                      have eso : soF n p s = knG s p n := by
                        unfold soF
                        rw [if_pos hoc, if_neg (fun z => by rcases z with z | z | z; exact hgo z; omega; omega), if_pos hkn2]
                      refine r_aload C dX4_sortOutPlaces_115 rfl ?_
                      refine c_4_6 C dX4_sortOutPlaces_117 fX4_184 R (by omega) (by omega) ?_
                      refine r_aload_n C dX4_sortOutPlaces_120 (i := 0) rfl rfl ?_
                      have L := (R.q hl0 (show p < s 11 0 by omega)).2.2.2.2
                      have hbk := (R.q hl0 (show p < s 11 0 by omega)).2.2.2.1.2 ((S2 6 p (by decide) (by decide)).trans (H p hl0 p1))
                      have nd := (R.n n0 (show n < s 4 0 by omega)).1
                      refine r_callV C (As := [vr (A 0 n)]) dX4_sortOutPlaces_121 sX4_58 (fun v hv => by rw [List.mem_singleton.mp hv]; rfl) (ci := 0) (by decide) rfl L.1.1 L.1.2 (Nat.le_of_ble_eq_true rfl) (Nat.zero_le _) (Nat.zero_le _) (C_AL_add1z L (by omega) hbk nd.1 nd.2 (by decide) castO_3 (fun h3 L3 => ?_))
                      refine r_gxn C (fun hg => ?_)
                      have R3 := R.kn B2 hl0 (show p < s 11 0 by omega) n0 (show n < s 4 0 by omega) (by omega) L3 hg
                      have Z3 : Rw gx x A u2 m (knG s p n) h3 := ⟨R3, iw_kn W hl0 (by omega) n0 (by omega) hnk (by omega), Ci.same (fun _ => rfl) (fun _ => rfl) (fun n p _ _ => by rw [kn_ne _ _ _ (by decide) (by decide)]) (kn_ne _ _ _ (by decide) (by decide) _) (fun _ => kn_ne _ _ _ (by decide) (by decide) _) (kn_ne _ _ _ (by decide) (by decide) _) (R.rvl (by omega))⟩
                      refine r_pop C dX4_sortOutPlaces_124 rfl ?_
                      refine r_iinc C dX4_sortOutPlaces_125 rfl ?_
                      dsimp only [List.set]
                      refine r_goto C dX4_sortOutPlaces_128 (t := 18) (by decide) ?_
                      first
                        | exact ih9 _ _ _ _ _ _ _ (by omega) (by omega) (by omega) (by rw [itrI_s _ _ i0, ← hs]; unfold soL; dsimp only; rw [if_neg (by omega)]; exact Z2) S2 (fun j j0 j1 => U2 j (by omega) j1)
                        | exact ih9 _ _ _ _ _ _ _ (by omega) (by omega) (by omega) (by rw [itrI_s _ _ i0, ← hs]; unfold soL; dsimp only; rw [if_pos (by omega), hl, eso]; exact Z2) S2 (fun j j0 j1 => U2 j (by omega) j1)
                        | exact ih9 _ _ _ _ _ _ _ (by omega) (by omega) (by omega) (by rw [itrI_s _ _ i0, ← hs]; unfold soL; dsimp only; rw [if_pos (by omega), hl, eso]; exact Z3) S2 (fun j j0 j1 => U2 j (by omega) j1)
                        | exact ih9 _ _ _ _ _ _ _ (by omega) (by omega) (by omega) (by rw [itrI_s _ _ i0, ← hs]; unfold soL; dsimp only; rw [if_pos (by omega), hl, eso]; exact Z4) (S2.trans (su_dp _ _ _)) (fun j j0 j1 => by unfold dpU; rw [up_ne (by decide), up_off (by omega)]; exact U2 j (by omega) j1)
                  · skip
                    exact absurd c98 (by decide)
            · skip
              refine r_iconst C dX4_sortOutPlaces_68 ?_
              refine r_goto C dX4_sortOutPlaces_69 (t := 73) (by decide) ?_
              refine r_istore C dX4_sortOutPlaces_73 (Nat.le_of_ble_eq_true rfl) ?_
              dsimp only [List.set]
              refine r_aload C dX4_sortOutPlaces_75 rfl ?_
              refine c_VQ0 C dX4_sortOutPlaces_77 sX4_225 rfl R (by omega) (by omega)  (Nat.le_of_ble_eq_true rfl) 0 0 (Nat.zero_le _) (Nat.zero_le _) (C_X3_isGone R hl0 (by omega) (fun w hw hg => ?_))
              have hg01 := hg.b
              rw [S2 2 _ (by decide) (by decide), F p hl0 (by omega), ← efw p] at hg
              refine r_if_ne C dX4_sortOutPlaces_80 (t := 101) (by decide) (by first | assumption | exact R.rg _ _ | exact R.ru _ _ | (unfold inR; omega)) (fun c80 => ?_) (fun c80 => ?_)
              · skip
                have hgo := hg.t c80
                refine r_aload_n C dX4_sortOutPlaces_101 (i := 0) rfl rfl ?_
                refine r_aload C dX4_sortOutPlaces_102 rfl ?_
                refine c_S2 C dX4_sortOutPlaces_104 sX4_176 rfl rfl (Nat.le_of_ble_eq_true rfl) 0 0 (Nat.zero_le _) (Nat.zero_le _) (C_X4_drop Z2 n0 (by omega) i0 (by omega) hu hl0 (fun h3 R3 C3 => ?_))
                have Z4 : Rw gx x A (dpU u2 n i) m (drG s n p) h3 := ⟨R3, iw_dr W hl0 (by omega) n, C3⟩
                have eso : soF n p s = drG s n p := by
                  unfold soF
                  rw [if_pos hoc]
                  first
                    | rw [if_pos (Or.inl hgo)]
                    | rw [if_pos (Or.inr (Or.inl (by omega)))]
                    | rw [if_pos (Or.inr (Or.inr ⟨hkn, by omega⟩))]
                refine r_goto C dX4_sortOutPlaces_107 (t := 125) (by decide) ?_
                refine r_iinc C dX4_sortOutPlaces_125 rfl ?_
                dsimp only [List.set]
                refine r_goto C dX4_sortOutPlaces_128 (t := 18) (by decide) ?_
                first
                  | exact ih9 _ _ _ _ _ _ _ (by omega) (by omega) (by omega) (by rw [itrI_s _ _ i0, ← hs]; unfold soL; dsimp only; rw [if_neg (by omega)]; exact Z2) S2 (fun j j0 j1 => U2 j (by omega) j1)
                  | exact ih9 _ _ _ _ _ _ _ (by omega) (by omega) (by omega) (by rw [itrI_s _ _ i0, ← hs]; unfold soL; dsimp only; rw [if_pos (by omega), hl, eso]; exact Z2) S2 (fun j j0 j1 => U2 j (by omega) j1)
                  | exact ih9 _ _ _ _ _ _ _ (by omega) (by omega) (by omega) (by rw [itrI_s _ _ i0, ← hs]; unfold soL; dsimp only; rw [if_pos (by omega), hl, eso]; exact Z3) S2 (fun j j0 j1 => U2 j (by omega) j1)
                  | exact ih9 _ _ _ _ _ _ _ (by omega) (by omega) (by omega) (by rw [itrI_s _ _ i0, ← hs]; unfold soL; dsimp only; rw [if_pos (by omega), hl, eso]; exact Z4) (S2.trans (su_dp _ _ _)) (fun j j0 j1 => by unfold dpU; rw [up_ne (by decide), up_off (by omega)]; exact U2 j (by omega) j1)
              · skip
                have hgo := hg.f c80
                refine r_aload C dX4_sortOutPlaces_83 rfl ?_
                refine c_1_1 C dX4_sortOutPlaces_85 fX4_210 R (by omega) (by omega) (by omega) (by omega) hu (by omega) ?_
                refine r_aload C dX4_sortOutPlaces_88 rfl ?_
                refine c_4_1 C dX4_sortOutPlaces_90 fX4_181 R (by omega) (by omega) ?_
                refine r_ic_ne C dX4_sortOutPlaces_93 (t := 101) (by decide) (by first | assumption | exact R.rg _ _ | exact R.ru _ _ | (unfold inR; omega)) (by first | assumption | exact R.rg _ _ | exact R.ru _ _ | (unfold inR; omega)) (fun c93 => ?_) (fun c93 => ?_)
                · skip
                  refine r_aload_n C dX4_sortOutPlaces_101 (i := 0) rfl rfl ?_
                  refine r_aload C dX4_sortOutPlaces_102 rfl ?_
                  refine c_S2 C dX4_sortOutPlaces_104 sX4_176 rfl rfl (Nat.le_of_ble_eq_true rfl) 0 0 (Nat.zero_le _) (Nat.zero_le _) (C_X4_drop Z2 n0 (by omega) i0 (by omega) hu hl0 (fun h3 R3 C3 => ?_))
                  have Z4 : Rw gx x A (dpU u2 n i) m (drG s n p) h3 := ⟨R3, iw_dr W hl0 (by omega) n, C3⟩
                  have eso : soF n p s = drG s n p := by
                    unfold soF
                    rw [if_pos hoc]
                    first
                      | rw [if_pos (Or.inl hgo)]
                      | rw [if_pos (Or.inr (Or.inl (by omega)))]
                      | rw [if_pos (Or.inr (Or.inr ⟨hkn, by omega⟩))]
                  refine r_goto C dX4_sortOutPlaces_107 (t := 125) (by decide) ?_
                  refine r_iinc C dX4_sortOutPlaces_125 rfl ?_
                  dsimp only [List.set]
                  refine r_goto C dX4_sortOutPlaces_128 (t := 18) (by decide) ?_
                  first
                    | exact ih9 _ _ _ _ _ _ _ (by omega) (by omega) (by omega) (by rw [itrI_s _ _ i0, ← hs]; unfold soL; dsimp only; rw [if_neg (by omega)]; exact Z2) S2 (fun j j0 j1 => U2 j (by omega) j1)
                    | exact ih9 _ _ _ _ _ _ _ (by omega) (by omega) (by omega) (by rw [itrI_s _ _ i0, ← hs]; unfold soL; dsimp only; rw [if_pos (by omega), hl, eso]; exact Z2) S2 (fun j j0 j1 => U2 j (by omega) j1)
                    | exact ih9 _ _ _ _ _ _ _ (by omega) (by omega) (by omega) (by rw [itrI_s _ _ i0, ← hs]; unfold soL; dsimp only; rw [if_pos (by omega), hl, eso]; exact Z3) S2 (fun j j0 j1 => U2 j (by omega) j1)
                    | exact ih9 _ _ _ _ _ _ _ (by omega) (by omega) (by omega) (by rw [itrI_s _ _ i0, ← hs]; unfold soL; dsimp only; rw [if_pos (by omega), hl, eso]; exact Z4) (S2.trans (su_dp _ _ _)) (fun j j0 j1 => by unfold dpU; rw [up_ne (by decide), up_off (by omega)]; exact U2 j (by omega) j1)
                · skip
                  refine r_iload C dX4_sortOutPlaces_96 rfl ?_
                  refine r_if_eq C dX4_sortOutPlaces_98 (t := 110) (by decide) (by first | assumption | exact R.rg _ _ | exact R.ru _ _ | (unfold inR; omega)) (fun c98 => ?_) (fun c98 => ?_)
                  · skip
                    exact absurd c98 (by decide)
                  · skip
                    refine r_aload_n C dX4_sortOutPlaces_101 (i := 0) rfl rfl ?_
                    refine r_aload C dX4_sortOutPlaces_102 rfl ?_
                    refine c_S2 C dX4_sortOutPlaces_104 sX4_176 rfl rfl (Nat.le_of_ble_eq_true rfl) 0 0 (Nat.zero_le _) (Nat.zero_le _) (C_X4_drop Z2 n0 (by omega) i0 (by omega) hu hl0 (fun h3 R3 C3 => ?_))
                    have Z4 : Rw gx x A (dpU u2 n i) m (drG s n p) h3 := ⟨R3, iw_dr W hl0 (by omega) n, C3⟩
                    have eso : soF n p s = drG s n p := by
                      unfold soF
                      rw [if_pos hoc]
                      first
                        | rw [if_pos (Or.inl hgo)]
                        | rw [if_pos (Or.inr (Or.inl (by omega)))]
                        | rw [if_pos (Or.inr (Or.inr ⟨hkn, by omega⟩))]
                    refine r_goto C dX4_sortOutPlaces_107 (t := 125) (by decide) ?_
                    refine r_iinc C dX4_sortOutPlaces_125 rfl ?_
                    dsimp only [List.set]
                    refine r_goto C dX4_sortOutPlaces_128 (t := 18) (by decide) ?_
                    first
                      | exact ih9 _ _ _ _ _ _ _ (by omega) (by omega) (by omega) (by rw [itrI_s _ _ i0, ← hs]; unfold soL; dsimp only; rw [if_neg (by omega)]; exact Z2) S2 (fun j j0 j1 => U2 j (by omega) j1)
                      | exact ih9 _ _ _ _ _ _ _ (by omega) (by omega) (by omega) (by rw [itrI_s _ _ i0, ← hs]; unfold soL; dsimp only; rw [if_pos (by omega), hl, eso]; exact Z2) S2 (fun j j0 j1 => U2 j (by omega) j1)
                      | exact ih9 _ _ _ _ _ _ _ (by omega) (by omega) (by omega) (by rw [itrI_s _ _ i0, ← hs]; unfold soL; dsimp only; rw [if_pos (by omega), hl, eso]; exact Z3) S2 (fun j j0 j1 => U2 j (by omega) j1)
                      | exact ih9 _ _ _ _ _ _ _ (by omega) (by omega) (by omega) (by rw [itrI_s _ _ i0, ← hs]; unfold soL; dsimp only; rw [if_pos (by omega), hl, eso]; exact Z4) (S2.trans (su_dp _ _ _)) (fun j j0 j1 => by unfold dpU; rw [up_ne (by decide), up_off (by omega)]; exact U2 j (by omega) j1)
        · skip
          have hl0 : u 0 (12 * n + i) = -1 := by
            by_cases e : u2 0 (12 * n + i) = -1
            · rw [← U2 i (Int.le_refl _) (by omega)]; exact e
            · rw [if_neg e] at c37; cases c37
          refine r_goto C dX4_sortOutPlaces_40 (t := 125) (by decide) ?_
          refine r_iinc C dX4_sortOutPlaces_125 rfl ?_
          dsimp only [List.set]
          refine r_goto C dX4_sortOutPlaces_128 (t := 18) (by decide) ?_
          first
            | exact ih9 _ _ _ _ _ _ _ (by omega) (by omega) (by omega) (by rw [itrI_s _ _ i0, ← hs]; unfold soL; dsimp only; rw [if_neg (by omega)]; exact Z2) S2 (fun j j0 j1 => U2 j (by omega) j1)
            | exact ih9 _ _ _ _ _ _ _ (by omega) (by omega) (by omega) (by rw [itrI_s _ _ i0, ← hs]; unfold soL; dsimp only; rw [if_pos (by omega), hl, eso]; exact Z2) S2 (fun j j0 j1 => U2 j (by omega) j1)
            | exact ih9 _ _ _ _ _ _ _ (by omega) (by omega) (by omega) (by rw [itrI_s _ _ i0, ← hs]; unfold soL; dsimp only; rw [if_pos (by omega), hl, eso]; exact Z3) S2 (fun j j0 j1 => U2 j (by omega) j1)
            | exact ih9 _ _ _ _ _ _ _ (by omega) (by omega) (by omega) (by rw [itrI_s _ _ i0, ← hs]; unfold soL; dsimp only; rw [if_pos (by omega), hl, eso]; exact Z4) (S2.trans (su_dp _ _ _)) (fun j j0 j1 => by unfold dpU; rw [up_ne (by decide), up_off (by omega)]; exact U2 j (by omega) j1)
  · skip
    have e0 : soF2 n g = g := if_neg (fun z => z c4)
    rw [e0] at K
    refine r_ret C dX4_sortOutPlaces_7 rfl ?_
    exact K _ _ Z (SU.refl _)

