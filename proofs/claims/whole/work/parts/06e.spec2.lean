/-! ===== what the reference's methods leave ===== -/
theorem inR_toInt (w : Int32) : inR w.toInt := by
  have h1 := Int32.le_toInt w
  have h2 := Int32.toInt_lt w
  unfold inR
  omega
def itr (F : Int → GT → GT) : Nat → GT → GT
  | 0, g => g
  | n + 1, g => F n (itr F n g)
def itrI (F : Int → GT → GT) (i : Int) (g : GT) : GT := itr F i.toNat g
theorem itrI_0 (F : Int → GT → GT) (g : GT) : itrI F 0 g = g := rfl
theorem itrI_s (F : Int → GT → GT) (g : GT) {i : Int} (h : 0 ≤ i) : itrI F (i + 1) g = F i (itrI F i g) := by
  unfold itrI
  rw [show (i + 1).toNat = i.toNat + 1 by omega]
  show F (i.toNat : Int) (itr F i.toNat g) = _
  rw [Int.toNat_of_nonneg h]
theorem itrI_ind {P : GT → Prop} (F : Int → GT → GT) {g : GT} {n : Int} (h0 : P g) (hs : ∀ i s, 0 ≤ i → i < n → P s → P (F i s)) : P (itrI F n g) := by
  unfold itrI
  have key : ∀ m : Nat, (m : Int) ≤ n ∨ m = 0 → P (itr F m g) := by
    intro m
    induction m with
    | zero => intro _; exact h0
    | succ m ih =>
      intro h
      exact hs m _ (by omega) (by omega) (ih (by omega))
  exact key n.toNat (by omega)
/-- a row's places behind z move down by one, as far as m -/
def shf (g : GT) (p z m : Int) : GT := fun k j => if k = 16 ∧ j = p then g 16 p - 1 else if k = 17 ∧ 8 * p + z ≤ j ∧ j < 8 * p + m then g 17 (j + 1) else g k j
theorem shf_0 (g : GT) (p z : Int) : up g 16 p (g 16 p - 1) = shf g p z z := by
  funext k j
  unfold up shf
  by_cases h : k = 16 ∧ j = p
  · rw [if_pos h, if_pos h]
  · rw [if_neg h, if_neg h, if_neg (by omega)]
theorem shf_s (g : GT) (p z : Int) {i : Int} (h : z ≤ i) : up (shf g p z i) 17 (8 * p + i) (g 17 (8 * p + i + 1)) = shf g p z (i + 1) := by
  funext k j
  unfold up shf
  by_cases h1 : k = 17 ∧ j = 8 * p + i
  · rw [if_pos h1, if_neg (by omega), if_pos (by omega), h1.2]
  · rw [if_neg h1]
    by_cases h2 : k = 16 ∧ j = p
    · rw [if_pos h2, if_pos h2]
    · rw [if_neg h2, if_neg h2]
      by_cases h3 : k = 17 ∧ 8 * p + z ≤ j ∧ j < 8 * p + i
      · rw [if_pos h3, if_pos (by omega)]
      · rw [if_neg h3, if_neg (by omega)]
theorem shf_16 (g : GT) (p z m : Int) : shf g p z m 16 p = g 16 p - 1 := by unfold shf; rw [if_pos ⟨rfl, rfl⟩]
theorem shf_17 (g : GT) (p z m j : Int) : shf g p z m 17 j = if 8 * p + z ≤ j ∧ j < 8 * p + m then g 17 (j + 1) else g 17 j := by
  unfold shf
  rw [if_neg (by omega)]
  by_cases h : 8 * p + z ≤ j ∧ j < 8 * p + m
  · rw [if_pos ⟨rfl, h⟩, if_pos h]
  · rw [if_neg (fun q => h q.2), if_neg h]
theorem shf_ne (g : GT) (p z m : Int) {k : Nat} (h1 : k ≠ 16) (h2 : k ≠ 17) (j : Int) : shf g p z m k j = g k j := by
  unfold shf
  rw [if_neg (fun q => h1 q.1), if_neg (fun q => h2 q.1)]
theorem shf_16n (g : GT) (p z m : Int) {j : Int} (h : j ≠ p) : shf g p z m 16 j = g 16 j := by
  unfold shf
  rw [if_neg (fun q => h q.2), if_neg (by omega)]
def fgtG (g : GT) (p n : Int) : GT := if plG g p n = -1 then g else shf g p (plG g p n) (g 16 p - 1)
/-- how often a piece is in a file; in files that aren't gone, but one -/
def fcG (g : GT) (p f : Int) : Int := cnt (fun k => decide (g 26 (6 * f + k) = p)) (g 25 f)
def fwG (g : GT) (p b : Int) : Int := sumI (fun f => if g 23 f ≠ 2 ∧ f ≠ b then fcG g p f else 0) (g 22 0)
abbrev leaseP (g : GT) (p : Int) : Prop := g 13 p ≠ -1 ∧ g 1 0 < g 14 p
def ffG (g : GT) (f p : Int) : Int := if 0 < fwG g p f then fgG g p 0 else if leaseP g p ∧ g 7 (g 13 p) ≠ 0 then g 13 p else fuG g p
abbrev roomP (g : GT) (p n : Int) : Prop := goodP g p n ∧ loadG g n < g 6 n
def cpP (g : GT) (p : Int) : Prop := (∃ k, 0 ≤ k ∧ k < g 16 p ∧ roomP g p (g 17 (8 * p + k))) ∧ g 11 0 < 60
def cwP (g : GT) (f p : Int) : Prop := ffG g f p ≠ -1 ∧ (¬ 0 < fwG g p f ∨ cpP g p)
def npG (g : GT) : GT := up (elG (up (up g 11 0 (g 11 0 + 1)) 12 (g 11 0) 1) (g 11 0)) 16 (g 11 0) 0
/-- four numbers from one copy to another -/
def nuG (g : GT) (t o m : Int) : GT := fun k j => if k = 20 ∧ 4 * t ≤ j ∧ j < 4 * t + m then g 20 (j - 4 * t + 4 * o) else g k j
theorem nuG_0 (g : GT) (t o : Int) : nuG g t o 0 = g := by
  funext k j
  unfold nuG
  rw [if_neg (by omega)]
theorem nuG_s (g : GT) (t o : Int) {i : Int} (h : 0 ≤ i) : up (nuG g t o i) 20 (4 * t + i) (g 20 (4 * o + i)) = nuG g t o (i + 1) := by
  funext k j
  unfold up nuG
  by_cases h1 : k = 20 ∧ j = 4 * t + i
  · rw [if_pos h1, if_pos (by omega), h1.2, show 4 * t + i - 4 * t + 4 * o = 4 * o + i by omega]
  · rw [if_neg h1]
    by_cases h2 : k = 20 ∧ 4 * t ≤ j ∧ j < 4 * t + i
    · rw [if_pos h2, if_pos (by omega)]
    · rw [if_neg h2, if_neg (by omega)]
def gtG (g : GT) (n p n2 p2 : Int) : GT := nuG (up (up (up g 18 (60 * n + p) (g 12 p)) 19 (60 * n + p) (g 19 (60 * n2 + p2))) 21 (60 * n + p) (g 21 (60 * n2 + p2))) (60 * n + p) (60 * n2 + p2) 4
/-- nothing in the cells from a to b -/
def filG (g : GT) (a b : Int) : GT := fun k j => if k = 20 ∧ a ≤ j ∧ j < b then -1 else g k j
theorem filG_0 (g : GT) {a b : Int} (h : b ≤ a) : filG g a b = g := by
  funext k j
  unfold filG
  rw [if_neg (by omega)]
theorem filG_s (g : GT) {a i : Int} (h : a ≤ i) : up (filG g a i) 20 i (-1) = filG g a (i + 1) := by
  funext k j
  unfold up filG
  by_cases h1 : k = 20 ∧ j = i
  · rw [if_pos h1, if_pos (by omega)]
  · rw [if_neg h1]
    by_cases h2 : k = 20 ∧ a ≤ j ∧ j < i
    · rw [if_pos h2, if_pos (by omega)]
    · rw [if_neg h2, if_neg (by omega)]
/-- a bit taken out -/
def clrB (w c : Int) : Int := (zI w &&& zI (zI (zI 1 <<< (zI c &&& 31)).toInt ^^^ zI (-1)).toInt).toInt
def wrG (g : GT) (n p c x : Int) : GT :=
  up (up (up (filG g (4 * (60 * n + p) + g 19 (60 * n + p)) (4 * (60 * n + p) + c)) 19 (60 * n + p) (if c < g 19 (60 * n + p) then g 19 (60 * n + p) else c + 1)) 20 (4 * (60 * n + p) + c) x) 21 (60 * n + p) (clrB (g 21 (60 * n + p)) c)
def lsF (p : Int) : Int → GT → GT := fun n s => if s 7 n = 0 then fgtG s p n else s
def lhF (p : Int) : Int → GT → GT := fun k s => up s 18 (60 * s 17 (8 * p + k) + p) (s 12 p)
def ls1 (g : GT) (p : Int) : GT := itrI (lsF p) (g 4 0) g
def ls2 (g : GT) (p : Int) : GT := up (ls1 g p) 12 p (ls1 g p 12 p + 1)
def ls3 (g : GT) (p : Int) : GT := itrI (lhF p) (ls2 g p 16 p) (ls2 g p)
def lsG (g : GT) (p : Int) : GT := up (up (ls3 g p) 13 p (ls3 g p 17 (8 * p))) 14 p (ls3 g p 1 0 + 10)
def ptF (o l i : Int) : Int → GT → GT := fun k s => if roomP s o (s 17 (8 * o + k)) then knG (gtG s (s 17 (8 * o + k)) i l o) i (s 17 (8 * o + k)) else s
def ptG (g : GT) (f k : Int) : GT := up (itrI (ptF (g 26 (6 * f + k)) (fgG g (g 26 (6 * f + k)) 0) (g 11 0)) (g 16 (g 26 (6 * f + k))) (npG g)) 26 (6 * f + k) (g 11 0)
def rdP (g : GT) (f k : Int) : Int := if 0 < fwG g (g 26 (6 * f + k)) f then g 11 0 else g 26 (6 * f + k)
def rd1 (g : GT) (f k : Int) : GT := if 0 < fwG g (g 26 (6 * f + k)) f then ptG g f k else g
def rdG (g : GT) (f k : Int) : GT := if leaseP (rd1 g f k) (rdP g f k) ∧ (rd1 g f k) 7 ((rd1 g f k) 13 (rdP g f k)) ≠ 0 then rd1 g f k else lsG (rd1 g f k) (rdP g f k)
def waF (p c x : Int) : Int → GT → GT := fun k s => if s 7 (s 17 (8 * p + k)) ≠ 0 then wrG s (s 17 (8 * p + k)) p c x else s
def wa1 (g : GT) (p c x : Int) : GT := itrI (waF p c x) (g 16 p) g
def waP (g : GT) (p : Int) : Prop := ∀ k, 0 ≤ k → k < g 16 p → g 7 (g 17 (8 * p + k)) ≠ 0
def hpP (g : GT) : Prop := (∃ n, 0 ≤ n ∧ n < g 4 0 ∧ openP g n) ∧ g 11 0 < 60
def adF (i : Int) : Int → GT → GT := fun _ s => if bestG s i = -1 then s else knG (up (up (up s 18 (60 * bestG s i + i) 1) 19 (60 * bestG s i + i) 0) 21 (60 * bestG s i + i) 0) i (bestG s i)
def ad1 (g : GT) : GT := itrI (adF (g 11 0)) 3 (npG g)
def adG (g : GT) (f : Int) : GT := up (up (ad1 g) 26 (6 * f + ad1 g 25 f) (g 11 0)) 25 f (ad1 g 25 f + 1)
def fuP (g : GT) (f : Int) : Prop := g 25 f = 0 ∨ (ffG g f (g 26 (6 * f + g 25 f - 1)) ≠ -1 ∧ g 19 (60 * ffG g f (g 26 (6 * f + g 25 f - 1)) + g 26 (6 * f + g 25 f - 1)) = 4)
def caP (g : GT) (f : Int) : Prop := g 23 f = 0 ∧ ((fuP g f ∧ g 25 f < 6 ∧ hpP g) ∨ (¬ fuP g f ∧ cwP g f (g 26 (6 * f + g 25 f - 1))))
theorem kn_17 (g : GT) (p n j : Int) : knG g p n 17 j = if j = 8 * p + g 16 p then n else g 17 j := by
  unfold knG
  rw [up_ne (by decide), up_at]
theorem kn_16 (g : GT) (p n : Int) : knG g p n 16 p = g 16 p + 1 := by
  unfold knG
  rw [up_self]
theorem kn_16n (g : GT) (p n : Int) {j : Int} (h : j ≠ p) : knG g p n 16 j = g 16 j := by
  unfold knG
  rw [up_off h, up_ne (by decide)]
theorem kn_ne (g : GT) (p n : Int) {k : Nat} (h1 : k ≠ 16) (h2 : k ≠ 17) (j : Int) : knG g p n k j = g k j := by
  unfold knG
  rw [up_ne h1, up_ne h2]
/-! ===== the bounds stay ===== -/
theorem bd_same {g g' : GT} (B : BD g) (h : ∀ k, k = 4 ∨ k = 11 ∨ k = 22 ∨ k = 7 ∨ k = 9 ∨ k = 15 ∨ k = 16 ∨ k = 17 ∨ k = 25 ∨ k = 26 ∨ k = 13 → ∀ j, g' k j = g k j) : BD g' := by
  unfold BD at B ⊢
  simp only [h 4 (by omega), h 11 (by omega), h 22 (by omega), h 7 (by omega), h 9 (by omega), h 15 (by omega), h 16 (by omega), h 17 (by omega), h 25 (by omega), h 26 (by omega), h 13 (by omega)]
  exact B
theorem bd_up0 {g : GT} (B : BD g) {k : Nat} {i x : Int} (hk : k ≠ 4 ∧ k ≠ 11 ∧ k ≠ 22 ∧ k ≠ 7 ∧ k ≠ 9 ∧ k ≠ 15 ∧ k ≠ 16 ∧ k ≠ 17 ∧ k ≠ 25 ∧ k ≠ 26 ∧ k ≠ 13) : BD (up g k i x) :=
  bd_same B (fun k' h j => up_ne (by omega))
theorem bd_prim {g : GT} (B : BD g) {p x : Int} (hx : x = -1 ∨ (0 ≤ x ∧ x < 8)) : BD (up g 13 p x) := by
  unfold BD at B ⊢
  simp only [show ∀ j, up g 13 p x 4 j = g 4 j from fun j => up_ne (by decide), show ∀ j, up g 13 p x 11 j = g 11 j from fun j => up_ne (by decide), show ∀ j, up g 13 p x 22 j = g 22 j from fun j => up_ne (by decide), show ∀ j, up g 13 p x 7 j = g 7 j from fun j => up_ne (by decide), show ∀ j, up g 13 p x 9 j = g 9 j from fun j => up_ne (by decide), show ∀ j, up g 13 p x 15 j = g 15 j from fun j => up_ne (by decide), show ∀ j, up g 13 p x 16 j = g 16 j from fun j => up_ne (by decide), show ∀ j, up g 13 p x 17 j = g 17 j from fun j => up_ne (by decide), show ∀ j, up g 13 p x 25 j = g 25 j from fun j => up_ne (by decide), show ∀ j, up g 13 p x 26 j = g 26 j from fun j => up_ne (by decide)]
  refine ⟨B.1, B.2.1, B.2.2.1, B.2.2.2.1, B.2.2.2.2.1, B.2.2.2.2.2.1, B.2.2.2.2.2.2.1, B.2.2.2.2.2.2.2.1, B.2.2.2.2.2.2.2.2.1, B.2.2.2.2.2.2.2.2.2.1, fun p' h0 h1 => ?_⟩
  rw [up_at]
  split
  · exact hx
  · exact B.2.2.2.2.2.2.2.2.2.2 p' h0 h1
theorem bd_el {g : GT} (B : BD g) (p : Int) : BD (elG g p) := bd_up0 (bd_prim B (Or.inl rfl)) (by decide)
theorem bd_cc {g g' : GT} (B : BD g) (hs : ∀ k, k = 4 ∨ k = 11 ∨ k = 22 ∨ k = 7 ∨ k = 9 ∨ k = 15 ∨ k = 25 ∨ k = 26 ∨ k = 13 → ∀ j, g' k j = g k j)
    (h16 : ∀ p, 0 ≤ p → p < g 11 0 → 0 ≤ g' 16 p ∧ g' 16 p ≤ 8)
    (h17 : ∀ p k, 0 ≤ p → p < g 11 0 → 0 ≤ k → k < g' 16 p → 0 ≤ g' 17 (8 * p + k) ∧ g' 17 (8 * p + k) < g 4 0) : BD g' := by
  unfold BD at B ⊢
  simp only [hs 4 (by omega), hs 11 (by omega), hs 22 (by omega), hs 7 (by omega), hs 9 (by omega), hs 15 (by omega), hs 25 (by omega), hs 26 (by omega), hs 13 (by omega)]
  exact ⟨B.1, B.2.1, B.2.2.1, B.2.2.2.1, B.2.2.2.2.1, B.2.2.2.2.2.1, h16, h17, B.2.2.2.2.2.2.2.2.1, B.2.2.2.2.2.2.2.2.2.1, B.2.2.2.2.2.2.2.2.2.2⟩
theorem bd_shf {g : GT} (B : BD g) {p z : Int} (hp0 : 0 ≤ p) (hp1 : p < g 11 0) (hz0 : 0 ≤ z) (hz1 : z < g 16 p) : BD (shf g p z (g 16 p - 1)) := by
  have bcp := B.cp p hp0 hp1
  refine bd_cc B (fun k hk j => shf_ne g p z _ (by omega) (by omega) j) (fun p' h0 h1 => ?_) (fun p' k h0 h1 h2 h3 => ?_)
  · by_cases e : p' = p
    · rw [e, shf_16]; omega
    · rw [shf_16n g p z _ e]; exact B.cp p' h0 h1
  · rw [shf_17]
    by_cases e : p' = p
    · rw [e, shf_16] at h3
      subst e
      split
      · have := B.cy p' (k + 1) h0 h1 (by omega) (by omega)
        rw [show 8 * p' + (k + 1) = 8 * p' + k + 1 by omega] at this
        exact this
      · exact B.cy p' k h0 h1 h2 (by omega)
    · rw [shf_16n g p z _ e] at h3
      have bcp' := B.cp p' h0 h1
      rw [if_neg (by omega)]
      exact B.cy p' k h0 h1 h2 h3
theorem plG_b {g : GT} {p n : Int} : plG g p n = -1 ∨ (0 ≤ plG g p n ∧ plG g p n < g 16 p ∧ g 17 (8 * p + plG g p n) = n) := by
  rcases findI_cases (fun k => decide (g 17 (8 * p + k) = n)) (g 16 p) with h | h
  · exact Or.inl h.1
  · exact Or.inr ⟨h.1, h.2.1, of_decide_eq_true h.2.2.1⟩
theorem bd_fgt {g : GT} (B : BD g) {p : Int} (hp0 : 0 ≤ p) (hp1 : p < g 11 0) (n : Int) : BD (fgtG g p n) := by
  unfold fgtG
  split
  · exact B
  · rename_i h
    have := (plG_b (g := g) (p := p) (n := n)).resolve_left h
    exact bd_shf B hp0 hp1 this.1 this.2.1
theorem bd_kn {g : GT} (B : BD g) {p n : Int} (hp0 : 0 ≤ p) (hp1 : p < g 11 0) (hc : g 16 p < 8) (hn0 : 0 ≤ n) (hn1 : n < g 4 0) : BD (knG g p n) := by
  have bcp := B.cp p hp0 hp1
  unfold knG
  refine bd_cc B (fun k hk j => ?_) (fun p' h0 h1 => ?_) (fun p' k h0 h1 h2 h3 => ?_)
  · rw [up_ne (by omega), up_ne (by omega)]
  · by_cases e : p' = p
    · rw [e, up_self]; omega
    · rw [up_off e, up_ne (by decide)]; exact B.cp p' h0 h1
  · rw [up_ne (by decide), up_at]
    by_cases e : p' = p
    · subst e
      rw [up_self] at h3
      split
      · exact ⟨hn0, hn1⟩
      · exact B.cy p' k h0 h1 h2 (by omega)
    · rw [up_off e, up_ne (by decide)] at h3
      have bcp' := B.cp p' h0 h1
      rw [if_neg (by omega)]
      exact B.cy p' k h0 h1 h2 h3
/-! ===== a piece's copies are distinct ===== -/
def DC (g : GT) : Prop := ∀ p, 0 ≤ p → p < g 11 0 → ∀ i j, 0 ≤ i → i < j → j < g 16 p → g 17 (8 * p + i) ≠ g 17 (8 * p + j)
theorem pig (m : Nat) : ∀ (n : Nat) (f : Nat → Nat), (∀ i, i < n → f i < m) → (∀ i j, i < j → j < n → f i ≠ f j) → n ≤ m := by
  induction m with
  | zero => 
    intro n f h1 h2
    cases n with
    | zero => exact Nat.le_refl _
    | succ n => exact absurd (h1 0 (by omega)) (by omega)
  | succ m ih =>
    intro n f h1 h2
    cases n with
    | zero => omega
    | succ n =>
      have key : n ≤ m := by
        refine ih n (fun i => if f i = m then f n else f i) (fun i hi => ?_) (fun i j hij hj => ?_)
        · have a := h1 i (by omega)
          have b := h1 n (by omega)
          have c := h2 i n hi (by omega)
          split <;> omega
        · have a := h2 i j hij (by omega)
          have b := h2 i n (by omega) (by omega)
          have c := h2 j n hj (by omega)
          split <;> split <;> omega
      omega
theorem dc_lt {g : GT} (B : BD g) (D : DC g) {p n : Int} (hp0 : 0 ≤ p) (hp1 : p < g 11 0) (hn0 : 0 ≤ n) (hn1 : n < g 4 0) (hn : plG g p n = -1) : g 16 p < g 4 0 := by
  have bcp := B.cp p hp0 hp1
  have b1 := B.nn
  have hno : ∀ k, 0 ≤ k → k < g 16 p → g 17 (8 * p + k) ≠ n := by
    intro k h0 h1
    rcases findI_cases (fun k => decide (g 17 (8 * p + k) = n)) (g 16 p) with h | h
    · exact of_decide_eq_false (h.2 k h0 h1)
    · have : plG g p n = findI (fun k => decide (g 17 (8 * p + k) = n)) (g 16 p) := rfl
      omega
  have := pig (g 4 0).toNat ((g 16 p).toNat + 1) (fun i => if (i : Int) = g 16 p then n.toNat else (g 17 (8 * p + i)).toNat) (fun i hi => by
    split
    · omega
    · have := B.cy p i hp0 hp1 (by omega) (by omega)
      omega) (fun i j hij hj => by
    rw [if_neg (by omega)]
    have a := B.cy p i hp0 hp1 (by omega) (by omega)
    split
    · have c := hno i (by omega) (by omega)
      omega
    · have b := B.cy p j hp0 hp1 (by omega) (by omega)
      have c := D p hp0 hp1 i j (by omega) (by omega) (by omega)
      omega)
  omega
theorem dc_kn {g : GT} (B : BD g) (D : DC g) {p n : Int} (hp0 : 0 ≤ p) (hp1 : p < g 11 0) (hc : g 16 p < 8) (hn : plG g p n = -1) : DC (knG g p n) := by
  have hno : ∀ k, 0 ≤ k → k < g 16 p → g 17 (8 * p + k) ≠ n := by
    intro k h0 h1
    rcases findI_cases (fun k => decide (g 17 (8 * p + k) = n)) (g 16 p) with h | h
    · exact of_decide_eq_false (h.2 k h0 h1)
    · have : plG g p n = findI (fun k => decide (g 17 (8 * p + k) = n)) (g 16 p) := rfl
      omega
  have bcp := B.cp p hp0 hp1
  intro p' h0 h1 i j hi hij hj
  rw [kn_ne g p n (by decide) (by decide)] at h1
  rw [kn_17, kn_17]
  by_cases e : p' = p
  · subst e
    rw [kn_16] at hj
    rw [if_neg (by omega)]
    split
    · exact hno i hi (by omega)
    · exact D p' h0 h1 i j hi hij (by omega)
  · rw [kn_16n g p n e] at hj
    have bcp' := B.cp p' h0 h1
    rw [if_neg (by omega), if_neg (by omega)]
    exact D p' h0 h1 i j hi hij hj
theorem dc_shf {g : GT} (B : BD g) (D : DC g) {p z : Int} (hp0 : 0 ≤ p) (hp1 : p < g 11 0) (hz0 : 0 ≤ z) (hz1 : z < g 16 p) : DC (shf g p z (g 16 p - 1)) := by
  have bcp := B.cp p hp0 hp1
  intro p' h0 h1 i j hi hij hj
  rw [shf_ne g p z _ (by decide) (by decide)] at h1
  have bcp' := B.cp p' h0 h1
  rw [shf_17, shf_17]
  by_cases e : p' = p
  · subst e
    rw [shf_16] at hj
    rw [show 8 * p' + i + 1 = 8 * p' + (i + 1) by omega, show 8 * p' + j + 1 = 8 * p' + (j + 1) by omega]
    have a1 := D p' h0 h1 (i + 1) (j + 1) (by omega) (by omega) (by omega)
    have a2 := D p' h0 h1 i j (by omega) (by omega) (by omega)
    have a3 := D p' h0 h1 i (j + 1) (by omega) (by omega) (by omega)
    split <;> split <;> first | assumption | omega
  · rw [shf_16n g p z _ e] at hj
    rw [if_neg (by omega), if_neg (by omega)]
    exact D p' h0 h1 i j hi hij hj
theorem dc_fgt {g : GT} (B : BD g) (D : DC g) {p : Int} (hp0 : 0 ≤ p) (hp1 : p < g 11 0) (n : Int) : DC (fgtG g p n) := by
  unfold fgtG
  split
  · exact D
  · rename_i h
    have := (plG_b (g := g) (p := p) (n := n)).resolve_left h
    exact dc_shf B D hp0 hp1 this.1 this.2.1
theorem dc_same {g g' : GT} (D : DC g) (h : ∀ k, k = 11 ∨ k = 16 ∨ k = 17 → ∀ j, g' k j = g k j) : DC g' := by
  unfold DC at D ⊢
  simp only [h 11 (by omega), h 16 (by omega), h 17 (by omega)]
  exact D
theorem dc_up0 {g : GT} (D : DC g) {k : Nat} {i x : Int} (hk : k ≠ 11 ∧ k ≠ 16 ∧ k ≠ 17) : DC (up g k i x) :=
  dc_same D (fun k' h j => up_ne (by omega))
