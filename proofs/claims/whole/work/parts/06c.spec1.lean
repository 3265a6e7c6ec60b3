/-! ===== searching and counting ===== -/
def findN (f : Int → Bool) : Nat → Int
  | 0 => -1
  | n + 1 => if findN f n = -1 then (if f n = true then (n : Int) else -1) else findN f n
def findI (f : Int → Bool) (n : Int) : Int := findN f n.toNat
theorem findI_cases (f : Int → Bool) (n : Int) : (findI f n = -1 ∧ ∀ k, 0 ≤ k → k < n → f k = false) ∨ (0 ≤ findI f n ∧ findI f n < n ∧ f (findI f n) = true ∧ ∀ j, 0 ≤ j → j < findI f n → f j = false) := by
  have key : ∀ m : Nat, (findN f m = -1 ∧ ∀ k : Int, 0 ≤ k → k < m → f k = false) ∨ (0 ≤ findN f m ∧ findN f m < m ∧ f (findN f m) = true ∧ ∀ j, 0 ≤ j → j < findN f m → f j = false) := by
    intro m
    induction m with
    | zero => exact Or.inl ⟨rfl, fun k h0 h1 => by omega⟩
    | succ m ih =>
      rcases ih with ⟨h1, h2⟩ | ⟨h1, h2, h3, h4⟩
      · show (((if findN f m = -1 then (if f m = true then (m : Int) else -1) else findN f m) = -1) ∧ _) ∨ _
        by_cases hm : f m = true
        · refine Or.inr ?_
          have e : findN f (m + 1) = m := by show (if findN f m = -1 then (if f m = true then (m : Int) else -1) else findN f m) = m; rw [if_pos h1, if_pos hm]
          rw [e]
          exact ⟨by omega, by omega, hm, fun j a b => h2 j a b⟩
        · refine Or.inl ⟨by rw [if_pos h1, if_neg hm], fun k a b => ?_⟩
          by_cases q : k = m
          · rw [q]; simpa using hm
          · exact h2 k a (by omega)
      · refine Or.inr ?_
        have e : findN f (m + 1) = findN f m := by show (if findN f m = -1 then (if f m = true then (m : Int) else -1) else findN f m) = _; rw [if_neg (by omega)]
        rw [e]
        exact ⟨h1, by omega, h3, h4⟩
  rcases key n.toNat with ⟨h1, h2⟩ | ⟨h1, h2, h3, h4⟩
  · exact Or.inl ⟨h1, fun k a b => h2 k a (by omega)⟩
  · refine Or.inr ⟨h1, ?_, h3, h4⟩
    show findN f n.toNat < n
    omega
theorem findI_none {f : Int → Bool} {n : Int} (h : ∀ k, 0 ≤ k → k < n → f k = false) : findI f n = -1 := by
  rcases findI_cases f n with q | ⟨h1, h2, h3, -⟩
  · exact q.1
  · rw [h _ h1 h2] at h3; cases h3
theorem findI_hit {f : Int → Bool} {n k : Int} (h0 : 0 ≤ k) (h1 : k < n) (hk : f k = true) (hb : ∀ j, 0 ≤ j → j < k → f j = false) : findI f n = k := by
  rcases findI_cases f n with ⟨-, q⟩ | ⟨a1, a2, a3, a4⟩
  · rw [q k h0 h1] at hk; cases hk
  · rcases Int.lt_trichotomy (findI f n) k with q | q | q
    · rw [hb _ a1 q] at a3; cases a3
    · exact q
    · rw [a4 k h0 q] at hk; cases hk
theorem all_s {P : Int → Prop} {i : Int} (h : ∀ j, 0 ≤ j → j < i → P j) (hi : P i) : ∀ j, 0 ≤ j → j < i + 1 → P j := by
  intro j h0 h1
  by_cases q : j = i
  · rw [q]; exact hi
  · exact h j h0 (by omega)
theorem all_0 {P : Int → Prop} : ∀ j : Int, 0 ≤ j → j < 0 → P j := fun j h0 h1 => by omega
theorem cnt_in (f : Int → Bool) {n : Int} (h0 : 0 ≤ n) : 0 ≤ cnt f n ∧ cnt f n ≤ n := by
  have := cnt_b f n
  omega
def sumN (f : Int → Int) : Nat → Int
  | 0 => 0
  | n + 1 => sumN f n + f n
def sumI (f : Int → Int) (n : Int) : Int := sumN f n.toNat
theorem sumI_s (f : Int → Int) {n : Int} (h : 0 ≤ n) : sumI f (n + 1) = sumI f n + f n := by
  unfold sumI
  rw [show (n + 1).toNat = n.toNat + 1 by omega]
  show sumN f n.toNat + f (n.toNat : Int) = _
  rw [Int.toNat_of_nonneg h]
theorem sumI_b {f : Int → Int} {c : Int} (hc : 0 ≤ c) {n : Int} (hf : ∀ i, 0 ≤ i → i < n → 0 ≤ f i ∧ f i ≤ c) : 0 ≤ sumI f n ∧ sumI f n ≤ c * n.toNat := by
  unfold sumI
  have key : ∀ m : Nat, (m : Int) ≤ n ∨ m = 0 → 0 ≤ sumN f m ∧ sumN f m ≤ c * m := by
    intro m
    induction m with
    | zero => intro _; exact ⟨Int.le_refl _, by simp [sumN]⟩
    | succ m ih =>
      intro h
      have h1 := ih (by omega)
      have h2 := hf m (by omega) (by omega)
      show 0 ≤ sumN f m + f m ∧ sumN f m + f m ≤ _
      have e : c * ((m + 1 : Nat) : Int) = c * m + c := by rw [Int.natCast_add, Int.mul_add]; simp
      rw [e]
      omega
  exact key n.toNat (by omega)
/-! ===== what the reference's methods answer and leave ===== -/
abbrev goodP (g : GT) (p n : Int) : Prop := g 7 n ≠ 0 ∧ g 18 (60 * n + p) = g 12 p
def plG (g : GT) (p n : Int) : Int := findI (fun k => decide (g 17 (8 * p + k) = n)) (g 16 p)
def pick (g : GT) (p : Int) (f : Int → Bool) : Int := if findI (fun k => f (g 17 (8 * p + k))) (g 16 p) = -1 then -1 else g 17 (8 * p + findI (fun k => f (g 17 (8 * p + k))) (g 16 p))
theorem pick_hit {g : GT} {p k : Int} {f : Int → Bool} (h0 : 0 ≤ k) (h1 : k < g 16 p) (hk : f (g 17 (8 * p + k)) = true) (hb : ∀ j, 0 ≤ j → j < k → f (g 17 (8 * p + j)) = false) : pick g p f = g 17 (8 * p + k) := by
  unfold pick
  rw [findI_hit (f := fun k => f (g 17 (8 * p + k))) h0 h1 hk hb, if_neg (by omega)]
theorem pick_none {g : GT} {p : Int} {f : Int → Bool} (hb : ∀ j, 0 ≤ j → j < g 16 p → f (g 17 (8 * p + j)) = false) : pick g p f = -1 := by
  unfold pick
  rw [findI_none (f := fun k => f (g 17 (8 * p + k))) hb, if_pos rfl]
/-- the first good copy; without wrong cells, if r isn't 0 -/
def fgG (g : GT) (p r : Int) : Int := pick g p (fun n => decide (goodP g p n ∧ (r = 0 ∨ g 21 (60 * n + p) = 0)))
def fuG (g : GT) (p : Int) : Int := pick g p (fun n => decide (g 7 n ≠ 0))
/-- the first good copy in the rack r, or the first good one -/
def nrG (g : GT) (p r : Int) : Int := if pick g p (fun n => decide (goodP g p n ∧ g 5 n = r)) = -1 then fgG g p 0 else pick g p (fun n => decide (goodP g p n ∧ g 5 n = r))
def gmG (g : GT) (p : Int) : Int := cnt (fun k => decide (goodP g p (g 17 (8 * p + k)))) (g 16 p)
def irG (g : GT) (p r : Int) : Int := cnt (fun k => decide (g 5 (g 17 (8 * p + k)) = r)) (g 16 p)
abbrev openP (g : GT) (n : Int) : Prop := g 9 n ≠ 0 ∧ g 7 n ≠ 0 ∧ loadG g n < g 6 n
abbrev betterP (g : GT) (p n f : Int) : Prop := irG g p (g 5 n) < irG g p (g 5 f) ∨ (irG g p (g 5 n) = irG g p (g 5 f) ∧ loadG g n < loadG g f)
def bestN (g : GT) (p : Int) : Nat → Int
  | 0 => -1
  | n + 1 => if openP g n ∧ g 18 (60 * n + p) = 0 ∧ (bestN g p n = -1 ∨ betterP g p n (bestN g p n)) then (n : Int) else bestN g p n
def bestI (g : GT) (p i : Int) : Int := bestN g p i.toNat
def bestG (g : GT) (p : Int) : Int := bestI g p (g 4 0)
theorem bestI_s (g : GT) (p : Int) {i : Int} (h : 0 ≤ i) : bestI g p (i + 1) = if openP g i ∧ g 18 (60 * i + p) = 0 ∧ (bestI g p i = -1 ∨ betterP g p i (bestI g p i)) then i else bestI g p i := by
  unfold bestI
  rw [show (i + 1).toNat = i.toNat + 1 by omega]
  show (if openP g (i.toNat : Int) ∧ g 18 (60 * (i.toNat : Int) + p) = 0 ∧ (bestN g p i.toNat = -1 ∨ betterP g p (i.toNat : Int) (bestN g p i.toNat)) then (i.toNat : Int) else bestN g p i.toNat) = _
  rw [Int.toNat_of_nonneg h]
theorem bestI_b (g : GT) (p : Int) {i : Int} (h : 0 ≤ i) : bestI g p i = -1 ∨ (0 ≤ bestI g p i ∧ bestI g p i < i ∧ openP g (bestI g p i) ∧ g 18 (60 * bestI g p i + p) = 0) := by
  have key : ∀ m : Nat, bestN g p m = -1 ∨ (0 ≤ bestN g p m ∧ bestN g p m < m ∧ openP g (bestN g p m) ∧ g 18 (60 * bestN g p m + p) = 0) := by
    intro m
    induction m with
    | zero => exact Or.inl rfl
    | succ m ih =>
      by_cases q : openP g (m : Int) ∧ g 18 (60 * (m : Int) + p) = 0 ∧ (bestN g p m = -1 ∨ betterP g p (m : Int) (bestN g p m))
      · have e : bestN g p (m + 1) = m := if_pos q
        rw [e]
        exact Or.inr ⟨by omega, by omega, q.1, q.2.1⟩
      · have e : bestN g p (m + 1) = bestN g p m := if_neg q
        rw [e]
        rcases ih with ih | ih
        · exact Or.inl ih
        · exact Or.inr ⟨ih.1, by omega, ih.2.2⟩
  have := key i.toNat
  unfold bestI
  rcases this with q | q
  · exact Or.inl q
  · exact Or.inr ⟨q.1, by omega, q.2.2⟩
theorem load_b {g : GT} (B : BD g) (n : Int) : 0 ≤ loadG g n ∧ loadG g n ≤ 60 := by
  have h1 := B.np
  have h2 := cnt_in (fun p => decide (0 < g 18 (60 * n + p))) h1.1
  unfold loadG
  omega
theorem ir_b {g : GT} (B : BD g) {p : Int} (h0 : 0 ≤ p) (h1 : p < g 11 0) (r : Int) : 0 ≤ irG g p r ∧ irG g p r ≤ 8 := by
  have h1 := B.cp p h0 h1
  have h2 := cnt_in (fun k => decide (g 5 (g 17 (8 * p + k)) = r)) h1.1
  unfold irG
  omega
def elG (g : GT) (p : Int) : GT := up (up g 13 p (-1)) 14 p (-1)
def knG (g : GT) (p n : Int) : GT := up (up g 17 (8 * p + g 16 p) n) 16 p (g 16 p + 1)
