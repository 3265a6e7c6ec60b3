/-! ===== the heap: cells out of a plain heap, and back ===== -/
section SND
variable {p : Program} {l : Launch} {e : Env} {R : Room} {s s0 : State} {m : MethodId} {args a0 : Array Value} {below : List Frame} {meth : Method} {c : Code} {Q : State → Prop} {D : va_G} {cy : Nat → ClassId} {gx : GX} {M : MI} {nL : Nat}
theorem vcl_at {ci : Nat} (h : ci < 7) : vcl[ci]? = some (cNm ci, fT ci, nF ci) := by
  match ci, h with
  | 0, _ => rfl
  | 1, _ => rfl
  | 2, _ => rfl
  | 3, _ => rfl
  | 4, _ => rfl
  | 5, _ => rfl
  | 6, _ => rfl
theorem in_at {ci : Nat} (h : ci < 7) : ∀ w ∈ u_ws (cNm ci) (fT ci) (nF ci), w ∈ tb := by
  match ci, h with
  | 0, _ => exact inJx4a65c
  | 1, _ => exact inX0
  | 2, _ => exact inX1
  | 3, _ => exact inX2
  | 4, _ => exact inX3
  | 5, _ => exact inX4
  | 6, _ => exact inX5
theorem ty_at {ci : Nat} (h : ci < 7) : ∀ k, k < nF ci → parseFieldDescriptor (fT ci k).2.2.1 = some (fY ci k) := by
  match ci, h with
  | 0, _ => exact tyJx4a65c_ok
  | 1, _ => exact tyX0_ok
  | 2, _ => exact tyX1_ok
  | 3, _ => exact tyX2_ok
  | 4, _ => exact tyX3_ok
  | 5, _ => exact tyX4_ok
  | 6, _ => exact tyX5_ok
theorem nm_at {ci : Nat} (h : ci < 7) : ∀ a, a < nF ci → ∀ b, b < nF ci → a ≠ b → (fT ci a).2.1 ≠ (fT ci b).2.1 := by
  match ci, h with
  | 0, _ => exact nmJx4a65c
  | 1, _ => exact nmX0
  | 2, _ => exact nmX1
  | 3, _ => exact nmX2
  | 4, _ => exact nmX3
  | 5, _ => exact nmX4
  | 6, _ => exact nmX5
theorem cellE_obj {h : Hp} {a ci : Nat} (hk : hK h a = ci + 1) (hc : ci < 7) : cellE cy h a = .inr (ci, fldV ci h a) := by
  unfold cellE
  rw [if_neg (by omega), if_neg (by omega), if_neg (by omega), if_neg (by omega), if_neg (by omega), hk, Nat.add_sub_cancel]
theorem fld_get {ci k : Nat} {h : Hp} {a : Nat} (hk : k < nF ci) : (fldV ci h a)[k]? = some (if isRf ci k = true then va_rf (hP h a k) else .int (zI (hI h a k))) := by
  unfold fldV
  rw [List.getElem?_map, List.getElem?_range hk]
  rfl
theorem fld_len {ci : Nat} {h : Hp} {a : Nat} : (fldV ci h a).length = nF ci := by
  unfold fldV
  rw [List.length_map, List.length_range]
theorem Rel.at {h : Hp} {H : Heap} (hR : Rel s0 D cy h H) {a : Nat} (ha : a ∈ hD h) {E : va_E} (hE : cellE cy h a = E) : ∃ k : Nat, (va_pl (hD h) (cellE cy h))[k]? = some (a, cellE cy h a) ∧ (va_pl (hD h) (cellE cy h))[k]? = some (a, E) := by
  obtain ⟨k, hk⟩ := va_pl_get (X := []) (f := cellE cy h) ha
  rw [List.nil_append] at hk
  exact ⟨k, hk, by rw [← hE]; exact hk⟩
/-- one cell changed: the new plain heap -/
theorem Rel.upd {h h2 : Hp} {H H1 : Heap} (hR : Rel s0 D cy h H) {a k : Nat} {E : va_E} (ha : a ∈ hD h) (hk : (va_pl (hD h) (cellE cy h))[k]? = some (a, cellE cy h a)) (hD2 : hD h2 = hD h) (hE : cellE cy h2 a = E) (ho : ∀ b, b ≠ a → cellE cy h2 b = cellE cy h b)
    (P1 : va_P D vcl ((va_pl (hD h) (cellE cy h)).set k (a, E)) H1) (D1 : va_D (aB s0) ((va_pl (hD h) (cellE cy h)).set k (a, E))) {locs : List Loc} (hS : va_S (aB s0) s.heap H1 locs) (hs : s0.heap.size ≤ s.heap.size) (hb : ∀ q, q < s0.heap.size → s.heap[q]? = s0.heap[q]?) : Rel s0 D cy h2 H1 := by
  have e : (va_pl (hD h) (cellE cy h)).set k (a, E) = va_pl (hD h2) (cellE cy h2) := by
    have e1 := va_pl_set (A := aB s0) (X := []) (L := hD h) (f := cellE cy h) (a := a) (k := k) (e := E) (by rw [List.nil_append]; exact hR.2.1) ha (by rw [List.nil_append]; exact hk)
    rw [List.nil_append, List.nil_append] at e1
    rw [e1, show hD h2 = hD h from hD2]
    refine va_pl_congr fun b => ?_
    by_cases q : b = a
    · rw [q, va_up_self, hE]
    · rw [va_up_ne _ _ q, ho b q]
  rw [e] at P1 D1
  refine ⟨P1, D1, Nat.le_trans hs hS.1, fun q hq => ?_⟩
  rw [hS.2.1 q (Nat.lt_of_lt_of_le hq hs) (by show ¬ s0.heap.size ≤ q; omega)]
  exact hb q hq
/-- one cell more -/
theorem Rel.new {h h2 : Hp} {H1 : Heap} {q : Nat} {E : va_E} (hq : q ∉ hD h) (hD2 : hD h2 = hD h ++ [q]) (hE : cellE cy h2 q = E) (ho : ∀ b, b ≠ q → cellE cy h2 b = cellE cy h b)
    (P1 : va_P D vcl (va_pl (hD h) (cellE cy h) ++ [(q, E)]) H1) (D1 : va_D (aB s0) (va_pl (hD h) (cellE cy h) ++ [(q, E)])) {locs : List Loc} (hS : va_S (aB s0) s.heap H1 locs) (hs : s0.heap.size ≤ s.heap.size) (hb : ∀ q, q < s0.heap.size → s.heap[q]? = s0.heap[q]?) : Rel s0 D cy h2 H1 := by
  have e : va_pl (hD h) (cellE cy h) ++ [(q, E)] = va_pl (hD h2) (cellE cy h2) := by
    rw [va_pl_push hq, show hD h2 = hD h ++ [q] from hD2]
    refine va_pl_congr fun b => ?_
    by_cases z : b = q
    · rw [z, va_up_self, hE]
    · rw [va_up_ne _ _ z, ho b z]
  rw [e] at P1 D1
  refine ⟨P1, D1, Nat.le_trans hs hS.1, fun x hx => ?_⟩
  rw [hS.2.1 x (Nat.lt_of_lt_of_le hx hs) (by show ¬ s0.heap.size ≤ x; omega)]
  exact hb x hx
/-- a new cell's address is new -/
theorem fresh_of {h : Hp} {q : Nat} {E : va_E} (D1 : va_D (aB s0) (va_pl (hD h) (cellE cy h) ++ [(q, E)])) : q ∉ hD h := by
  intro hq
  obtain ⟨k, hk⟩ := va_pl_get (X := []) (f := cellE cy h) hq
  rw [List.nil_append] at hk
  have hl := (List.getElem?_eq_some_iff.mp hk).1
  have h1 : (va_pl (hD h) (cellE cy h) ++ [(q, E)])[k]? = some (q, cellE cy h q) := by rw [List.getElem?_append_left hl]; exact hk
  have h2 : (va_pl (hD h) (cellE cy h) ++ [(q, E)])[(va_pl (hD h) (cellE cy h)).length]? = some (q, E) := by simp
  have := D1.1 _ _ _ _ h1 h2 rfl
  omega
theorem cellE_wI_ne {h : Hp} {a b : Nat} {k v : Int} (hb : b ≠ a) : cellE cy (wI h a k v) b = cellE cy h b := by
  have e : ∀ j, hI (wI h a k v) b j = hI h b j := fun j => by show (if b = a ∧ j = k then v else _) = _; rw [if_neg (fun q => hb q.1)]; rfl
  unfold cellE
  simp only [show hK (wI h a k v) = hK h from rfl, show hN (wI h a k v) = hN h from rfl, show hP (wI h a k v) = hP h from rfl, fldV, e]
theorem cellE_wP_ne {h : Hp} {a b : Nat} {k : Int} {v : Option Nat} (hb : b ≠ a) : cellE cy (wP h a k v) b = cellE cy h b := by
  have e : ∀ j, hP (wP h a k v) b j = hP h b j := fun j => by show (if b = a ∧ j = k then v else _) = _; rw [if_neg (fun q => hb q.1)]; rfl
  unfold cellE
  simp only [show hK (wP h a k v) = hK h from rfl, show hN (wP h a k v) = hN h from rfl, show hI (wP h a k v) = hI h from rfl, fldV, e]
theorem cellE_new_ne {h : Hp} {a b kd n : Nat} (hb : b ≠ a) : cellE cy (hNew h a kd n) b = cellE cy h b := by
  have e1 : ∀ j, hP (hNew h a kd n) b j = hP h b j := fun j => by show (if b = a then none else _) = _; rw [if_neg hb]; rfl
  have e2 : ∀ j, hI (hNew h a kd n) b j = hI h b j := fun j => by show (if b = a then 0 else _) = _; rw [if_neg hb]; rfl
  have e3 : hK (hNew h a kd n) b = hK h b := by show (if b = a then kd else _) = _; rw [if_neg hb]; rfl
  have e4 : hN (hNew h a kd n) b = hN h b := by show (if b = a then n else _) = _; rw [if_neg hb]; rfl
  unfold cellE
  simp only [fldV, e1, e2, e3, e4]
theorem fld_setI {ci k : Nat} {h : Hp} {a : Nat} {x : Int} (hk : k < nF ci) (hr : isRf ci k = false) : fldV ci (wI h a k x) a = (fldV ci h a).set k (.int (zI x)) := by
  apply List.ext_getElem?
  intro j
  by_cases hj : j < nF ci
  · rw [fld_get hj]
    by_cases q : k = j
    · subst q
      rw [List.getElem?_set_self (by rw [fld_len]; exact hk), if_neg (by rw [hr]; decide)]
      show some (Value.int (zI (if a = a ∧ (k : Int) = k then x else _))) = _
      rw [if_pos ⟨rfl, rfl⟩]
    · rw [List.getElem?_set_ne q, fld_get hj]
      have : hI (wI h a k x) a j = hI h a j := by show (if a = a ∧ (j : Int) = k then x else _) = _; rw [if_neg (by omega)]; rfl
      rw [this]
      rfl
  · rw [List.getElem?_eq_none (by rw [fld_len]; omega), List.getElem?_eq_none (by rw [List.length_set, fld_len]; omega)]
theorem fld_setP {ci k : Nat} {h : Hp} {a : Nat} {r : Option Nat} (hk : k < nF ci) (hr : isRf ci k = true) : fldV ci (wP h a k r) a = (fldV ci h a).set k (va_rf r) := by
  apply List.ext_getElem?
  intro j
  by_cases hj : j < nF ci
  · rw [fld_get hj]
    by_cases q : k = j
    · subst q
      rw [List.getElem?_set_self (by rw [fld_len]; exact hk), if_pos hr]
      show some (va_rf (if a = a ∧ (k : Int) = k then r else _)) = _
      rw [if_pos ⟨rfl, rfl⟩]
    · rw [List.getElem?_set_ne q, fld_get hj]
      have : hP (wP h a k r) a j = hP h a j := by show (if a = a ∧ (j : Int) = k then r else _) = _; rw [if_neg (by omega)]; rfl
      rw [this]
      rfl
  · rw [List.getElem?_eq_none (by rw [fld_len]; omega), List.getElem?_eq_none (by rw [List.length_set, fld_len]; omega)]
theorem fL_same (C : Cx p l e s m meth c s0 a0 D cy gx M) {own : String} {ix ci k : Nat} (hf : fL own ix ci k) : ∃ ref, Cond.fieldLink own ix ref (fT ci k).2.1 (fT ci k).2.2.1 ∈ tb ∧ ∀ x, s.fieldFound? (fT ci k).1 (fT ci k).2.1 (fT ci k).2.2.1 = some x → s.fieldFound? ref (fT ci k).2.1 (fT ci k).2.2.1 = some x := by
  obtain ⟨-, -, ref, h1, h2⟩ := hf
  refine ⟨ref, h1, ?_⟩
  rcases h2 with h2 | h2
  · intro x hx; rw [h2]; exact hx
  · intro x hx; exact u_same (C.hts (args := #[]) _ h2) x hx
end SND
