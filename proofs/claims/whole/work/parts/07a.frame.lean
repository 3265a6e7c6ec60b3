/-! ===== a run over a small heap is one over a larger heap ===== -/
/-- H holds h and, apart from it, f -/
def HX (h f H : Hp) : Prop := (∀ a, a ∈ hD H ↔ a ∈ hD h ∨ a ∈ hD f) ∧ (∀ a, a ∈ hD h → a ∉ hD f) ∧
  (∀ a, a ∈ hD h → hK H a = hK h a ∧ hN H a = hN h a ∧ (∀ k, hI H a k = hI h a k) ∧ (∀ k, hP H a k = hP h a k)) ∧
  (∀ a, a ∈ hD f → hK H a = hK f a ∧ hN H a = hN f a ∧ (∀ k, hI H a k = hI f a k) ∧ (∀ k, hP H a k = hP f a k))
section HXs
variable {h f H : Hp}
theorem HX.m (x : HX h f H) {a : Nat} (ha : a ∈ hD h) : a ∈ hD H := (x.1 a).mpr (Or.inl ha)
theorem HX.k (x : HX h f H) {a : Nat} (ha : a ∈ hD h) : hK H a = hK h a := (x.2.2.1 a ha).1
theorem HX.n (x : HX h f H) {a : Nat} (ha : a ∈ hD h) : hN H a = hN h a := (x.2.2.1 a ha).2.1
theorem HX.i (x : HX h f H) {a : Nat} (ha : a ∈ hD h) (k : Int) : hI H a k = hI h a k := (x.2.2.1 a ha).2.2.1 k
theorem HX.p (x : HX h f H) {a : Nat} (ha : a ∈ hD h) (k : Int) : hP H a k = hP h a k := (x.2.2.1 a ha).2.2.2 k
theorem HX.wi (x : HX h f H) {a : Nat} (ha : a ∈ hD h) (k v : Int) : HX (wI h a k v) f (wI H a k v) := by
  refine ⟨x.1, x.2.1, fun b hb => ⟨x.k hb, x.n hb, fun j => ?_, fun j => x.p hb j⟩, fun b hb => ⟨(x.2.2.2 b hb).1, (x.2.2.2 b hb).2.1, fun j => ?_, (x.2.2.2 b hb).2.2.2⟩⟩
  · show (if b = a ∧ j = k then v else hI H b j) = (if b = a ∧ j = k then v else hI h b j)
    rw [x.i hb]
  · show (if b = a ∧ j = k then v else hI H b j) = _
    rw [if_neg (fun (q : b = a ∧ j = k) => x.2.1 a ha (q.1 ▸ hb))]
    exact (x.2.2.2 b hb).2.2.1 j
theorem HX.wp (x : HX h f H) {a : Nat} (ha : a ∈ hD h) (k : Int) (v : Option Nat) : HX (wP h a k v) f (wP H a k v) := by
  refine ⟨x.1, x.2.1, fun b hb => ⟨x.k hb, x.n hb, fun j => x.i hb j, fun j => ?_⟩, fun b hb => ⟨(x.2.2.2 b hb).1, (x.2.2.2 b hb).2.1, (x.2.2.2 b hb).2.2.1, fun j => ?_⟩⟩
  · show (if b = a ∧ j = k then v else hP H b j) = (if b = a ∧ j = k then v else hP h b j)
    rw [x.p hb]
  · show (if b = a ∧ j = k then v else hP H b j) = _
    rw [if_neg (fun (q : b = a ∧ j = k) => x.2.1 a ha (q.1 ▸ hb))]
    exact (x.2.2.2 b hb).2.2.2 j
theorem HX.cp (x : HX h f H) {a0 a1 : Nat} (h0 : a0 ∈ hD h) (h1 : a1 ∈ hD h) (sp dp n : Int) : HX (hCp h a0 sp a1 dp n) f (hCp H a0 sp a1 dp n) := by
  refine ⟨x.1, x.2.1, fun b hb => ⟨x.k hb, x.n hb, fun j => x.i hb j, fun j => ?_⟩, fun b hb => ⟨(x.2.2.2 b hb).1, (x.2.2.2 b hb).2.1, (x.2.2.2 b hb).2.2.1, fun j => ?_⟩⟩
  · show (if b = a1 ∧ dp ≤ j ∧ j < dp + n then hP H a0 (sp + (j - dp)) else hP H b j) = (if b = a1 ∧ dp ≤ j ∧ j < dp + n then hP h a0 (sp + (j - dp)) else hP h b j)
    rw [x.p hb, x.p h0]
  · show (if b = a1 ∧ dp ≤ j ∧ j < dp + n then hP H a0 (sp + (j - dp)) else hP H b j) = _
    rw [if_neg (fun (q : b = a1 ∧ dp ≤ j ∧ j < dp + n) => x.2.1 a1 h1 (q.1 ▸ hb))]
    exact (x.2.2.2 b hb).2.2.2 j
theorem HX.nw (x : HX h f H) {q : Nat} (hq : q ∉ hD H) (kd n : Nat) : HX (hNew h q kd n) f (hNew H q kd n) := by
  have hh : q ∉ hD h := fun z => hq (x.m z)
  have hf : q ∉ hD f := fun z => hq ((x.1 q).mpr (Or.inr z))
  refine ⟨fun a => ?_, fun a ha => ?_, fun b hb => ?_, fun b hb => ?_⟩
  · show a ∈ hD H ++ [q] ↔ a ∈ hD h ++ [q] ∨ a ∈ hD f
    rw [List.mem_append, List.mem_append, x.1 a]
    constructor
    · rintro ((z | z) | z)
      · exact Or.inl (Or.inl z)
      · exact Or.inr z
      · exact Or.inl (Or.inr z)
    · rintro ((z | z) | z)
      · exact Or.inl (Or.inl z)
      · exact Or.inr z
      · exact Or.inl (Or.inr z)
  · have ha2 : a ∈ hD h ++ [q] := ha
    rw [List.mem_append] at ha2
    rcases ha2 with z | z
    · exact x.2.1 a z
    · rw [List.mem_singleton.mp z]; exact hf
  · have hb2 : b ∈ hD h ++ [q] := hb
    rw [List.mem_append] at hb2
    refine ⟨?_, ?_, fun j => ?_, fun j => ?_⟩
    · show (if b = q then kd else hK H b) = (if b = q then kd else hK h b)
      split
      · rfl
      · exact x.k (hb2.resolve_right (fun z => by rename_i c; exact c (List.mem_singleton.mp z)))
    · show (if b = q then n else hN H b) = (if b = q then n else hN h b)
      split
      · rfl
      · exact x.n (hb2.resolve_right (fun z => by rename_i c; exact c (List.mem_singleton.mp z)))
    · show (if b = q then 0 else hI H b j) = (if b = q then 0 else hI h b j)
      split
      · rfl
      · exact x.i (hb2.resolve_right (fun z => by rename_i c; exact c (List.mem_singleton.mp z))) j
    · show (if b = q then none else hP H b j) = (if b = q then none else hP h b j)
      split
      · rfl
      · exact x.p (hb2.resolve_right (fun z => by rename_i c; exact c (List.mem_singleton.mp z))) j
  · have bq : b ≠ q := fun z => hf (z ▸ hb)
    have y := x.2.2.2 b hb
    refine ⟨?_, ?_, fun j => ?_, fun j => ?_⟩
    · show (if b = q then kd else hK H b) = _
      rw [if_neg bq]; exact y.1
    · show (if b = q then n else hN H b) = _
      rw [if_neg bq]; exact y.2.1
    · show (if b = q then 0 else hI H b j) = _
      rw [if_neg bq]; exact y.2.2.1 j
    · show (if b = q then none else hP H b j) = _
      rw [if_neg bq]; exact y.2.2.2 j
end HXs
section FR
variable {f : Hp} {J : JT}

theorem fr_Cl1 {b : ByteArray} (C : Cl1 b J) : Cl1 b (fun pc ls st h c s => ∀ H, HX h f H → J pc ls st H c s) :=
  ⟨fun pc ls st h c s n h0 h1 H hH => C.1 pc ls st H c s n h0 (h1 H hH),
   fun pc ls st h c s n h0 h1 h2 H hH => C.2.1 pc ls st H c s n h0 h1 (h2 H hH),
   fun pc ls st h c s n h0 h1 h2 H hH => C.2.2.1 pc ls st H c s n h0 h1 (h2 H hH),
   fun pc ls st h c s n h0 h1 H hH => C.2.2.2.1 pc ls st H c s n h0 (h1 H hH),
   fun pc ls st h c s h0 h1 H hH => C.2.2.2.2.1 pc ls st H c s h0 (h1 H hH),
   fun pc ls st h c s k i x h0 h1 h2 h3 H hH => C.2.2.2.2.2.1 pc ls st H c s k i x h0 h1 h2 (h3 H hH),
   fun pc ls st h c s i x h0 h1 h2 H hH => C.2.2.2.2.2.2.1 pc ls st H c s i x h0 h1 (h2 H hH),
   fun pc ls st h c s k i r h0 h1 h2 h3 H hH => C.2.2.2.2.2.2.2.1 pc ls st H c s k i r h0 h1 h2 (h3 H hH),
   fun pc ls st h c s i r h0 h1 h2 H hH => C.2.2.2.2.2.2.2.2.1 pc ls st H c s i r h0 h1 (h2 H hH),
   fun pc ls st h c s k i x h0 h1 h2 h3 H hH => C.2.2.2.2.2.2.2.2.2.1 pc ls st H c s k i x h0 h1 h2 (h3 H hH),
   fun pc ls st h c s i x h0 h1 h2 H hH => C.2.2.2.2.2.2.2.2.2.2.1 pc ls st H c s i x h0 h1 (h2 H hH),
   fun pc ls st h c s k i r h0 h1 h2 h3 H hH => C.2.2.2.2.2.2.2.2.2.2.2.1 pc ls st H c s k i r h0 h1 h2 (h3 H hH),
   fun pc ls st h c s i r h0 h1 h2 H hH => C.2.2.2.2.2.2.2.2.2.2.2.2.1 pc ls st H c s i r h0 h1 (h2 H hH),
   fun pc ls st h c s i n x h0 h1 h2 H hH => C.2.2.2.2.2.2.2.2.2.2.2.2.2 pc ls st H c s i n x h0 h1 (h2 H hH)⟩

theorem fr_Cl2 {b : ByteArray} (C : Cl2 b J) : Cl2 b (fun pc ls st h c s => ∀ H, HX h f H → J pc ls st H c s) :=
  ⟨fun pc ls st h c s x y h0 h1 H hH => C.1 pc ls st H c s x y h0 (h1 H hH),
   fun pc ls st h c s x y h0 h1 H hH => C.2.1 pc ls st H c s x y h0 (h1 H hH),
   fun pc ls st h c s x y h0 h1 H hH => C.2.2.1 pc ls st H c s x y h0 (h1 H hH),
   fun pc ls st h c s x y h0 h1 H hH => C.2.2.2.1 pc ls st H c s x y h0 (h1 H hH),
   fun pc ls st h c s x y h0 h1 H hH => C.2.2.2.2.1 pc ls st H c s x y h0 (h1 H hH),
   fun pc ls st h c s x y h0 h1 H hH => C.2.2.2.2.2.1 pc ls st H c s x y h0 (h1 H hH),
   fun pc ls st h c s x y h0 h1 H hH => C.2.2.2.2.2.2.1 pc ls st H c s x y h0 (h1 H hH),
   fun pc ls st h c s x y h0 h1 H hH => C.2.2.2.2.2.2.2.1 pc ls st H c s x y h0 (h1 H hH),
   fun pc ls st h c s x y h0 h1 h2 h3 h4 h5 H hH => C.2.2.2.2.2.2.2.2.1 pc ls st H c s x y h0 h1 h2 h3 h4 (h5 H hH),
   fun pc ls st h c s x h0 h1 h2 H hH => C.2.2.2.2.2.2.2.2.2.1 pc ls st H c s x h0 h1 (h2 H hH),
   fun pc ls st h c s x y h0 h1 h2 h3 H hH => C.2.2.2.2.2.2.2.2.2.2.1 pc ls st H c s x y h0 h1 h2 (h3 H hH),
   fun pc ls st h c s v h0 h1 h2 H hH => C.2.2.2.2.2.2.2.2.2.2.2.1 pc ls st H c s v h0 h1 (h2 H hH),
   fun pc ls st h c s v h0 h1 h2 H hH => C.2.2.2.2.2.2.2.2.2.2.2.2.1 pc ls st H c s v h0 h1 (h2 H hH),
   fun pc ls st h c s v w h0 h1 h2 h3 H hH => C.2.2.2.2.2.2.2.2.2.2.2.2.2.1 pc ls st H c s v w h0 h1 h2 (h3 H hH),
   fun pc ls st h c s v w h0 h1 h2 h3 H hH => C.2.2.2.2.2.2.2.2.2.2.2.2.2.2 pc ls st H c s v w h0 h1 h2 (h3 H hH)⟩

theorem fr_Cl3 {b : ByteArray} (C : Cl3 b J) : Cl3 b (fun pc ls st h c s => ∀ H, HX h f H → J pc ls st H c s) :=
  ⟨fun pc ls st h c s off t h0 h1 h2 H hH => C.1 pc ls st H c s off t h0 h1 (h2 H hH),
   fun pc ls st h c s off t x h0 h1 h2 h3 h4 H hH => C.2.1 pc ls st H c s off t x h0 h1 h2 (fun q => h3 q H hH) (fun q => h4 q H hH),
   fun pc ls st h c s off t x h0 h1 h2 h3 h4 H hH => C.2.2.1 pc ls st H c s off t x h0 h1 h2 (fun q => h3 q H hH) (fun q => h4 q H hH),
   fun pc ls st h c s off t x h0 h1 h2 h3 h4 H hH => C.2.2.2.1 pc ls st H c s off t x h0 h1 h2 (fun q => h3 q H hH) (fun q => h4 q H hH),
   fun pc ls st h c s off t x h0 h1 h2 h3 h4 H hH => C.2.2.2.2.1 pc ls st H c s off t x h0 h1 h2 (fun q => h3 q H hH) (fun q => h4 q H hH),
   fun pc ls st h c s off t x h0 h1 h2 h3 h4 H hH => C.2.2.2.2.2.1 pc ls st H c s off t x h0 h1 h2 (fun q => h3 q H hH) (fun q => h4 q H hH),
   fun pc ls st h c s off t x h0 h1 h2 h3 h4 H hH => C.2.2.2.2.2.2.1 pc ls st H c s off t x h0 h1 h2 (fun q => h3 q H hH) (fun q => h4 q H hH),
   fun pc ls st h c s off t x y h0 h1 h2 h3 h4 h5 H hH => C.2.2.2.2.2.2.2.1 pc ls st H c s off t x y h0 h1 h2 h3 (fun q => h4 q H hH) (fun q => h5 q H hH),
   fun pc ls st h c s off t x y h0 h1 h2 h3 h4 h5 H hH => C.2.2.2.2.2.2.2.2.1 pc ls st H c s off t x y h0 h1 h2 h3 (fun q => h4 q H hH) (fun q => h5 q H hH),
   fun pc ls st h c s off t x y h0 h1 h2 h3 h4 h5 H hH => C.2.2.2.2.2.2.2.2.2.1 pc ls st H c s off t x y h0 h1 h2 h3 (fun q => h4 q H hH) (fun q => h5 q H hH),
   fun pc ls st h c s off t x y h0 h1 h2 h3 h4 h5 H hH => C.2.2.2.2.2.2.2.2.2.2.1 pc ls st H c s off t x y h0 h1 h2 h3 (fun q => h4 q H hH) (fun q => h5 q H hH),
   fun pc ls st h c s off t x y h0 h1 h2 h3 h4 h5 H hH => C.2.2.2.2.2.2.2.2.2.2.2.1 pc ls st H c s off t x y h0 h1 h2 h3 (fun q => h4 q H hH) (fun q => h5 q H hH),
   fun pc ls st h c s off t x y h0 h1 h2 h3 h4 h5 H hH => C.2.2.2.2.2.2.2.2.2.2.2.2.1 pc ls st H c s off t x y h0 h1 h2 h3 (fun q => h4 q H hH) (fun q => h5 q H hH),
   fun pc ls st h c s off t r h0 h1 h2 h3 H hH => C.2.2.2.2.2.2.2.2.2.2.2.2.2.1 pc ls st H c s off t r h0 h1 (fun q => h2 q H hH) (fun a q => h3 a q H hH),
   fun pc ls st h c s off t r h0 h1 h2 h3 H hH => C.2.2.2.2.2.2.2.2.2.2.2.2.2.2.1 pc ls st H c s off t r h0 h1 (fun a q => h2 a q H hH) (fun q => h3 q H hH),
   fun pc ls st h c s off t r q h0 h1 h2 h3 H hH => C.2.2.2.2.2.2.2.2.2.2.2.2.2.2.2.1 pc ls st H c s off t r q h0 h1 (fun q => h2 q H hH) (fun q => h3 q H hH),
   fun pc ls st h c s off t r q h0 h1 h2 h3 H hH => C.2.2.2.2.2.2.2.2.2.2.2.2.2.2.2.2.1 pc ls st H c s off t r q h0 h1 (fun q => h2 q H hH) (fun q => h3 q H hH),
   fun pc ls st h c s df lo hi offs len off t x h0 h1 h2 h3 h4 h5 h6 H hH => C.2.2.2.2.2.2.2.2.2.2.2.2.2.2.2.2.2.1 pc ls st H c s df lo hi offs len off t x h0 h1 h2 h3 h4 h5 (h6 H hH),
   fun pc ls st h c s df lo hi offs len t x h0 h1 h2 h3 h4 H hH => C.2.2.2.2.2.2.2.2.2.2.2.2.2.2.2.2.2.2 pc ls st H c s df lo hi offs len t x h0 h1 h2 h3 (h4 H hH)⟩

theorem fr_Cl4 {gx : GX} {M : MI} (C : Cl4 gx M J) : Cl4 gx M (fun pc ls st h c s => ∀ H, HX h f H → J pc ls st H c s) :=
  ⟨fun pc ls st h c s ix ci k a h0 h1 h2 h3 h4 h5 H hH => C.1 pc ls st H c s ix ci k a h0 h1 h2 (hH.m h3) (by rw [hH.k h3]; exact h4) (by rw [hH.i h3]; exact h5 H hH),
   fun pc ls st h c s ix ci k a h0 h1 h2 h3 h4 h5 H hH => C.2.1 pc ls st H c s ix ci k a h0 h1 h2 (hH.m h3) (by rw [hH.k h3]; exact h4) (by rw [hH.p h3]; exact h5 H hH),
   fun pc ls st h c s ix ci k a x h0 h1 h2 h3 h4 h5 h6 H hH => C.2.2.1 pc ls st H c s ix ci k a x h0 h1 h2 h3 (hH.m h4) (by rw [hH.k h4]; exact h5) (h6 _ (hH.wi h4 _ _)),
   fun pc ls st h c s ix ci k a r h0 h1 h2 h3 h4 h5 h6 H hH => C.2.2.2.1 pc ls st H c s ix ci k a r h0 h1 h2 h3 (hH.m h4) (by rw [hH.k h4]; exact h5) (h6 _ (hH.wp h4 _ _)),
   fun pc ls st h c s ix h0 h1 h2 H hH => C.2.2.2.2.1 pc ls st H c s ix h0 h1 (h2 H hH),
   fun pc ls st h c s ix ci h0 h1 h2 h3 h4 h5 H hH => C.2.2.2.2.2.1 pc ls st H c s ix ci h0 h1 h2 h3 h4 (fun q hq => h5 q (fun z => hq (hH.m z)) _ (hH.nw hq _ _)),
   fun pc ls st h c s ix ci a h0 h1 h2 h3 h4 h5 H hH => C.2.2.2.2.2.2.1 pc ls st H c s ix ci a h0 h1 h2 (hH.m h3) (by rw [hH.k h3]; exact h4) (h5 H hH),
   fun pc ls st h c s ix a h0 h1 h2 h3 H hH => C.2.2.2.2.2.2.2.1 pc ls st H c s ix a h0 h1 h2 (h3 H hH),
   fun pc ls st h c s ix h0 h1 h2 H hH => C.2.2.2.2.2.2.2.2.1 pc ls st H c s ix h0 h1 (h2 H hH),
   fun pc ls st h c s ix a h0 h1 h2 h3 h4 h5 H hH => C.2.2.2.2.2.2.2.2.2.1 pc ls st H c s ix a h0 h1 (hH.m h2) (by rw [hH.k h2]; exact h3) h4 (h5 H hH),
   fun pc ls st h c s ix n h0 h1 h2 H hH => C.2.2.2.2.2.2.2.2.2.2 pc ls st H c s ix n h0 h1 (h2 H hH)⟩

theorem fr_Cl5 {gx : GX} {M : MI} (C : Cl5 gx M J) : Cl5 gx M (fun pc ls st h c s => ∀ H, HX h f H → J pc ls st H c s) :=
  ⟨fun pc ls st h c s a h0 h1 h2 h3 h4 H hH => C.1 pc ls st H c s a h0 (hH.m h1) (by rw [hH.k h1]; exact h2) (by rw [hH.k h1]; exact h3) (by rw [hH.n h1]; exact h4 H hH),
   fun pc ls st h c s h0 h1 H hH => C.2.1 pc ls st H c s h0 (h1 H hH),
   fun pc ls st h c s h0 h1 H hH => C.2.2.1 pc ls st H c s h0 (h1 H hH),
   fun pc ls st h c s a i h0 h1 h2 h3 h4 h5 h6 H hH => C.2.2.2.1 pc ls st H c s a i h0 (hH.m h1) (by rw [hH.k h1]; exact h2) h3 (by rw [hH.n h1]; exact h4) h5 (by rw [hH.i h1]; exact h6 H hH),
   fun pc ls st h c s i h0 h1 h2 h3 h4 H hH => C.2.2.2.2.1 pc ls st H c s i h0 h1 h2 h3 (h4 H hH),
   fun pc ls st h c s a i h0 h1 h2 h3 h4 h5 h6 H hH => C.2.2.2.2.2.1 pc ls st H c s a i h0 (hH.m h1) (by rw [hH.k h1]; exact h2) h3 (by rw [hH.n h1]; exact h4) h5 (by rw [hH.i h1]; exact h6 H hH),
   fun pc ls st h c s a i h0 h1 h2 h3 h4 h5 h6 H hH => C.2.2.2.2.2.2.1 pc ls st H c s a i h0 (hH.m h1) (by rw [hH.k h1]; exact h2) h3 (by rw [hH.n h1]; exact h4) h5 (by rw [hH.i h1]; exact h6 H hH),
   fun pc ls st h c s a i h0 h1 h2 h3 h4 h5 h6 H hH => C.2.2.2.2.2.2.2.1 pc ls st H c s a i h0 (hH.m h1) (by rw [hH.k h1]; exact h2) h3 (by rw [hH.n h1]; exact h4) h5 (by rw [hH.p h1]; exact h6 H hH),
   fun pc ls st h c s a i x h0 h1 h2 h3 h4 h5 h6 H hH => C.2.2.2.2.2.2.2.2.1 pc ls st H c s a i x h0 (hH.m h1) (by rw [hH.k h1]; exact h2) h3 (by rw [hH.n h1]; exact h4) h5 (h6 _ (hH.wi h1 _ _)),
   fun pc ls st h c s a i x h0 h1 h2 h3 h4 h5 h6 h7 H hH => C.2.2.2.2.2.2.2.2.2.1 pc ls st H c s a i x h0 (hH.m h1) (by rw [hH.k h1]; exact h2) h3 (by rw [hH.n h1]; exact h4) h5 h6 (h7 _ (hH.wi h1 _ _)),
   fun pc ls st h c s a i x h0 h1 h2 h3 h4 h5 h6 H hH => C.2.2.2.2.2.2.2.2.2.2.1 pc ls st H c s a i x h0 (hH.m h1) (by rw [hH.k h1]; exact h2) h3 (by rw [hH.n h1]; exact h4) h5 (h6 _ (hH.wi h1 _ _)),
   fun pc ls st h c s a v ci i h0 h1 h2 h3 h4 h5 h6 h7 h8 h9 h10 H hH => C.2.2.2.2.2.2.2.2.2.2.2.1 pc ls st H c s a v ci i h0 (hH.m h1) (by rw [hH.k h1]; exact h2) h3 (by rw [hH.n h1]; exact h4) h5 (hH.m h6) (by rw [hH.k h6]; exact h7) h8 h9 (h10 _ (hH.wp h1 _ _)),
   fun pc ls st h c s a i h0 h1 h2 h3 h4 h5 h6 H hH => C.2.2.2.2.2.2.2.2.2.2.2.2.1 pc ls st H c s a i h0 (hH.m h1) (by rw [hH.k h1]; exact h2) h3 (by rw [hH.n h1]; exact h4) h5 (h6 _ (hH.wp h1 _ _)),
   fun pc ls st h c s a v i h0 h1 h2 h3 h4 h5 h6 h7 h8 H hH => C.2.2.2.2.2.2.2.2.2.2.2.2.2.1 pc ls st H c s a v i h0 (hH.m h1) (by rw [hH.k h1]; exact h2) h3 (by rw [hH.n h1]; exact h4) h5 (hH.m h6) (by rw [hH.k h6]; exact h7) (h8 _ (hH.wp h1 _ _)),
   fun pc ls st h c s n h0 h1 h2 h3 h4 h5 H hH => C.2.2.2.2.2.2.2.2.2.2.2.2.2.2.1 pc ls st H c s n h0 h1 h2 h3 h4 (fun q hq => h5 q (fun z => hq (hH.m z)) _ (hH.nw hq _ _)),
   fun pc ls st h c s n h0 h1 h2 h3 h4 h5 H hH => C.2.2.2.2.2.2.2.2.2.2.2.2.2.2.2.1 pc ls st H c s n h0 h1 h2 h3 h4 (fun q hq => h5 q (fun z => hq (hH.m z)) _ (hH.nw hq _ _)),
   fun pc ls st h c s n h0 h1 h2 h3 h4 h5 H hH => C.2.2.2.2.2.2.2.2.2.2.2.2.2.2.2.2.1 pc ls st H c s n h0 h1 h2 h3 h4 (fun q hq => h5 q (fun z => hq (hH.m z)) _ (hH.nw hq _ _)),
   fun pc ls st h c s ix n h0 h1 h2 h3 h4 h5 h6 H hH => C.2.2.2.2.2.2.2.2.2.2.2.2.2.2.2.2.2.1 pc ls st H c s ix n h0 h1 h2 h3 h4 h5 (fun q hq => h6 q (fun z => hq (hH.m z)) _ (hH.nw hq _ _)),
   fun pc ls st h c s ix n h0 h1 h2 h3 h4 h5 h6 H hH => C.2.2.2.2.2.2.2.2.2.2.2.2.2.2.2.2.2.2.1 pc ls st H c s ix n h0 h1 h2 h3 h4 h5 (fun q hq => h6 q (fun z => hq (hH.m z)) _ (hH.nw hq _ _)),
   fun pc ls st h c s h0 H hH => C.2.2.2.2.2.2.2.2.2.2.2.2.2.2.2.2.2.2.2 pc ls st H c s (fun q => h0 (fun z => q (hH.m z)) H hH)⟩

theorem fr_Cl7 {M : MI} (C : Cl7 M J) : Cl7 M (fun pc ls st h c s => ∀ H, HX h f H → J pc ls st H c s) :=
  ⟨fun pc ls st h c s ix x y h0 h1 h2 h3 h4 h5 H hH => C.1 pc ls st H c s ix x y h0 h1 h2 h3 h4 (h5 H hH),
   fun pc ls st h c s ix x y h0 h1 h2 h3 h4 h5 H hH => C.2.1 pc ls st H c s ix x y h0 h1 h2 h3 h4 (h5 H hH),
   fun pc ls st h c s ix a0 a1 sp dp n h0 h1 h2 h3 h4 h5 h6 h7 h8 h9 h10 h11 h12 h13 h14 h15 H hH => C.2.2 pc ls st H c s ix a0 a1 sp dp n h0 h1 (hH.m h2) (by rw [hH.k h2]; exact h3) (hH.m h4) (by rw [hH.k h4]; exact h5) h6 h7 h8 (by rw [hH.n h2]; exact h9) (by rw [hH.n h4]; exact h10) h11 h12 (fun i i0 i1 y e => by rw [hH.p h2] at e; obtain ⟨z1, ci, z2, z3, z4⟩ := h13 i i0 i1 y e; exact ⟨hH.m z1, ci, z2, by rw [hH.k z1]; exact z3, z4⟩) h14 (h15 _ (hH.cp h2 h4 _ _ _))⟩

end FR
theorem cat_mono {M : MI} {Qx Qx' : String → Hp → Prop} {J J' : JT} {pc : Nat} {ls : List (Option AV)} {c s : Nat} {E : String} {h h' : Hp} (hx : Qx E h → Qx' E h') (hJ : ∀ pc ls st, J pc ls st h c s → J' pc ls st h' c s) (k : cat0 M Qx J pc ls c s E h) : cat0 M Qx' J' pc ls c s E h' := by
  unfold cat0 at k ⊢
  generalize M.2.2.2.2 = o at k ⊢
  cases o with
  | none => exact hx k
  | some hh =>
    obtain ⟨pre, x, suf, nm, a1, a2, a3, a4, a5, a6, a7, a8⟩ := k
    exact ⟨pre, x, suf, nm, a1, a2, a3, a4, a5, a6, a7, fun q => hJ _ _ _ (a8 q)⟩
theorem aM_mono (gx : GX) : ∀ (d : Nat) (M : MI) (As : List AV) (h : Hp) (c s : Nat) (Qr Qr' : Option AV → Hp → Prop) (Qx Qx' : String → Hp → Prop), aM gx d M As h c s Qr Qx → (∀ v h, Qr v h → Qr' v h) → (∀ E h, Qx E h → Qx' E h) → aM gx d M As h c s Qr' Qx' := by
  intro d
  induction d with
  | zero => intro M As h c s Qr Qr' Qx Qx' k _ _; exact k
  | succ d ih =>
    intro M As h c s Qr Qr' Qx Qx' k hr hx J C
    obtain ⟨C1, C2, C3, C4, C5, C6, C7, C8⟩ := C
    refine k J ⟨C1, C2, C3, C4, C5, ⟨?_, ?_, ?_, ?_, ?_⟩, C7, ⟨fun pc ls h c s x h0 h1 h2 => C8.1 pc ls h c s x h0 h1 (hr _ _ h2), fun pc ls h c s r ty h0 h1 h2 h3 => C8.2.1 pc ls h c s r ty h0 h1 h2 (hr _ _ h3), fun pc ls h c s h0 h1 h2 => C8.2.2.1 pc ls h c s h0 h1 (hr _ _ h2), fun pc ls st h c s E h0 h1 h2 h3 h4 h5 h6 => C8.2.2.2.1 pc ls st h c s E h0 h1 h2 h3 h4 h5 (hx _ _ h6), C8.2.2.2.2⟩⟩
    · intro pc ls st h c s ix ci N a As c1 s1 h0 h1 h2 h3 h4 h5 h6 h7 h8 h9 hc
      exact C6.1 pc ls st h c s ix ci N a As c1 s1 h0 h1 h2 h3 h4 h5 h6 h7 h8 h9 (ih _ _ _ _ _ _ _ _ _ hc (fun _ _ q => q) (fun E h q => cat_mono (hx E h) (fun _ _ _ z => z) q))
    · intro pc ls st h c s ix N As c1 s1 h0 h1 h2 h3 h4 h5 hc
      exact C6.2.1 pc ls st h c s ix N As c1 s1 h0 h1 h2 h3 h4 h5 (ih _ _ _ _ _ _ _ _ _ hc (fun _ _ q => q) (fun E h q => cat_mono (hx E h) (fun _ _ _ z => z) q))
    · intro pc ls st h c s ix N As c1 s1 h0 h1 h2 h3 h4 h5 hc
      exact C6.2.2.1 pc ls st h c s ix N As c1 s1 h0 h1 h2 h3 h4 h5 (ih _ _ _ _ _ _ _ _ _ hc (fun _ _ q => q) (fun E h q => cat_mono (hx E h) (fun _ _ _ z => z) q))
    · intro pc ls st h c s ix N a As c1 s1 h0 h1 h2 h3 h4 h5 hc
      exact C6.2.2.2.1 pc ls st h c s ix N a As c1 s1 h0 h1 h2 h3 h4 h5 (ih _ _ _ _ _ _ _ _ _ hc (fun _ _ q => q) (fun E h q => cat_mono (hx E h) (fun _ _ _ z => z) q))
    · intro pc ls st h c s ix N host a As c1 s1 h0 h1 h2 h3 h4 h5 hc
      exact C6.2.2.2.2 pc ls st h c s ix N host a As c1 s1 h0 h1 h2 h3 h4 h5 (ih _ _ _ _ _ _ _ _ _ hc (fun _ _ q => q) (fun E h q => cat_mono (hx E h) (fun _ _ _ z => z) q))
/-- the frame -/
theorem aM_frame (gx : GX) (f : Hp) : ∀ (d : Nat) (M : MI) (As : List AV) (h : Hp) (c s : Nat) (Qr : Option AV → Hp → Prop) (Qx : String → Hp → Prop) (H : Hp), aM gx d M As h c s Qr Qx → HX h f H → aM gx d M As H c s (fun v H1 => ∃ h1, HX h1 f H1 ∧ Qr v h1) (fun E H1 => ∃ h1, HX h1 f H1 ∧ Qx E h1) := by
  intro d
  induction d with
  | zero => intro M As h c s Qr Qx H k _; exact k
  | succ d ih =>
    intro M As h c s Qr Qx H k hH J C
    obtain ⟨C1, C2, C3, C4, C5, C6, C7, C8⟩ := C
    refine k (fun pc ls st h c s => ∀ H, HX h f H → J pc ls st H c s) ⟨fr_Cl1 C1, fr_Cl2 C2, fr_Cl3 C3, fr_Cl4 C4, fr_Cl5 C5, ⟨?_, ?_, ?_, ?_, ?_⟩, fr_Cl7 C7, ⟨fun pc ls h c s x h0 h1 h2 H hH => C8.1 pc ls H c s x h0 h1 ⟨h, hH, h2⟩, fun pc ls h c s r ty h0 h1 h2 h3 H hH => C8.2.1 pc ls H c s r ty h0 h1 h2 ⟨h, hH, h3⟩, fun pc ls h c s h0 h1 h2 H hH => C8.2.2.1 pc ls H c s h0 h1 ⟨h, hH, h2⟩, fun pc ls st h c s E h0 h1 h2 h3 h4 h5 h6 H hH => C8.2.2.2.1 pc ls st H c s E h0 h1 h2 h3 h4 h5 ⟨h, hH, h6⟩, fun pc ls st h c s c1 s1 h0 h1 h2 H hH => C8.2.2.2.2 pc ls st H c s c1 s1 h0 h1 (h2 H hH)⟩⟩ H hH
    · intro pc ls st h c s ix ci N a As c1 s1 h0 h1 h2 h3 h4 h5 h6 h7 h8 h9 hc H hH
      refine C6.1 pc ls st H c s ix ci N a As c1 s1 h0 h1 h2 h3 h4 (hH.m h5) (by rw [hH.k h5]; exact h6) h7 h8 h9 (aM_mono gx _ _ _ _ _ _ _ _ _ _ (ih _ _ _ _ _ _ _ _ hc hH) (fun v H1 q => ?_) (fun E H1 q => ?_))
      · obtain ⟨h1, q1, q2⟩ := q
        cases v with
        | none => exact q2 H1 q1
        | some v => exact q2 H1 q1
      · obtain ⟨h1, q1, q2⟩ := q
        exact cat_mono (fun z => ⟨h1, q1, z⟩) (fun _ _ _ z => z H1 q1) q2
    · intro pc ls st h c s ix N As c1 s1 h0 h1 h2 h3 h4 h5 hc H hH
      refine C6.2.1 pc ls st H c s ix N As c1 s1 h0 h1 h2 h3 h4 h5 (aM_mono gx _ _ _ _ _ _ _ _ _ _ (ih _ _ _ _ _ _ _ _ hc hH) (fun v H1 q => ?_) (fun E H1 q => ?_))
      · obtain ⟨h1, q1, q2⟩ := q
        cases v with
        | none => exact q2 H1 q1
        | some v => exact q2 H1 q1
      · obtain ⟨h1, q1, q2⟩ := q
        exact cat_mono (fun z => ⟨h1, q1, z⟩) (fun _ _ _ z => z H1 q1) q2
    · intro pc ls st h c s ix N As c1 s1 h0 h1 h2 h3 h4 h5 hc H hH
      refine C6.2.2.1 pc ls st H c s ix N As c1 s1 h0 h1 h2 h3 h4 h5 (aM_mono gx _ _ _ _ _ _ _ _ _ _ (ih _ _ _ _ _ _ _ _ hc hH) (fun v H1 q => ?_) (fun E H1 q => ?_))
      · obtain ⟨h1, q1, q2⟩ := q
        cases v with
        | none => exact q2 H1 q1
        | some v => exact q2 H1 q1
      · obtain ⟨h1, q1, q2⟩ := q
        exact cat_mono (fun z => ⟨h1, q1, z⟩) (fun _ _ _ z => z H1 q1) q2
    · intro pc ls st h c s ix N a As c1 s1 h0 h1 h2 h3 h4 h5 hc H hH
      refine C6.2.2.2.1 pc ls st H c s ix N a As c1 s1 h0 h1 h2 h3 h4 h5 (aM_mono gx _ _ _ _ _ _ _ _ _ _ (ih _ _ _ _ _ _ _ _ hc hH) (fun v H1 q => ?_) (fun E H1 q => ?_))
      · obtain ⟨h1, q1, q2⟩ := q
        cases v with
        | none => exact q2 H1 q1
        | some v => exact q2 H1 q1
      · obtain ⟨h1, q1, q2⟩ := q
        exact cat_mono (fun z => ⟨h1, q1, z⟩) (fun _ _ _ z => z H1 q1) q2
    · intro pc ls st h c s ix N host a As c1 s1 h0 h1 h2 h3 h4 h5 hc H hH
      refine C6.2.2.2.2 pc ls st H c s ix N host a As c1 s1 h0 h1 h2 h3 h4 h5 (aM_mono gx _ _ _ _ _ _ _ _ _ _ (ih _ _ _ _ _ _ _ _ hc hH) (fun v H1 q => ?_) (fun E H1 q => ?_))
      · obtain ⟨h1, q1, q2⟩ := q
        cases v with
        | none => exact q2 H1 q1
        | some v => exact q2 H1 q1
      · obtain ⟨h1, q1, q2⟩ := q
        exact cat_mono (fun z => ⟨h1, q1, z⟩) (fun _ _ _ z => z H1 q1) q2
