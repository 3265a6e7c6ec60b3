/-! ===== the law's world: the class, the reference, the row for answers ===== -/
def AGR (h H : Hp) : Prop := ∀ a, a ∈ hD h → hK H a = hK h a ∧ hN H a = hN h a ∧ (∀ k, hI H a k = hI h a k) ∧ (∀ k, hP H a k = hP h a k)
/-- H holds a, b and o, apart from each other, and nothing else -/
def W3 (a b o H : Hp) : Prop := (∀ z, z ∈ hD H ↔ z ∈ hD a ∨ z ∈ hD b ∨ z ∈ hD o) ∧ (∀ z, z ∈ hD a → z ∉ hD b ∧ z ∉ hD o) ∧ (∀ z, z ∈ hD b → z ∉ hD o) ∧ AGR a H ∧ AGR b H ∧ AGR o H
def sb (D : List Nat) (H : Hp) : Hp := (D, H.2)
section W3s
variable {a b o H : Hp}
theorem W3.c (w : W3 a b o H) : HX a (sb (hD b ++ hD o) H) H := by
  obtain ⟨w1, w2, w3, w4, w5, w6⟩ := w
  refine ⟨fun z => (w1 z).trans (or_congr_right List.mem_append.symm), fun z hz y => ?_, w4, fun z _ => ⟨rfl, rfl, fun _ => rfl, fun _ => rfl⟩⟩
  rcases List.mem_append.mp y with y | y
  · exact (w2 z hz).1 y
  · exact (w2 z hz).2 y
theorem W3.c2 (w : W3 a b o H) {a' H' : Hp} (x : HX a' (sb (hD b ++ hD o) H) H') : W3 a' b o H' := by
  obtain ⟨w1, w2, w3, w4, w5, w6⟩ := w
  obtain ⟨x1, x2, x3, x4⟩ := x
  refine ⟨fun z => (x1 z).trans (or_congr_right List.mem_append), fun z hz => ⟨fun y => x2 z hz (List.mem_append.mpr (Or.inl y)), fun y => x2 z hz (List.mem_append.mpr (Or.inr y))⟩, w3, x3, fun z hz => ?_, fun z hz => ?_⟩
  · obtain ⟨p1, p2, p3, p4⟩ := x4 z (List.mem_append.mpr (Or.inl hz))
    obtain ⟨q1, q2, q3, q4⟩ := w5 z hz
    exact ⟨p1.trans q1, p2.trans q2, fun k => (p3 k).trans (q3 k), fun k => (p4 k).trans (q4 k)⟩
  · obtain ⟨p1, p2, p3, p4⟩ := x4 z (List.mem_append.mpr (Or.inr hz))
    obtain ⟨q1, q2, q3, q4⟩ := w6 z hz
    exact ⟨p1.trans q1, p2.trans q2, fun k => (p3 k).trans (q3 k), fun k => (p4 k).trans (q4 k)⟩
theorem W3.sw (w : W3 a b o H) : W3 b a o H := by
  obtain ⟨w1, w2, w3, w4, w5, w6⟩ := w
  refine ⟨fun z => (w1 z).trans ⟨fun y => ?_, fun y => ?_⟩, fun z hz => ⟨fun y => (w2 z y).1 hz, w3 z hz⟩, fun z hz => (w2 z hz).2, w5, w4, w6⟩
  · rcases y with y | y | y
    · exact Or.inr (Or.inl y)
    · exact Or.inl y
    · exact Or.inr (Or.inr y)
  · rcases y with y | y | y
    · exact Or.inr (Or.inl y)
    · exact Or.inl y
    · exact Or.inr (Or.inr y)
theorem W3.r (w : W3 a b o H) : HX b (sb (hD a ++ hD o) H) H := w.sw.c
theorem W3.r2 (w : W3 a b o H) {b' H' : Hp} (x : HX b' (sb (hD a ++ hD o) H) H') : W3 a b' o H' := (w.sw.c2 x).sw
theorem W3.ow (w : W3 a b o H) {z : Nat} (hz : z ∈ hD o) (k v : Int) : W3 a b (wI o z k v) (wI H z k v) := by
  obtain ⟨w1, w2, w3, w4, w5, w6⟩ := w
  refine ⟨w1, w2, w3, fun y hy => ?_, fun y hy => ?_, fun y hy => ?_⟩
  · obtain ⟨q1, q2, q3, q4⟩ := w4 y hy
    exact ⟨q1, q2, fun j => (if_neg (fun (e : y = z ∧ j = k) => (w2 y hy).2 (e.1 ▸ hz))).trans (q3 j), q4⟩
  · obtain ⟨q1, q2, q3, q4⟩ := w5 y hy
    exact ⟨q1, q2, fun j => (if_neg (fun (e : y = z ∧ j = k) => w3 y hy (e.1 ▸ hz))).trans (q3 j), q4⟩
  · obtain ⟨q1, q2, q3, q4⟩ := w6 y hy
    refine ⟨q1, q2, fun j => ?_, q4⟩
    show (if y = z ∧ j = k then v else hI H y j) = (if y = z ∧ j = k then v else hI o y j)
    rw [q3 j]
theorem AGR.nw {h : Hp} (A : AGR h H) {q : Nat} (hq : q ∉ hD h) (kd n : Nat) : AGR h (hNew H q kd n) := fun z hz => by
  have e : z ≠ q := fun y => hq (y ▸ hz)
  obtain ⟨q1, q2, q3, q4⟩ := A z hz
  exact ⟨(if_neg e).trans q1, (if_neg e).trans q2, fun j => (if_neg e).trans (q3 j), fun j => (if_neg e).trans (q4 j)⟩
theorem AGR.nn {h : Hp} (A : AGR h H) {q : Nat} (kd n : Nat) : AGR (hNew h q kd n) (hNew H q kd n) := fun z hz => by
  by_cases e : z = q
  · exact ⟨(if_pos e).trans (if_pos e).symm, (if_pos e).trans (if_pos e).symm, fun j => (if_pos e).trans (if_pos e).symm, fun j => (if_pos e).trans (if_pos e).symm⟩
  · obtain ⟨q1, q2, q3, q4⟩ := A z ((List.mem_append.mp hz).resolve_right (fun y => e (List.mem_singleton.mp y)))
    exact ⟨(if_neg e).trans (q1.trans (if_neg e).symm), (if_neg e).trans (q2.trans (if_neg e).symm), fun j => (if_neg e).trans ((q3 j).trans (if_neg e).symm), fun j => (if_neg e).trans ((q4 j).trans (if_neg e).symm)⟩
theorem W3.na (w : W3 a b o H) {q : Nat} (hq : q ∉ hD H) (kd n : Nat) : W3 (hNew a q kd n) b o (hNew H q kd n) := by
  obtain ⟨w1, w2, w3, w4, w5, w6⟩ := w
  have nb : q ∉ hD b := fun z => hq ((w1 q).mpr (Or.inr (Or.inl z)))
  have no : q ∉ hD o := fun z => hq ((w1 q).mpr (Or.inr (Or.inr z)))
  refine ⟨fun z => ?_, fun z hz => ?_, w3, w4.nn kd n, w5.nw nb kd n, w6.nw no kd n⟩
  · show z ∈ hD H ++ [q] ↔ z ∈ hD a ++ [q] ∨ _
    rw [List.mem_append, List.mem_append, w1 z]
    constructor
    · rintro ((y | y) | y)
      · exact Or.inl (Or.inl y)
      · exact Or.inr y
      · exact Or.inl (Or.inr y)
    · rintro ((y | y) | y)
      · exact Or.inl (Or.inl y)
      · exact Or.inr y
      · exact Or.inl (Or.inr y)
  · rcases List.mem_append.mp hz with y | y
    · exact w2 z y
    · rw [List.mem_singleton.mp y]; exact ⟨nb, no⟩
theorem W3.nb (w : W3 a b o H) {q : Nat} (hq : q ∉ hD H) (kd n : Nat) : W3 a (hNew b q kd n) o (hNew H q kd n) := (w.sw.na hq kd n).sw
theorem W3.no (w : W3 a b o H) {q : Nat} (hq : q ∉ hD H) (kd n : Nat) : W3 a b (hNew o q kd n) (hNew H q kd n) := by
  obtain ⟨w1, w2, w3, w4, w5, w6⟩ := w
  have na : q ∉ hD a := fun z => hq ((w1 q).mpr (Or.inl z))
  have nb : q ∉ hD b := fun z => hq ((w1 q).mpr (Or.inr (Or.inl z)))
  refine ⟨fun z => ?_, fun z hz => ⟨(w2 z hz).1, fun y => ?_⟩, fun z hz y => ?_, w4.nw na kd n, w5.nw nb kd n, w6.nn kd n⟩
  · show z ∈ hD H ++ [q] ↔ z ∈ hD a ∨ z ∈ hD b ∨ z ∈ hD o ++ [q]
    rw [List.mem_append, List.mem_append, w1 z]
    constructor
    · rintro ((y | y | y) | y)
      · exact Or.inl y
      · exact Or.inr (Or.inl y)
      · exact Or.inr (Or.inr (Or.inl y))
      · exact Or.inr (Or.inr (Or.inr y))
    · rintro (y | y | y | y)
      · exact Or.inl (Or.inl y)
      · exact Or.inl (Or.inr (Or.inl y))
      · exact Or.inl (Or.inr (Or.inr y))
      · exact Or.inr y
  · rcases List.mem_append.mp y with y | y
    · exact (w2 z hz).2 y
    · exact na (List.mem_singleton.mp y ▸ hz)
  · rcases List.mem_append.mp y with y | y
    · exact w3 z hz y
    · exact nb (List.mem_singleton.mp y ▸ hz)
end W3s
/-- a run over a part is one over the whole -/
theorem aM_w {gx : GX} {d : Nat} {M : MI} {As : List AV} {h H f : Hp} {c s : Nat} {Qr : Option AV → Hp → Prop} {Qx : String → Hp → Prop} (X : HX h f H) (k : aM gx d M As h c s (fun v h1 => ∀ H1, HX h1 f H1 → Qr v H1) (fun E h1 => ∀ H1, HX h1 f H1 → Qx E H1)) : aM gx d M As H c s Qr Qx :=
  aM_mono gx d M As H c s _ _ _ _ (aM_frame gx f d M As h c s _ _ H k X) (fun _ H1 q => by obtain ⟨h1, x1, q1⟩ := q; exact q1 H1 x1) (fun _ H1 q => by obtain ⟨h1, x1, q1⟩ := q; exact q1 H1 x1)
/-- the row of one long -/
def OU (o : Nat) (ho : Hp) (w : Int) : Prop := o ∈ hD ho ∧ hK ho o = 12 ∧ hN ho o = 1 ∧ hI ho o 0 = w
theorem OU.w {o : Nat} {ho : Hp} {w : Int} (O : OU o ho w) (v : Int) : OU o (wI ho o 0 v) v := ⟨O.1, O.2.1, O.2.2.1, if_pos ⟨rfl, rfl⟩⟩
def bz (z : Int) : Int := if z = 0 then 0 else 1
theorem cat_i {M : MI} {Qx : String → Hp → Prop} {J : JT} {pc : Nat} {ls : List (Option AV)} {c s : Nat} {E : String} {h : Hp} {hh : List (Nat × Nat × Nat × Nat)} (hM : M.2.2.2.2 = some hh) (pre : List (Nat × Nat × Nat × Nat)) (x : Nat × Nat × Nat × Nat) (suf : List (Nat × Nat × Nat × Nat)) (nm : String) (e : hh = pre ++ x :: suf)
    (hp : ∀ z ∈ pre, z.2.2.2 ≠ 0 ∧ ∃ n2, Cond.classLink M.1.cls z.2.2.2 n2 ∈ tb ∧ (E, n2) ∈ ([("java/lang/IllegalArgumentException", "java/lang/IndexOutOfBoundsException"), ("java/lang/IllegalStateException", "java/lang/IndexOutOfBoundsException"), ("java/lang/IllegalStateException", "java/lang/IllegalArgumentException")] : List (String × String)))
    (h1 : x.1 ≤ pc) (h2 : pc < x.2.1) (h3 : x.2.2.2 ≠ 0) (h4 : Cond.classLink M.1.cls x.2.2.2 nm ∈ tb) (h5 : Cond.castable E nm ∈ tb) (k : ∀ q, J x.2.2.1 ls [vr q] h c s) : cat0 M Qx J pc ls c s E h := by
  unfold cat0
  rw [hM]
  exact ⟨pre, x, suf, nm, e, hp, h1, h2, h3, h4, h5, k⟩
theorem cast_13 : Cond.castable "java/lang/IndexOutOfBoundsException" "java/lang/IndexOutOfBoundsException" ∈ tb := tbm1 94 (by decide +kernel) (by decide +kernel)
theorem cast_15 : Cond.castable "java/lang/IllegalArgumentException" "java/lang/IllegalArgumentException" ∈ tb := tbm1 162 (by decide +kernel) (by decide +kernel)
theorem cast_17 : Cond.castable "java/lang/IllegalStateException" "java/lang/IllegalStateException" ∈ tb := tbm1 182 (by decide +kernel) (by decide +kernel)
theorem pv_rg {g : GT} (rg : ∀ k j, inR (g k j)) (B : BD g) {p : Int} (hp : pcP g p) (w : Int) : inR (pvG g p w) := by
  have gm := cnt_in (fun k => decide (goodP g p (g 17 (8 * p + k)))) (B.cp p hp.1 hp.2).1
  have bc := B.cp p hp.1 hp.2
  have fb := fwb B p (-1)
  have gme : gmG g p = cnt (fun k => decide (goodP g p (g 17 (8 * p + k)))) (g 16 p) := rfl
  unfold pvG
  split
  · exact rg _ _
  · split
    · exact rg _ _
    · split
      · exact ⟨by omega, by omega⟩
      · split
        · split
          · exact rg _ _
          · exact inRn1
        · split
          · split
            · exact rg _ _
            · exact inRn1
          · exact ⟨by omega, by omega⟩
theorem rv_rg {t : GT} (rg : ∀ k j, inR (t k j)) (p c r : Int) : inR (rvG t p c r) := by
  unfold rvG
  split
  · exact ⟨by decide, by decide⟩
  · split
    · exact rg _ _
    · exact inRn1
theorem wk_rg {g : GT} (B : BD g) (w : Int) : inR (wkG g w) := by
  have b2 := B.np
  have := cnt_in (wkC g w) b2.1
  unfold wkG
  exact ⟨by omega, by omega⟩
theorem lo_rg {g : GT} (B : BD g) (n : Int) : inR (loadG g n) := by
  have b2 := B.np
  have := cnt_in (fun p => decide (0 < g 18 (60 * n + p))) b2.1
  have e : loadG g n = cnt (fun p => decide (0 < g 18 (60 * n + p))) (g 11 0) := rfl
  exact ⟨by omega, by omega⟩
