/-! ===== the reference's cells as one table of numbers: g k j, field k (an array's place j; 0 for a plain field) ===== -/
abbrev GT : Type := Nat → Int → Int
def up (g : GT) (k : Nat) (i x : Int) : GT := fun k' j => if k' = k ∧ j = i then x else g k' j
theorem up_ne {g : GT} {k k' : Nat} {i x j : Int} (h : k' ≠ k) : up g k i x k' j = g k' j := by unfold up; rw [if_neg (fun q => h q.1)]
theorem up_at {g : GT} {k : Nat} {i x j : Int} : up g k i x k j = if j = i then x else g k j := by
  unfold up
  by_cases h : j = i
  · rw [if_pos ⟨rfl, h⟩, if_pos h]
  · rw [if_neg (fun q => h q.2), if_neg h]
theorem up_self {g : GT} {k : Nat} {i x : Int} : up g k i x k i = x := by rw [up_at, if_pos rfl]
theorem up_off {g : GT} {k : Nat} {i x j : Int} (h : j ≠ i) : up g k i x k j = g k j := by rw [up_at, if_neg h]
def arN (k : Nat) : Nat := match k with
  | 5 => 8 | 6 => 8 | 7 => 8 | 8 => 8 | 9 => 8 | 10 => 8
  | 12 => 60 | 13 => 60 | 14 => 60 | 15 => 60 | 16 => 60
  | 17 => 480 | 18 => 480 | 19 => 480 | 20 => 1920 | 21 => 480
  | 23 => 20 | 24 => 20 | 25 => 20 | 26 => 120
  | _ => 0
def arK (k : Nat) : Nat := match k with
  | 7 => 11 | 9 => 11 | 15 => 11
  | _ => 10
/-- the reference's object q, its arrays ar k, hold the table g -/
def RM (q : Nat) (ar : Nat → Nat) (g : GT) (h : Hp) : Prop :=
  (q ∈ hD h ∧ hK h q = 7) ∧
  (∀ k, arN k ≠ 0 → ar k ∈ hD h ∧ hK h (ar k) = arK k ∧ hN h (ar k) = arN k ∧ hP h q k = some (ar k) ∧ ∀ j, hI h (ar k) j = g k j) ∧
  (∀ k k', arN k ≠ 0 → arN k' ≠ 0 → ar k = ar k' → k = k') ∧
  (∀ k : Nat, arN k = 0 → hI h q k = g k 0) ∧
  (∀ k j, inR (g k j))
theorem RM.rg {q : Nat} {ar : Nat → Nat} {g : GT} {h : Hp} (R : RM q ar g h) (k : Nat) (j : Int) : inR (g k j) := R.2.2.2.2 k j
theorem arK_le (k : Nat) : arK k = 10 ∨ arK k = 11 := by
  unfold arK
  split <;> first | exact Or.inr rfl | exact Or.inl rfl
theorem RM.ne {q : Nat} {ar : Nat → Nat} {g : GT} {h : Hp} (R : RM q ar g h) {k : Nat} (hk : arN k ≠ 0) : ar k ≠ q := by
  intro e
  have h1 := (R.2.1 k hk).2.1
  rw [e, R.1.2] at h1
  rcases arK_le k with z | z <;> omega
theorem RM.wa {q : Nat} {ar : Nat → Nat} {g : GT} {h : Hp} (R : RM q ar g h) {k : Nat} {i x : Int} (hk : arN k ≠ 0) (hx : inR x) : RM q ar (up g k i x) (wI h (ar k) i x) := by
  refine ⟨R.1, fun k' hk' => ?_, R.2.2.1, fun k' hk' => ?_, fun k' j => ?_⟩
  · obtain ⟨h1, h2, h3, h4, h5⟩ := R.2.1 k' hk'
    refine ⟨h1, h2, h3, h4, fun j => ?_⟩
    show (if ar k' = ar k ∧ j = i then x else hI h (ar k') j) = up g k i x k' j
    unfold up
    rw [h5 j]
    by_cases q : k' = k
    · subst q; simp
    · rw [if_neg (fun z => q (R.2.2.1 k' k hk' hk z.1)), if_neg (fun z => q z.1)]
  · show (if q = ar k ∧ (k' : Int) = i then x else hI h q k') = _
    rw [if_neg (fun z => R.ne hk z.1.symm), R.2.2.2.1 k' hk', up_ne (fun (z : k' = k) => hk (by rw [← z]; exact hk'))]
  · unfold up
    split
    · exact hx
    · exact R.rg _ _
theorem RM.ws {q : Nat} {ar : Nat → Nat} {g : GT} {h : Hp} (R : RM q ar g h) {k : Nat} {x : Int} (hk : arN k = 0) (hx : inR x) : RM q ar (up g k 0 x) (wI h q k x) := by
  refine ⟨R.1, fun k' hk' => ?_, R.2.2.1, fun k' hk' => ?_, fun k' j => ?_⟩
  · obtain ⟨h1, h2, h3, h4, h5⟩ := R.2.1 k' hk'
    refine ⟨h1, h2, h3, h4, fun j => ?_⟩
    show (if ar k' = q ∧ j = k then x else hI h (ar k') j) = up g k 0 x k' j
    rw [if_neg (fun z => R.ne hk' z.1), h5 j, up_ne (fun (z : k' = k) => hk' (by rw [z]; exact hk))]
  · show (if q = q ∧ (k' : Int) = k then x else hI h q k') = up g k 0 x k' 0
    rw [R.2.2.2.1 k' hk']
    unfold up
    by_cases z : k' = k
    · subst z; simp
    · rw [if_neg (fun y => z (by omega)), if_neg (fun y => z y.1)]
  · unfold up
    split
    · exact hx
    · exact R.rg _ _
section MR
variable {gx : GX} {d : Nat} {call : CT} {M : MI} {Qr : Option AV → Hp → Prop} {Qx : String → Hp → Prop} {J : JT} {q : Nat} {ar : Nat → Nat} {g : GT} {h : Hp}
theorem m_get0 (C : Cl gx d call M Qr Qx J) {pc ix k : Nat} {ls : List (Option AV)} {st : List AV} {c s : Nat} (hd : decode M.2.1 pc = .ok (.getfield ix, 3)) (hf : fL M.1.cls ix 6 k) (R : RM q ar g h) (h0 : arN k = 0) (hr : isRf 6 k = false) (kk : J (pc + 3) ls (vi (g k 0) :: st) h c s) : J pc ls (vr q :: st) h c s := by
  refine r_getI C hd hf hr R.1.1 R.1.2 ?_
  rw [R.2.2.2.1 k h0]
  exact kk
theorem m_getA (C : Cl gx d call M Qr Qx J) {pc ix k : Nat} {ls : List (Option AV)} {st : List AV} {c s : Nat} (hd : decode M.2.1 pc = .ok (.getfield ix, 3)) (hf : fL M.1.cls ix 6 k) (R : RM q ar g h) (h0 : arN k ≠ 0) (hr : isRf 6 k = true) (kk : J (pc + 3) ls (vr (ar k) :: st) h c s) : J pc ls (vr q :: st) h c s := by
  refine r_getP C hd hf hr R.1.1 R.1.2 ?_
  rw [(R.2.1 k h0).2.2.2.1]
  exact kk
theorem m_iald (C : Cl gx d call M Qr Qx J) {pc k : Nat} {ls : List (Option AV)} {st : List AV} {c s : Nat} {i : Int} (hd : decode M.2.1 pc = .ok (.iaload, 1)) (R : RM q ar g h) {N : Nat} (hN9 : arN k = N) (hN0 : N ≠ 0) (hk : arK k = 10) (h1 : 0 ≤ i) (h2 : i < N) (h3 : i < 2147483648) (kk : J (pc + 1) ls (vi (g k i) :: st) h c s) : J pc ls (vi i :: vr (ar k) :: st) h c s := by
  have h0 : arN k ≠ 0 := by rw [hN9]; exact hN0
  obtain ⟨a1, a2, a3, a4, a5⟩ := R.2.1 k h0
  refine r_iald C hd a1 (a2.trans hk) h1 (by rw [a3, hN9]; exact h2) h3 ?_
  rw [a5]
  exact kk
theorem m_zald (C : Cl gx d call M Qr Qx J) {pc k : Nat} {ls : List (Option AV)} {st : List AV} {c s : Nat} {i : Int} (hd : decode M.2.1 pc = .ok (.baload, 1)) (R : RM q ar g h) {N : Nat} (hN9 : arN k = N) (hN0 : N ≠ 0) (hk : arK k = 11) (h1 : 0 ≤ i) (h2 : i < N) (h3 : i < 2147483648) (kk : J (pc + 1) ls (vi (g k i) :: st) h c s) : J pc ls (vi i :: vr (ar k) :: st) h c s := by
  have h0 : arN k ≠ 0 := by rw [hN9]; exact hN0
  obtain ⟨a1, a2, a3, a4, a5⟩ := R.2.1 k h0
  refine r_zald C hd a1 (a2.trans hk) h1 (by rw [a3, hN9]; exact h2) h3 ?_
  rw [a5]
  exact kk
theorem m_iast (C : Cl gx d call M Qr Qx J) {pc k : Nat} {ls : List (Option AV)} {st : List AV} {c s : Nat} {i x : Int} (hd : decode M.2.1 pc = .ok (.iastore, 1)) (R : RM q ar g h) {N : Nat} (hN9 : arN k = N) (hN0 : N ≠ 0) (hk : arK k = 10) (h1 : 0 ≤ i) (h2 : i < N) (h3 : i < 2147483648) (hx : inR x) (kk : ∀ h', RM q ar (up g k i x) h' → J (pc + 1) ls st h' c s) : J pc ls (vi x :: vi i :: vr (ar k) :: st) h c s := by
  have h0 : arN k ≠ 0 := by rw [hN9]; exact hN0
  obtain ⟨a1, a2, a3, a4, a5⟩ := R.2.1 k h0
  exact r_iast C hd a1 (a2.trans hk) h1 (by rw [a3, hN9]; exact h2) h3 (kk _ (R.wa h0 hx))
theorem m_zast (C : Cl gx d call M Qr Qx J) {pc k : Nat} {ls : List (Option AV)} {st : List AV} {c s : Nat} {i x : Int} (hd : decode M.2.1 pc = .ok (.bastore, 1)) (R : RM q ar g h) {N : Nat} (hN9 : arN k = N) (hN0 : N ≠ 0) (hk : arK k = 11) (h1 : 0 ≤ i) (h2 : i < N) (h3 : i < 2147483648) (hx : x = 0 ∨ x = 1) (kk : ∀ h', RM q ar (up g k i x) h' → J (pc + 1) ls st h' c s) : J pc ls (vi x :: vi i :: vr (ar k) :: st) h c s := by
  have h0 : arN k ≠ 0 := by rw [hN9]; exact hN0
  obtain ⟨a1, a2, a3, a4, a5⟩ := R.2.1 k h0
  exact r_zast C hd a1 (a2.trans hk) h1 (by rw [a3, hN9]; exact h2) h3 hx (kk _ (R.wa h0 (by rcases hx with z | z <;> rw [z] <;> exact ⟨by decide, by decide⟩)))
theorem m_put (C : Cl gx d call M Qr Qx J) {pc ix k : Nat} {ls : List (Option AV)} {st : List AV} {c s : Nat} {x : Int} (hd : decode M.2.1 pc = .ok (.putfield ix, 3)) (hf : fL M.1.cls ix 6 k) (R : RM q ar g h) (h0 : arN k = 0) (hfi : (fT 6 k).2.2.2 = false) (hok : okP 6 k x) (hx : inR x) (kk : ∀ h', RM q ar (up g k 0 x) h' → J (pc + 3) ls st h' c s) : J pc ls (vi x :: vr q :: st) h c s :=
  r_putI C hd hf (Or.inl hfi) hok R.1.1 R.1.2 (kk _ (R.ws h0 hx))
theorem m_V0 (C : Cl gx d call M Qr Qx J) {pc ix : Nat} {ls : List (Option AV)} {st : List AV} {c s : Nat} {N : MI} (hd : decode M.2.1 pc = .ok (.invokevirtual ix, 3)) (si : cV M.1.cls ix N 0) (hn : cNm 6 = N.1.cls) (R : RM q ar g h) (hst : st.length ≤ 4) (kk : call N [vr q] h 0 0 (aft J pc ls st c s) (cat0 M Qx J pc ls c s)) : J pc ls (vr q :: st) h c s :=
  r_callV C (As := []) hd si (fun v hv => by cases hv) (ci := 6) (by decide) hn R.1.1 R.1.2 hst (Nat.zero_le _) (Nat.zero_le _) kk
theorem m_V1 (C : Cl gx d call M Qr Qx J) {pc ix : Nat} {ls : List (Option AV)} {st : List AV} {c s : Nat} {N : MI} {x1 : Int} (hd : decode M.2.1 pc = .ok (.invokevirtual ix, 3)) (si : cV M.1.cls ix N 1) (hn : cNm 6 = N.1.cls) (R : RM q ar g h) (hst : st.length ≤ 4) (kk : call N [vr q, vi x1] h 0 0 (aft J pc ls st c s) (cat0 M Qx J pc ls c s)) : J pc ls (vi x1 :: vr q :: st) h c s :=
  r_callV C (As := [vi x1]) hd si (fun v hv => by simp only [List.mem_cons, List.mem_nil_iff, or_false] at hv; rw [hv]; rfl) (ci := 6) (by decide) hn R.1.1 R.1.2 hst (Nat.zero_le _) (Nat.zero_le _) kk
theorem m_V2 (C : Cl gx d call M Qr Qx J) {pc ix : Nat} {ls : List (Option AV)} {st : List AV} {c s : Nat} {N : MI} {x1 x2 : Int} (hd : decode M.2.1 pc = .ok (.invokevirtual ix, 3)) (si : cV M.1.cls ix N 2) (hn : cNm 6 = N.1.cls) (R : RM q ar g h) (hst : st.length ≤ 4) (kk : call N [vr q, vi x1, vi x2] h 0 0 (aft J pc ls st c s) (cat0 M Qx J pc ls c s)) : J pc ls (vi x2 :: vi x1 :: vr q :: st) h c s :=
  r_callV C (As := [vi x1, vi x2]) hd si (fun v hv => by simp only [List.mem_cons, List.mem_nil_iff, or_false] at hv; rcases hv with hv | hv <;> rw [hv] <;> rfl) (ci := 6) (by decide) hn R.1.1 R.1.2 hst (Nat.zero_le _) (Nat.zero_le _) kk
theorem m_V3 (C : Cl gx d call M Qr Qx J) {pc ix : Nat} {ls : List (Option AV)} {st : List AV} {c s : Nat} {N : MI} {x1 x2 x3 : Int} (hd : decode M.2.1 pc = .ok (.invokevirtual ix, 3)) (si : cV M.1.cls ix N 3) (hn : cNm 6 = N.1.cls) (R : RM q ar g h) (hst : st.length ≤ 4) (kk : call N [vr q, vi x1, vi x2, vi x3] h 0 0 (aft J pc ls st c s) (cat0 M Qx J pc ls c s)) : J pc ls (vi x3 :: vi x2 :: vi x1 :: vr q :: st) h c s :=
  r_callV C (As := [vi x1, vi x2, vi x3]) hd si (fun v hv => by simp only [List.mem_cons, List.mem_nil_iff, or_false] at hv; rcases hv with hv | hv | hv <;> rw [hv] <;> rfl) (ci := 6) (by decide) hn R.1.1 R.1.2 hst (Nat.zero_le _) (Nat.zero_le _) kk
theorem m_V4 (C : Cl gx d call M Qr Qx J) {pc ix : Nat} {ls : List (Option AV)} {st : List AV} {c s : Nat} {N : MI} {x1 x2 x3 x4 : Int} (hd : decode M.2.1 pc = .ok (.invokevirtual ix, 3)) (si : cV M.1.cls ix N 4) (hn : cNm 6 = N.1.cls) (R : RM q ar g h) (hst : st.length ≤ 4) (kk : call N [vr q, vi x1, vi x2, vi x3, vi x4] h 0 0 (aft J pc ls st c s) (cat0 M Qx J pc ls c s)) : J pc ls (vi x4 :: vi x3 :: vi x2 :: vi x1 :: vr q :: st) h c s :=
  r_callV C (As := [vi x1, vi x2, vi x3, vi x4]) hd si (fun v hv => by simp only [List.mem_cons, List.mem_nil_iff, or_false] at hv; rcases hv with hv | hv | hv | hv <;> rw [hv] <;> rfl) (ci := 6) (by decide) hn R.1.1 R.1.2 hst (Nat.zero_le _) (Nat.zero_le _) kk
theorem r_S2 (C : Cl gx d call M Qr Qx J) {pc ix : Nat} {ls : List (Option AV)} {st : List AV} {c s : Nat} {N : MI} {x1 x2 : Int} (hd : decode M.2.1 pc = .ok (.invokestatic ix, 3)) (si : cS M.1.cls ix N 2) (hst : st.length ≤ 4) (kk : call N [vi x1, vi x2] h 0 0 (aft J pc ls st c s) (cat0 M Qx J pc ls c s)) : J pc ls (vi x2 :: vi x1 :: st) h c s :=
  r_callS C (As := [vi x1, vi x2]) hd si (fun v hv => by simp only [List.mem_cons, List.mem_nil_iff, or_false] at hv; rcases hv with hv | hv <;> rw [hv] <;> rfl) hst (Nat.zero_le _) (Nat.zero_le _) kk
theorem r_S3 (C : Cl gx d call M Qr Qx J) {pc ix : Nat} {ls : List (Option AV)} {st : List AV} {c s : Nat} {N : MI} {x1 x2 x3 : Int} (hd : decode M.2.1 pc = .ok (.invokestatic ix, 3)) (si : cS M.1.cls ix N 3) (hst : st.length ≤ 4) (kk : call N [vi x1, vi x2, vi x3] h 0 0 (aft J pc ls st c s) (cat0 M Qx J pc ls c s)) : J pc ls (vi x3 :: vi x2 :: vi x1 :: st) h c s :=
  r_callS C (As := [vi x1, vi x2, vi x3]) hd si (fun v hv => by simp only [List.mem_cons, List.mem_nil_iff, or_false] at hv; rcases hv with hv | hv | hv <;> rw [hv] <;> rfl) hst (Nat.zero_le _) (Nat.zero_le _) kk
end MR
/-- how many of the first n numbers have f -/
def cntN (f : Int → Bool) : Nat → Int
  | 0 => 0
  | n + 1 => cntN f n + (if f n = true then 1 else 0)
def cnt (f : Int → Bool) (n : Int) : Int := cntN f n.toNat
theorem cnt_0 (f : Int → Bool) : cnt f 0 = 0 := rfl
theorem cnt_s (f : Int → Bool) {n : Int} (h : 0 ≤ n) : cnt f (n + 1) = cnt f n + (if f n = true then 1 else 0) := by
  unfold cnt
  rw [show (n + 1).toNat = n.toNat + 1 by omega]
  show cntN f n.toNat + (if f (n.toNat : Int) = true then 1 else 0) = _
  rw [Int.toNat_of_nonneg h]
theorem cnt_b (f : Int → Bool) (n : Int) : 0 ≤ cnt f n ∧ cnt f n ≤ n.toNat := by
  unfold cnt
  generalize n.toNat = m
  induction m with
  | zero => exact ⟨Int.le_refl _, Int.le_refl _⟩
  | succ m ih =>
    show 0 ≤ cntN f m + (if f m = true then 1 else 0) ∧ cntN f m + (if f m = true then 1 else 0) ≤ _
    split <;> omega
