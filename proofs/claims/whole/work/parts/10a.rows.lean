/-! ===== rows of the class: fields, lists, calls ===== -/
section CR0
variable {gx : GX} {d : Nat} {call : CT} {M : MI} {Qr : Option AV → Hp → Prop} {Qx : String → Hp → Prop} {J : JT} {x : Nat} {A : Nat → Int → Nat} {u : GT} {m : Int} {g : GT} {h : Hp}
theorem c_3_0 (C : Cl gx d call M Qr Qx J) {pc ix : Nat} {ls : List (Option AV)} {st : List AV} {c s : Nat} {n : Int} (hd : decode M.2.1 pc = .ok (.getfield ix, 3)) (hf : fL M.1.cls ix 3 0) (R : Rp gx x A u m g h) (h0 : 0 ≤ n) (h1 : n < g 4 0) (kk : J (pc + 3) ls (vi (n) :: st) h c s) : J pc ls (vr (A 0 n) :: st) h c s := by
  refine r_getI C hd hf rfl (R.n h0 h1).1.1 (R.n h0 h1).1.2 ?_
  rw [show hI h (A 0 n) (0 : Nat) = n from (R.n h0 h1).2.2.1]
  exact kk
theorem c_3_1 (C : Cl gx d call M Qr Qx J) {pc ix : Nat} {ls : List (Option AV)} {st : List AV} {c s : Nat} {n : Int} (hd : decode M.2.1 pc = .ok (.getfield ix, 3)) (hf : fL M.1.cls ix 3 1) (R : Rp gx x A u m g h) (h0 : 0 ≤ n) (h1 : n < g 4 0) (kk : J (pc + 3) ls (vi (g 5 n) :: st) h c s) : J pc ls (vr (A 0 n) :: st) h c s := by
  refine r_getI C hd hf rfl (R.n h0 h1).1.1 (R.n h0 h1).1.2 ?_
  rw [show hI h (A 0 n) (1 : Nat) = g 5 n from (R.n h0 h1).2.2.2.1]
  exact kk
theorem c_3_3 (C : Cl gx d call M Qr Qx J) {pc ix : Nat} {ls : List (Option AV)} {st : List AV} {c s : Nat} {n : Int} (hd : decode M.2.1 pc = .ok (.getfield ix, 3)) (hf : fL M.1.cls ix 3 3) (R : Rp gx x A u m g h) (h0 : 0 ≤ n) (h1 : n < g 4 0) (kk : J (pc + 3) ls (vi (u 3 n) :: st) h c s) : J pc ls (vr (A 0 n) :: st) h c s := by
  refine r_getI C hd hf rfl (R.n h0 h1).1.1 (R.n h0 h1).1.2 ?_
  rw [show hI h (A 0 n) (3 : Nat) = u 3 n from (R.n h0 h1).2.2.2.2.1]
  exact kk
theorem c_3_4 (C : Cl gx d call M Qr Qx J) {pc ix : Nat} {ls : List (Option AV)} {st : List AV} {c s : Nat} {n : Int} (hd : decode M.2.1 pc = .ok (.getfield ix, 3)) (hf : fL M.1.cls ix 3 4) (R : Rp gx x A u m g h) (h0 : 0 ≤ n) (h1 : n < g 4 0) (kk : J (pc + 3) ls (vi (g 7 n) :: st) h c s) : J pc ls (vr (A 0 n) :: st) h c s := by
  refine r_getI C hd hf rfl (R.n h0 h1).1.1 (R.n h0 h1).1.2 ?_
  rw [show hI h (A 0 n) (4 : Nat) = g 7 n from (R.n h0 h1).2.2.2.2.2.1]
  exact kk
theorem c_3_5 (C : Cl gx d call M Qr Qx J) {pc ix : Nat} {ls : List (Option AV)} {st : List AV} {c s : Nat} {n : Int} (hd : decode M.2.1 pc = .ok (.getfield ix, 3)) (hf : fL M.1.cls ix 3 5) (R : Rp gx x A u m g h) (h0 : 0 ≤ n) (h1 : n < g 4 0) (kk : J (pc + 3) ls (vi (g 9 n) :: st) h c s) : J pc ls (vr (A 0 n) :: st) h c s := by
  refine r_getI C hd hf rfl (R.n h0 h1).1.1 (R.n h0 h1).1.2 ?_
  rw [show hI h (A 0 n) (5 : Nat) = g 9 n from (R.n h0 h1).2.2.2.2.2.2.1]
  exact kk
theorem c_3_7 (C : Cl gx d call M Qr Qx J) {pc ix : Nat} {ls : List (Option AV)} {st : List AV} {c s : Nat} {n : Int} (hd : decode M.2.1 pc = .ok (.getfield ix, 3)) (hf : fL M.1.cls ix 3 7) (R : Rp gx x A u m g h) (h0 : 0 ≤ n) (h1 : n < g 4 0) (kk : J (pc + 3) ls (vi (g 10 n) :: st) h c s) : J pc ls (vr (A 0 n) :: st) h c s := by
  refine r_getI C hd hf rfl (R.n h0 h1).1.1 (R.n h0 h1).1.2 ?_
  rw [show hI h (A 0 n) (7 : Nat) = g 10 n from (R.n h0 h1).2.2.2.2.2.2.2.2]
  exact kk
theorem c_3_2 (C : Cl gx d call M Qr Qx J) {pc ix : Nat} {ls : List (Option AV)} {st : List AV} {c s : Nat} {n : Int} (hd : decode M.2.1 pc = .ok (.getfield ix, 3)) (hf : fL M.1.cls ix 3 2) (R : Rp gx x A u m g h) (h0 : 0 ≤ n) (h1 : n < g 4 0) (kk : J (pc + 3) ls (vr (A 1 n) :: st) h c s) : J pc ls (vr (A 0 n) :: st) h c s := by
  refine r_getP C hd hf rfl (R.n h0 h1).1.1 (R.n h0 h1).1.2 ?_
  rw [show hP h (A 0 n) (2 : Nat) = some (A 1 n) from (R.n h0 h1).2.1.1]
  exact kk
theorem c_3_6 (C : Cl gx d call M Qr Qx J) {pc ix : Nat} {ls : List (Option AV)} {st : List AV} {c s : Nat} {n : Int} (hd : decode M.2.1 pc = .ok (.getfield ix, 3)) (hf : fL M.1.cls ix 3 6) (R : Rp gx x A u m g h) (h0 : 0 ≤ n) (h1 : n < g 4 0) (h7 : g 7 n = 0) (kk : J (pc + 3) ls (vi (g 8 n) :: st) h c s) : J pc ls (vr (A 0 n) :: st) h c s := by
  refine r_getI C hd hf rfl (R.n h0 h1).1.1 (R.n h0 h1).1.2 ?_
  rw [show hI h (A 0 n) (6 : Nat) = g 8 n from (R.n h0 h1).2.2.2.2.2.2.2.1 h7]
  exact kk
theorem Rp.oc (R : Rp gx x A u m g h) {n i p : Int} (h0 : 0 ≤ n) (h1 : n < g 4 0) (h2 : 0 ≤ i) (h3 : i < g 6 n) (hu : u 0 (12 * n + i) = p) (hp : 0 ≤ p) : p < g 11 0 ∧ hP h (A 2 (12 * n + i)) 0 = some (A 4 p) ∧ SV A g h (12 * n + i) (60 * n + p) := by
  have s := (R.s h0 h1 h2 h3).2.2.2
  rw [hu] at s
  rcases s with z | z
  · exfalso; omega
  · exact ⟨z.1.2, z.2.1, z.2.2⟩
theorem c_1_1 (C : Cl gx d call M Qr Qx J) {pc ix : Nat} {ls : List (Option AV)} {st : List AV} {c s : Nat} {n i p : Int} (hd : decode M.2.1 pc = .ok (.getfield ix, 3)) (hf : fL M.1.cls ix 1 1) (R : Rp gx x A u m g h) (h0 : 0 ≤ n) (h1 : n < g 4 0) (h2 : 0 ≤ i) (h3 : i < g 6 n) (hu : u 0 (12 * n + i) = p) (hp : 0 ≤ p) (kk : J (pc + 3) ls (vi (g 18 (60 * n + p)) :: st) h c s) : J pc ls (vr (A 2 (12 * n + i)) :: st) h c s := by
  refine r_getI C hd hf rfl (R.s h0 h1 h2 h3).2.1.1 (R.s h0 h1 h2 h3).2.1.2 ?_
  rw [show hI h (A 2 (12 * n + i)) (1 : Nat) = g 18 (60 * n + p) from (R.oc h0 h1 h2 h3 hu hp).2.2.1]
  exact kk
theorem c_1_2 (C : Cl gx d call M Qr Qx J) {pc ix : Nat} {ls : List (Option AV)} {st : List AV} {c s : Nat} {n i p : Int} (hd : decode M.2.1 pc = .ok (.getfield ix, 3)) (hf : fL M.1.cls ix 1 2) (R : Rp gx x A u m g h) (h0 : 0 ≤ n) (h1 : n < g 4 0) (h2 : 0 ≤ i) (h3 : i < g 6 n) (hu : u 0 (12 * n + i) = p) (hp : 0 ≤ p) (kk : J (pc + 3) ls (vi (g 19 (60 * n + p)) :: st) h c s) : J pc ls (vr (A 2 (12 * n + i)) :: st) h c s := by
  refine r_getI C hd hf rfl (R.s h0 h1 h2 h3).2.1.1 (R.s h0 h1 h2 h3).2.1.2 ?_
  rw [show hI h (A 2 (12 * n + i)) (2 : Nat) = g 19 (60 * n + p) from (R.oc h0 h1 h2 h3 hu hp).2.2.2.1]
  exact kk
theorem c_1_3 (C : Cl gx d call M Qr Qx J) {pc ix : Nat} {ls : List (Option AV)} {st : List AV} {c s : Nat} {n i p : Int} (hd : decode M.2.1 pc = .ok (.getfield ix, 3)) (hf : fL M.1.cls ix 1 3) (R : Rp gx x A u m g h) (h0 : 0 ≤ n) (h1 : n < g 4 0) (h2 : 0 ≤ i) (h3 : i < g 6 n) (hu : u 0 (12 * n + i) = p) (hp : 0 ≤ p) (kk : J (pc + 3) ls (vi (g 21 (60 * n + p)) :: st) h c s) : J pc ls (vr (A 2 (12 * n + i)) :: st) h c s := by
  refine r_getI C hd hf rfl (R.s h0 h1 h2 h3).2.1.1 (R.s h0 h1 h2 h3).2.1.2 ?_
  rw [show hI h (A 2 (12 * n + i)) (3 : Nat) = g 21 (60 * n + p) from (R.oc h0 h1 h2 h3 hu hp).2.2.2.2.1]
  exact kk
theorem c_1_4 (C : Cl gx d call M Qr Qx J) {pc ix : Nat} {ls : List (Option AV)} {st : List AV} {c s : Nat} {n i : Int} (hd : decode M.2.1 pc = .ok (.getfield ix, 3)) (hf : fL M.1.cls ix 1 4) (R : Rp gx x A u m g h) (h0 : 0 ≤ n) (h1 : n < g 4 0) (h2 : 0 ≤ i) (h3 : i < g 6 n) (kk : J (pc + 3) ls (vr (A 3 (12 * n + i)) :: st) h c s) : J pc ls (vr (A 2 (12 * n + i)) :: st) h c s := by
  refine r_getP C hd hf rfl (R.s h0 h1 h2 h3).2.1.1 (R.s h0 h1 h2 h3).2.1.2 ?_
  rw [show hP h (A 2 (12 * n + i)) (4 : Nat) = some (A 3 (12 * n + i)) from (R.s h0 h1 h2 h3).2.2.1.1]
  exact kk
theorem c_1_0 (C : Cl gx d call M Qr Qx J) {pc ix : Nat} {ls : List (Option AV)} {st : List AV} {c s : Nat} {n i p : Int} (hd : decode M.2.1 pc = .ok (.getfield ix, 3)) (hf : fL M.1.cls ix 1 0) (R : Rp gx x A u m g h) (h0 : 0 ≤ n) (h1 : n < g 4 0) (h2 : 0 ≤ i) (h3 : i < g 6 n) (hu : u 0 (12 * n + i) = p) (hp : 0 ≤ p) (kk : J (pc + 3) ls (vr (A 4 p) :: st) h c s) : J pc ls (vr (A 2 (12 * n + i)) :: st) h c s := by
  refine r_getP C hd hf rfl (R.s h0 h1 h2 h3).2.1.1 (R.s h0 h1 h2 h3).2.1.2 ?_
  rw [show hP h (A 2 (12 * n + i)) (0 : Nat) = some (A 4 p) from (R.oc h0 h1 h2 h3 hu hp).2.1]
  exact kk
theorem Rp.pcq (R : Rp gx x A u m g h) {n i : Int} (h0 : 0 ≤ n) (h1 : n < g 4 0) (h2 : 0 ≤ i) (h3 : i < g 6 n) : hP h (A 2 (12 * n + i)) 0 = (if u 0 (12 * n + i) = -1 then none else some (A 4 (u 0 (12 * n + i)))) := by
  rcases (R.s h0 h1 h2 h3).2.2.2 with z | z
  · rw [if_pos z.1]; exact z.2
  · rw [if_neg (by omega)]; exact z.2.1
theorem c_1_q (C : Cl gx d call M Qr Qx J) {pc ix : Nat} {ls : List (Option AV)} {st : List AV} {c s : Nat} {n i : Int} (hd : decode M.2.1 pc = .ok (.getfield ix, 3)) (hf : fL M.1.cls ix 1 0) (R : Rp gx x A u m g h) (h0 : 0 ≤ n) (h1 : n < g 4 0) (h2 : 0 ≤ i) (h3 : i < g 6 n) (kk : J (pc + 3) ls (vq (if u 0 (12 * n + i) = -1 then none else some (A 4 (u 0 (12 * n + i)))) :: st) h c s) : J pc ls (vr (A 2 (12 * n + i)) :: st) h c s := by
  refine r_getP C hd hf rfl (R.s h0 h1 h2 h3).2.1.1 (R.s h0 h1 h2 h3).2.1.2 ?_
  rw [show hP h (A 2 (12 * n + i)) (0 : Nat) = if u 0 (12 * n + i) = -1 then none else some (A 4 (u 0 (12 * n + i))) from (R.pcq h0 h1 h2 h3)]
  exact kk
theorem c_4_0 (C : Cl gx d call M Qr Qx J) {pc ix : Nat} {ls : List (Option AV)} {st : List AV} {c s : Nat} {p : Int} (hd : decode M.2.1 pc = .ok (.getfield ix, 3)) (hf : fL M.1.cls ix 4 0) (R : Rp gx x A u m g h) (h0 : 0 ≤ p) (h1 : p < g 11 0) (kk : J (pc + 3) ls (vi (p) :: st) h c s) : J pc ls (vr (A 4 p) :: st) h c s := by
  refine r_getI C hd hf rfl (R.q h0 h1).1.1 (R.q h0 h1).1.2 ?_
  rw [show hI h (A 4 p) (0 : Nat) = p from (R.q h0 h1).2.1.1]
  exact kk
theorem c_4_1 (C : Cl gx d call M Qr Qx J) {pc ix : Nat} {ls : List (Option AV)} {st : List AV} {c s : Nat} {p : Int} (hd : decode M.2.1 pc = .ok (.getfield ix, 3)) (hf : fL M.1.cls ix 4 1) (R : Rp gx x A u m g h) (h0 : 0 ≤ p) (h1 : p < g 11 0) (kk : J (pc + 3) ls (vi (g 12 p) :: st) h c s) : J pc ls (vr (A 4 p) :: st) h c s := by
  refine r_getI C hd hf rfl (R.q h0 h1).1.1 (R.q h0 h1).1.2 ?_
  rw [show hI h (A 4 p) (1 : Nat) = g 12 p from (R.q h0 h1).2.1.2.1]
  exact kk
theorem c_4_2 (C : Cl gx d call M Qr Qx J) {pc ix : Nat} {ls : List (Option AV)} {st : List AV} {c s : Nat} {p : Int} (hd : decode M.2.1 pc = .ok (.getfield ix, 3)) (hf : fL M.1.cls ix 4 2) (R : Rp gx x A u m g h) (h0 : 0 ≤ p) (h1 : p < g 11 0) (kk : J (pc + 3) ls (vi (u 2 p) :: st) h c s) : J pc ls (vr (A 4 p) :: st) h c s := by
  refine r_getI C hd hf rfl (R.q h0 h1).1.1 (R.q h0 h1).1.2 ?_
  rw [show hI h (A 4 p) (2 : Nat) = u 2 p from (R.q h0 h1).2.1.2.2.1]
  exact kk
theorem c_4_4 (C : Cl gx d call M Qr Qx J) {pc ix : Nat} {ls : List (Option AV)} {st : List AV} {c s : Nat} {p : Int} (hd : decode M.2.1 pc = .ok (.getfield ix, 3)) (hf : fL M.1.cls ix 4 4) (R : Rp gx x A u m g h) (h0 : 0 ≤ p) (h1 : p < g 11 0) (kk : J (pc + 3) ls (vi (g 14 p) :: st) h c s) : J pc ls (vr (A 4 p) :: st) h c s := by
  refine r_getI C hd hf rfl (R.q h0 h1).1.1 (R.q h0 h1).1.2 ?_
  rw [show hI h (A 4 p) (4 : Nat) = g 14 p from (R.q h0 h1).2.1.2.2.2.1]
  exact kk
theorem c_4_5 (C : Cl gx d call M Qr Qx J) {pc ix : Nat} {ls : List (Option AV)} {st : List AV} {c s : Nat} {p : Int} (hd : decode M.2.1 pc = .ok (.getfield ix, 3)) (hf : fL M.1.cls ix 4 5) (R : Rp gx x A u m g h) (h0 : 0 ≤ p) (h1 : p < g 11 0) (kk : J (pc + 3) ls (vi (u 1 p) :: st) h c s) : J pc ls (vr (A 4 p) :: st) h c s := by
  refine r_getI C hd hf rfl (R.q h0 h1).1.1 (R.q h0 h1).1.2 ?_
  rw [show hI h (A 4 p) (5 : Nat) = u 1 p from (R.q h0 h1).2.1.2.2.2.2]
  exact kk
theorem c_4_3 (C : Cl gx d call M Qr Qx J) {pc ix : Nat} {ls : List (Option AV)} {st : List AV} {c s : Nat} {p : Int} (hd : decode M.2.1 pc = .ok (.getfield ix, 3)) (hf : fL M.1.cls ix 4 3) (R : Rp gx x A u m g h) (h0 : 0 ≤ p) (h1 : p < g 11 0) (kk : J (pc + 3) ls (vq (if g 13 p = -1 then none else some (A 0 (g 13 p))) :: st) h c s) : J pc ls (vr (A 4 p) :: st) h c s := by
  refine r_getP C hd hf rfl (R.q h0 h1).1.1 (R.q h0 h1).1.2 ?_
  rw [show hP h (A 4 p) (3 : Nat) = if g 13 p = -1 then none else some (A 0 (g 13 p)) from (R.q h0 h1).2.2.1]
  exact kk
theorem c_4_6 (C : Cl gx d call M Qr Qx J) {pc ix : Nat} {ls : List (Option AV)} {st : List AV} {c s : Nat} {p : Int} (hd : decode M.2.1 pc = .ok (.getfield ix, 3)) (hf : fL M.1.cls ix 4 6) (R : Rp gx x A u m g h) (h0 : 0 ≤ p) (h1 : p < g 11 0) (kk : J (pc + 3) ls (vr (A 5 p) :: st) h c s) : J pc ls (vr (A 4 p) :: st) h c s := by
  refine r_getP C hd hf rfl (R.q h0 h1).1.1 (R.q h0 h1).1.2 ?_
  rw [show hP h (A 4 p) (6 : Nat) = some (A 5 p) from (R.q h0 h1).2.2.2.1.1]
  exact kk
theorem c_2_0 (C : Cl gx d call M Qr Qx J) {pc ix : Nat} {ls : List (Option AV)} {st : List AV} {c s : Nat} {f : Int} (hd : decode M.2.1 pc = .ok (.getfield ix, 3)) (hf : fL M.1.cls ix 2 0) (R : Rp gx x A u m g h) (h0 : 0 ≤ f) (h1 : f < g 22 0) (kk : J (pc + 3) ls (vi (f) :: st) h c s) : J pc ls (vr (A 6 f) :: st) h c s := by
  refine r_getI C hd hf rfl (R.f h0 h1).1.1 (R.f h0 h1).1.2 ?_
  rw [show hI h (A 6 f) (0 : Nat) = f from (R.f h0 h1).2.1.1]
  exact kk
theorem c_2_1 (C : Cl gx d call M Qr Qx J) {pc ix : Nat} {ls : List (Option AV)} {st : List AV} {c s : Nat} {f : Int} (hd : decode M.2.1 pc = .ok (.getfield ix, 3)) (hf : fL M.1.cls ix 2 1) (R : Rp gx x A u m g h) (h0 : 0 ≤ f) (h1 : f < g 22 0) (kk : J (pc + 3) ls (vi (u 4 f) :: st) h c s) : J pc ls (vr (A 6 f) :: st) h c s := by
  refine r_getI C hd hf rfl (R.f h0 h1).1.1 (R.f h0 h1).1.2 ?_
  rw [show hI h (A 6 f) (1 : Nat) = u 4 f from (R.f h0 h1).2.1.2.1]
  exact kk
theorem c_2_3 (C : Cl gx d call M Qr Qx J) {pc ix : Nat} {ls : List (Option AV)} {st : List AV} {c s : Nat} {f : Int} (hd : decode M.2.1 pc = .ok (.getfield ix, 3)) (hf : fL M.1.cls ix 2 3) (R : Rp gx x A u m g h) (h0 : 0 ≤ f) (h1 : f < g 22 0) (kk : J (pc + 3) ls (vr (A 7 f) :: st) h c s) : J pc ls (vr (A 6 f) :: st) h c s := by
  refine r_getP C hd hf rfl (R.f h0 h1).1.1 (R.f h0 h1).1.2 ?_
  rw [show hP h (A 6 f) (3 : Nat) = some (A 7 f) from (R.f h0 h1).2.2.1]
  exact kk
theorem c_2_2 (C : Cl gx d call M Qr Qx J) {pc ix : Nat} {ls : List (Option AV)} {st : List AV} {c s : Nat} {f : Int} (hd : decode M.2.1 pc = .ok (.getfield ix, 3)) (hf : fL M.1.cls ix 2 2) (R : Rp gx x A u m g h) (h0 : 0 ≤ f) (h1 : f < g 22 0) (h7 : g 23 f = 1) (kk : J (pc + 3) ls (vi (g 24 f) :: st) h c s) : J pc ls (vr (A 6 f) :: st) h c s := by
  refine r_getI C hd hf rfl (R.f h0 h1).1.1 (R.f h0 h1).1.2 ?_
  rw [show hI h (A 6 f) (2 : Nat) = g 24 f from (R.f h0 h1).2.1.2.2 h7]
  exact kk
theorem c_5_0 (C : Cl gx d call M Qr Qx J) {pc ix : Nat} {ls : List (Option AV)} {st : List AV} {c s : Nat}  (hd : decode M.2.1 pc = .ok (.getfield ix, 3)) (hf : fL M.1.cls ix 5 0) (R : Rp gx x A u m g h)  (kk : J (pc + 3) ls (vr (A 8 0) :: st) h c s) : J pc ls (vr x :: st) h c s := by
  refine r_getP C hd hf rfl R.xx.1.1 R.xx.1.2 ?_
  rw [show hP h x (0 : Nat) = some (A 8 0) from R.xx.2.1.1]
  exact kk
theorem c_5_1 (C : Cl gx d call M Qr Qx J) {pc ix : Nat} {ls : List (Option AV)} {st : List AV} {c s : Nat}  (hd : decode M.2.1 pc = .ok (.getfield ix, 3)) (hf : fL M.1.cls ix 5 1) (R : Rp gx x A u m g h)  (kk : J (pc + 3) ls (vr (A 8 1) :: st) h c s) : J pc ls (vr x :: st) h c s := by
  refine r_getP C hd hf rfl R.xx.1.1 R.xx.1.2 ?_
  rw [show hP h x (1 : Nat) = some (A 8 1) from R.xx.2.1.2.1]
  exact kk
theorem c_5_2 (C : Cl gx d call M Qr Qx J) {pc ix : Nat} {ls : List (Option AV)} {st : List AV} {c s : Nat}  (hd : decode M.2.1 pc = .ok (.getfield ix, 3)) (hf : fL M.1.cls ix 5 2) (R : Rp gx x A u m g h)  (kk : J (pc + 3) ls (vr (A 8 2) :: st) h c s) : J pc ls (vr x :: st) h c s := by
  refine r_getP C hd hf rfl R.xx.1.1 R.xx.1.2 ?_
  rw [show hP h x (2 : Nat) = some (A 8 2) from R.xx.2.1.2.2]
  exact kk
theorem c_5_3 (C : Cl gx d call M Qr Qx J) {pc ix : Nat} {ls : List (Option AV)} {st : List AV} {c s : Nat}  (hd : decode M.2.1 pc = .ok (.getfield ix, 3)) (hf : fL M.1.cls ix 5 3) (R : Rp gx x A u m g h)  (kk : J (pc + 3) ls (vi (g 1 0) :: st) h c s) : J pc ls (vr x :: st) h c s := by
  refine r_getI C hd hf rfl R.xx.1.1 R.xx.1.2 ?_
  rw [show hI h x (3 : Nat) = g 1 0 from R.xx.2.2.1.1]
  exact kk
theorem c_5_4 (C : Cl gx d call M Qr Qx J) {pc ix : Nat} {ls : List (Option AV)} {st : List AV} {c s : Nat}  (hd : decode M.2.1 pc = .ok (.getfield ix, 3)) (hf : fL M.1.cls ix 5 4) (R : Rp gx x A u m g h)  (kk : J (pc + 3) ls (vi (g 2 0) :: st) h c s) : J pc ls (vr x :: st) h c s := by
  refine r_getI C hd hf rfl R.xx.1.1 R.xx.1.2 ?_
  rw [show hI h x (4 : Nat) = g 2 0 from R.xx.2.2.1.2.1]
  exact kk
theorem c_5_5 (C : Cl gx d call M Qr Qx J) {pc ix : Nat} {ls : List (Option AV)} {st : List AV} {c s : Nat}  (hd : decode M.2.1 pc = .ok (.getfield ix, 3)) (hf : fL M.1.cls ix 5 5) (R : Rp gx x A u m g h)  (kk : J (pc + 3) ls (vi (g 3 0) :: st) h c s) : J pc ls (vr x :: st) h c s := by
  refine r_getI C hd hf rfl R.xx.1.1 R.xx.1.2 ?_
  rw [show hI h x (5 : Nat) = g 3 0 from R.xx.2.2.1.2.2]
  exact kk
theorem c_len (C : Cl gx d call M Qr Qx J) {pc : Nat} {ls : List (Option AV)} {st : List AV} {c s : Nat} {n : Int} (hd : decode M.2.1 pc = .ok (.arraylength, 1)) (R : Rp gx x A u m g h) (h0 : 0 ≤ n) (h1 : n < g 4 0) (kk : J (pc + 1) ls (vi (g 6 n) :: st) h c s) : J pc ls (vr (A 1 n) :: st) h c s := by
  have q := (R.n h0 h1).2.1
  refine r_alen C hd q.2.1 (by rw [q.2.2.1]; decide) (by rw [q.2.2.1]; decide) ?_
  rw [q.2.2.2]
  exact kk
theorem c_pl (C : Cl gx d call M Qr Qx J) {pc : Nat} {ls : List (Option AV)} {st : List AV} {c s : Nat} {n i : Int} (hd : decode M.2.1 pc = .ok (.aaload, 1)) (R : Rp gx x A u m g h) (h0 : 0 ≤ n) (h1 : n < g 4 0) (h2 : 0 ≤ i) (h3 : i < g 6 n) (kk : J (pc + 1) ls (vr (A 2 (12 * n + i)) :: st) h c s) : J pc ls (vi i :: vr (A 1 n) :: st) h c s := by
  have q := (R.n h0 h1).2.1
  have r := R.room h0 h1
  refine r_aald C hd q.2.1 (Or.inr q.2.2.1) h2 (by rw [q.2.2.2]; exact h3) (by omega) ?_
  rw [(R.s h0 h1 h2 h3).1]
  exact kk
theorem c_nu (C : Cl gx d call M Qr Qx J) {pc : Nat} {ls : List (Option AV)} {st : List AV} {c s : Nat} {n i p k : Int} (hd : decode M.2.1 pc = .ok (.iaload, 1)) (R : Rp gx x A u m g h) (h0 : 0 ≤ n) (h1 : n < g 4 0) (h2 : 0 ≤ i) (h3 : i < g 6 n) (hu : u 0 (12 * n + i) = p) (hp : 0 ≤ p) (k0 : 0 ≤ k) (k1 : k < 4) (k2 : k < g 19 (60 * n + p)) (kk : J (pc + 1) ls (vi (g 20 (4 * (60 * n + p) + k)) :: st) h c s) : J pc ls (vi k :: vr (A 3 (12 * n + i)) :: st) h c s := by
  have q := (R.s h0 h1 h2 h3).2.2.1
  refine r_iald C hd q.2.1 q.2.2.1 k0 (by rw [q.2.2.2]; exact k1) (by omega) ?_
  rw [(R.oc h0 h1 h2 h3 hu hp).2.2.2.2.2 k k0 k2]
  exact kk
theorem c_szH {e : Nat} (C : Cl gx d (aM gx (e + 1)) M Qr Qx J) {pc ix : Nat} {ls : List (Option AV)} {st : List AV} {c s : Nat} {p : Int} (hd : decode M.2.1 pc = .ok (.invokevirtual ix, 3)) (si : cV M.1.cls ix mAL_size 0) (R : Rp gx x A u m g h) (h0 : 0 ≤ p) (h1 : p < g 11 0) (hst : st.length ≤ 4) (kk : J (pc + 3) ls (vi (g 16 p) :: st) h c s) : J pc ls (vr (A 5 p) :: st) h c s :=
  r_callV C (As := []) hd si (fun v hv => by cases hv) (ci := 0) (by decide) rfl (R.q h0 h1).2.2.2.2.1.1 (R.q h0 h1).2.2.2.2.1.2 hst (Nat.zero_le _) (Nat.zero_le _) (C_AL_size (R.q h0 h1).2.2.2.2 kk)
theorem c_gtH {e : Nat} (C : Cl gx d (aM gx (e + 3)) M Qr Qx J) {pc ix : Nat} {ls : List (Option AV)} {st : List AV} {c s : Nat} {p i : Int} (hd : decode M.2.1 pc = .ok (.invokevirtual ix, 3)) (si : cV M.1.cls ix mAL_get 1) (R : Rp gx x A u m g h) (h0 : 0 ≤ p) (h1 : p < g 11 0) (i0 : 0 ≤ i) (i1 : i < g 16 p) (hst : st.length ≤ 4) (kk : J (pc + 3) ls (vr (A 0 (g 17 (8 * p + i))) :: st) h c s) : J pc ls (vi i :: vr (A 5 p) :: st) h c s :=
  r_callV C (As := [vi i]) hd si (fun v hv => by rw [List.mem_singleton.mp hv]; rfl) (ci := 0) (by decide) rfl (R.q h0 h1).2.2.2.2.1.1 (R.q h0 h1).2.2.2.2.1.2 hst (Nat.zero_le _) (Nat.zero_le _) (C_AL_get (R.q h0 h1).2.2.2.2 i0 i1 kk)
theorem c_szN {e : Nat} (C : Cl gx d (aM gx (e + 1)) M Qr Qx J) {pc ix : Nat} {ls : List (Option AV)} {st : List AV} {c s : Nat}  (hd : decode M.2.1 pc = .ok (.invokevirtual ix, 3)) (si : cV M.1.cls ix mAL_size 0) (R : Rp gx x A u m g h)  (hst : st.length ≤ 4) (kk : J (pc + 3) ls (vi (g 4 0) :: st) h c s) : J pc ls (vr (A 8 0) :: st) h c s :=
  r_callV C (As := []) hd si (fun v hv => by cases hv) (ci := 0) (by decide) rfl R.xx.2.2.2.1.1.1 R.xx.2.2.2.1.1.2 hst (Nat.zero_le _) (Nat.zero_le _) (C_AL_size R.xx.2.2.2.1 kk)
theorem c_gtN {e : Nat} (C : Cl gx d (aM gx (e + 3)) M Qr Qx J) {pc ix : Nat} {ls : List (Option AV)} {st : List AV} {c s : Nat} {i : Int} (hd : decode M.2.1 pc = .ok (.invokevirtual ix, 3)) (si : cV M.1.cls ix mAL_get 1) (R : Rp gx x A u m g h)  (i0 : 0 ≤ i) (i1 : i < g 4 0) (hst : st.length ≤ 4) (kk : J (pc + 3) ls (vr (A 0 i) :: st) h c s) : J pc ls (vi i :: vr (A 8 0) :: st) h c s :=
  r_callV C (As := [vi i]) hd si (fun v hv => by rw [List.mem_singleton.mp hv]; rfl) (ci := 0) (by decide) rfl R.xx.2.2.2.1.1.1 R.xx.2.2.2.1.1.2 hst (Nat.zero_le _) (Nat.zero_le _) (C_AL_get R.xx.2.2.2.1 i0 i1 kk)
theorem c_szA {e : Nat} (C : Cl gx d (aM gx (e + 1)) M Qr Qx J) {pc ix : Nat} {ls : List (Option AV)} {st : List AV} {c s : Nat}  (hd : decode M.2.1 pc = .ok (.invokevirtual ix, 3)) (si : cV M.1.cls ix mAL_size 0) (R : Rp gx x A u m g h)  (hst : st.length ≤ 4) (kk : J (pc + 3) ls (vi (m) :: st) h c s) : J pc ls (vr (A 8 1) :: st) h c s :=
  r_callV C (As := []) hd si (fun v hv => by cases hv) (ci := 0) (by decide) rfl R.xx.2.2.2.2.1.1.1 R.xx.2.2.2.2.1.1.2 hst (Nat.zero_le _) (Nat.zero_le _) (C_AL_size R.xx.2.2.2.2.1 kk)
theorem c_gtA {e : Nat} (C : Cl gx d (aM gx (e + 3)) M Qr Qx J) {pc ix : Nat} {ls : List (Option AV)} {st : List AV} {c s : Nat} {i : Int} (hd : decode M.2.1 pc = .ok (.invokevirtual ix, 3)) (si : cV M.1.cls ix mAL_get 1) (R : Rp gx x A u m g h)  (i0 : 0 ≤ i) (i1 : i < m) (hst : st.length ≤ 4) (kk : J (pc + 3) ls (vr (A 4 i) :: st) h c s) : J pc ls (vi i :: vr (A 8 1) :: st) h c s :=
  r_callV C (As := [vi i]) hd si (fun v hv => by rw [List.mem_singleton.mp hv]; rfl) (ci := 0) (by decide) rfl R.xx.2.2.2.2.1.1.1 R.xx.2.2.2.2.1.1.2 hst (Nat.zero_le _) (Nat.zero_le _) (C_AL_get R.xx.2.2.2.2.1 i0 i1 kk)
theorem c_szF {e : Nat} (C : Cl gx d (aM gx (e + 1)) M Qr Qx J) {pc ix : Nat} {ls : List (Option AV)} {st : List AV} {c s : Nat}  (hd : decode M.2.1 pc = .ok (.invokevirtual ix, 3)) (si : cV M.1.cls ix mAL_size 0) (R : Rp gx x A u m g h)  (hst : st.length ≤ 4) (kk : J (pc + 3) ls (vi (g 22 0) :: st) h c s) : J pc ls (vr (A 8 2) :: st) h c s :=
  r_callV C (As := []) hd si (fun v hv => by cases hv) (ci := 0) (by decide) rfl R.xx.2.2.2.2.2.1.1 R.xx.2.2.2.2.2.1.2 hst (Nat.zero_le _) (Nat.zero_le _) (C_AL_size R.xx.2.2.2.2.2 kk)
theorem c_gtF {e : Nat} (C : Cl gx d (aM gx (e + 3)) M Qr Qx J) {pc ix : Nat} {ls : List (Option AV)} {st : List AV} {c s : Nat} {i : Int} (hd : decode M.2.1 pc = .ok (.invokevirtual ix, 3)) (si : cV M.1.cls ix mAL_get 1) (R : Rp gx x A u m g h)  (i0 : 0 ≤ i) (i1 : i < g 22 0) (hst : st.length ≤ 4) (kk : J (pc + 3) ls (vr (A 6 i) :: st) h c s) : J pc ls (vi i :: vr (A 8 2) :: st) h c s :=
  r_callV C (As := [vi i]) hd si (fun v hv => by rw [List.mem_singleton.mp hv]; rfl) (ci := 0) (by decide) rfl R.xx.2.2.2.2.2.1.1 R.xx.2.2.2.2.2.1.2 hst (Nat.zero_le _) (Nat.zero_le _) (C_AL_get R.xx.2.2.2.2.2 i0 i1 kk)
theorem c_szR {e : Nat} (C : Cl gx d (aM gx (e + 1)) M Qr Qx J) {pc ix : Nat} {ls : List (Option AV)} {st : List AV} {c s : Nat} {f : Int} (hd : decode M.2.1 pc = .ok (.invokevirtual ix, 3)) (si : cV M.1.cls ix mAL_size 0) (R : Rp gx x A u m g h) (h0 : 0 ≤ f) (h1 : f < g 22 0) (hst : st.length ≤ 4) (kk : J (pc + 3) ls (vi (u 5 f) :: st) h c s) : J pc ls (vr (A 7 f) :: st) h c s :=
  r_callV C (As := []) hd si (fun v hv => by cases hv) (ci := 0) (by decide) rfl (R.f h0 h1).2.2.2.1.1 (R.f h0 h1).2.2.2.1.2 hst (Nat.zero_le _) (Nat.zero_le _) (C_AL_size (R.f h0 h1).2.2.2 kk)
theorem c_gtR {e : Nat} (C : Cl gx d (aM gx (e + 3)) M Qr Qx J) {pc ix : Nat} {ls : List (Option AV)} {st : List AV} {c s : Nat} {f i : Int} (hd : decode M.2.1 pc = .ok (.invokevirtual ix, 3)) (si : cV M.1.cls ix mAL_get 1) (R : Rp gx x A u m g h) (h0 : 0 ≤ f) (h1 : f < g 22 0) (i0 : 0 ≤ i) (i1 : i < u 5 f) (hst : st.length ≤ 4) (kk : J (pc + 3) ls (vr (A 4 (g 26 (6 * f + i))) :: st) h c s) : J pc ls (vi i :: vr (A 7 f) :: st) h c s :=
  r_callV C (As := [vi i]) hd si (fun v hv => by rw [List.mem_singleton.mp hv]; rfl) (ci := 0) (by decide) rfl (R.f h0 h1).2.2.2.1.1 (R.f h0 h1).2.2.2.1.2 hst (Nat.zero_le _) (Nat.zero_le _) (C_AL_get (R.f h0 h1).2.2.2 i0 i1 kk)
theorem c_castN (C : Cl gx d call M Qr Qx J) {pc ix : Nat} {ls : List (Option AV)} {st : List AV} {c s : Nat} {n : Int} (hd : decode M.2.1 pc = .ok (.checkcast ix, 3)) (hc : Cond.classLink M.1.cls ix (cNm 3) ∈ tb) (R : Rp gx x A u m g h) (h0 : 0 ≤ n) (h1 : n < g 4 0) (kk : J (pc + 3) ls (vr (A 0 n) :: st) h c s) : J pc ls (vr (A 0 n) :: st) h c s :=
  r_cast C hd (by decide) hc (R.n h0 h1).1.1 (R.n h0 h1).1.2 kk
theorem c_castQ (C : Cl gx d call M Qr Qx J) {pc ix : Nat} {ls : List (Option AV)} {st : List AV} {c s : Nat} {p : Int} (hd : decode M.2.1 pc = .ok (.checkcast ix, 3)) (hc : Cond.classLink M.1.cls ix (cNm 4) ∈ tb) (R : Rp gx x A u m g h) (h0 : 0 ≤ p) (h1 : p < g 11 0) (kk : J (pc + 3) ls (vr (A 4 p) :: st) h c s) : J pc ls (vr (A 4 p) :: st) h c s :=
  r_cast C hd (by decide) hc (R.q h0 h1).1.1 (R.q h0 h1).1.2 kk
theorem c_castF (C : Cl gx d call M Qr Qx J) {pc ix : Nat} {ls : List (Option AV)} {st : List AV} {c s : Nat} {f : Int} (hd : decode M.2.1 pc = .ok (.checkcast ix, 3)) (hc : Cond.classLink M.1.cls ix (cNm 2) ∈ tb) (R : Rp gx x A u m g h) (h0 : 0 ≤ f) (h1 : f < g 22 0) (kk : J (pc + 3) ls (vr (A 6 f) :: st) h c s) : J pc ls (vr (A 6 f) :: st) h c s :=
  r_cast C hd (by decide) hc (R.f h0 h1).1.1 (R.f h0 h1).1.2 kk
theorem c_VX0 (C : Cl gx d call M Qr Qx J) {pc ix : Nat} {ls : List (Option AV)} {st : List AV} {c s : Nat} {N : MI}  (hd : decode M.2.1 pc = .ok (.invokevirtual ix, 3)) (si : cV M.1.cls ix N 0) (hn : cNm 5 = N.1.cls) (R : Rp gx x A u m g h)   (hst : st.length ≤ 4) (c1 s1 : Nat) (hc : c1 ≤ c) (hs : s1 ≤ s) (kk : call N [vr x] h c1 s1 (aft J pc ls st (c - c1) (s - s1)) (cat0 M Qx J pc ls (c - c1) (s - s1))) : J pc ls (vr x :: st) h c s :=
  r_callV C (As := []) hd si (fun v hv => by cases hv) (ci := 5) (by decide) hn R.xx.1.1 R.xx.1.2 hst hc hs kk
theorem c_VN0 (C : Cl gx d call M Qr Qx J) {pc ix : Nat} {ls : List (Option AV)} {st : List AV} {c s : Nat} {N : MI} {n : Int} (hd : decode M.2.1 pc = .ok (.invokevirtual ix, 3)) (si : cV M.1.cls ix N 0) (hn : cNm 3 = N.1.cls) (R : Rp gx x A u m g h) (h0 : 0 ≤ n) (h1 : n < g 4 0)  (hst : st.length ≤ 4) (c1 s1 : Nat) (hc : c1 ≤ c) (hs : s1 ≤ s) (kk : call N [vr (A 0 n)] h c1 s1 (aft J pc ls st (c - c1) (s - s1)) (cat0 M Qx J pc ls (c - c1) (s - s1))) : J pc ls (vr (A 0 n) :: st) h c s :=
  r_callV C (As := []) hd si (fun v hv => by cases hv) (ci := 3) (by decide) hn (R.n h0 h1).1.1 (R.n h0 h1).1.2 hst hc hs kk
theorem c_VQ0 (C : Cl gx d call M Qr Qx J) {pc ix : Nat} {ls : List (Option AV)} {st : List AV} {c s : Nat} {N : MI} {p : Int} (hd : decode M.2.1 pc = .ok (.invokevirtual ix, 3)) (si : cV M.1.cls ix N 0) (hn : cNm 4 = N.1.cls) (R : Rp gx x A u m g h) (h0 : 0 ≤ p) (h1 : p < g 11 0)  (hst : st.length ≤ 4) (c1 s1 : Nat) (hc : c1 ≤ c) (hs : s1 ≤ s) (kk : call N [vr (A 4 p)] h c1 s1 (aft J pc ls st (c - c1) (s - s1)) (cat0 M Qx J pc ls (c - c1) (s - s1))) : J pc ls (vr (A 4 p) :: st) h c s :=
  r_callV C (As := []) hd si (fun v hv => by cases hv) (ci := 4) (by decide) hn (R.q h0 h1).1.1 (R.q h0 h1).1.2 hst hc hs kk
theorem c_VF0 (C : Cl gx d call M Qr Qx J) {pc ix : Nat} {ls : List (Option AV)} {st : List AV} {c s : Nat} {N : MI} {f : Int} (hd : decode M.2.1 pc = .ok (.invokevirtual ix, 3)) (si : cV M.1.cls ix N 0) (hn : cNm 2 = N.1.cls) (R : Rp gx x A u m g h) (h0 : 0 ≤ f) (h1 : f < g 22 0)  (hst : st.length ≤ 4) (c1 s1 : Nat) (hc : c1 ≤ c) (hs : s1 ≤ s) (kk : call N [vr (A 6 f)] h c1 s1 (aft J pc ls st (c - c1) (s - s1)) (cat0 M Qx J pc ls (c - c1) (s - s1))) : J pc ls (vr (A 6 f) :: st) h c s :=
  r_callV C (As := []) hd si (fun v hv => by cases hv) (ci := 2) (by decide) hn (R.f h0 h1).1.1 (R.f h0 h1).1.2 hst hc hs kk
theorem c_VS0 (C : Cl gx d call M Qr Qx J) {pc ix : Nat} {ls : List (Option AV)} {st : List AV} {c s : Nat} {N : MI} {n i : Int} (hd : decode M.2.1 pc = .ok (.invokevirtual ix, 3)) (si : cV M.1.cls ix N 0) (hn : cNm 1 = N.1.cls) (R : Rp gx x A u m g h) (h0 : 0 ≤ n) (h1 : n < g 4 0) (h2 : 0 ≤ i) (h3 : i < g 6 n)  (hst : st.length ≤ 4) (c1 s1 : Nat) (hc : c1 ≤ c) (hs : s1 ≤ s) (kk : call N [vr (A 2 (12 * n + i))] h c1 s1 (aft J pc ls st (c - c1) (s - s1)) (cat0 M Qx J pc ls (c - c1) (s - s1))) : J pc ls (vr (A 2 (12 * n + i)) :: st) h c s :=
  r_callV C (As := []) hd si (fun v hv => by cases hv) (ci := 1) (by decide) hn (R.s h0 h1 h2 h3).2.1.1 (R.s h0 h1 h2 h3).2.1.2 hst hc hs kk
theorem c_S1 (C : Cl gx d call M Qr Qx J) {pc ix : Nat} {ls : List (Option AV)} {st : List AV} {c s : Nat} {N : MI} {v1 : AV} (hd : decode M.2.1 pc = .ok (.invokestatic ix, 3)) (si : cS M.1.cls ix N 1) (q1 : catV v1 = 1) (hst : st.length ≤ 4) (c1 s1 : Nat) (hc : c1 ≤ c) (hs : s1 ≤ s) (kk : call N [v1] h c1 s1 (aft J pc ls st (c - c1) (s - s1)) (cat0 M Qx J pc ls (c - c1) (s - s1))) : J pc ls (v1 :: st) h c s :=
  r_callS C (As := [v1]) hd si (fun v hv => by rw [List.mem_singleton.mp hv]; exact q1) hst hc hs kk
theorem c_VX1 (C : Cl gx d call M Qr Qx J) {pc ix : Nat} {ls : List (Option AV)} {st : List AV} {c s : Nat} {N : MI}  {v1 : AV} (hd : decode M.2.1 pc = .ok (.invokevirtual ix, 3)) (si : cV M.1.cls ix N 1) (hn : cNm 5 = N.1.cls) (R : Rp gx x A u m g h)  (q1 : catV v1 = 1) (hst : st.length ≤ 4) (c1 s1 : Nat) (hc : c1 ≤ c) (hs : s1 ≤ s) (kk : call N [vr x, v1] h c1 s1 (aft J pc ls st (c - c1) (s - s1)) (cat0 M Qx J pc ls (c - c1) (s - s1))) : J pc ls (v1 :: vr x :: st) h c s :=
  r_callV C (As := [v1]) hd si (fun v hv => by rw [List.mem_singleton.mp hv]; exact q1) (ci := 5) (by decide) hn R.xx.1.1 R.xx.1.2 hst hc hs kk
theorem c_VN1 (C : Cl gx d call M Qr Qx J) {pc ix : Nat} {ls : List (Option AV)} {st : List AV} {c s : Nat} {N : MI} {n : Int} {v1 : AV} (hd : decode M.2.1 pc = .ok (.invokevirtual ix, 3)) (si : cV M.1.cls ix N 1) (hn : cNm 3 = N.1.cls) (R : Rp gx x A u m g h) (h0 : 0 ≤ n) (h1 : n < g 4 0) (q1 : catV v1 = 1) (hst : st.length ≤ 4) (c1 s1 : Nat) (hc : c1 ≤ c) (hs : s1 ≤ s) (kk : call N [vr (A 0 n), v1] h c1 s1 (aft J pc ls st (c - c1) (s - s1)) (cat0 M Qx J pc ls (c - c1) (s - s1))) : J pc ls (v1 :: vr (A 0 n) :: st) h c s :=
  r_callV C (As := [v1]) hd si (fun v hv => by rw [List.mem_singleton.mp hv]; exact q1) (ci := 3) (by decide) hn (R.n h0 h1).1.1 (R.n h0 h1).1.2 hst hc hs kk
theorem c_VQ1 (C : Cl gx d call M Qr Qx J) {pc ix : Nat} {ls : List (Option AV)} {st : List AV} {c s : Nat} {N : MI} {p : Int} {v1 : AV} (hd : decode M.2.1 pc = .ok (.invokevirtual ix, 3)) (si : cV M.1.cls ix N 1) (hn : cNm 4 = N.1.cls) (R : Rp gx x A u m g h) (h0 : 0 ≤ p) (h1 : p < g 11 0) (q1 : catV v1 = 1) (hst : st.length ≤ 4) (c1 s1 : Nat) (hc : c1 ≤ c) (hs : s1 ≤ s) (kk : call N [vr (A 4 p), v1] h c1 s1 (aft J pc ls st (c - c1) (s - s1)) (cat0 M Qx J pc ls (c - c1) (s - s1))) : J pc ls (v1 :: vr (A 4 p) :: st) h c s :=
  r_callV C (As := [v1]) hd si (fun v hv => by rw [List.mem_singleton.mp hv]; exact q1) (ci := 4) (by decide) hn (R.q h0 h1).1.1 (R.q h0 h1).1.2 hst hc hs kk
theorem c_VF1 (C : Cl gx d call M Qr Qx J) {pc ix : Nat} {ls : List (Option AV)} {st : List AV} {c s : Nat} {N : MI} {f : Int} {v1 : AV} (hd : decode M.2.1 pc = .ok (.invokevirtual ix, 3)) (si : cV M.1.cls ix N 1) (hn : cNm 2 = N.1.cls) (R : Rp gx x A u m g h) (h0 : 0 ≤ f) (h1 : f < g 22 0) (q1 : catV v1 = 1) (hst : st.length ≤ 4) (c1 s1 : Nat) (hc : c1 ≤ c) (hs : s1 ≤ s) (kk : call N [vr (A 6 f), v1] h c1 s1 (aft J pc ls st (c - c1) (s - s1)) (cat0 M Qx J pc ls (c - c1) (s - s1))) : J pc ls (v1 :: vr (A 6 f) :: st) h c s :=
  r_callV C (As := [v1]) hd si (fun v hv => by rw [List.mem_singleton.mp hv]; exact q1) (ci := 2) (by decide) hn (R.f h0 h1).1.1 (R.f h0 h1).1.2 hst hc hs kk
theorem c_VS1 (C : Cl gx d call M Qr Qx J) {pc ix : Nat} {ls : List (Option AV)} {st : List AV} {c s : Nat} {N : MI} {n i : Int} {v1 : AV} (hd : decode M.2.1 pc = .ok (.invokevirtual ix, 3)) (si : cV M.1.cls ix N 1) (hn : cNm 1 = N.1.cls) (R : Rp gx x A u m g h) (h0 : 0 ≤ n) (h1 : n < g 4 0) (h2 : 0 ≤ i) (h3 : i < g 6 n) (q1 : catV v1 = 1) (hst : st.length ≤ 4) (c1 s1 : Nat) (hc : c1 ≤ c) (hs : s1 ≤ s) (kk : call N [vr (A 2 (12 * n + i)), v1] h c1 s1 (aft J pc ls st (c - c1) (s - s1)) (cat0 M Qx J pc ls (c - c1) (s - s1))) : J pc ls (v1 :: vr (A 2 (12 * n + i)) :: st) h c s :=
  r_callV C (As := [v1]) hd si (fun v hv => by rw [List.mem_singleton.mp hv]; exact q1) (ci := 1) (by decide) hn (R.s h0 h1 h2 h3).2.1.1 (R.s h0 h1 h2 h3).2.1.2 hst hc hs kk
theorem c_S2 (C : Cl gx d call M Qr Qx J) {pc ix : Nat} {ls : List (Option AV)} {st : List AV} {c s : Nat} {N : MI} {v1 v2 : AV} (hd : decode M.2.1 pc = .ok (.invokestatic ix, 3)) (si : cS M.1.cls ix N 2) (q1 : catV v1 = 1) (q2 : catV v2 = 1) (hst : st.length ≤ 4) (c1 s1 : Nat) (hc : c1 ≤ c) (hs : s1 ≤ s) (kk : call N [v1, v2] h c1 s1 (aft J pc ls st (c - c1) (s - s1)) (cat0 M Qx J pc ls (c - c1) (s - s1))) : J pc ls (v2 :: v1 :: st) h c s :=
  r_callS C (As := [v1, v2]) hd si (fun v hv => by simp only [List.mem_cons, List.mem_nil_iff, or_false] at hv; rcases hv with hv | hv <;> subst hv <;> assumption) hst hc hs kk
theorem c_VX2 (C : Cl gx d call M Qr Qx J) {pc ix : Nat} {ls : List (Option AV)} {st : List AV} {c s : Nat} {N : MI}  {v1 v2 : AV} (hd : decode M.2.1 pc = .ok (.invokevirtual ix, 3)) (si : cV M.1.cls ix N 2) (hn : cNm 5 = N.1.cls) (R : Rp gx x A u m g h)  (q1 : catV v1 = 1) (q2 : catV v2 = 1) (hst : st.length ≤ 4) (c1 s1 : Nat) (hc : c1 ≤ c) (hs : s1 ≤ s) (kk : call N [vr x, v1, v2] h c1 s1 (aft J pc ls st (c - c1) (s - s1)) (cat0 M Qx J pc ls (c - c1) (s - s1))) : J pc ls (v2 :: v1 :: vr x :: st) h c s :=
  r_callV C (As := [v1, v2]) hd si (fun v hv => by simp only [List.mem_cons, List.mem_nil_iff, or_false] at hv; rcases hv with hv | hv <;> subst hv <;> assumption) (ci := 5) (by decide) hn R.xx.1.1 R.xx.1.2 hst hc hs kk
theorem c_VN2 (C : Cl gx d call M Qr Qx J) {pc ix : Nat} {ls : List (Option AV)} {st : List AV} {c s : Nat} {N : MI} {n : Int} {v1 v2 : AV} (hd : decode M.2.1 pc = .ok (.invokevirtual ix, 3)) (si : cV M.1.cls ix N 2) (hn : cNm 3 = N.1.cls) (R : Rp gx x A u m g h) (h0 : 0 ≤ n) (h1 : n < g 4 0) (q1 : catV v1 = 1) (q2 : catV v2 = 1) (hst : st.length ≤ 4) (c1 s1 : Nat) (hc : c1 ≤ c) (hs : s1 ≤ s) (kk : call N [vr (A 0 n), v1, v2] h c1 s1 (aft J pc ls st (c - c1) (s - s1)) (cat0 M Qx J pc ls (c - c1) (s - s1))) : J pc ls (v2 :: v1 :: vr (A 0 n) :: st) h c s :=
  r_callV C (As := [v1, v2]) hd si (fun v hv => by simp only [List.mem_cons, List.mem_nil_iff, or_false] at hv; rcases hv with hv | hv <;> subst hv <;> assumption) (ci := 3) (by decide) hn (R.n h0 h1).1.1 (R.n h0 h1).1.2 hst hc hs kk
theorem c_VQ2 (C : Cl gx d call M Qr Qx J) {pc ix : Nat} {ls : List (Option AV)} {st : List AV} {c s : Nat} {N : MI} {p : Int} {v1 v2 : AV} (hd : decode M.2.1 pc = .ok (.invokevirtual ix, 3)) (si : cV M.1.cls ix N 2) (hn : cNm 4 = N.1.cls) (R : Rp gx x A u m g h) (h0 : 0 ≤ p) (h1 : p < g 11 0) (q1 : catV v1 = 1) (q2 : catV v2 = 1) (hst : st.length ≤ 4) (c1 s1 : Nat) (hc : c1 ≤ c) (hs : s1 ≤ s) (kk : call N [vr (A 4 p), v1, v2] h c1 s1 (aft J pc ls st (c - c1) (s - s1)) (cat0 M Qx J pc ls (c - c1) (s - s1))) : J pc ls (v2 :: v1 :: vr (A 4 p) :: st) h c s :=
  r_callV C (As := [v1, v2]) hd si (fun v hv => by simp only [List.mem_cons, List.mem_nil_iff, or_false] at hv; rcases hv with hv | hv <;> subst hv <;> assumption) (ci := 4) (by decide) hn (R.q h0 h1).1.1 (R.q h0 h1).1.2 hst hc hs kk
theorem c_VF2 (C : Cl gx d call M Qr Qx J) {pc ix : Nat} {ls : List (Option AV)} {st : List AV} {c s : Nat} {N : MI} {f : Int} {v1 v2 : AV} (hd : decode M.2.1 pc = .ok (.invokevirtual ix, 3)) (si : cV M.1.cls ix N 2) (hn : cNm 2 = N.1.cls) (R : Rp gx x A u m g h) (h0 : 0 ≤ f) (h1 : f < g 22 0) (q1 : catV v1 = 1) (q2 : catV v2 = 1) (hst : st.length ≤ 4) (c1 s1 : Nat) (hc : c1 ≤ c) (hs : s1 ≤ s) (kk : call N [vr (A 6 f), v1, v2] h c1 s1 (aft J pc ls st (c - c1) (s - s1)) (cat0 M Qx J pc ls (c - c1) (s - s1))) : J pc ls (v2 :: v1 :: vr (A 6 f) :: st) h c s :=
  r_callV C (As := [v1, v2]) hd si (fun v hv => by simp only [List.mem_cons, List.mem_nil_iff, or_false] at hv; rcases hv with hv | hv <;> subst hv <;> assumption) (ci := 2) (by decide) hn (R.f h0 h1).1.1 (R.f h0 h1).1.2 hst hc hs kk
theorem c_VS2 (C : Cl gx d call M Qr Qx J) {pc ix : Nat} {ls : List (Option AV)} {st : List AV} {c s : Nat} {N : MI} {n i : Int} {v1 v2 : AV} (hd : decode M.2.1 pc = .ok (.invokevirtual ix, 3)) (si : cV M.1.cls ix N 2) (hn : cNm 1 = N.1.cls) (R : Rp gx x A u m g h) (h0 : 0 ≤ n) (h1 : n < g 4 0) (h2 : 0 ≤ i) (h3 : i < g 6 n) (q1 : catV v1 = 1) (q2 : catV v2 = 1) (hst : st.length ≤ 4) (c1 s1 : Nat) (hc : c1 ≤ c) (hs : s1 ≤ s) (kk : call N [vr (A 2 (12 * n + i)), v1, v2] h c1 s1 (aft J pc ls st (c - c1) (s - s1)) (cat0 M Qx J pc ls (c - c1) (s - s1))) : J pc ls (v2 :: v1 :: vr (A 2 (12 * n + i)) :: st) h c s :=
  r_callV C (As := [v1, v2]) hd si (fun v hv => by simp only [List.mem_cons, List.mem_nil_iff, or_false] at hv; rcases hv with hv | hv <;> subst hv <;> assumption) (ci := 1) (by decide) hn (R.s h0 h1 h2 h3).2.1.1 (R.s h0 h1 h2 h3).2.1.2 hst hc hs kk
theorem c_S3 (C : Cl gx d call M Qr Qx J) {pc ix : Nat} {ls : List (Option AV)} {st : List AV} {c s : Nat} {N : MI} {v1 v2 v3 : AV} (hd : decode M.2.1 pc = .ok (.invokestatic ix, 3)) (si : cS M.1.cls ix N 3) (q1 : catV v1 = 1) (q2 : catV v2 = 1) (q3 : catV v3 = 1) (hst : st.length ≤ 4) (c1 s1 : Nat) (hc : c1 ≤ c) (hs : s1 ≤ s) (kk : call N [v1, v2, v3] h c1 s1 (aft J pc ls st (c - c1) (s - s1)) (cat0 M Qx J pc ls (c - c1) (s - s1))) : J pc ls (v3 :: v2 :: v1 :: st) h c s :=
  r_callS C (As := [v1, v2, v3]) hd si (fun v hv => by simp only [List.mem_cons, List.mem_nil_iff, or_false] at hv; rcases hv with hv | hv | hv <;> subst hv <;> assumption) hst hc hs kk
theorem c_VX3 (C : Cl gx d call M Qr Qx J) {pc ix : Nat} {ls : List (Option AV)} {st : List AV} {c s : Nat} {N : MI}  {v1 v2 v3 : AV} (hd : decode M.2.1 pc = .ok (.invokevirtual ix, 3)) (si : cV M.1.cls ix N 3) (hn : cNm 5 = N.1.cls) (R : Rp gx x A u m g h)  (q1 : catV v1 = 1) (q2 : catV v2 = 1) (q3 : catV v3 = 1) (hst : st.length ≤ 4) (c1 s1 : Nat) (hc : c1 ≤ c) (hs : s1 ≤ s) (kk : call N [vr x, v1, v2, v3] h c1 s1 (aft J pc ls st (c - c1) (s - s1)) (cat0 M Qx J pc ls (c - c1) (s - s1))) : J pc ls (v3 :: v2 :: v1 :: vr x :: st) h c s :=
  r_callV C (As := [v1, v2, v3]) hd si (fun v hv => by simp only [List.mem_cons, List.mem_nil_iff, or_false] at hv; rcases hv with hv | hv | hv <;> subst hv <;> assumption) (ci := 5) (by decide) hn R.xx.1.1 R.xx.1.2 hst hc hs kk
theorem c_VN3 (C : Cl gx d call M Qr Qx J) {pc ix : Nat} {ls : List (Option AV)} {st : List AV} {c s : Nat} {N : MI} {n : Int} {v1 v2 v3 : AV} (hd : decode M.2.1 pc = .ok (.invokevirtual ix, 3)) (si : cV M.1.cls ix N 3) (hn : cNm 3 = N.1.cls) (R : Rp gx x A u m g h) (h0 : 0 ≤ n) (h1 : n < g 4 0) (q1 : catV v1 = 1) (q2 : catV v2 = 1) (q3 : catV v3 = 1) (hst : st.length ≤ 4) (c1 s1 : Nat) (hc : c1 ≤ c) (hs : s1 ≤ s) (kk : call N [vr (A 0 n), v1, v2, v3] h c1 s1 (aft J pc ls st (c - c1) (s - s1)) (cat0 M Qx J pc ls (c - c1) (s - s1))) : J pc ls (v3 :: v2 :: v1 :: vr (A 0 n) :: st) h c s :=
  r_callV C (As := [v1, v2, v3]) hd si (fun v hv => by simp only [List.mem_cons, List.mem_nil_iff, or_false] at hv; rcases hv with hv | hv | hv <;> subst hv <;> assumption) (ci := 3) (by decide) hn (R.n h0 h1).1.1 (R.n h0 h1).1.2 hst hc hs kk
theorem c_VQ3 (C : Cl gx d call M Qr Qx J) {pc ix : Nat} {ls : List (Option AV)} {st : List AV} {c s : Nat} {N : MI} {p : Int} {v1 v2 v3 : AV} (hd : decode M.2.1 pc = .ok (.invokevirtual ix, 3)) (si : cV M.1.cls ix N 3) (hn : cNm 4 = N.1.cls) (R : Rp gx x A u m g h) (h0 : 0 ≤ p) (h1 : p < g 11 0) (q1 : catV v1 = 1) (q2 : catV v2 = 1) (q3 : catV v3 = 1) (hst : st.length ≤ 4) (c1 s1 : Nat) (hc : c1 ≤ c) (hs : s1 ≤ s) (kk : call N [vr (A 4 p), v1, v2, v3] h c1 s1 (aft J pc ls st (c - c1) (s - s1)) (cat0 M Qx J pc ls (c - c1) (s - s1))) : J pc ls (v3 :: v2 :: v1 :: vr (A 4 p) :: st) h c s :=
  r_callV C (As := [v1, v2, v3]) hd si (fun v hv => by simp only [List.mem_cons, List.mem_nil_iff, or_false] at hv; rcases hv with hv | hv | hv <;> subst hv <;> assumption) (ci := 4) (by decide) hn (R.q h0 h1).1.1 (R.q h0 h1).1.2 hst hc hs kk
theorem c_VF3 (C : Cl gx d call M Qr Qx J) {pc ix : Nat} {ls : List (Option AV)} {st : List AV} {c s : Nat} {N : MI} {f : Int} {v1 v2 v3 : AV} (hd : decode M.2.1 pc = .ok (.invokevirtual ix, 3)) (si : cV M.1.cls ix N 3) (hn : cNm 2 = N.1.cls) (R : Rp gx x A u m g h) (h0 : 0 ≤ f) (h1 : f < g 22 0) (q1 : catV v1 = 1) (q2 : catV v2 = 1) (q3 : catV v3 = 1) (hst : st.length ≤ 4) (c1 s1 : Nat) (hc : c1 ≤ c) (hs : s1 ≤ s) (kk : call N [vr (A 6 f), v1, v2, v3] h c1 s1 (aft J pc ls st (c - c1) (s - s1)) (cat0 M Qx J pc ls (c - c1) (s - s1))) : J pc ls (v3 :: v2 :: v1 :: vr (A 6 f) :: st) h c s :=
  r_callV C (As := [v1, v2, v3]) hd si (fun v hv => by simp only [List.mem_cons, List.mem_nil_iff, or_false] at hv; rcases hv with hv | hv | hv <;> subst hv <;> assumption) (ci := 2) (by decide) hn (R.f h0 h1).1.1 (R.f h0 h1).1.2 hst hc hs kk
theorem c_VS3 (C : Cl gx d call M Qr Qx J) {pc ix : Nat} {ls : List (Option AV)} {st : List AV} {c s : Nat} {N : MI} {n i : Int} {v1 v2 v3 : AV} (hd : decode M.2.1 pc = .ok (.invokevirtual ix, 3)) (si : cV M.1.cls ix N 3) (hn : cNm 1 = N.1.cls) (R : Rp gx x A u m g h) (h0 : 0 ≤ n) (h1 : n < g 4 0) (h2 : 0 ≤ i) (h3 : i < g 6 n) (q1 : catV v1 = 1) (q2 : catV v2 = 1) (q3 : catV v3 = 1) (hst : st.length ≤ 4) (c1 s1 : Nat) (hc : c1 ≤ c) (hs : s1 ≤ s) (kk : call N [vr (A 2 (12 * n + i)), v1, v2, v3] h c1 s1 (aft J pc ls st (c - c1) (s - s1)) (cat0 M Qx J pc ls (c - c1) (s - s1))) : J pc ls (v3 :: v2 :: v1 :: vr (A 2 (12 * n + i)) :: st) h c s :=
  r_callV C (As := [v1, v2, v3]) hd si (fun v hv => by simp only [List.mem_cons, List.mem_nil_iff, or_false] at hv; rcases hv with hv | hv | hv <;> subst hv <;> assumption) (ci := 1) (by decide) hn (R.s h0 h1 h2 h3).2.1.1 (R.s h0 h1 h2 h3).2.1.2 hst hc hs kk
theorem c_S4 (C : Cl gx d call M Qr Qx J) {pc ix : Nat} {ls : List (Option AV)} {st : List AV} {c s : Nat} {N : MI} {v1 v2 v3 v4 : AV} (hd : decode M.2.1 pc = .ok (.invokestatic ix, 3)) (si : cS M.1.cls ix N 4) (q1 : catV v1 = 1) (q2 : catV v2 = 1) (q3 : catV v3 = 1) (q4 : catV v4 = 1) (hst : st.length ≤ 4) (c1 s1 : Nat) (hc : c1 ≤ c) (hs : s1 ≤ s) (kk : call N [v1, v2, v3, v4] h c1 s1 (aft J pc ls st (c - c1) (s - s1)) (cat0 M Qx J pc ls (c - c1) (s - s1))) : J pc ls (v4 :: v3 :: v2 :: v1 :: st) h c s :=
  r_callS C (As := [v1, v2, v3, v4]) hd si (fun v hv => by simp only [List.mem_cons, List.mem_nil_iff, or_false] at hv; rcases hv with hv | hv | hv | hv <;> subst hv <;> assumption) hst hc hs kk
theorem c_VX4 (C : Cl gx d call M Qr Qx J) {pc ix : Nat} {ls : List (Option AV)} {st : List AV} {c s : Nat} {N : MI}  {v1 v2 v3 v4 : AV} (hd : decode M.2.1 pc = .ok (.invokevirtual ix, 3)) (si : cV M.1.cls ix N 4) (hn : cNm 5 = N.1.cls) (R : Rp gx x A u m g h)  (q1 : catV v1 = 1) (q2 : catV v2 = 1) (q3 : catV v3 = 1) (q4 : catV v4 = 1) (hst : st.length ≤ 4) (c1 s1 : Nat) (hc : c1 ≤ c) (hs : s1 ≤ s) (kk : call N [vr x, v1, v2, v3, v4] h c1 s1 (aft J pc ls st (c - c1) (s - s1)) (cat0 M Qx J pc ls (c - c1) (s - s1))) : J pc ls (v4 :: v3 :: v2 :: v1 :: vr x :: st) h c s :=
  r_callV C (As := [v1, v2, v3, v4]) hd si (fun v hv => by simp only [List.mem_cons, List.mem_nil_iff, or_false] at hv; rcases hv with hv | hv | hv | hv <;> subst hv <;> assumption) (ci := 5) (by decide) hn R.xx.1.1 R.xx.1.2 hst hc hs kk
theorem c_VN4 (C : Cl gx d call M Qr Qx J) {pc ix : Nat} {ls : List (Option AV)} {st : List AV} {c s : Nat} {N : MI} {n : Int} {v1 v2 v3 v4 : AV} (hd : decode M.2.1 pc = .ok (.invokevirtual ix, 3)) (si : cV M.1.cls ix N 4) (hn : cNm 3 = N.1.cls) (R : Rp gx x A u m g h) (h0 : 0 ≤ n) (h1 : n < g 4 0) (q1 : catV v1 = 1) (q2 : catV v2 = 1) (q3 : catV v3 = 1) (q4 : catV v4 = 1) (hst : st.length ≤ 4) (c1 s1 : Nat) (hc : c1 ≤ c) (hs : s1 ≤ s) (kk : call N [vr (A 0 n), v1, v2, v3, v4] h c1 s1 (aft J pc ls st (c - c1) (s - s1)) (cat0 M Qx J pc ls (c - c1) (s - s1))) : J pc ls (v4 :: v3 :: v2 :: v1 :: vr (A 0 n) :: st) h c s :=
  r_callV C (As := [v1, v2, v3, v4]) hd si (fun v hv => by simp only [List.mem_cons, List.mem_nil_iff, or_false] at hv; rcases hv with hv | hv | hv | hv <;> subst hv <;> assumption) (ci := 3) (by decide) hn (R.n h0 h1).1.1 (R.n h0 h1).1.2 hst hc hs kk
theorem c_VQ4 (C : Cl gx d call M Qr Qx J) {pc ix : Nat} {ls : List (Option AV)} {st : List AV} {c s : Nat} {N : MI} {p : Int} {v1 v2 v3 v4 : AV} (hd : decode M.2.1 pc = .ok (.invokevirtual ix, 3)) (si : cV M.1.cls ix N 4) (hn : cNm 4 = N.1.cls) (R : Rp gx x A u m g h) (h0 : 0 ≤ p) (h1 : p < g 11 0) (q1 : catV v1 = 1) (q2 : catV v2 = 1) (q3 : catV v3 = 1) (q4 : catV v4 = 1) (hst : st.length ≤ 4) (c1 s1 : Nat) (hc : c1 ≤ c) (hs : s1 ≤ s) (kk : call N [vr (A 4 p), v1, v2, v3, v4] h c1 s1 (aft J pc ls st (c - c1) (s - s1)) (cat0 M Qx J pc ls (c - c1) (s - s1))) : J pc ls (v4 :: v3 :: v2 :: v1 :: vr (A 4 p) :: st) h c s :=
  r_callV C (As := [v1, v2, v3, v4]) hd si (fun v hv => by simp only [List.mem_cons, List.mem_nil_iff, or_false] at hv; rcases hv with hv | hv | hv | hv <;> subst hv <;> assumption) (ci := 4) (by decide) hn (R.q h0 h1).1.1 (R.q h0 h1).1.2 hst hc hs kk
theorem c_VF4 (C : Cl gx d call M Qr Qx J) {pc ix : Nat} {ls : List (Option AV)} {st : List AV} {c s : Nat} {N : MI} {f : Int} {v1 v2 v3 v4 : AV} (hd : decode M.2.1 pc = .ok (.invokevirtual ix, 3)) (si : cV M.1.cls ix N 4) (hn : cNm 2 = N.1.cls) (R : Rp gx x A u m g h) (h0 : 0 ≤ f) (h1 : f < g 22 0) (q1 : catV v1 = 1) (q2 : catV v2 = 1) (q3 : catV v3 = 1) (q4 : catV v4 = 1) (hst : st.length ≤ 4) (c1 s1 : Nat) (hc : c1 ≤ c) (hs : s1 ≤ s) (kk : call N [vr (A 6 f), v1, v2, v3, v4] h c1 s1 (aft J pc ls st (c - c1) (s - s1)) (cat0 M Qx J pc ls (c - c1) (s - s1))) : J pc ls (v4 :: v3 :: v2 :: v1 :: vr (A 6 f) :: st) h c s :=
  r_callV C (As := [v1, v2, v3, v4]) hd si (fun v hv => by simp only [List.mem_cons, List.mem_nil_iff, or_false] at hv; rcases hv with hv | hv | hv | hv <;> subst hv <;> assumption) (ci := 2) (by decide) hn (R.f h0 h1).1.1 (R.f h0 h1).1.2 hst hc hs kk
theorem c_VS4 (C : Cl gx d call M Qr Qx J) {pc ix : Nat} {ls : List (Option AV)} {st : List AV} {c s : Nat} {N : MI} {n i : Int} {v1 v2 v3 v4 : AV} (hd : decode M.2.1 pc = .ok (.invokevirtual ix, 3)) (si : cV M.1.cls ix N 4) (hn : cNm 1 = N.1.cls) (R : Rp gx x A u m g h) (h0 : 0 ≤ n) (h1 : n < g 4 0) (h2 : 0 ≤ i) (h3 : i < g 6 n) (q1 : catV v1 = 1) (q2 : catV v2 = 1) (q3 : catV v3 = 1) (q4 : catV v4 = 1) (hst : st.length ≤ 4) (c1 s1 : Nat) (hc : c1 ≤ c) (hs : s1 ≤ s) (kk : call N [vr (A 2 (12 * n + i)), v1, v2, v3, v4] h c1 s1 (aft J pc ls st (c - c1) (s - s1)) (cat0 M Qx J pc ls (c - c1) (s - s1))) : J pc ls (v4 :: v3 :: v2 :: v1 :: vr (A 2 (12 * n + i)) :: st) h c s :=
  r_callV C (As := [v1, v2, v3, v4]) hd si (fun v hv => by simp only [List.mem_cons, List.mem_nil_iff, or_false] at hv; rcases hv with hv | hv | hv | hv <;> subst hv <;> assumption) (ci := 1) (by decide) hn (R.s h0 h1 h2 h3).2.1.1 (R.s h0 h1 h2 h3).2.1.2 hst hc hs kk
end CR0
