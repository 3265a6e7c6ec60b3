/-! ===== the law: calls ===== -/
def WD (gx : GX) (x q o : Nat) (ar : Nat → Nat) (t : Int) (g : GT) (H : Hp) : Prop := ∃ A u hc hm ho w, W3 hc hm ho H ∧ Rs gx x A u g hc ∧ RM q ar g hm ∧ OU o ho w ∧ XG t g
theorem xg_sm {t : Int} {g g' : GT} (X : XG t g) (h : ∀ k, k = 1 ∨ k = 2 ∨ k = 3 ∨ k = 4 ∨ k = 5 ∨ k = 8 ∨ k = 12 ∨ k = 22 ∨ k = 24 ∨ k = 25 ∨ k = 26 → ∀ j, g' k j = g k j) : XG t g' := by
  obtain ⟨rk, ro, x1, x2, x3, x8, x24, x12⟩ := X
  exact ⟨rk_c rk (h 4 (by omega) 0) (h 5 (by omega)), ro_c ro (fun k hk j => h k (by omega) j), by rw [h 1 (by omega)]; exact x1, by rw [h 2 (by omega)]; exact x2, by rw [h 3 (by omega)]; exact x3, fun j => by rw [h 8 (by omega)]; exact x8 j, fun j => by rw [h 24 (by omega)]; exact x24 j, fun j => by rw [h 12 (by omega)]; exact x12 j⟩
theorem bz_b (x : Int) : bz x = 0 ∨ bz x = 1 := by
  unfold bz
  split
  · exact Or.inl rfl
  · exact Or.inr rfl
theorem bz_r (x : Int) : inR (bz x) := by
  rcases bz_b x with e | e <;> rw [e] <;> exact ⟨by decide, by decide⟩
theorem op_end {gx : GX} {x : Nat} {A1 : Nat → Int → Nat} {u1 s g g1 g2 T : GT} {hc1 : Hp} {kk c : Int} (hs : s = up g 0 0 0) (ek : kk = c) (e1 : kk = 0 → g1 = T) (e1n : kk ≠ 0 → g1 = s) (e2 : c = 0 → g2 = T) (e2n : c ≠ 0 → g2 = up g 0 0 c) (hT : c = 0 → T 0 0 = 0) (Z1 : Rs gx x A1 u1 g1 hc1) (hc : 0 ≤ c ∧ c ≤ 3) : g2 0 0 = c ∧ Rs gx x A1 u1 g2 hc1 := by
  subst ek
  by_cases h : kk = 0
  · exact ⟨by rw [e2 h, hT h, h], by rw [e2 h, ← e1 h]; exact Z1⟩
  · refine ⟨by rw [e2n h, up_self], ?_⟩
    have y := Z1.up0 kk ⟨by omega, by omega⟩
    rw [e1n h, hs, up_up] at y
    rw [e2n h]
    exact y
theorem xg_end {t c : Int} {g g2 T : GT} (X : XG t g) (h : c = 0 → XG (t + 1) T) (e2 : c = 0 → g2 = T) (e2n : c ≠ 0 → g2 = up g 0 0 c) : XG (t + 1) g2 := by
  by_cases e : c = 0
  · rw [e2 e]; exact h e
  · rw [e2n e]; exact xg_up0 X c
theorem c1_0 {c : Int} {P : Prop} (h : C1 P c) (e : c = 0) : P := by rcases h with ⟨-, y⟩ | ⟨p, -⟩ <;> first | exact p | (exfalso; omega)
theorem c2_0 {c : Int} {P Q : Prop} (h : C2 P Q c) (e : c = 0) : P ∧ Q := by rcases h with ⟨-, y⟩ | ⟨-, -, y⟩ | ⟨p, q, -⟩ <;> first | exact ⟨p, q⟩ | (exfalso; omega)
theorem c3_0 {c : Int} {P Q S : Prop} (h : C3 P Q S c) (e : c = 0) : P ∧ Q ∧ S := by rcases h with ⟨-, y⟩ | ⟨-, -, y⟩ | ⟨-, -, -, y⟩ | ⟨p, q, r, -⟩ <;> first | exact ⟨p, q, r⟩ | (exfalso; omega)
theorem wa_0 (g : GT) (p c x : Int) {k : Nat} (h : k ≠ 19 ∧ k ≠ 20 ∧ k ≠ 21) (j : Int) : wa1 g p c x k j = g k j := by
  unfold wa1
  refine itrI_ind (P := fun s => ∀ j, s k j = g k j) (waF p c x) (fun _ => rfl) (fun i s _ _ S j => ?_) j
  unfold waF
  split
  · rw [wr_ne _ _ _ _ _ h]; exact S j
  · exact S j
theorem ww_0 (g : GT) (p c x y : Int) (j : Int) : wwG g p c x y 0 j = g 0 j := by
  unfold wwG
  split
  · unfold elG
    rw [up_ne (by decide), up_ne (by decide), wa_0 _ _ _ _ (by decide)]
  · rw [wa_0 _ _ _ _ (by decide)]
theorem rd_0 (g : GT) (f w j : Int) : rdG g f w 0 j = g 0 j := by
  have e1 : rd1 g f w 0 j = g 0 j := by
    unfold rd1
    split
    · rw [pt_e g f w (by decide), np_ne g (by decide)]
    · rfl
  unfold rdG
  split
  · exact e1
  · rw [ls_e _ _ (by decide)]; exact e1
theorem pu_0 {g g1 : GT} {f w c y z : Int} (h : puQ g f w c y z g1) : g1 0 0 = g 0 0 := by
  obtain ⟨u, p, eu, ep, bv, e⟩ := h
  rw [e, ww_0, eu, rd_0]
theorem ap_0 {g g1 : GT} {f y z : Int} (h : apQ g f y z g1) : g1 0 0 = g 0 0 := by
  obtain ⟨s, u, p, pl, c, b, es, epl, eu, ep, ec, bv, ez, e⟩ := h
  rw [e, ww_0, eu, rd_0, es]
  unfold ap1
  split
  · exact ad_ne f (by decide) 0
  · rfl
theorem ps_0 {g : GT} (I : IV1 g) {n : Int} (hn : 0 ≤ n) : psG g n 0 0 = g 0 0 := (ps_f I hn).2.1 0 (by omega) 0
theorem sn_0 (g : GT) (f : Int) : snG g f 0 0 = g 0 0 := by rw [sg_e g f (by decide), if_neg (by omega), if_neg (by omega)]
theorem rf_0 (g : GT) (p c r : Int) : rfG g p c r 0 0 = g 0 0 := by
  unfold rfG
  refine itrI_ind (P := fun s => s 0 0 = g 0 0) (reF p c r) rfl (fun i s _ _ S => ?_)
  unfold reF
  split
  · rw [dr_ne _ _ _ (by decide)]; exact S
  · exact S
/-- a number told as yes or no -/
theorem lw_bz {gx : GX} {d : Nat} {call : CT} {M : MI} {Qr : Option AV → Hp → Prop} {Qx : String → Hp → Prop} {J : JT} (C : Cl gx d call M Qr Qx J) {pc : Nat} {ls : List (Option AV)} {st : List AV} {h : Hp} {c s : Nat} {x : Int} (h1 : decode M.2.1 pc = .ok (.ifCond .eq 7, 3)) (h2 : decode M.2.1 (pc + 3) = .ok (.iconst 1, 1)) (h3 : decode M.2.1 (pc + 4) = .ok (.goto 4, 3)) (h4 : decode M.2.1 (pc + 7) = .ok (.iconst 0, 1)) (hx : inR x) (k : J (pc + 8) ls (vi (bz x) :: st) h c s) : J pc ls (vi x :: st) h c s := by
  refine r_if_eq C h1 (t := pc + 7) (by omega) hx (fun e => ?_) (fun e => ?_)
  · refine r_iconst C h4 ?_
    rw [show bz x = 0 from if_pos e] at k
    exact k
  · refine r_iconst C h2 ?_
    refine r_goto C h3 (t := pc + 8) (by omega) ?_
    rw [show bz x = 1 from if_neg e] at k
    exact k
theorem lw_bl {gx : GX} {d : Nat} {call : CT} {M : MI} {Qr : Option AV → Hp → Prop} {Qx : String → Hp → Prop} {J : JT} (C : Cl gx d call M Qr Qx J) {pc : Nat} {ls : List (Option AV)} {st : List AV} {h : Hp} {c s : Nat} {x : Int} (h1 : decode M.2.1 pc = .ok (.ifCond .eq 7, 3)) (h2 : decode M.2.1 (pc + 3) = .ok (.lconst 1, 1)) (h3 : decode M.2.1 (pc + 4) = .ok (.goto 4, 3)) (h4 : decode M.2.1 (pc + 7) = .ok (.lconst 0, 1)) (hx : inR x) (k : J (pc + 8) ls (vl (bz x) :: st) h c s) : J pc ls (vi x :: st) h c s := by
  refine r_if_eq C h1 (t := pc + 7) (by omega) hx (fun e => ?_) (fun e => ?_)
  · refine r_lconst C h4 ?_
    rw [show bz x = 0 from if_pos e] at k
    exact k
  · refine r_lconst C h2 ?_
    refine r_goto C h3 (t := pc + 8) (by omega) ?_
    rw [show bz x = 1 from if_neg e] at k
    exact k
