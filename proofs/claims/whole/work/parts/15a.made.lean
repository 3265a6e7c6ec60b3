/-! ===== the class: what constructors leave ===== -/
/-- a node as its constructor leaves it -/
def ND1 (h h2 : Hp) (q ps : Nat) (i a b : Int) : Prop := OT h h2 (fun z => z = q) ∧ (q ∈ hD h2 ∧ hK h2 q = 4) ∧ hP h2 q 2 = some ps ∧ (ps ∉ hD h ∧ ps ∈ hD h2 ∧ hK h2 ps = 14 ∧ (hN h2 ps : Int) = b) ∧ (hI h2 q 0 = i ∧ hI h2 q 1 = a ∧ hI h2 q 3 = 0 ∧ hI h2 q 4 = 1 ∧ hI h2 q 5 = 1 ∧ hI h2 q 7 = -1)
/-- a free place -/
def NS1 (h h2 : Hp) (ps s r : Nat) (i : Int) : Prop := hP h2 ps i = some s ∧ (s ∉ hD h ∧ s ∈ hD h2 ∧ hK h2 s = 2) ∧ (hP h2 s 4 = some r ∧ r ∉ hD h ∧ r ∈ hD h2 ∧ hK h2 r = 10 ∧ hN h2 r = 4) ∧ hP h2 s 0 = none
theorem ND1.ot {h h2 h3 : Hp} {q ps : Nat} {i a b : Int} (N : ND1 h h2 q ps i a b) (O : OT h2 h3 (fun z => z = ps)) : ND1 h h3 q ps i a b := by
  obtain ⟨n1, n2, n3, n4, n5⟩ := N
  obtain ⟨o1, o2, o3, o4⟩ := O q n2.1
  obtain ⟨oi, op⟩ := o4 (fun z => by have e := n2.2; have e2 := n4.2.2.1; rw [z] at e; omega)
  obtain ⟨p1, p2, p3, -⟩ := O ps n4.2.1
  refine ⟨n1.tr2 O (fun z hz e => absurd (e ▸ hz) n4.1), ⟨o1, o2.trans n2.2⟩, (op 2).trans n3, ⟨n4.1, p1, p2.trans n4.2.2.1, by rw [p3]; exact n4.2.2.2⟩, ?_⟩
  simp only [oi]
  exact n5
theorem NS1.ot {h h2 h3 : Hp} {ps s r : Nat} {i : Int} (N : NS1 h h2 ps s r i) (O : OT h2 h3 (fun z => z = ps)) (hk : hK h2 ps = 14) (e : hP h3 ps i = hP h2 ps i) : NS1 h h3 ps s r i := by
  obtain ⟨n1, n2, n3, n4⟩ := N
  obtain ⟨o1, o2, o3, o4⟩ := O s n2.2.1
  obtain ⟨oi, op⟩ := o4 (fun z => by have e := n2.2.2; rw [z] at e; omega)
  obtain ⟨p1, p2, p3, -⟩ := O r n3.2.2.1
  exact ⟨e.trans n1, ⟨n2.1, o1, o2.trans n2.2.2⟩, ⟨(op 4).trans n3.1, n3.2.1, p1, p2.trans n3.2.2.2.1, p3.trans n3.2.2.2.2⟩, (op 0).trans n4⟩

set_option maxRecDepth 100000 in
set_option maxHeartbeats 4000000 in
theorem C_X0_init {gx : GX} {d : Nat} {Qr : Option AV → Hp → Prop} {Qx : String → Hp → Prop} {q : Nat} {h : Hp} (hq : q ∈ hD h) (hk : hK h q = 2) (K : ∀ r h1, r ∉ hD h → OT h h1 (fun b => b = q) → hP h1 q 0 = none → hP h1 q 4 = some r → r ∈ hD h1 → hK h1 r = 10 → hN h1 r = 4 → Qr none h1) : aM gx (d + 1) mX0_init [vr q] h 1 4 Qr Qx := by
  intro J C
  show J 0 [some (vr q)] [] h 1 4
  refine r_aload_n C dX0_init_0 (i := 0) rfl rfl ?_
  refine r_objI C dX0_init_1 lX0_3 (Nat.le_of_ble_eq_true rfl) ?_
  refine r_aload_n C dX0_init_4 (i := 0) rfl rfl ?_
  refine r_anull C dX0_init_5 ?_
  refine r_putP C dX0_init_6 fX0_9 (Or.inl rfl) rfl hq hk ?_
  refine r_aload_n C dX0_init_9 (i := 0) rfl rfl ?_
  refine r_iconst C dX0_init_10 ?_
  refine r_putI C dX0_init_11 fX0_15 (Or.inl rfl) (Or.inl rfl) hq hk ?_
  refine r_aload_n C dX0_init_14 (i := 0) rfl rfl ?_
  refine r_iconst C dX0_init_15 ?_
  refine r_putI C dX0_init_16 fX0_19 (Or.inl rfl) (Or.inl rfl) hq hk ?_
  refine r_aload_n C dX0_init_19 (i := 0) rfl rfl ?_
  refine r_iconst C dX0_init_20 ?_
  refine r_putI C dX0_init_21 fX0_22 (Or.inl rfl) (Or.inl rfl) hq hk ?_
  refine r_aload_n C dX0_init_24 (i := 0) rfl rfl ?_
  refine r_iconst C dX0_init_25 ?_
  refine r_newI C dX0_init_26 (by decide) (by decide) (Nat.le_of_ble_eq_true rfl) (by decide) (fun r hr => ?_)
  have hr' : r ∉ hD h := hr
  have qr : q ≠ r := fun z => hr' (z ▸ hq)
  refine r_putP C dX0_init_28 fX0_25 (Or.inr ⟨rfl, rfl, rfl⟩) rfl (List.mem_append.mpr (Or.inl hq)) ((if_neg qr).trans hk) ?_
  refine r_ret C dX0_init_31 rfl ?_
  refine K r _ hr' ?_ ?_ ?_ (List.mem_append.mpr (Or.inr (List.mem_singleton.mpr rfl))) (if_pos rfl) (if_pos rfl)
  · intro b hb
    have br : b ≠ r := fun z => hr' (z ▸ hb)
    refine ⟨List.mem_append.mpr (Or.inl hb), if_neg br, if_neg br, fun nb => ⟨fun j => ?_, fun j => ?_⟩⟩
    · simp only [i_wi, i_wp, i_nw]; simp [nb, br]
    · simp only [p_wp, p_wi, p_nw]; simp [nb, br]
  · simp only [p_wp, p_wi, p_nw]; simp [qr]
  · simp only [p_wp, p_wi, p_nw]; simp

set_option maxRecDepth 100000 in
set_option maxHeartbeats 4000000 in
theorem C_X2_init {gx : GX} {d : Nat} {Qr : Option AV → Hp → Prop} {Qx : String → Hp → Prop} {q : Nat} {i a b : Int} {h : Hp} (hq : q ∈ hD h) (hk : hK h q = 4) (hb : 1 ≤ b ∧ b ≤ 12) (K : ∀ (ps : Nat) (sl ar : Int → Nat) (h1 : Hp), ND1 h h1 q ps i a b → (∀ k, 0 ≤ k → k < b → NS1 h h1 ps (sl k) (ar k) k) → (∀ k l, 0 ≤ k → k < b → 0 ≤ l → l < b → (sl k = sl l ∨ ar k = ar l) → k = l) → Qr none h1) : aM gx (d + 2) mX2_init [vr q, vi i, vi a, vi b] h 30 200 Qr Qx := by
  intro J C
  show J 0 [some (vr q), some (vi i), some (vi a), some (vi b), none] [] h 30 200
  refine r_aload_n C dX2_init_0 (i := 0) rfl rfl ?_
  refine r_objI C dX2_init_1 lX2_3 (Nat.le_of_ble_eq_true rfl) ?_
  refine r_aload_n C dX2_init_4 (i := 0) rfl rfl ?_
  refine r_iconst C dX2_init_5 ?_
  refine r_putI C dX2_init_6 fX2_9 (Or.inl rfl) (Or.inl rfl) hq hk ?_
  refine r_aload_n C dX2_init_9 (i := 0) rfl rfl ?_
  refine r_iconst C dX2_init_10 ?_
  refine r_putI C dX2_init_11 fX2_15 (Or.inl rfl) (Or.inr ⟨rfl, Or.inr rfl⟩) hq hk ?_
  refine r_aload_n C dX2_init_14 (i := 0) rfl rfl ?_
  refine r_iconst C dX2_init_15 ?_
  refine r_putI C dX2_init_16 fX2_19 (Or.inl rfl) (Or.inr ⟨rfl, Or.inr rfl⟩) hq hk ?_
  refine r_aload_n C dX2_init_19 (i := 0) rfl rfl ?_
  refine r_iconst C dX2_init_20 ?_
  refine r_putI C dX2_init_21 fX2_22 (Or.inl rfl) (Or.inl rfl) hq hk ?_
  refine r_aload_n C dX2_init_24 (i := 0) rfl rfl ?_
  refine r_iconst C dX2_init_25 ?_
  refine r_putI C dX2_init_26 fX2_25 (Or.inl rfl) (Or.inl rfl) hq hk ?_
  refine r_aload_n C dX2_init_29 (i := 0) rfl rfl ?_
  refine r_iload_n C dX2_init_30 (i := 1) rfl rfl ?_
  refine r_putI C dX2_init_31 fX2_28 (Or.inr ⟨rfl, rfl, rfl⟩) (Or.inl rfl) hq hk ?_
  refine r_aload_n C dX2_init_34 (i := 0) rfl rfl ?_
  refine r_iload_n C dX2_init_35 (i := 2) rfl rfl ?_
  refine r_putI C dX2_init_36 fX2_31 (Or.inr ⟨rfl, rfl, rfl⟩) (Or.inl rfl) hq hk ?_
  refine r_aload_n C dX2_init_39 (i := 0) rfl rfl ?_
  refine r_iload_n C dX2_init_40 (i := 3) rfl rfl ?_
  refine r_iconst C dX2_init_41 ?_
  refine r_mmax C dX2_init_42 lX2_34 (by unfold inR; omega) (by unfold inR; omega) (Nat.le_of_ble_eq_true rfl) ?_
  rw [if_neg (by omega)]
  refine r_newC C dX2_init_45 kX2_40 (by omega) (by omega) (Nat.le_of_ble_eq_true rfl) (by omega) (fun ps hps => ?_)
  have hps' : ps ∉ hD h := hps
  have qp : q ≠ ps := fun z => hps' (z ▸ hq)
  refine r_putP C dX2_init_48 fX2_42 (Or.inr ⟨rfl, rfl, rfl⟩) rfl (List.mem_append.mpr (Or.inl hq)) ((if_neg qp).trans hk) ?_
  obtain ⟨h0, hh0⟩ : ∃ h0, h0 = wP (hNew (wI (wI (wI (wI (wI (wI (wI h q (3 : Nat) 0) q (4 : Nat) 1) q (5 : Nat) 1) q (6 : Nat) 0) q (7 : Nat) (-1)) q (0 : Nat) i) q (1 : Nat) a) ps 14 b.toNat) q (2 : Nat) (some ps) := ⟨_, rfl⟩
  have N0 : ND1 h h0 q ps i a b := by
    rw [hh0]
    refine ⟨?_, ⟨List.mem_append.mpr (Or.inl hq), (if_neg qp).trans hk⟩, ?_, ⟨hps', List.mem_append.mpr (Or.inr (List.mem_singleton.mpr rfl)), if_pos rfl, ?_⟩, ⟨?_, ?_, ?_, ?_, ?_, ?_⟩⟩
    · intro b hb
      have br : b ≠ ps := fun z => hps' (z ▸ hb)
      refine ⟨List.mem_append.mpr (Or.inl hb), if_neg br, if_neg br, fun nb => ⟨fun j => ?_, fun j => ?_⟩⟩
      · simp only [i_wi, i_wp, i_nw]; simp [nb, br]
      · simp only [p_wp, p_wi, p_nw]; simp [nb, br]
    · simp only [p_wp, p_wi, p_nw]; simp
    · show (((if ps = ps then b.toNat else _) : Nat) : Int) = b
      rw [if_pos rfl]
      omega
    · simp only [i_wi, i_wp, i_nw]; simp [qp]
    · simp only [i_wi, i_wp, i_nw]; simp [qp]
    · simp only [i_wi, i_wp, i_nw]; simp [qp]
    · simp only [i_wi, i_wp, i_nw]; simp [qp]
    · simp only [i_wi, i_wp, i_nw]; simp [qp]
    · simp only [i_wi, i_wp, i_nw]; simp [qp]
  rw [← hh0]
  refine r_iconst C dX2_init_51 ?_
  refine r_istore C dX2_init_52 (Nat.le_of_ble_eq_true rfl) ?_
  dsimp only [List.set]
  suffices LOOP : ∀ (m9 : Nat) (j : Int) (sl ar : Int → Nat) (h2 : Hp) (cc ss : Nat), b - j < (m9 : Int) → 0 ≤ j → j ≤ b → ND1 h h2 q ps i a b → (∀ k, 0 ≤ k → k < j → NS1 h h2 ps (sl k) (ar k) k) → (∀ k l, 0 ≤ k → k < j → 0 ≤ l → l < j → (sl k = sl l ∨ ar k = ar l) → k = l) → 2 * (b - j) ≤ cc → 9 * (b - j) ≤ ss → J 54 [some (vr q), some (vi i), some (vi a), some (vi b), some (vi j)] [] h2 cc ss by
    exact LOOP (b.toNat + 1) 0 (fun _ => 0) (fun _ => 0) _ _ _ (by omega) (by omega) (by omega) N0 (fun k k0 k1 => by omega) (fun k l k0 k1 => by omega) (by omega) (by omega)
  intro m9
  induction m9 with
  | zero => intro j sl ar h2 cc ss hm9 j0 j1 N2 P2 D2 hcc hss; exact absurd hm9 (by omega)
  | succ m9 ih9 =>
    intro j sl ar h2 cc ss hm9 j0 j1 N2 P2 D2 hcc hss
    refine r_iload C dX2_init_54 rfl ?_
    refine r_aload_n C dX2_init_56 (i := 0) rfl rfl ?_
    refine r_getP C dX2_init_57 fX2_42 rfl N2.2.1.1 N2.2.1.2 ?_
    rw [show hP h2 q (2 : Nat) = some ps from N2.2.2.1]
    refine r_alen C dX2_init_60 N2.2.2.2.1.2.1 (by rw [N2.2.2.2.1.2.2.1]; decide) (by rw [N2.2.2.2.1.2.2.1]; decide) ?_
    rw [N2.2.2.2.1.2.2.2]
    refine r_ic_ge C dX2_init_61 (t := 84) (by decide) (by first | assumption | (unfold inR; omega)) (by first | assumption | (unfold inR; omega)) (fun c61 => ?_) (fun c61 => ?_)
    · skip
      refine r_ret C dX2_init_84 rfl ?_
      have ej : j = b := by omega
      rw [ej] at P2 D2
      exact K ps sl ar _ N2 P2 D2
    · skip
      refine r_aload_n C dX2_init_64 (i := 0) rfl rfl ?_
      refine r_getP C dX2_init_65 fX2_42 rfl N2.2.1.1 N2.2.1.2 ?_
      rw [show hP h2 q (2 : Nat) = some ps from N2.2.2.1]
      refine r_iload C dX2_init_68 rfl ?_
      refine r_new C dX2_init_70 (ci := 1) (by decide) kX2_40 (by omega) (by show 5 ≤ ss; omega) (fun s hs2 => ?_)
      have hs2D : s ∈ hD (hNew h2 s 2 5) := List.mem_append.mpr (Or.inr (List.mem_singleton.mpr rfl))
      have hs2K : hK (hNew h2 s 2 5) s = 2 := if_pos rfl
      refine r_dup C dX2_init_73 rfl ?_
      refine r_callN C dX2_init_74 sX2_46 (As := []) (fun v hv => by cases hv) (Nat.le_of_ble_eq_true rfl) (c1 := 1) (s1 := 4) (by omega) (by show 4 ≤ ss - 5; omega) (C_X0_init hs2D hs2K (fun r h4 hr2 O1 q0 q4 r2 r3 r4 => ?_))
      have O4 : OT h2 h4 (fun _ => False) := (OT.nw hs2 2 5).tr2 O1 (fun b hb e => hs2 (e ▸ hb))
      have hp4 := O4 ps N2.2.2.2.1.2.1
      have hs4 : s ∈ hD h4 ∧ hK h4 s = 2 := ⟨(O1 s hs2D).1, (O1 s hs2D).2.1.trans hs2K⟩
      have hsh : s ∉ hD h := fun z => hs2 (N2.1 s z).1
      have hrh : r ∉ hD h := fun z => hr2 (List.mem_append.mpr (Or.inl (N2.1 r z).1))
      have hsp : s ≠ ps := fun z => hs2 (z ▸ N2.2.2.2.1.2.1)
      refine r_aastC C dX2_init_77 hp4.1 (hp4.2.1.trans N2.2.2.2.1.2.2.1) j0 (by have e := hp4.2.2.1; have e2 := N2.2.2.2.1.2.2.2; omega) (by omega) hs4.1 hs4.2 ?_
      have O5 : OT h2 (wP h4 ps j (some s)) (fun z => z = ps) := (O4.sub (fun _ _ z => z.elim)).trans (OT.wp1 h4 ps j (some s))
      refine r_iinc C dX2_init_78 rfl ?_
      dsimp only [List.set]
      refine r_goto C dX2_init_81 (t := 54) (by decide) ?_
      refine ih9 _ (fun k => if k = j then s else sl k) (fun k => if k = j then r else ar k) _ _ _ (by omega) (by omega) (by omega) (N2.ot O5) (fun k k0 k1 => ?_) (fun k l k0 k1 l0 l1 e => ?_) (by omega) (by have nf : nF 1 = 5 := rfl; omega)
      · skip
        by_cases c : k = j
        · rw [if_pos c, if_pos c, c]
          refine ⟨if_pos ⟨rfl, rfl⟩, ⟨hsh, hs4.1, hs4.2⟩, ⟨?_, hrh, r2, r3, r4⟩, ?_⟩
          · rw [p_wp, if_neg (fun z => hsp z.1)]; exact q4
          · rw [p_wp, if_neg (fun z => hsp z.1)]; exact q0
        · rw [if_neg c, if_neg c]
          refine (P2 k k0 (by omega)).ot O5 N2.2.2.2.1.2.2.1 ?_
          rw [p_wp, if_neg (fun z => c z.2)]
          exact ((O4 ps N2.2.2.2.1.2.1).2.2.2 (fun z => z)).2 k
      · skip
        have old : ∀ k, 0 ≤ k → k < j → sl k ≠ s ∧ ar k ≠ r := fun k a1 a2 => by
          have y := P2 k a1 a2
          exact ⟨fun z => hs2 (z ▸ y.2.1.2.1), fun z => hr2 (List.mem_append.mpr (Or.inl (z ▸ y.2.2.1.2.2.1)))⟩
        by_cases c : k = j
        · by_cases c2 : l = j
          · omega
          · rw [if_pos c, if_neg c2, if_pos c, if_neg c2] at e
            rcases e with e | e
            · exact absurd e.symm (old l l0 (by omega)).1
            · exact absurd e.symm (old l l0 (by omega)).2
        · by_cases c2 : l = j
          · rw [if_neg c, if_pos c2, if_neg c, if_pos c2] at e
            rcases e with e | e
            · exact absurd e (old k k0 (by omega)).1
            · exact absurd e (old k k0 (by omega)).2
          · rw [if_neg c, if_neg c2, if_neg c, if_neg c2] at e
            exact D2 k l k0 (by omega) l0 (by omega) e

