/-! ===== the class: a second, its first parts ===== -/
/-- a place's address, or nothing -/
def sq (A : Nat → Int → Nat) (n i : Int) : Option Nat := if i = -1 then none else some (A 2 (12 * n + i))
theorem sq_0 {A : Nat → Int → Nat} {n : Int} : sq A n (-1) = none := if_pos rfl
theorem sq_1 {A : Nat → Int → Nat} {n i : Int} (h : i ≠ -1) : sq A n i = some (A 2 (12 * n + i)) := if_neg h
theorem sq_n {A : Nat → Int → Nat} {n i : Int} (h : sq A n i = none) : i = -1 := by
  by_cases c : i = -1
  · exact c
  · rw [sq_1 c] at h; cases h
theorem sq_s {A : Nat → Int → Nat} {n i : Int} {a : Nat} (h : sq A n i = some a) : i ≠ -1 ∧ a = A 2 (12 * n + i) := by
  by_cases c : i = -1
  · rw [c, sq_0] at h; cases h
  · rw [sq_1 c] at h; exact ⟨c, (Option.some.inj h).symm⟩
/-- a is the place of the lowest piece among the first i places -/
def LO (u : GT) (n a i : Int) : Prop := (a = -1 ∧ ∀ j, 0 ≤ j → j < i → u 0 (12 * n + j) < 0) ∨ ((0 ≤ a ∧ a < i) ∧ 0 ≤ u 0 (12 * n + a) ∧ ∀ j, 0 ≤ j → j < i → 0 ≤ u 0 (12 * n + j) → u 0 (12 * n + a) ≤ u 0 (12 * n + j))
/-- b is that of the lowest one above w -/
def NX (u : GT) (w n b i : Int) : Prop := (b = -1 ∧ ∀ j, 0 ≤ j → j < i → 0 ≤ u 0 (12 * n + j) → u 0 (12 * n + j) ≤ w) ∨ ((0 ≤ b ∧ b < i) ∧ (0 ≤ u 0 (12 * n + b) ∧ w < u 0 (12 * n + b)) ∧ ∀ j, 0 ≤ j → j < i → 0 ≤ u 0 (12 * n + j) → w < u 0 (12 * n + j) → u 0 (12 * n + b) ≤ u 0 (12 * n + j))
theorem lo_skip {u : GT} {n a i : Int} (h : LO u n a i) (e : u 0 (12 * n + i) = -1) : LO u n a (i + 1) :=
  h.imp (fun q => ⟨q.1, all_s q.2 (by omega)⟩) (fun q => ⟨by omega, q.2.1, all_s q.2.2 (fun z => by omega)⟩)
theorem lo_new {u : GT} {n a i : Int} (h : LO u n a i) (i0 : 0 ≤ i) (e : 0 ≤ u 0 (12 * n + i)) (c : a = -1 ∨ u 0 (12 * n + i) < u 0 (12 * n + a)) : LO u n i (i + 1) := by
  refine Or.inr ⟨by omega, e, all_s (fun j j0 j1 z => ?_) (fun _ => Int.le_refl _)⟩
  rcases h with q | q
  · have := q.2 j j0 j1; omega
  · have := q.2.2 j j0 j1 z
    rcases c with c | c <;> omega
theorem lo_keep {u : GT} {n a i : Int} (h : LO u n a i) (a0 : a ≠ -1) (c : u 0 (12 * n + a) ≤ u 0 (12 * n + i)) : LO u n a (i + 1) := by
  rcases h with q | q
  · exact absurd q.1 a0
  · exact Or.inr ⟨by omega, q.2.1, all_s q.2.2 (fun _ => c)⟩
theorem nx_skip {u : GT} {w n b i : Int} (h : NX u w n b i) (e : u 0 (12 * n + i) ≤ w ∨ u 0 (12 * n + i) < 0) : NX u w n b (i + 1) :=
  h.imp (fun q => ⟨q.1, all_s q.2 (fun z => by omega)⟩) (fun q => ⟨by omega, q.2.1, all_s q.2.2 (fun z z2 => by omega)⟩)
theorem nx_new {u : GT} {w n b i : Int} (h : NX u w n b i) (i0 : 0 ≤ i) (e : 0 ≤ u 0 (12 * n + i)) (e2 : w < u 0 (12 * n + i)) (c : b = -1 ∨ u 0 (12 * n + i) < u 0 (12 * n + b)) : NX u w n i (i + 1) := by
  refine Or.inr ⟨by omega, ⟨e, e2⟩, all_s (fun j j0 j1 z z2 => ?_) (fun _ _ => Int.le_refl _)⟩
  rcases h with q | q
  · have := q.2 j j0 j1 z; omega
  · have := q.2.2 j j0 j1 z z2
    rcases c with c | c <;> omega
theorem nx_keep {u : GT} {w n b i : Int} (h : NX u w n b i) (b0 : b ≠ -1) (c : u 0 (12 * n + b) ≤ u 0 (12 * n + i)) : NX u w n b (i + 1) := by
  rcases h with q | q
  · exact absurd q.1 b0
  · exact Or.inr ⟨by omega, q.2.1, all_s q.2.2 (fun _ _ => c)⟩
theorem lo_b {u : GT} {n a i : Int} (h : LO u n a i) (a0 : a ≠ -1) : 0 ≤ a ∧ a < i ∧ 0 ≤ u 0 (12 * n + a) := by
  rcases h with q | q
  · exact absurd q.1 a0
  · exact ⟨q.1.1, q.1.2, q.2.1⟩
theorem nx_b {u : GT} {w n a i : Int} (h : NX u w n a i) (a0 : a ≠ -1) : 0 ≤ a ∧ a < i ∧ 0 ≤ u 0 (12 * n + a) := by
  rcases h with q | q
  · exact absurd q.1 a0
  · exact ⟨q.1.1, q.1.2, q.2.1.1⟩
/-- what the class looks at is what the reference scrubs -/
theorem sc_lo {u g : GT} (C : CI u g) (np : 0 ≤ g 11 0) {n a b : Int} (n0 : 0 ≤ n) (n1 : n < g 4 0) (rv : ∀ i, 0 ≤ i → i < g 6 n → u 0 (12 * n + i) < g 11 0) (hA : LO u n a (g 6 n)) (hB : NX u (g 10 n) n b (g 6 n)) :
    (b ≠ -1 → scI g n (2 * g 11 0) = u 0 (12 * n + b)) ∧ (b = -1 → a ≠ -1 → scI g n (2 * g 11 0) = u 0 (12 * n + a)) ∧ (b = -1 → a = -1 → scI g n (2 * g 11 0) = -1) := by
  have cov : ∀ j, 0 ≤ j → j < g 11 0 → 0 < g 18 (60 * n + j) → ∃ i, 0 ≤ i ∧ i < g 6 n ∧ u 0 (12 * n + i) = j := fun j j0 j1 hh => C.cov n0 n1 j0 j1 hh
  refine ⟨fun b0 => ?_, fun b0 a0 => ?_, fun b0 a0 => ?_⟩
  · have q := hB.resolve_left (fun z => b0 z.1)
    have q1 := rv b q.1.1 q.1.2
    have q2 := C.1 n b n0 n1 q.1.1 q.1.2 q.2.1.1
    obtain ⟨p, hp⟩ : ∃ p, p = u 0 (12 * n + b) := ⟨_, rfl⟩
    rw [← hp] at q q1 q2 ⊢
    have hit : findI (scC g n) (2 * g 11 0) = p := by
      refine findI_hit q.2.1.1 (by omega) (decide_eq_true ⟨fun _ => q.2.1.2, by rw [Int.emod_eq_of_lt q.2.1.1 q1]; exact q2⟩) (fun j j0 j1 => decide_eq_false (fun z => ?_))
      have z2 := z.2
      rw [Int.emod_eq_of_lt j0 (by omega)] at z2
      obtain ⟨i, i0, i1, hi⟩ := cov j j0 (by omega) z2
      have := q.2.2 i i0 i1 (by omega) (by have := z.1 (by omega); omega)
      omega
    unfold scI
    rw [hit, if_neg (by omega), Int.emod_eq_of_lt q.2.1.1 q1]
  · have q := hA.resolve_left (fun z => a0 z.1)
    have qb := hB.resolve_right (fun z => by omega)
    have q1 := rv a q.1.1 q.1.2
    have q2 := C.1 n a n0 n1 q.1.1 q.1.2 q.2.1
    obtain ⟨p, hp⟩ : ∃ p, p = u 0 (12 * n + a) := ⟨_, rfl⟩
    rw [← hp] at q q1 q2 ⊢
    have em : ∀ j, g 11 0 ≤ j → j < 2 * g 11 0 → j % g 11 0 = j - g 11 0 := fun j j0 j1 => by
      rw [show j = (j - g 11 0) + g 11 0 by omega, Int.add_emod_right, Int.emod_eq_of_lt (by omega) (by omega)]
      omega
    have hit : findI (scC g n) (2 * g 11 0) = g 11 0 + p := by
      refine findI_hit (by omega) (by omega) (decide_eq_true ⟨fun z => by omega, by rw [em _ (by omega) (by omega), show g 11 0 + p - g 11 0 = p by omega]; exact q2⟩) (fun j j0 j1 => decide_eq_false (fun z => ?_))
      have z2 := z.2
      by_cases c : j < g 11 0
      · rw [Int.emod_eq_of_lt j0 c] at z2
        obtain ⟨i, i0, i1, hi⟩ := cov j j0 c z2
        have := qb.2 i i0 i1 (by omega)
        have := z.1 c
        omega
      · rw [em j (by omega) (by omega)] at z2
        obtain ⟨i, i0, i1, hi⟩ := cov (j - g 11 0) (by omega) (by omega) z2
        have := q.2.2 i i0 i1 (by omega)
        omega
    unfold scI
    rw [hit, if_neg (by omega), em _ (by omega) (by omega)]
    omega
  · have q := hA.resolve_right (fun z => by omega)
    have fn : findI (scC g n) (2 * g 11 0) = -1 := by
      refine findI_none (fun j j0 j1 => decide_eq_false (fun z => ?_))
      have z2 := z.2
      have hp : 0 < g 11 0 := by omega
      have e0 := Int.emod_nonneg j (show g 11 0 ≠ 0 by omega)
      have e1 := Int.emod_lt_of_pos j hp
      obtain ⟨i, i0, i1, hi⟩ := cov (j % g 11 0) e0 e1 z2
      have := q.2 i i0 i1
      omega
    unfold scI
    rw [fn, if_pos rfl]
theorem el_el (g : GT) (p : Int) : elG (elG g p) p = elG g p := by
  funext k j
  unfold elG up
  by_cases a : k = 14 ∧ j = p
  · rw [if_pos a, if_pos a]
  · rw [if_neg a, if_neg a]
    by_cases b : k = 13 ∧ j = p
    · rw [if_pos b, if_pos b]
    · rw [if_neg b, if_neg b]

set_option maxRecDepth 100000 in
set_option maxHeartbeats 4000000 in
theorem C_X2_nextToLookAt {gx : GX} {d : Nat} {Qr : Option AV → Hp → Prop} {Qx : String → Hp → Prop} {x : Nat} {A : Nat → Int → Nat} {u : GT} {m : Int} {g : GT} {h : Hp} {n : Int} (Z : Rw gx x A u m g h) (n0 : 0 ≤ n) (n1 : n < g 4 0) (K : ∀ s, (s = -1 ∧ scI g n (2 * g 11 0) = -1) ∨ ((0 ≤ s ∧ s < g 6 n) ∧ 0 ≤ u 0 (12 * n + s) ∧ scI g n (2 * g 11 0) = u 0 (12 * n + s)) → Qr (some (vq (sq A n s))) h) : aM gx (d + 1) mX2_nextToLookAt [vr (A 0 n)] h 0 0 Qr Qx := by
  intro J C
  show J 0 [some (vr (A 0 n)), none, none, none, none, none, none, none] [] h 0 0
  have R := Z.1; have W := Z.2.1; have Ci := Z.2.2; have B := W.b; have b1 := B.nn; have b2 := B.np; have rm := R.room n0 n1; have rl := R.rvl b2.1
  refine r_anull C dX2_nextToLookAt_0 ?_
  refine r_astore_n C dX2_nextToLookAt_1 (i := 1) rfl (Nat.le_of_ble_eq_true rfl) ?_
  dsimp only [List.set]
  refine r_anull C dX2_nextToLookAt_2 ?_
  refine r_astore_n C dX2_nextToLookAt_3 (i := 2) rfl (Nat.le_of_ble_eq_true rfl) ?_
  dsimp only [List.set]
  refine r_aload_n C dX2_nextToLookAt_4 (i := 0) rfl rfl ?_
  refine c_3_2 C dX2_nextToLookAt_5 fX2_42 R (by omega) (by omega) ?_
  refine r_astore_n C dX2_nextToLookAt_8 (i := 3) rfl (Nat.le_of_ble_eq_true rfl) ?_
  dsimp only [List.set]
  refine r_aload_n C dX2_nextToLookAt_9 (i := 3) rfl rfl ?_
  refine c_len C dX2_nextToLookAt_10 R (by omega) (by omega) ?_
  refine r_istore C dX2_nextToLookAt_11 (Nat.le_of_ble_eq_true rfl) ?_
  dsimp only [List.set]
  refine r_iconst C dX2_nextToLookAt_13 ?_
  refine r_istore C dX2_nextToLookAt_14 (Nat.le_of_ble_eq_true rfl) ?_
  dsimp only [List.set]
  suffices LOOP : ∀ (m9 : Nat) (a b i : Int) (r1 r2 : Option Nat) (y z : Option AV), g 6 n - i < (m9 : Int) → 0 ≤ i → i ≤ g 6 n → r1 = sq A n a → r2 = sq A n b → LO u n a i → NX u (g 10 n) n b i → J 16 [some (vr (A 0 n)), some (vq r1), some (vq r2), some (vr (A 1 n)), some (vi (g 6 n)), some (vi i), y, z] [] h 0 0 by
    exact LOOP ((g 6 n).toNat + 1) (-1) (-1) 0 _ _ _ _ (by omega) (by omega) (by omega) sq_0.symm sq_0.symm (Or.inl ⟨rfl, fun j a b => by omega⟩) (Or.inl ⟨rfl, fun j a b => by omega⟩)
  intro m9
  induction m9 with
  | zero => intro a b i r1 r2 y z hm9 i0 i1 hr1 hr2 ha hb; exact absurd hm9 (by omega)
  | succ m9 ih9 =>
    intro a b i r1 r2 y z hm9 i0 i1 hr1 hr2 ha hb
    refine r_iload C dX2_nextToLookAt_16 rfl ?_
    refine r_iload C dX2_nextToLookAt_18 rfl ?_
    refine r_ic_ge C dX2_nextToLookAt_20 (t := 117) (by decide) (by first | assumption | exact R.rg _ _ | exact R.ru _ _ | (unfold inR; omega)) (by first | assumption | exact R.rg _ _ | exact R.ru _ _ | (unfold inR; omega)) (fun c20 => ?_) (fun c20 => ?_)
    · skip
      refine r_aload_n C dX2_nextToLookAt_117 (i := 2) rfl rfl ?_
      refine r_ifnonnull C dX2_nextToLookAt_118 (t := 125) (by decide) (fun a118 c118 => ?_) (fun c118 => ?_)
      · skip
        obtain ⟨eb, e3⟩ := sq_s (hr2.symm.trans c118)
        refine r_aload_n C dX2_nextToLookAt_125 (i := 2) rfl rfl ?_
        refine r_aret C dX2_nextToLookAt_126 rfl rfl ?_
        have ei : i = g 6 n := by omega
        rw [ei] at ha hb
        have T := sc_lo Ci b2.1 n0 n1 (fun i i0 i1 => rl n i n0 n1 i0 i1) ha hb
        first
          | (have lb := nx_b hb eb
             have k := K b (Or.inr ⟨⟨lb.1, lb.2.1⟩, lb.2.2, T.1 eb⟩)
             rw [← hr2] at k
             exact k)
          | (have k : Qr (some (vq (sq A n a))) h := by
               by_cases ea : a = -1
               · exact K a (Or.inl ⟨ea, T.2.2 eb ea⟩)
               · have la := lo_b ha ea
                 exact K a (Or.inr ⟨⟨la.1, la.2.1⟩, la.2.2, T.2.1 eb ea⟩)
             rw [← hr1] at k
             exact k)
      · skip
        have eb := sq_n (hr2.symm.trans c118)
        refine r_aload_n C dX2_nextToLookAt_121 (i := 1) rfl rfl ?_
        refine r_goto C dX2_nextToLookAt_122 (t := 126) (by decide) ?_
        refine r_aret C dX2_nextToLookAt_126 rfl rfl ?_
        have ei : i = g 6 n := by omega
        rw [ei] at ha hb
        have T := sc_lo Ci b2.1 n0 n1 (fun i i0 i1 => rl n i n0 n1 i0 i1) ha hb
        first
          | (have lb := nx_b hb eb
             have k := K b (Or.inr ⟨⟨lb.1, lb.2.1⟩, lb.2.2, T.1 eb⟩)
             rw [← hr2] at k
             exact k)
          | (have k : Qr (some (vq (sq A n a))) h := by
               by_cases ea : a = -1
               · exact K a (Or.inl ⟨ea, T.2.2 eb ea⟩)
               · have la := lo_b ha ea
                 exact K a (Or.inr ⟨⟨la.1, la.2.1⟩, la.2.2, T.2.1 eb ea⟩)
             rw [← hr1] at k
             exact k)
    · skip
      refine r_aload_n C dX2_nextToLookAt_23 (i := 3) rfl rfl ?_
      refine r_iload C dX2_nextToLookAt_24 rfl ?_
      refine c_pl C dX2_nextToLookAt_26 R (by omega) (by omega) (by omega) (by omega) ?_
      refine r_astore C dX2_nextToLookAt_27 (Nat.le_of_ble_eq_true rfl) ?_
      dsimp only [List.set]
      refine r_aload C dX2_nextToLookAt_29 rfl ?_
      refine c_1_q C dX2_nextToLookAt_31 fX2_47 R (by omega) (by omega) (by omega) (by omega) ?_
      refine r_ifnonnull C dX2_nextToLookAt_34 (t := 40) (by decide) (fun a34 c34 => ?_) (fun c34 => ?_)
      · skip
        have hu0 : 0 ≤ u 0 (12 * n + i) := by
          have q := R.rv n i n0 n1 i0 (by omega)
          by_cases e : u 0 (12 * n + i) = -1
          · rw [if_pos e] at c34; cases c34
          · omega
        obtain ⟨p, hu⟩ : ∃ p, u 0 (12 * n + i) = p := ⟨_, rfl⟩
        have p1 := rl n i n0 n1 i0 (by omega)
        rw [hu] at hu0 p1
        refine r_aload C dX2_nextToLookAt_40 rfl ?_
        refine c_1_0 C dX2_nextToLookAt_42 fX2_47 R (by omega) (by omega) (by omega) (by omega) hu (by omega) ?_
        refine c_4_0 C dX2_nextToLookAt_45 fX2_59 R (by omega) (by omega) ?_
        refine r_istore C dX2_nextToLookAt_48 (Nat.le_of_ble_eq_true rfl) ?_
        dsimp only [List.set]
        refine r_aload_n C dX2_nextToLookAt_50 (i := 1) rfl rfl ?_
        refine r_ifnull C dX2_nextToLookAt_51 (t := 73) (by decide) (fun c51 => ?_) (fun a51 c51 => ?_)
        · skip
          have ea := sq_n (hr1.symm.trans c51)
          have hA := lo_new ha i0 (by omega) (Or.inl ea)
          refine r_aload C dX2_nextToLookAt_73 rfl ?_
          refine r_astore_n C dX2_nextToLookAt_75 (i := 1) rfl (Nat.le_of_ble_eq_true rfl) ?_
          dsimp only [List.set]
          refine r_iload C dX2_nextToLookAt_76 rfl ?_
          refine r_aload_n C dX2_nextToLookAt_78 (i := 0) rfl rfl ?_
          refine c_3_7 C dX2_nextToLookAt_79 fX2_25 R (by omega) (by omega) ?_
          refine r_ic_le C dX2_nextToLookAt_82 (t := 111) (by decide) (by first | assumption | exact R.rg _ _ | exact R.ru _ _ | (unfold inR; omega)) (by first | assumption | exact R.rg _ _ | exact R.ru _ _ | (unfold inR; omega)) (fun c82 => ?_) (fun c82 => ?_)
          · skip
            have hB := nx_skip hb (Or.inl (by omega))
            refine r_iinc C dX2_nextToLookAt_111 rfl ?_
            dsimp only [List.set]
            refine r_goto C dX2_nextToLookAt_114 (t := 16) (by decide) ?_
            first
              | exact ih9 a b _ _ _ _ _ (by omega) (by omega) (by omega) hr1 hr2 hA hB
              | exact ih9 i b _ _ _ _ _ (by omega) (by omega) (by omega) (sq_1 (by omega)).symm hr2 hA hB
              | exact ih9 a i _ _ _ _ _ (by omega) (by omega) (by omega) hr1 (sq_1 (by omega)).symm hA hB
              | exact ih9 i i _ _ _ _ _ (by omega) (by omega) (by omega) (sq_1 (by omega)).symm (sq_1 (by omega)).symm hA hB
          · skip
            refine r_aload_n C dX2_nextToLookAt_85 (i := 2) rfl rfl ?_
            refine r_ifnull C dX2_nextToLookAt_86 (t := 108) (by decide) (fun c86 => ?_) (fun a86 c86 => ?_)
            · skip
              have eb := sq_n (hr2.symm.trans c86)
              have hB := nx_new hb i0 (by omega) (by omega) (Or.inl eb)
              refine r_aload C dX2_nextToLookAt_108 rfl ?_
              refine r_astore_n C dX2_nextToLookAt_110 (i := 2) rfl (Nat.le_of_ble_eq_true rfl) ?_
              dsimp only [List.set]
              refine r_iinc C dX2_nextToLookAt_111 rfl ?_
              dsimp only [List.set]
              refine r_goto C dX2_nextToLookAt_114 (t := 16) (by decide) ?_
              first
                | exact ih9 a b _ _ _ _ _ (by omega) (by omega) (by omega) hr1 hr2 hA hB
                | exact ih9 i b _ _ _ _ _ (by omega) (by omega) (by omega) (sq_1 (by omega)).symm hr2 hA hB
                | exact ih9 a i _ _ _ _ _ (by omega) (by omega) (by omega) hr1 (sq_1 (by omega)).symm hA hB
                | exact ih9 i i _ _ _ _ _ (by omega) (by omega) (by omega) (sq_1 (by omega)).symm (sq_1 (by omega)).symm hA hB
            · skip
              obtain ⟨eb, e3⟩ := sq_s (hr2.symm.trans c86)
              rw [e3] at c86
              subst c86
              have lb := nx_b hb eb
              obtain ⟨pb, hub⟩ : ∃ pb, u 0 (12 * n + b) = pb := ⟨_, rfl⟩
              have pb1 := rl n b n0 n1 lb.1 (by omega)
              rw [hub] at lb pb1
              refine r_aload_n C dX2_nextToLookAt_89 (i := 2) rfl rfl ?_
              refine c_1_0 C dX2_nextToLookAt_90 fX2_47 R (by omega) (by omega) (by omega) (by omega) hub (by omega) ?_
              refine r_ifnull C dX2_nextToLookAt_93 (t := 108) (by decide) (fun c93 => ?_) (fun a93 c93 => ?_)
              · skip
                cases c93
              · skip
                refine r_iload C dX2_nextToLookAt_96 rfl ?_
                refine r_aload_n C dX2_nextToLookAt_98 (i := 2) rfl rfl ?_
                refine c_1_0 C dX2_nextToLookAt_99 fX2_47 R (by omega) (by omega) (by omega) (by omega) hub (by omega) ?_
                refine c_4_0 C dX2_nextToLookAt_102 fX2_59 R (by omega) (by omega) ?_
                refine r_ic_ge C dX2_nextToLookAt_105 (t := 111) (by decide) (by first | assumption | exact R.rg _ _ | exact R.ru _ _ | (unfold inR; omega)) (by first | assumption | exact R.rg _ _ | exact R.ru _ _ | (unfold inR; omega)) (fun c105 => ?_) (fun c105 => ?_)
                · skip
                  have hB := nx_keep hb eb (by omega)
                  refine r_iinc C dX2_nextToLookAt_111 rfl ?_
                  dsimp only [List.set]
                  refine r_goto C dX2_nextToLookAt_114 (t := 16) (by decide) ?_
                  first
                    | exact ih9 a b _ _ _ _ _ (by omega) (by omega) (by omega) hr1 hr2 hA hB
                    | exact ih9 i b _ _ _ _ _ (by omega) (by omega) (by omega) (sq_1 (by omega)).symm hr2 hA hB
                    | exact ih9 a i _ _ _ _ _ (by omega) (by omega) (by omega) hr1 (sq_1 (by omega)).symm hA hB
                    | exact ih9 i i _ _ _ _ _ (by omega) (by omega) (by omega) (sq_1 (by omega)).symm (sq_1 (by omega)).symm hA hB
                · skip
                  have hB := nx_new hb i0 (by omega) (by omega) (Or.inr (by omega))
                  refine r_aload C dX2_nextToLookAt_108 rfl ?_
                  refine r_astore_n C dX2_nextToLookAt_110 (i := 2) rfl (Nat.le_of_ble_eq_true rfl) ?_
                  dsimp only [List.set]
                  refine r_iinc C dX2_nextToLookAt_111 rfl ?_
                  dsimp only [List.set]
                  refine r_goto C dX2_nextToLookAt_114 (t := 16) (by decide) ?_
                  first
                    | exact ih9 a b _ _ _ _ _ (by omega) (by omega) (by omega) hr1 hr2 hA hB
                    | exact ih9 i b _ _ _ _ _ (by omega) (by omega) (by omega) (sq_1 (by omega)).symm hr2 hA hB
                    | exact ih9 a i _ _ _ _ _ (by omega) (by omega) (by omega) hr1 (sq_1 (by omega)).symm hA hB
                    | exact ih9 i i _ _ _ _ _ (by omega) (by omega) (by omega) (sq_1 (by omega)).symm (sq_1 (by omega)).symm hA hB
        · skip
          obtain ⟨ea, e2⟩ := sq_s (hr1.symm.trans c51)
          rw [e2] at c51
          subst c51
          have la := lo_b ha ea
          obtain ⟨pa, hua⟩ : ∃ pa, u 0 (12 * n + a) = pa := ⟨_, rfl⟩
          have pa1 := rl n a n0 n1 la.1 (by omega)
          rw [hua] at la pa1
          refine r_aload_n C dX2_nextToLookAt_54 (i := 1) rfl rfl ?_
          refine c_1_0 C dX2_nextToLookAt_55 fX2_47 R (by omega) (by omega) (by omega) (by omega) hua (by omega) ?_
          refine r_ifnull C dX2_nextToLookAt_58 (t := 73) (by decide) (fun c58 => ?_) (fun a58 c58 => ?_)
          · skip
            cases c58
          · skip
            refine r_iload C dX2_nextToLookAt_61 rfl ?_
            refine r_aload_n C dX2_nextToLookAt_63 (i := 1) rfl rfl ?_
            refine c_1_0 C dX2_nextToLookAt_64 fX2_47 R (by omega) (by omega) (by omega) (by omega) hua (by omega) ?_
            refine c_4_0 C dX2_nextToLookAt_67 fX2_59 R (by omega) (by omega) ?_
            refine r_ic_ge C dX2_nextToLookAt_70 (t := 76) (by decide) (by first | assumption | exact R.rg _ _ | exact R.ru _ _ | (unfold inR; omega)) (by first | assumption | exact R.rg _ _ | exact R.ru _ _ | (unfold inR; omega)) (fun c70 => ?_) (fun c70 => ?_)
            · skip
              have hA := lo_keep ha ea (by omega)
              refine r_iload C dX2_nextToLookAt_76 rfl ?_
              refine r_aload_n C dX2_nextToLookAt_78 (i := 0) rfl rfl ?_
              refine c_3_7 C dX2_nextToLookAt_79 fX2_25 R (by omega) (by omega) ?_
              refine r_ic_le C dX2_nextToLookAt_82 (t := 111) (by decide) (by first | assumption | exact R.rg _ _ | exact R.ru _ _ | (unfold inR; omega)) (by first | assumption | exact R.rg _ _ | exact R.ru _ _ | (unfold inR; omega)) (fun c82 => ?_) (fun c82 => ?_)
              · skip
                have hB := nx_skip hb (Or.inl (by omega))
                refine r_iinc C dX2_nextToLookAt_111 rfl ?_
                dsimp only [List.set]
                refine r_goto C dX2_nextToLookAt_114 (t := 16) (by decide) ?_
                first
                  | exact ih9 a b _ _ _ _ _ (by omega) (by omega) (by omega) hr1 hr2 hA hB
                  | exact ih9 i b _ _ _ _ _ (by omega) (by omega) (by omega) (sq_1 (by omega)).symm hr2 hA hB
                  | exact ih9 a i _ _ _ _ _ (by omega) (by omega) (by omega) hr1 (sq_1 (by omega)).symm hA hB
                  | exact ih9 i i _ _ _ _ _ (by omega) (by omega) (by omega) (sq_1 (by omega)).symm (sq_1 (by omega)).symm hA hB
              · skip
                refine r_aload_n C dX2_nextToLookAt_85 (i := 2) rfl rfl ?_
                refine r_ifnull C dX2_nextToLookAt_86 (t := 108) (by decide) (fun c86 => ?_) (fun a86 c86 => ?_)
                · skip
                  have eb := sq_n (hr2.symm.trans c86)
                  have hB := nx_new hb i0 (by omega) (by omega) (Or.inl eb)
                  refine r_aload C dX2_nextToLookAt_108 rfl ?_
                  refine r_astore_n C dX2_nextToLookAt_110 (i := 2) rfl (Nat.le_of_ble_eq_true rfl) ?_
                  dsimp only [List.set]
                  refine r_iinc C dX2_nextToLookAt_111 rfl ?_
                  dsimp only [List.set]
                  refine r_goto C dX2_nextToLookAt_114 (t := 16) (by decide) ?_
                  first
                    | exact ih9 a b _ _ _ _ _ (by omega) (by omega) (by omega) hr1 hr2 hA hB
                    | exact ih9 i b _ _ _ _ _ (by omega) (by omega) (by omega) (sq_1 (by omega)).symm hr2 hA hB
                    | exact ih9 a i _ _ _ _ _ (by omega) (by omega) (by omega) hr1 (sq_1 (by omega)).symm hA hB
                    | exact ih9 i i _ _ _ _ _ (by omega) (by omega) (by omega) (sq_1 (by omega)).symm (sq_1 (by omega)).symm hA hB
                · skip
                  obtain ⟨eb, e3⟩ := sq_s (hr2.symm.trans c86)
                  rw [e3] at c86
                  subst c86
                  have lb := nx_b hb eb
                  obtain ⟨pb, hub⟩ : ∃ pb, u 0 (12 * n + b) = pb := ⟨_, rfl⟩
                  have pb1 := rl n b n0 n1 lb.1 (by omega)
                  rw [hub] at lb pb1
                  refine r_aload_n C dX2_nextToLookAt_89 (i := 2) rfl rfl ?_
                  refine c_1_0 C dX2_nextToLookAt_90 fX2_47 R (by omega) (by omega) (by omega) (by omega) hub (by omega) ?_
                  refine r_ifnull C dX2_nextToLookAt_93 (t := 108) (by decide) (fun c93 => ?_) (fun a93 c93 => ?_)
                  · skip
                    cases c93
                  · skip
                    refine r_iload C dX2_nextToLookAt_96 rfl ?_
                    refine r_aload_n C dX2_nextToLookAt_98 (i := 2) rfl rfl ?_
                    refine c_1_0 C dX2_nextToLookAt_99 fX2_47 R (by omega) (by omega) (by omega) (by omega) hub (by omega) ?_
                    refine c_4_0 C dX2_nextToLookAt_102 fX2_59 R (by omega) (by omega) ?_
                    refine r_ic_ge C dX2_nextToLookAt_105 (t := 111) (by decide) (by first | assumption | exact R.rg _ _ | exact R.ru _ _ | (unfold inR; omega)) (by first | assumption | exact R.rg _ _ | exact R.ru _ _ | (unfold inR; omega)) (fun c105 => ?_) (fun c105 => ?_)
                    · skip
                      have hB := nx_keep hb eb (by omega)
                      refine r_iinc C dX2_nextToLookAt_111 rfl ?_
                      dsimp only [List.set]
                      refine r_goto C dX2_nextToLookAt_114 (t := 16) (by decide) ?_
                      first
                        | exact ih9 a b _ _ _ _ _ (by omega) (by omega) (by omega) hr1 hr2 hA hB
                        | exact ih9 i b _ _ _ _ _ (by omega) (by omega) (by omega) (sq_1 (by omega)).symm hr2 hA hB
                        | exact ih9 a i _ _ _ _ _ (by omega) (by omega) (by omega) hr1 (sq_1 (by omega)).symm hA hB
                        | exact ih9 i i _ _ _ _ _ (by omega) (by omega) (by omega) (sq_1 (by omega)).symm (sq_1 (by omega)).symm hA hB
                    · skip
                      have hB := nx_new hb i0 (by omega) (by omega) (Or.inr (by omega))
                      refine r_aload C dX2_nextToLookAt_108 rfl ?_
                      refine r_astore_n C dX2_nextToLookAt_110 (i := 2) rfl (Nat.le_of_ble_eq_true rfl) ?_
                      dsimp only [List.set]
                      refine r_iinc C dX2_nextToLookAt_111 rfl ?_
                      dsimp only [List.set]
                      refine r_goto C dX2_nextToLookAt_114 (t := 16) (by decide) ?_
                      first
                        | exact ih9 a b _ _ _ _ _ (by omega) (by omega) (by omega) hr1 hr2 hA hB
                        | exact ih9 i b _ _ _ _ _ (by omega) (by omega) (by omega) (sq_1 (by omega)).symm hr2 hA hB
                        | exact ih9 a i _ _ _ _ _ (by omega) (by omega) (by omega) hr1 (sq_1 (by omega)).symm hA hB
                        | exact ih9 i i _ _ _ _ _ (by omega) (by omega) (by omega) (sq_1 (by omega)).symm (sq_1 (by omega)).symm hA hB
            · skip
              have hA := lo_new ha i0 (by omega) (Or.inr (by omega))
              refine r_aload C dX2_nextToLookAt_73 rfl ?_
              refine r_astore_n C dX2_nextToLookAt_75 (i := 1) rfl (Nat.le_of_ble_eq_true rfl) ?_
              dsimp only [List.set]
              refine r_iload C dX2_nextToLookAt_76 rfl ?_
              refine r_aload_n C dX2_nextToLookAt_78 (i := 0) rfl rfl ?_
              refine c_3_7 C dX2_nextToLookAt_79 fX2_25 R (by omega) (by omega) ?_
              refine r_ic_le C dX2_nextToLookAt_82 (t := 111) (by decide) (by first | assumption | exact R.rg _ _ | exact R.ru _ _ | (unfold inR; omega)) (by first | assumption | exact R.rg _ _ | exact R.ru _ _ | (unfold inR; omega)) (fun c82 => ?_) (fun c82 => ?_)
              · skip
                have hB := nx_skip hb (Or.inl (by omega))
                refine r_iinc C dX2_nextToLookAt_111 rfl ?_
                dsimp only [List.set]
                refine r_goto C dX2_nextToLookAt_114 (t := 16) (by decide) ?_
                first
                  | exact ih9 a b _ _ _ _ _ (by omega) (by omega) (by omega) hr1 hr2 hA hB
                  | exact ih9 i b _ _ _ _ _ (by omega) (by omega) (by omega) (sq_1 (by omega)).symm hr2 hA hB
                  | exact ih9 a i _ _ _ _ _ (by omega) (by omega) (by omega) hr1 (sq_1 (by omega)).symm hA hB
                  | exact ih9 i i _ _ _ _ _ (by omega) (by omega) (by omega) (sq_1 (by omega)).symm (sq_1 (by omega)).symm hA hB
              · skip
                refine r_aload_n C dX2_nextToLookAt_85 (i := 2) rfl rfl ?_
                refine r_ifnull C dX2_nextToLookAt_86 (t := 108) (by decide) (fun c86 => ?_) (fun a86 c86 => ?_)
                · skip
                  have eb := sq_n (hr2.symm.trans c86)
                  have hB := nx_new hb i0 (by omega) (by omega) (Or.inl eb)
                  refine r_aload C dX2_nextToLookAt_108 rfl ?_
                  refine r_astore_n C dX2_nextToLookAt_110 (i := 2) rfl (Nat.le_of_ble_eq_true rfl) ?_
                  dsimp only [List.set]
                  refine r_iinc C dX2_nextToLookAt_111 rfl ?_
                  dsimp only [List.set]
                  refine r_goto C dX2_nextToLookAt_114 (t := 16) (by decide) ?_
                  first
                    | exact ih9 a b _ _ _ _ _ (by omega) (by omega) (by omega) hr1 hr2 hA hB
                    | exact ih9 i b _ _ _ _ _ (by omega) (by omega) (by omega) (sq_1 (by omega)).symm hr2 hA hB
                    | exact ih9 a i _ _ _ _ _ (by omega) (by omega) (by omega) hr1 (sq_1 (by omega)).symm hA hB
                    | exact ih9 i i _ _ _ _ _ (by omega) (by omega) (by omega) (sq_1 (by omega)).symm (sq_1 (by omega)).symm hA hB
                · skip
                  obtain ⟨eb, e3⟩ := sq_s (hr2.symm.trans c86)
                  rw [e3] at c86
                  subst c86
                  have lb := nx_b hb eb
                  obtain ⟨pb, hub⟩ : ∃ pb, u 0 (12 * n + b) = pb := ⟨_, rfl⟩
                  have pb1 := rl n b n0 n1 lb.1 (by omega)
                  rw [hub] at lb pb1
                  refine r_aload_n C dX2_nextToLookAt_89 (i := 2) rfl rfl ?_
                  refine c_1_0 C dX2_nextToLookAt_90 fX2_47 R (by omega) (by omega) (by omega) (by omega) hub (by omega) ?_
                  refine r_ifnull C dX2_nextToLookAt_93 (t := 108) (by decide) (fun c93 => ?_) (fun a93 c93 => ?_)
                  · skip
                    cases c93
                  · skip
                    refine r_iload C dX2_nextToLookAt_96 rfl ?_
                    refine r_aload_n C dX2_nextToLookAt_98 (i := 2) rfl rfl ?_
                    refine c_1_0 C dX2_nextToLookAt_99 fX2_47 R (by omega) (by omega) (by omega) (by omega) hub (by omega) ?_
                    refine c_4_0 C dX2_nextToLookAt_102 fX2_59 R (by omega) (by omega) ?_
                    refine r_ic_ge C dX2_nextToLookAt_105 (t := 111) (by decide) (by first | assumption | exact R.rg _ _ | exact R.ru _ _ | (unfold inR; omega)) (by first | assumption | exact R.rg _ _ | exact R.ru _ _ | (unfold inR; omega)) (fun c105 => ?_) (fun c105 => ?_)
                    · skip
                      have hB := nx_keep hb eb (by omega)
                      refine r_iinc C dX2_nextToLookAt_111 rfl ?_
                      dsimp only [List.set]
                      refine r_goto C dX2_nextToLookAt_114 (t := 16) (by decide) ?_
                      first
                        | exact ih9 a b _ _ _ _ _ (by omega) (by omega) (by omega) hr1 hr2 hA hB
                        | exact ih9 i b _ _ _ _ _ (by omega) (by omega) (by omega) (sq_1 (by omega)).symm hr2 hA hB
                        | exact ih9 a i _ _ _ _ _ (by omega) (by omega) (by omega) hr1 (sq_1 (by omega)).symm hA hB
                        | exact ih9 i i _ _ _ _ _ (by omega) (by omega) (by omega) (sq_1 (by omega)).symm (sq_1 (by omega)).symm hA hB
                    · skip
                      have hB := nx_new hb i0 (by omega) (by omega) (Or.inr (by omega))
                      refine r_aload C dX2_nextToLookAt_108 rfl ?_
                      refine r_astore_n C dX2_nextToLookAt_110 (i := 2) rfl (Nat.le_of_ble_eq_true rfl) ?_
                      dsimp only [List.set]
                      refine r_iinc C dX2_nextToLookAt_111 rfl ?_
                      dsimp only [List.set]
                      refine r_goto C dX2_nextToLookAt_114 (t := 16) (by decide) ?_
                      first
                        | exact ih9 a b _ _ _ _ _ (by omega) (by omega) (by omega) hr1 hr2 hA hB
                        | exact ih9 i b _ _ _ _ _ (by omega) (by omega) (by omega) (sq_1 (by omega)).symm hr2 hA hB
                        | exact ih9 a i _ _ _ _ _ (by omega) (by omega) (by omega) hr1 (sq_1 (by omega)).symm hA hB
                        | exact ih9 i i _ _ _ _ _ (by omega) (by omega) (by omega) (sq_1 (by omega)).symm (sq_1 (by omega)).symm hA hB
      · skip
        have hu0 : u 0 (12 * n + i) = -1 := by
          by_cases e : u 0 (12 * n + i) = -1
          · exact e
          · rw [if_neg e] at c34; cases c34
        have hA := lo_skip ha hu0
        have hB := nx_skip hb (Or.inr (show u 0 (12 * n + i) < 0 by omega))
        refine r_goto C dX2_nextToLookAt_37 (t := 111) (by decide) ?_
        refine r_iinc C dX2_nextToLookAt_111 rfl ?_
        dsimp only [List.set]
        refine r_goto C dX2_nextToLookAt_114 (t := 16) (by decide) ?_
        first
          | exact ih9 a b _ _ _ _ _ (by omega) (by omega) (by omega) hr1 hr2 hA hB
          | exact ih9 i b _ _ _ _ _ (by omega) (by omega) (by omega) (sq_1 (by omega)).symm hr2 hA hB
          | exact ih9 a i _ _ _ _ _ (by omega) (by omega) (by omega) hr1 (sq_1 (by omega)).symm hA hB
          | exact ih9 i i _ _ _ _ _ (by omega) (by omega) (by omega) (sq_1 (by omega)).symm (sq_1 (by omega)).symm hA hB

set_option maxRecDepth 100000 in
set_option maxHeartbeats 4000000 in
theorem C_X4_lookAtNextPlace {gx : GX} {d : Nat} {Qr : Option AV → Hp → Prop} {Qx : String → Hp → Prop} {x : Nat} {A : Nat → Int → Nat} {u : GT} {m : Int} {g : GT} {h : Hp} {n : Int} (Z : Rw gx x A u m g h) (n0 : 0 ≤ n) (n1 : n < g 4 0) (K : ∀ u' h1, Rw gx x A u' m (scF2 n g) h1 → SU u u' → Qr none h1) : aM gx (d + 7) mX4_lookAtNextPlace [vr (A 0 n)] h 0 0 Qr Qx := by
  intro J C
  show J 0 [some (vr (A 0 n)), none] [] h 0 0
  have R := Z.1; have W := Z.2.1; have Ci := Z.2.2; have B := W.b; have b1 := B.nn; have b2 := B.np; have rm := R.room n0 n1; have rl := R.rvl b2.1
  refine r_aload_n C dX4_lookAtNextPlace_0 (i := 0) rfl rfl ?_
  refine c_3_4 C dX4_lookAtNextPlace_1 fX4_69 R (by omega) (by omega) ?_
  refine r_if_eq C dX4_lookAtNextPlace_4 (t := 14) (by decide) (by first | assumption | exact R.rg _ _ | exact R.ru _ _ | (unfold inR; omega)) (fun c4 => ?_) (fun c4 => ?_)
  · skip
    have e0 : scF2 n g = g := if_neg (fun z => z c4)
    rw [e0] at K
    refine r_anull C dX4_lookAtNextPlace_14 ?_
    refine r_astore_n C dX4_lookAtNextPlace_15 (i := 1) rfl (Nat.le_of_ble_eq_true rfl) ?_
    dsimp only [List.set]
    refine r_aload_n C dX4_lookAtNextPlace_16 (i := 1) rfl rfl ?_
    refine r_ifnull C dX4_lookAtNextPlace_17 (t := 27) (by decide) (fun c17 => ?_) (fun a17 c17 => ?_)
    · skip
      try
        have hi := sq_n c17
        have e1 : scG g n = g := if_pos (hs.elim (fun z => z.2) (fun z => by omega))
        rw [e1] at K
      refine r_ret C dX4_lookAtNextPlace_27 rfl ?_
      first
        | exact K _ _ Z (SU.refl _)
        | exact K _ _ ⟨R, W, Ci⟩ (SU.refl _)
        | exact K _ _ ⟨R2, iw_dr W hs.2.1 (by rw [up_ne (by decide)]; exact p1) n, C2⟩ (su_dp _ _ _)
    · skip
      cases c17
  · skip
    have e0 : scF2 n g = scG g n := if_pos c4
    rw [e0] at K
    refine r_aload_n C dX4_lookAtNextPlace_7 (i := 0) rfl rfl ?_
    refine c_VN0 C dX4_lookAtNextPlace_8 sX4_374 rfl R (by omega) (by omega)  (Nat.le_of_ble_eq_true rfl) 0 0 (Nat.zero_le _) (Nat.zero_le _) (C_X2_nextToLookAt Z n0 n1 (fun i hs => ?_))
    refine r_goto C dX4_lookAtNextPlace_11 (t := 15) (by decide) ?_
    refine r_astore_n C dX4_lookAtNextPlace_15 (i := 1) rfl (Nat.le_of_ble_eq_true rfl) ?_
    dsimp only [List.set]
    refine r_aload_n C dX4_lookAtNextPlace_16 (i := 1) rfl rfl ?_
    refine r_ifnull C dX4_lookAtNextPlace_17 (t := 27) (by decide) (fun c17 => ?_) (fun a17 c17 => ?_)
    · skip
      try
        have hi := sq_n c17
        have e1 : scG g n = g := if_pos (hs.elim (fun z => z.2) (fun z => by omega))
        rw [e1] at K
      refine r_ret C dX4_lookAtNextPlace_27 rfl ?_
      first
        | exact K _ _ Z (SU.refl _)
        | exact K _ _ ⟨R, W, Ci⟩ (SU.refl _)
        | exact K _ _ ⟨R2, iw_dr W hs.2.1 (by rw [up_ne (by decide)]; exact p1) n, C2⟩ (su_dp _ _ _)
    · skip
      obtain ⟨hi, e2⟩ := sq_s c17
      have hs := hs.resolve_left (fun z => hi z.1)
      rw [sq_1 hi]
      obtain ⟨p, hu⟩ : ∃ p, u 0 (12 * n + i) = p := ⟨_, rfl⟩
      have i0 := hs.1.1
      have i1 := hs.1.2
      have p1 := rl n i n0 n1 i0 i1
      rw [hu] at hs p1
      have e1 : scG g n = if 0 < g 21 (60 * n + p) then drG (up g 10 n p) n p else up g 10 n p := by
        show (if scI g n (2 * g 11 0) = -1 then g else _) = _
        rw [hs.2.2, if_neg (by omega)]
      rw [e1] at K
      refine r_aload_n C dX4_lookAtNextPlace_20 (i := 1) rfl rfl ?_
      refine c_1_0 C dX4_lookAtNextPlace_21 fX4_278 R (by omega) (by omega) (by omega) (by omega) hu (by omega) ?_
      refine r_ifnonnull C dX4_lookAtNextPlace_24 (t := 28) (by decide) (fun a24 c24 => ?_) (fun c24 => ?_)
      · skip
        refine r_aload_n C dX4_lookAtNextPlace_28 (i := 0) rfl rfl ?_
        refine r_aload_n C dX4_lookAtNextPlace_29 (i := 1) rfl rfl ?_
        refine c_1_0 C dX4_lookAtNextPlace_30 fX4_278 R (by omega) (by omega) (by omega) (by omega) hu (by omega) ?_
        refine c_4_0 C dX4_lookAtNextPlace_33 fX4_180 R (by omega) (by omega) ?_
        refine r_putI C dX4_lookAtNextPlace_36 fX4_378 (Or.inl rfl) (Or.inl rfl) (R.n n0 n1).1.1 (R.n n0 n1).1.2 ?_
        have R := R.node_lk (v := p) n0 n1 ⟨by omega, by omega⟩
        have W : IW (up g 10 n p) := iw_same W (fun k hk j => up_ne (by omega))
        have Ci : CI u (up g 10 n p) := Ci.same (fun _ => rfl) (fun _ => rfl) (fun n p _ _ => by rw [up_ne (by decide)]) (up_ne (by decide)) (fun _ => up_ne (by decide)) (up_ne (by decide)) rl
        refine r_aload_n C dX4_lookAtNextPlace_39 (i := 1) rfl rfl ?_
        refine c_1_3 C dX4_lookAtNextPlace_40 fX4_214 R n0 (by rw [up_ne (by decide)]; exact n1) i0 (by rw [up_ne (by decide)]; exact i1) hu hs.2.1 ?_
        rw [up_ne (by decide)]
        have w := W.w (60 * n + p)
        rw [up_ne (by decide)] at w
        have rg21 := Z.1.rg 21 (60 * n + p)
        refine r_if_eq C dX4_lookAtNextPlace_43 (t := 51) (by decide) (by first | assumption | exact R.rg _ _ | exact R.ru _ _ | (unfold inR; omega)) (fun c43 => ?_) (fun c43 => ?_)
        · skip
          rw [if_neg (by omega)] at K
          refine r_ret C dX4_lookAtNextPlace_51 rfl ?_
          first
            | exact K _ _ Z (SU.refl _)
            | exact K _ _ ⟨R, W, Ci⟩ (SU.refl _)
            | exact K _ _ ⟨R2, iw_dr W hs.2.1 (by rw [up_ne (by decide)]; exact p1) n, C2⟩ (su_dp _ _ _)
        · skip
          rw [if_pos (by omega)] at K
          refine r_aload_n C dX4_lookAtNextPlace_46 (i := 0) rfl rfl ?_
          refine r_aload_n C dX4_lookAtNextPlace_47 (i := 1) rfl rfl ?_
          refine c_S2 C dX4_lookAtNextPlace_48 sX4_176 rfl rfl (Nat.le_of_ble_eq_true rfl) 0 0 (Nat.zero_le _) (Nat.zero_le _) (C_X4_drop ⟨R, W, Ci⟩ n0 (by rw [up_ne (by decide)]; exact n1) i0 (by rw [up_ne (by decide)]; exact i1) hu hs.2.1 (fun h2 R2 C2 => ?_))
          refine r_ret C dX4_lookAtNextPlace_51 rfl ?_
          first
            | exact K _ _ Z (SU.refl _)
            | exact K _ _ ⟨R, W, Ci⟩ (SU.refl _)
            | exact K _ _ ⟨R2, iw_dr W hs.2.1 (by rw [up_ne (by decide)]; exact p1) n, C2⟩ (su_dp _ _ _)
      · skip
        cases c24

set_option maxRecDepth 100000 in
set_option maxHeartbeats 4000000 in
theorem C_X4_stopCountingIfLongDown {gx : GX} {d : Nat} {Qr : Option AV → Hp → Prop} {Qx : String → Hp → Prop} {x : Nat} {A : Nat → Int → Nat} {u : GT} {m : Int} {g : GT} {h : Hp} {n : Int} (Z : Rw gx x A u m g h) (n0 : 0 ≤ n) (n1 : n < g 4 0) (hm : m = g 11 0) (ht : 0 ≤ g 1 0 ∧ g 1 0 ≤ 3001) (hS : 0 ≤ g 8 n ∧ g 8 n ≤ 3001) (K : ∀ h1, Rw gx x A u m (cnF1 n g) h1 → Qr none h1) : aM gx (d + 6) mX4_stopCountingIfLongDown [vr x, vr (A 0 n)] h 0 0 Qr Qx := by
  intro J C
  show J 0 [some (vr x), some (vr (A 0 n)), none, none] [] h 0 0
  have R := Z.1; have W := Z.2.1; have Ci := Z.2.2; have B := W.b; have b1 := B.nn; have b2 := B.np; have rl := R.rvl b2.1
  refine r_aload_n C dX4_stopCountingIfLongDown_0 (i := 1) rfl rfl ?_
  refine c_3_4 C dX4_stopCountingIfLongDown_1 fX4_69 R (by omega) (by omega) ?_
  refine r_if_ne C dX4_stopCountingIfLongDown_4 (t := 27) (by decide) (by first | assumption | exact R.rg _ _ | exact R.ru _ _ | (unfold inR; omega)) (fun c4 => ?_) (fun c4 => ?_)
  · skip
    have e0 : cnF1 n g = g := if_neg (fun z => c4 z.1)
    rw [e0] at K
    refine r_ret C dX4_stopCountingIfLongDown_27 rfl ?_
    exact K _ Z
  · skip
    refine r_aload_n C dX4_stopCountingIfLongDown_7 (i := 1) rfl rfl ?_
    refine c_3_5 C dX4_stopCountingIfLongDown_8 fX4_220 R (by omega) (by omega) ?_
    refine r_if_eq C dX4_stopCountingIfLongDown_11 (t := 27) (by decide) (by first | assumption | exact R.rg _ _ | exact R.ru _ _ | (unfold inR; omega)) (fun c11 => ?_) (fun c11 => ?_)
    · skip
      have e0 : cnF1 n g = g := if_neg (fun z => z.2.1 c11)
      rw [e0] at K
      refine r_ret C dX4_stopCountingIfLongDown_27 rfl ?_
      exact K _ Z
    · skip
      refine r_aload_n C dX4_stopCountingIfLongDown_14 (i := 0) rfl rfl ?_
      refine c_5_3 C dX4_stopCountingIfLongDown_15 fX4_22 R  ?_
      refine r_aload_n C dX4_stopCountingIfLongDown_18 (i := 1) rfl rfl ?_
      refine c_3_6 C dX4_stopCountingIfLongDown_19 fX4_72 R (by omega) (by omega) (by assumption) ?_
      refine r_isub C dX4_stopCountingIfLongDown_22 ?_
      refine r_iconst C dX4_stopCountingIfLongDown_23 ?_
      refine r_ic_ge C dX4_stopCountingIfLongDown_24 (t := 28) (by decide) (by first | assumption | exact R.rg _ _ | exact R.ru _ _ | (unfold inR; omega)) (by first | assumption | exact R.rg _ _ | exact R.ru _ _ | (unfold inR; omega)) (fun c24 => ?_) (fun c24 => ?_)
      · skip
        have e0 : cnF1 n g = itrI (cpF n) (g 11 0) (up g 9 n 0) := if_pos ⟨c4, c11, by omega⟩
        rw [e0] at K
        refine r_aload_n C dX4_stopCountingIfLongDown_28 (i := 1) rfl rfl ?_
        refine r_iconst C dX4_stopCountingIfLongDown_29 ?_
        refine r_putI C dX4_stopCountingIfLongDown_30 fX4_220 (Or.inl rfl) (Or.inr ⟨rfl, Or.inl rfl⟩) (R.n n0 n1).1.1 (R.n n0 n1).1.2 ?_
        have ZZ : Rw gx x A u m (up g 9 n 0) (wI h (A 0 n) (5 : Nat) 0) := ⟨R.node_ct n0 n1 inR0, iw_iv W (iv1_bool W.i (by decide) (Or.inl rfl)) (fun k hk j => up_ne (by omega)), Ci.same (fun _ => rfl) (fun _ => rfl) (fun n p _ _ => by rw [up_ne (by decide)]) (up_ne (by decide)) (fun _ => up_ne (by decide)) (up_ne (by decide)) rl⟩
        refine r_iconst C dX4_stopCountingIfLongDown_33 ?_
        refine r_istore_n C dX4_stopCountingIfLongDown_34 (i := 2) rfl (Nat.le_of_ble_eq_true rfl) ?_
        dsimp only [List.set]
        suffices LOOP : ∀ (m9 : Nat) (i : Int) (h2 : Hp) (y : Option AV), g 11 0 - i < (m9 : Int) → 0 ≤ i → i ≤ g 11 0 → Rw gx x A u m (itrI (cpF n) i (up g 9 n 0)) h2 → J 35 [some (vr x), some (vr (A 0 n)), some (vi i), y] [] h2 0 0 by
          exact LOOP ((g 11 0).toNat + 1) 0 _ _ (by omega) (by omega) (by omega) ZZ
        intro m9
        induction m9 with
        | zero => intro i h2 y hm9 i0 i1 Z2; exact absurd hm9 (by omega)
        | succ m9 ih9 =>
          intro i h2 y hm9 i0 i1 Z2
          have T := (cp_i ZZ.2.1.i n (j := i) (by rw [up_ne (by decide)]; exact i1)).2
          obtain ⟨s, hs⟩ : ∃ s, s = itrI (cpF n) i (up g 9 n 0) := ⟨_, rfl⟩
          rw [← hs] at T Z2
          have R := Z2.1
          have W := Z2.2.1
          have Ci := Z2.2.2
          have s4 := (T 4 (by decide) 0).trans (up_ne (by decide))
          have s11 := (T 11 (by decide) 0).trans (up_ne (by decide))
          have rl := R.rvl (by omega)
          refine r_iload_n C dX4_stopCountingIfLongDown_35 (i := 2) rfl rfl ?_
          refine r_aload_n C dX4_stopCountingIfLongDown_36 (i := 0) rfl rfl ?_
          refine c_5_1 C dX4_stopCountingIfLongDown_37 fX4_16 R  ?_
          refine c_szA C dX4_stopCountingIfLongDown_40 sX4_44 R  (Nat.le_of_ble_eq_true rfl) ?_
          refine r_ic_ge C dX4_stopCountingIfLongDown_43 (t := 81) (by decide) (by first | assumption | exact R.rg _ _ | exact R.ru _ _ | (unfold inR; omega)) (by first | assumption | exact R.rg _ _ | exact R.ru _ _ | (unfold inR; omega)) (fun c43 => ?_) (fun c43 => ?_)
          · skip
            refine r_ret C dX4_stopCountingIfLongDown_81 rfl ?_
            rw [hs] at Z2
            rw [show i = g 11 0 by omega] at Z2
            exact K _ Z2
          · skip
            refine r_aload_n C dX4_stopCountingIfLongDown_46 (i := 0) rfl rfl ?_
            refine c_5_1 C dX4_stopCountingIfLongDown_47 fX4_16 R  ?_
            refine r_iload_n C dX4_stopCountingIfLongDown_50 (i := 2) rfl rfl ?_
            refine c_gtA C dX4_stopCountingIfLongDown_51 sX4_127 R  (by omega) (by omega) (Nat.le_of_ble_eq_true rfl) ?_
            refine c_castQ C dX4_stopCountingIfLongDown_54 kX4_131 R (by omega) (by omega) ?_
            refine r_astore_n C dX4_stopCountingIfLongDown_57 (i := 3) rfl (Nat.le_of_ble_eq_true rfl) ?_
            dsimp only [List.set]
            refine r_aload_n C dX4_stopCountingIfLongDown_58 (i := 3) rfl rfl ?_
            refine r_aload_n C dX4_stopCountingIfLongDown_59 (i := 1) rfl rfl ?_
            refine c_VQ1 C dX4_stopCountingIfLongDown_60 sX4_363 rfl R (by omega) (by omega) rfl (Nat.le_of_ble_eq_true rfl) 0 0 (Nat.zero_le _) (Nat.zero_le _) (C_X3_isHeldBy R W.b i0 (by omega) n0 (by omega) (fun z hz hb => ?_))
            refine r_if_eq C dX4_stopCountingIfLongDown_63 (t := 75) (by decide) (by first | assumption | exact R.rg _ _ | exact R.ru _ _ | (unfold inR; omega)) (fun c63 => ?_) (fun c63 => ?_)
            · skip
              have hpl := hb.f c63
              refine r_iinc C dX4_stopCountingIfLongDown_75 rfl ?_
              dsimp only [List.set]
              refine r_goto C dX4_stopCountingIfLongDown_78 (t := 35) (by decide) ?_
              first
                | exact ih9 _ _ _ (by omega) (by omega) (by omega) (by rw [itrI_s _ _ i0, ← hs]; unfold cpF; rw [if_pos (by omega)]; exact Z2)
                | exact ih9 _ _ _ (by omega) (by omega) (by omega) (by rw [itrI_s _ _ i0, ← hs]; unfold cpF; rw [if_neg (by omega)]; exact Z3)
            · skip
              have hpl := hb.t c63
              refine r_aload_n C dX4_stopCountingIfLongDown_66 (i := 3) rfl rfl ?_
              refine r_aload_n C dX4_stopCountingIfLongDown_67 (i := 1) rfl rfl ?_
              refine c_VQ1 C dX4_stopCountingIfLongDown_68 sX4_285 rfl R (by omega) (by omega) rfl (Nat.le_of_ble_eq_true rfl) 0 0 (Nat.zero_le _) (Nat.zero_le _) (C_X3_forget R W.b i0 (by omega) n0 (by omega) (W.p.b W.b i0 (by omega)) (fun h3 R3 => ?_))
              refine r_aload_n C dX4_stopCountingIfLongDown_71 (i := 3) rfl rfl ?_
              have e11 : (if s 13 i = n then elG (fgtG s i n) i else fgtG s i n) 11 0 = s 11 0 := by
                split
                · rw [el_ne _ _ (by decide), fgt_ne _ _ _ (by decide) (by decide)]
                · rw [fgt_ne _ _ _ (by decide) (by decide)]
              refine c_VQ0 C dX4_stopCountingIfLongDown_72 sX4_329 rfl R3 i0 (by omega) (Nat.le_of_ble_eq_true rfl) 0 0 (Nat.zero_le _) (Nat.zero_le _) (C_X3_endLease R3 i0 (by omega) (fun h4 R4 => ?_))
              have e5 : elG (if s 13 i = n then elG (fgtG s i n) i else fgtG s i n) i = elG (fgtG s i n) i := by
                split
                · exact el_el _ _
                · rfl
              rw [e5] at R4
              have e6 : ∀ k, k ≠ 13 ∧ k ≠ 14 ∧ k ≠ 16 ∧ k ≠ 17 → ∀ j, elG (fgtG s i n) i k j = s k j := fun k hk j => by rw [el_ne _ _ ⟨hk.1, hk.2.1⟩, fgt_ne _ _ _ hk.2.2.1 hk.2.2.2]
              have Z3 : Rw gx x A u m (elG (fgtG s i n) i) h4 := ⟨R4, iw_fe W i0 (by omega) n, Ci.same (fun _ => rfl) (fun _ => rfl) (fun n p _ _ => by rw [e6 18 (by decide)]) (e6 4 (by decide) 0) (e6 6 (by decide)) (e6 11 (by decide) 0) rl⟩
              refine r_iinc C dX4_stopCountingIfLongDown_75 rfl ?_
              dsimp only [List.set]
              refine r_goto C dX4_stopCountingIfLongDown_78 (t := 35) (by decide) ?_
              first
                | exact ih9 _ _ _ (by omega) (by omega) (by omega) (by rw [itrI_s _ _ i0, ← hs]; unfold cpF; rw [if_pos (by omega)]; exact Z2)
                | exact ih9 _ _ _ (by omega) (by omega) (by omega) (by rw [itrI_s _ _ i0, ← hs]; unfold cpF; rw [if_neg (by omega)]; exact Z3)
      · skip
        have e0 : cnF1 n g = g := if_neg (fun z => by have := z.2.2; omega)
        rw [e0] at K
        refine r_ret C dX4_stopCountingIfLongDown_27 rfl ?_
        exact K _ Z

