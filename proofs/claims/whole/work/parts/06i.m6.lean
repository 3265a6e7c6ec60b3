/-! ===== the reference: writing all copies, new pieces of a file ===== -/
def CL (g : GT) : Prop := ∀ j, 0 ≤ g 19 j ∧ g 19 j ≤ 4
theorem cl_same {g g' : GT} (K : CL g) (h : ∀ j, g' 19 j = g 19 j) : CL g' := fun j => by rw [h j]; exact K j
theorem cl_up {g : GT} (K : CL g) {k : Nat} {i x : Int} (hx : k = 19 → 0 ≤ x ∧ x ≤ 4) : CL (up g k i x) := by
  intro j
  unfold up
  split
  · rename_i h
    exact hx h.1.symm
  · exact K j
theorem wr_ne (g : GT) (n p c x : Int) {k : Nat} (h : k ≠ 19 ∧ k ≠ 20 ∧ k ≠ 21) (j : Int) : wrG g n p c x k j = g k j := by
  unfold wrG
  rw [up_ne h.2.2, up_ne h.2.1, up_ne h.1, fil_ne _ _ _ h.2.1]
theorem cl_wr {g : GT} (K : CL g) (n p x : Int) {c : Int} (h0 : 0 ≤ c) (h1 : c < 4) : CL (wrG g n p c x) := by
  unfold wrG
  refine cl_up (cl_up (cl_up (cl_same K (fun j => fil_ne _ _ _ (by decide) j)) (fun _ => ?_)) (fun z => absurd z (by decide))) (fun z => absurd z (by decide))
  have := K (60 * n + p)
  split <;> omega
theorem wa_i {g : GT} (K : CL g) (p x i : Int) {c : Int} (h0 : 0 ≤ c) (h1 : c < 4) : CL (itrI (waF p c x) i g) ∧ (∀ k, k ≠ 19 ∧ k ≠ 20 ∧ k ≠ 21 → ∀ j, itrI (waF p c x) i g k j = g k j) := by
  refine itrI_ind (P := fun s => CL s ∧ (∀ k, k ≠ 19 ∧ k ≠ 20 ∧ k ≠ 21 → ∀ j, s k j = g k j)) (waF p c x) ⟨K, fun _ _ _ => rfl⟩ (fun i s _ _ S => ?_)
  unfold waF
  split
  · exact ⟨cl_wr S.1 _ _ _ h0 h1, fun k hk j => by rw [wr_ne _ _ _ _ _ hk]; exact S.2 k hk j⟩
  · exact S

set_option maxRecDepth 100000 in
set_option maxHeartbeats 4000000 in
theorem C_X5_writesAll {gx : GX} {d : Nat} {Qr : Option AV → Hp → Prop} {Qx : String → Hp → Prop} {q : Nat} {ar : Nat → Nat} {g : GT} {h : Hp} {p c x : Int} (R : RM q ar g h) (B : BD g) (K : CL g) (hp0 : 0 ≤ p) (hp1 : p < g 11 0) (hc0 : 0 ≤ c) (hc1 : c < 4) (hx : inR x) (k : ∀ z h1, inR z → BV z (waP g p) → RM q ar (if z = 0 then elG (wa1 g p c x) p else wa1 g p c x) h1 → Qr (some (vi z)) h1) : aM gx (d + 3) mX5_writesAll [vr q, vi p, vi c, vi x] h 0 0 Qr Qx := by
  intro J C
  show J 0 [some (vr q), some (vi p), some (vi c), some (vi x), none, none, none] [] h 0 0
  have b2 := B.np; have b1 := B.nn; have bcp := B.cp p hp0 hp1; have rg := R.rg
  refine r_iconst C dX5_writesAll_0 ?_
  refine r_istore C dX5_writesAll_1 (Nat.le_of_ble_eq_true rfl) ?_
  dsimp only [List.set]
  refine r_iconst C dX5_writesAll_3 ?_
  refine r_istore C dX5_writesAll_4 (Nat.le_of_ble_eq_true rfl) ?_
  dsimp only [List.set]
  suffices LOOP : ∀ (m : Nat) (z i : Int) (h : Hp) (o6 : Option AV), g 16 p - i < (m : Int) → 0 ≤ i → i ≤ g 16 p → inR z → BV z (∀ k, 0 ≤ k → k < i → g 7 (g 17 (8 * p + k)) ≠ 0) → RM q ar (itrI (waF p c x) i g) h → J 6 [some (vr q), some (vi p), some (vi c), some (vi x), some (vi z), some (vi i), o6] [] h 0 0 by
    exact LOOP ((g 16 p).toNat + 1) 1 0 _ _ (by omega) (by omega) (by omega) inR1 (.y (fun k a b => absurd a (by omega))) R
  intro m
  induction m with
  | zero => intro z i h o6 hm hi0 hi1 hzr hz R; exact absurd hm (by omega)
  | succ m ih =>
    intro z i h o6 hm hi0 hi1 hzr hz R
    have S := wa_i K p x i hc0 hc1
    obtain ⟨s, hs⟩ : ∃ s, s = itrI (waF p c x) i g := ⟨_, rfl⟩
    rw [← hs] at R S
    have SB := bd_same B (fun k hk j => S.2 k (by omega) j)
    have e16 := S.2 16 (by decide) p; have e17 := S.2 17 (by decide) (8 * p + i); have e11 := S.2 11 (by decide) 0; have e4 := S.2 4 (by decide) 0
    have e7 := S.2 7 (by decide) (s 17 (8 * p + i))
    have rg := R.rg
    refine r_iload C dX5_writesAll_6 rfl ?_
    refine r_aload_n C dX5_writesAll_8 (i := 0) rfl rfl ?_
    refine m_getA C dX5_writesAll_9 fX5_45 R (by decide) rfl ?_
    refine r_iload_n C dX5_writesAll_12 (i := 1) rfl rfl ?_
    refine m_iald C dX5_writesAll_13 R (N := 60) rfl (by decide) rfl (by omega) (by omega) (by omega) ?_
    refine r_ic_ge C dX5_writesAll_14 (t := 78) (by decide) (by first | assumption | exact R.rg _ _ | exact rg _ _ | (unfold inR; omega)) (by first | assumption | exact R.rg _ _ | exact rg _ _ | (unfold inR; omega)) (fun c14 => ?_) (fun c14 => ?_)
    · skip
      have hsg : s = wa1 g p c x := by rw [hs, show i = g 16 p by omega]; rfl
      have hzz : BV z (waP g p) := by rw [show i = g 16 p by omega] at hz; exact hz
      have hz01 := hz.b
      refine r_iload C dX5_writesAll_78 rfl ?_
      refine r_if_ne C dX5_writesAll_80 (t := 88) (by decide) (by first | assumption | exact R.rg _ _ | exact rg _ _ | (unfold inR; omega)) (fun c80 => ?_) (fun c80 => ?_)
      · skip
        refine r_iload C dX5_writesAll_88 rfl ?_
        refine r_iret C dX5_writesAll_90 (Or.inr ⟨rfl, (by first | assumption | omega | decide)⟩) ?_
        first
          | exact k _ _ hzr hzz (by rw [if_neg c80, ← hsg]; exact R)
          | exact k _ _ hzr hzz (by rw [if_pos (by omega), ← hsg]; exact R)
      · skip
        refine r_aload_n C dX5_writesAll_83 (i := 0) rfl rfl ?_
        refine r_iload_n C dX5_writesAll_84 (i := 1) rfl rfl ?_
        refine m_V1 C dX5_writesAll_85 sX5_119 rfl R (Nat.le_of_ble_eq_true rfl) (C_X5_endsLease R hp0 (by omega) (fun h R => ?_))
        refine r_iload C dX5_writesAll_88 rfl ?_
        refine r_iret C dX5_writesAll_90 (Or.inr ⟨rfl, (by first | assumption | omega | decide)⟩) ?_
        first
          | exact k _ _ hzr hzz (by rw [if_neg c80, ← hsg]; exact R)
          | exact k _ _ hzr hzz (by rw [if_pos (by omega), ← hsg]; exact R)
    · skip
      have bcy := SB.cy p i hp0 (by omega) hi0 (by omega)
      refine r_aload_n C dX5_writesAll_17 (i := 0) rfl rfl ?_
      refine m_getA C dX5_writesAll_18 fX5_48 R (by decide) rfl ?_
      refine r_bipush C dX5_writesAll_21 (by decide) ?_
      refine r_iload_n C dX5_writesAll_23 (i := 1) rfl rfl ?_
      refine r_imul C dX5_writesAll_24 ?_
      refine r_iload C dX5_writesAll_25 rfl ?_
      refine r_iadd C dX5_writesAll_27 ?_
      refine m_iald C dX5_writesAll_28 R (N := 480) rfl (by decide) rfl (by omega) (by omega) (by omega) ?_
      refine r_istore C dX5_writesAll_29 (Nat.le_of_ble_eq_true rfl) ?_
      dsimp only [List.set]
      refine r_iload C dX5_writesAll_31 rfl ?_
      refine r_if_eq C dX5_writesAll_33 (t := 50) (by decide) (by first | assumption | exact R.rg _ _ | exact rg _ _ | (unfold inR; omega)) (fun c33 => ?_) (fun c33 => ?_)
      · skip
        refine r_iconst C dX5_writesAll_50 ?_
        refine r_istore C dX5_writesAll_51 (Nat.le_of_ble_eq_true rfl) ?_
        dsimp only [List.set]
        refine r_aload_n C dX5_writesAll_53 (i := 0) rfl rfl ?_
        refine m_getA C dX5_writesAll_54 fX5_20 R (by decide) rfl ?_
        refine r_iload C dX5_writesAll_57 rfl ?_
        refine m_zald C dX5_writesAll_59 R (N := 8) rfl (by decide) rfl (by omega) (by omega) (by omega) ?_
        refine r_if_eq C dX5_writesAll_60 (t := 72) (by decide) (by first | assumption | exact R.rg _ _ | exact rg _ _ | (unfold inR; omega)) (fun c60 => ?_) (fun c60 => ?_)
        · skip
          refine r_iinc C dX5_writesAll_72 rfl ?_
          dsimp only [List.set]
          refine r_goto C dX5_writesAll_75 (t := 6) (by decide) ?_
          first
            | exact ih _ _ _ _ (by omega) (by omega) (by omega) inR1 (.y (all_s (hz.t c33) (by rw [← e17, ← e7]; exact c43))) (by rw [itrI_s _ _ hi0, ← hs]; unfold waF; rw [if_pos c60]; exact R)
            | exact absurd c60 c43
            | exact absurd c43 c60
            | exact ih _ _ _ _ (by omega) (by omega) (by omega) inR0 (.n (fun y => hz.f c33 (fun k a b => y k a (by omega)))) (by rw [itrI_s _ _ hi0, ← hs]; unfold waF; rw [if_pos c60]; exact R)
            | exact ih _ _ _ _ (by omega) (by omega) (by omega) inR0 (.n (fun y => hz.f c33 (fun k a b => y k a (by omega)))) (by rw [itrI_s _ _ hi0, ← hs]; unfold waF; rw [if_neg (fun y => y c60)]; exact R)
            | exact ih _ _ _ _ (by omega) (by omega) (by omega) inR0 (.n (fun y => y i hi0 (by omega) (by rw [← e17, ← e7]; exact c43))) (by rw [itrI_s _ _ hi0, ← hs]; unfold waF; rw [if_neg (fun y => y c60)]; exact R)
        · skip
          refine r_aload_n C dX5_writesAll_63 (i := 0) rfl rfl ?_
          refine r_iload C dX5_writesAll_64 rfl ?_
          refine r_iload_n C dX5_writesAll_66 (i := 1) rfl rfl ?_
          refine r_iload_n C dX5_writesAll_67 (i := 2) rfl rfl ?_
          refine r_iload_n C dX5_writesAll_68 (i := 3) rfl rfl ?_
          refine m_V4 C dX5_writesAll_69 sX5_179 rfl R (Nat.le_of_ble_eq_true rfl) (C_X5_writes R (by omega) (by omega) hp0 (by omega) hc0 hc1 (S.1 _).1 (S.1 _).2 hx (fun h R => ?_))
          refine r_iinc C dX5_writesAll_72 rfl ?_
          dsimp only [List.set]
          refine r_goto C dX5_writesAll_75 (t := 6) (by decide) ?_
          first
            | exact ih _ _ _ _ (by omega) (by omega) (by omega) inR1 (.y (all_s (hz.t c33) (by rw [← e17, ← e7]; exact c43))) (by rw [itrI_s _ _ hi0, ← hs]; unfold waF; rw [if_pos c60]; exact R)
            | exact absurd c60 c43
            | exact absurd c43 c60
            | exact ih _ _ _ _ (by omega) (by omega) (by omega) inR0 (.n (fun y => hz.f c33 (fun k a b => y k a (by omega)))) (by rw [itrI_s _ _ hi0, ← hs]; unfold waF; rw [if_pos c60]; exact R)
            | exact ih _ _ _ _ (by omega) (by omega) (by omega) inR0 (.n (fun y => hz.f c33 (fun k a b => y k a (by omega)))) (by rw [itrI_s _ _ hi0, ← hs]; unfold waF; rw [if_neg (fun y => y c60)]; exact R)
            | exact ih _ _ _ _ (by omega) (by omega) (by omega) inR0 (.n (fun y => y i hi0 (by omega) (by rw [← e17, ← e7]; exact c43))) (by rw [itrI_s _ _ hi0, ← hs]; unfold waF; rw [if_neg (fun y => y c60)]; exact R)
      · skip
        refine r_aload_n C dX5_writesAll_36 (i := 0) rfl rfl ?_
        refine m_getA C dX5_writesAll_37 fX5_20 R (by decide) rfl ?_
        refine r_iload C dX5_writesAll_40 rfl ?_
        refine m_zald C dX5_writesAll_42 R (N := 8) rfl (by decide) rfl (by omega) (by omega) (by omega) ?_
        refine r_if_eq C dX5_writesAll_43 (t := 50) (by decide) (by first | assumption | exact R.rg _ _ | exact rg _ _ | (unfold inR; omega)) (fun c43 => ?_) (fun c43 => ?_)
        · skip
          refine r_iconst C dX5_writesAll_50 ?_
          refine r_istore C dX5_writesAll_51 (Nat.le_of_ble_eq_true rfl) ?_
          dsimp only [List.set]
          refine r_aload_n C dX5_writesAll_53 (i := 0) rfl rfl ?_
          refine m_getA C dX5_writesAll_54 fX5_20 R (by decide) rfl ?_
          refine r_iload C dX5_writesAll_57 rfl ?_
          refine m_zald C dX5_writesAll_59 R (N := 8) rfl (by decide) rfl (by omega) (by omega) (by omega) ?_
          refine r_if_eq C dX5_writesAll_60 (t := 72) (by decide) (by first | assumption | exact R.rg _ _ | exact rg _ _ | (unfold inR; omega)) (fun c60 => ?_) (fun c60 => ?_)
          · skip
            refine r_iinc C dX5_writesAll_72 rfl ?_
            dsimp only [List.set]
            refine r_goto C dX5_writesAll_75 (t := 6) (by decide) ?_
            first
              | exact ih _ _ _ _ (by omega) (by omega) (by omega) inR1 (.y (all_s (hz.t c33) (by rw [← e17, ← e7]; exact c43))) (by rw [itrI_s _ _ hi0, ← hs]; unfold waF; rw [if_pos c60]; exact R)
              | exact absurd c60 c43
              | exact absurd c43 c60
              | exact ih _ _ _ _ (by omega) (by omega) (by omega) inR0 (.n (fun y => hz.f c33 (fun k a b => y k a (by omega)))) (by rw [itrI_s _ _ hi0, ← hs]; unfold waF; rw [if_pos c60]; exact R)
              | exact ih _ _ _ _ (by omega) (by omega) (by omega) inR0 (.n (fun y => hz.f c33 (fun k a b => y k a (by omega)))) (by rw [itrI_s _ _ hi0, ← hs]; unfold waF; rw [if_neg (fun y => y c60)]; exact R)
              | exact ih _ _ _ _ (by omega) (by omega) (by omega) inR0 (.n (fun y => y i hi0 (by omega) (by rw [← e17, ← e7]; exact c43))) (by rw [itrI_s _ _ hi0, ← hs]; unfold waF; rw [if_neg (fun y => y c60)]; exact R)
          · skip
            refine r_aload_n C dX5_writesAll_63 (i := 0) rfl rfl ?_
            refine r_iload C dX5_writesAll_64 rfl ?_
            refine r_iload_n C dX5_writesAll_66 (i := 1) rfl rfl ?_
            refine r_iload_n C dX5_writesAll_67 (i := 2) rfl rfl ?_
            refine r_iload_n C dX5_writesAll_68 (i := 3) rfl rfl ?_
            refine m_V4 C dX5_writesAll_69 sX5_179 rfl R (Nat.le_of_ble_eq_true rfl) (C_X5_writes R (by omega) (by omega) hp0 (by omega) hc0 hc1 (S.1 _).1 (S.1 _).2 hx (fun h R => ?_))
            refine r_iinc C dX5_writesAll_72 rfl ?_
            dsimp only [List.set]
            refine r_goto C dX5_writesAll_75 (t := 6) (by decide) ?_
            first
              | exact ih _ _ _ _ (by omega) (by omega) (by omega) inR1 (.y (all_s (hz.t c33) (by rw [← e17, ← e7]; exact c43))) (by rw [itrI_s _ _ hi0, ← hs]; unfold waF; rw [if_pos c60]; exact R)
              | exact absurd c60 c43
              | exact absurd c43 c60
              | exact ih _ _ _ _ (by omega) (by omega) (by omega) inR0 (.n (fun y => hz.f c33 (fun k a b => y k a (by omega)))) (by rw [itrI_s _ _ hi0, ← hs]; unfold waF; rw [if_pos c60]; exact R)
              | exact ih _ _ _ _ (by omega) (by omega) (by omega) inR0 (.n (fun y => hz.f c33 (fun k a b => y k a (by omega)))) (by rw [itrI_s _ _ hi0, ← hs]; unfold waF; rw [if_neg (fun y => y c60)]; exact R)
              | exact ih _ _ _ _ (by omega) (by omega) (by omega) inR0 (.n (fun y => y i hi0 (by omega) (by rw [← e17, ← e7]; exact c43))) (by rw [itrI_s _ _ hi0, ← hs]; unfold waF; rw [if_neg (fun y => y c60)]; exact R)
        · skip
          refine r_iconst C dX5_writesAll_46 ?_
          refine r_goto C dX5_writesAll_47 (t := 51) (by decide) ?_
          refine r_istore C dX5_writesAll_51 (Nat.le_of_ble_eq_true rfl) ?_
          dsimp only [List.set]
          refine r_aload_n C dX5_writesAll_53 (i := 0) rfl rfl ?_
          refine m_getA C dX5_writesAll_54 fX5_20 R (by decide) rfl ?_
          refine r_iload C dX5_writesAll_57 rfl ?_
          refine m_zald C dX5_writesAll_59 R (N := 8) rfl (by decide) rfl (by omega) (by omega) (by omega) ?_
          refine r_if_eq C dX5_writesAll_60 (t := 72) (by decide) (by first | assumption | exact R.rg _ _ | exact rg _ _ | (unfold inR; omega)) (fun c60 => ?_) (fun c60 => ?_)
          · skip
            refine r_iinc C dX5_writesAll_72 rfl ?_
            dsimp only [List.set]
            refine r_goto C dX5_writesAll_75 (t := 6) (by decide) ?_
            first
              | exact ih _ _ _ _ (by omega) (by omega) (by omega) inR1 (.y (all_s (hz.t c33) (by rw [← e17, ← e7]; exact c43))) (by rw [itrI_s _ _ hi0, ← hs]; unfold waF; rw [if_pos c60]; exact R)
              | exact absurd c60 c43
              | exact absurd c43 c60
              | exact ih _ _ _ _ (by omega) (by omega) (by omega) inR0 (.n (fun y => hz.f c33 (fun k a b => y k a (by omega)))) (by rw [itrI_s _ _ hi0, ← hs]; unfold waF; rw [if_pos c60]; exact R)
              | exact ih _ _ _ _ (by omega) (by omega) (by omega) inR0 (.n (fun y => hz.f c33 (fun k a b => y k a (by omega)))) (by rw [itrI_s _ _ hi0, ← hs]; unfold waF; rw [if_neg (fun y => y c60)]; exact R)
              | exact ih _ _ _ _ (by omega) (by omega) (by omega) inR0 (.n (fun y => y i hi0 (by omega) (by rw [← e17, ← e7]; exact c43))) (by rw [itrI_s _ _ hi0, ← hs]; unfold waF; rw [if_neg (fun y => y c60)]; exact R)
          · skip
            refine r_aload_n C dX5_writesAll_63 (i := 0) rfl rfl ?_
            refine r_iload C dX5_writesAll_64 rfl ?_
            refine r_iload_n C dX5_writesAll_66 (i := 1) rfl rfl ?_
            refine r_iload_n C dX5_writesAll_67 (i := 2) rfl rfl ?_
            refine r_iload_n C dX5_writesAll_68 (i := 3) rfl rfl ?_
            refine m_V4 C dX5_writesAll_69 sX5_179 rfl R (Nat.le_of_ble_eq_true rfl) (C_X5_writes R (by omega) (by omega) hp0 (by omega) hc0 hc1 (S.1 _).1 (S.1 _).2 hx (fun h R => ?_))
            refine r_iinc C dX5_writesAll_72 rfl ?_
            dsimp only [List.set]
            refine r_goto C dX5_writesAll_75 (t := 6) (by decide) ?_
            first
              | exact ih _ _ _ _ (by omega) (by omega) (by omega) inR1 (.y (all_s (hz.t c33) (by rw [← e17, ← e7]; exact c43))) (by rw [itrI_s _ _ hi0, ← hs]; unfold waF; rw [if_pos c60]; exact R)
              | exact absurd c60 c43
              | exact absurd c43 c60
              | exact ih _ _ _ _ (by omega) (by omega) (by omega) inR0 (.n (fun y => hz.f c33 (fun k a b => y k a (by omega)))) (by rw [itrI_s _ _ hi0, ← hs]; unfold waF; rw [if_pos c60]; exact R)
              | exact ih _ _ _ _ (by omega) (by omega) (by omega) inR0 (.n (fun y => hz.f c33 (fun k a b => y k a (by omega)))) (by rw [itrI_s _ _ hi0, ← hs]; unfold waF; rw [if_neg (fun y => y c60)]; exact R)
              | exact ih _ _ _ _ (by omega) (by omega) (by omega) inR0 (.n (fun y => y i hi0 (by omega) (by rw [← e17, ← e7]; exact c43))) (by rw [itrI_s _ _ hi0, ← hs]; unfold waF; rw [if_neg (fun y => y c60)]; exact R)

theorem bd_row {g : GT} (B : BD g) {i x : Int} (h0 : 0 ≤ x) (h1 : x < g 11 0) : BD (up g 26 i x) := by
  have ne : ∀ k, k ≠ 26 → ∀ j, up g 26 i x k j = g k j := fun k hk j => up_ne hk
  refine ⟨?_, ?_, ?_, ?_, ?_, ?_, ?_, ?_, ?_, ?_, ?_⟩
  · rw [ne 4 (by decide)]; exact B.nn
  · rw [ne 11 (by decide)]; exact B.np
  · rw [ne 22 (by decide)]; exact B.nf
  · intro n; rw [ne 7 (by decide)]; exact B.isup n
  · intro n; rw [ne 9 (by decide)]; exact B.ct n
  · intro n; rw [ne 15 (by decide)]; exact B.2.2.2.2.2.1 n
  · intro p; rw [ne 11 (by decide), ne 16 (by decide)]; exact B.cp p
  · intro p k; rw [ne 11 (by decide), ne 16 (by decide), ne 17 (by decide), ne 4 (by decide)]; exact B.cy p k
  · intro f; rw [ne 22 (by decide), ne 25 (by decide)]; exact B.rw f
  · intro f k h2 h3 h4 h5
    rw [ne 22 (by decide)] at h3
    rw [ne 25 (by decide)] at h5
    rw [ne 11 (by decide), up_at]
    split
    · exact ⟨h0, h1⟩
    · exact B.re f k h2 h3 h4 h5
  · intro p; rw [ne 11 (by decide), ne 13 (by decide)]; exact B.pr p
theorem pt_f {g : GT} (B : BD g) (D : DC g) {f z : Int} (hn : g 11 0 < 60) (hf0 : 0 ≤ f) (hf1 : f < g 22 0) (hz0 : 0 ≤ z) (hz1 : z < g 25 f) : BD (ptG g f z) ∧ DC (ptG g f z) ∧ ptG g f z 11 0 = g 11 0 + 1 ∧ (∀ k, k ≠ 11 ∧ k ≠ 12 ∧ k ≠ 13 ∧ k ≠ 14 ∧ k ≠ 16 ∧ k ≠ 17 ∧ k ≠ 18 ∧ k ≠ 19 ∧ k ≠ 20 ∧ k ≠ 21 ∧ k ≠ 26 → ∀ j, ptG g f z k j = g k j) ∧ (∀ j, ptG g f z 12 j = npG g 12 j) := by
  have bre := B.re f z hf0 hf1 hz0 hz1
  have b2 := B.np
  have S := pt_i (l := fgG g (g 26 (6 * f + z)) 0) B D hn bre.1 bre.2 (B.cp _ bre.1 bre.2).1 (Int.le_refl _)
  unfold ptG
  refine ⟨bd_row S.1 b2.1 (by rw [S.2.2.1]; omega), dc_up0 S.2.1 (by decide), by rw [up_ne (by decide)]; exact S.2.2.1, fun k hk j => ?_, fun j => ?_⟩
  · rw [up_ne (by omega)]
    exact S.2.2.2.1 k (by omega) j
  · rw [up_ne (by decide)]
    exact S.2.2.2.2.1 j

set_option maxRecDepth 100000 in
set_option maxHeartbeats 4000000 in
theorem C_X5_readies {gx : GX} {d : Nat} {Qr : Option AV → Hp → Prop} {Qx : String → Hp → Prop} {q : Nat} {ar : Nat → Nat} {g : GT} {h : Hp} {f z : Int} (R : RM q ar g h) (B : BD g) (D : DC g) (hf0 : 0 ≤ f) (hf1 : f < g 22 0) (hz0 : 0 ≤ z) (hz1 : z < g 25 f) (hsh : 0 < fwG g (g 26 (6 * f + z)) f → g 11 0 < 60 ∧ fgG g (g 26 (6 * f + z)) 0 ≠ -1) (hv : ∀ j, 0 ≤ g 12 j ∧ g 12 j < 1000000) (ht0 : 0 ≤ g 1 0) (ht1 : g 1 0 ≤ 3000) (k : ∀ h1, RM q ar (rdG g f z) h1 → Qr (some (vi (rdP g f z))) h1) : aM gx (d + 5) mX5_readies [vr q, vi f, vi z] h 0 0 Qr Qx := by
  intro J C
  show J 0 [some (vr q), some (vi f), some (vi z), none] [] h 0 0
  have b3 := B.nf; have b2 := B.np; have b1 := B.nn; have brw := B.rw f hf0 hf1; have bre := B.re f z hf0 hf1 hz0 hz1; have rg := R.rg
  obtain ⟨s, hs⟩ : ∃ s, s = rd1 g f z := ⟨_, rfl⟩
  obtain ⟨p, hp⟩ : ∃ p, p = rdP g f z := ⟨_, rfl⟩
  unfold rdG at k
  rw [← hs, ← hp] at k
  refine r_aload_n C dX5_readies_0 (i := 0) rfl rfl ?_
  refine m_getA C dX5_readies_1 fX5_72 R (by decide) rfl ?_
  refine r_bipush C dX5_readies_4 (by decide) ?_
  refine r_iload_n C dX5_readies_6 (i := 1) rfl rfl ?_
  refine r_imul C dX5_readies_7 ?_
  refine r_iload_n C dX5_readies_8 (i := 2) rfl rfl ?_
  refine r_iadd C dX5_readies_9 ?_
  refine m_iald C dX5_readies_10 R (N := 120) rfl (by decide) rfl (by omega) (by omega) (by omega) ?_
  refine r_istore_n C dX5_readies_11 (i := 3) rfl (Nat.le_of_ble_eq_true rfl) ?_
  dsimp only [List.set]
  refine r_aload_n C dX5_readies_12 (i := 0) rfl rfl ?_
  refine r_iload_n C dX5_readies_13 (i := 1) rfl rfl ?_
  refine r_iload_n C dX5_readies_14 (i := 3) rfl rfl ?_
  refine m_V2 C dX5_readies_15 sX5_143 rfl R (Nat.le_of_ble_eq_true rfl) (C_X5_isShared R B (by unfold inR; omega) (by unfold inR; omega) (fun y hy hb => ?_))
  refine r_if_eq C dX5_readies_18 (t := 28) (by decide) (by first | assumption | exact R.rg _ _ | exact rg _ _ | (unfold inR; omega)) (fun c18 => ?_) (fun c18 => ?_)
  · skip
    have hns := hb.f c18
    have es : s = g := by rw [hs]; exact if_neg hns
    have ep : g 26 (6 * f + z) = p := by rw [hp]; exact (if_neg hns).symm
    have SB := B; have SD := D; have h12 := hv p; have h1 : s 1 0 = g 1 0 := by rw [es]
    rw [← es] at R SB SD h12
    rw [ep] at bre ⊢
    rw [← es] at bre
    have bs2 := SB.np
    have bpr := SB.pr p bre.1 bre.2
    refine r_aload_n C dX5_readies_28 (i := 0) rfl rfl ?_
    refine r_iload_n C dX5_readies_29 (i := 3) rfl rfl ?_
    refine m_V1 C dX5_readies_30 sX5_150 rfl R (Nat.le_of_ble_eq_true rfl) (C_X5_hasLease R bre.1 (by omega) (fun y2 hy2 hb2 => ?_))
    refine r_if_eq C dX5_readies_33 (t := 50) (by decide) (by first | assumption | exact R.rg _ _ | exact rg _ _ | (unfold inR; omega)) (fun c33 => ?_) (fun c33 => ?_)
    · skip
      have hl := hb2.f c33
      refine r_aload_n C dX5_readies_50 (i := 0) rfl rfl ?_
      refine r_iload_n C dX5_readies_51 (i := 3) rfl rfl ?_
      refine m_V1 C dX5_readies_52 sX5_176 rfl R (Nat.le_of_ble_eq_true rfl) (C_X5_leases R SB SD bre.1 bre.2 h12.1 h12.2 (by omega) (by omega) (fun h R => ?_))
      refine r_iload_n C dX5_readies_55 (i := 3) rfl rfl ?_
      refine r_iret C dX5_readies_56 (Or.inl rfl) ?_
      first
        | exact k _ (by rw [if_pos ⟨hl, c47⟩]; exact R)
        | exact k _ (by rw [if_neg (fun y => hl y.1)]; exact R)
        | exact k _ (by rw [if_neg (fun y => y.2 c47)]; exact R)
    · skip
      have hl := hb2.t c33; have hl1 := hl.1
      refine r_aload_n C dX5_readies_36 (i := 0) rfl rfl ?_
      refine m_getA C dX5_readies_37 fX5_20 R (by decide) rfl ?_
      refine r_aload_n C dX5_readies_40 (i := 0) rfl rfl ?_
      refine m_getA C dX5_readies_41 fX5_36 R (by decide) rfl ?_
      refine r_iload_n C dX5_readies_44 (i := 3) rfl rfl ?_
      refine m_iald C dX5_readies_45 R (N := 60) rfl (by decide) rfl (by omega) (by omega) (by omega) ?_
      refine m_zald C dX5_readies_46 R (N := 8) rfl (by decide) rfl (by omega) (by omega) (by omega) ?_
      refine r_if_ne C dX5_readies_47 (t := 55) (by decide) (by first | assumption | exact R.rg _ _ | exact rg _ _ | (unfold inR; omega)) (fun c47 => ?_) (fun c47 => ?_)
      · skip
        refine r_iload_n C dX5_readies_55 (i := 3) rfl rfl ?_
        refine r_iret C dX5_readies_56 (Or.inl rfl) ?_
        first
          | exact k _ (by rw [if_pos ⟨hl, c47⟩]; exact R)
          | exact k _ (by rw [if_neg (fun y => hl y.1)]; exact R)
          | exact k _ (by rw [if_neg (fun y => y.2 c47)]; exact R)
      · skip
        refine r_aload_n C dX5_readies_50 (i := 0) rfl rfl ?_
        refine r_iload_n C dX5_readies_51 (i := 3) rfl rfl ?_
        refine m_V1 C dX5_readies_52 sX5_176 rfl R (Nat.le_of_ble_eq_true rfl) (C_X5_leases R SB SD bre.1 bre.2 h12.1 h12.2 (by omega) (by omega) (fun h R => ?_))
        refine r_iload_n C dX5_readies_55 (i := 3) rfl rfl ?_
        refine r_iret C dX5_readies_56 (Or.inl rfl) ?_
        first
          | exact k _ (by rw [if_pos ⟨hl, c47⟩]; exact R)
          | exact k _ (by rw [if_neg (fun y => hl y.1)]; exact R)
          | exact k _ (by rw [if_neg (fun y => y.2 c47)]; exact R)
  · skip
    have hns := hb.t c18
    refine r_aload_n C dX5_readies_21 (i := 0) rfl rfl ?_
    refine r_iload_n C dX5_readies_22 (i := 1) rfl rfl ?_
    refine r_iload_n C dX5_readies_23 (i := 2) rfl rfl ?_
    refine m_V2 C dX5_readies_24 sX5_173 rfl R (Nat.le_of_ble_eq_true rfl) (C_X5_parts R B D hf0 hf1 hz0 hz1 (hsh hns).1 (hsh hns).2 (fun h R => ?_))
    have es : ptG g f z = s := by rw [hs]; exact (if_pos hns).symm
    have ep : g 11 0 = p := by rw [hp]; exact (if_pos hns).symm
    have PF := pt_f B D (hsh hns).1 hf0 hf1 hz0 hz1
    have h12 : 0 ≤ ptG g f z 12 p ∧ ptG g f z 12 p < 1000000 := by rw [PF.2.2.2.2, np_12]; split; omega; exact hv p
    have h1 := PF.2.2.2.1 1 (by decide) 0
    have SB := PF.1; have SD := PF.2.1; have e11 := PF.2.2.1
    rw [es] at R SB SD h12 h1 e11
    rw [ep]
    clear bre
    have bre : 0 ≤ p ∧ p < s 11 0 := by omega
    have bs2 := SB.np
    have bpr := SB.pr p bre.1 bre.2
    refine r_istore_n C dX5_readies_27 (i := 3) rfl (Nat.le_of_ble_eq_true rfl) ?_
    dsimp only [List.set]
    refine r_aload_n C dX5_readies_28 (i := 0) rfl rfl ?_
    refine r_iload_n C dX5_readies_29 (i := 3) rfl rfl ?_
    refine m_V1 C dX5_readies_30 sX5_150 rfl R (Nat.le_of_ble_eq_true rfl) (C_X5_hasLease R bre.1 (by omega) (fun y2 hy2 hb2 => ?_))
    refine r_if_eq C dX5_readies_33 (t := 50) (by decide) (by first | assumption | exact R.rg _ _ | exact rg _ _ | (unfold inR; omega)) (fun c33 => ?_) (fun c33 => ?_)
    · skip
      have hl := hb2.f c33
      refine r_aload_n C dX5_readies_50 (i := 0) rfl rfl ?_
      refine r_iload_n C dX5_readies_51 (i := 3) rfl rfl ?_
      refine m_V1 C dX5_readies_52 sX5_176 rfl R (Nat.le_of_ble_eq_true rfl) (C_X5_leases R SB SD bre.1 bre.2 h12.1 h12.2 (by omega) (by omega) (fun h R => ?_))
      refine r_iload_n C dX5_readies_55 (i := 3) rfl rfl ?_
      refine r_iret C dX5_readies_56 (Or.inl rfl) ?_
      first
        | exact k _ (by rw [if_pos ⟨hl, c47⟩]; exact R)
        | exact k _ (by rw [if_neg (fun y => hl y.1)]; exact R)
        | exact k _ (by rw [if_neg (fun y => y.2 c47)]; exact R)
    · skip
      have hl := hb2.t c33; have hl1 := hl.1
      refine r_aload_n C dX5_readies_36 (i := 0) rfl rfl ?_
      refine m_getA C dX5_readies_37 fX5_20 R (by decide) rfl ?_
      refine r_aload_n C dX5_readies_40 (i := 0) rfl rfl ?_
      refine m_getA C dX5_readies_41 fX5_36 R (by decide) rfl ?_
      refine r_iload_n C dX5_readies_44 (i := 3) rfl rfl ?_
      refine m_iald C dX5_readies_45 R (N := 60) rfl (by decide) rfl (by omega) (by omega) (by omega) ?_
      refine m_zald C dX5_readies_46 R (N := 8) rfl (by decide) rfl (by omega) (by omega) (by omega) ?_
      refine r_if_ne C dX5_readies_47 (t := 55) (by decide) (by first | assumption | exact R.rg _ _ | exact rg _ _ | (unfold inR; omega)) (fun c47 => ?_) (fun c47 => ?_)
      · skip
        refine r_iload_n C dX5_readies_55 (i := 3) rfl rfl ?_
        refine r_iret C dX5_readies_56 (Or.inl rfl) ?_
        first
          | exact k _ (by rw [if_pos ⟨hl, c47⟩]; exact R)
          | exact k _ (by rw [if_neg (fun y => hl y.1)]; exact R)
          | exact k _ (by rw [if_neg (fun y => y.2 c47)]; exact R)
      · skip
        refine r_aload_n C dX5_readies_50 (i := 0) rfl rfl ?_
        refine r_iload_n C dX5_readies_51 (i := 3) rfl rfl ?_
        refine m_V1 C dX5_readies_52 sX5_176 rfl R (Nat.le_of_ble_eq_true rfl) (C_X5_leases R SB SD bre.1 bre.2 h12.1 h12.2 (by omega) (by omega) (fun h R => ?_))
        refine r_iload_n C dX5_readies_55 (i := 3) rfl rfl ?_
        refine r_iret C dX5_readies_56 (Or.inl rfl) ?_
        first
          | exact k _ (by rw [if_pos ⟨hl, c47⟩]; exact R)
          | exact k _ (by rw [if_neg (fun y => hl y.1)]; exact R)
          | exact k _ (by rw [if_neg (fun y => y.2 c47)]; exact R)

abbrev mpP (g : GT) (p : Int) : Prop := 1 < g 16 p ∧ irG g p (g 5 (g 17 (8 * p))) = g 16 p

set_option maxRecDepth 100000 in
set_option maxHeartbeats 4000000 in
theorem C_X5_isMisplaced {gx : GX} {d : Nat} {Qr : Option AV → Hp → Prop} {Qx : String → Hp → Prop} {q : Nat} {ar : Nat → Nat} {g : GT} {h : Hp} {p : Int} (R : RM q ar g h) (B : BD g) (hp0 : 0 ≤ p) (hp1 : p < g 11 0) (k : ∀ z, inR z → BV z (mpP g p) → Qr (some (vi z)) h) : aM gx (d + 2) mX5_isMisplaced [vr q, vi p] h 0 0 Qr Qx := by
  intro J C
  show J 0 [some (vr q), some (vi p)] [] h 0 0
  have b2 := B.np; have b1 := B.nn; have bcp := B.cp p hp0 hp1; have rg := R.rg
  refine r_aload_n C dX5_isMisplaced_0 (i := 0) rfl rfl ?_
  refine m_getA C dX5_isMisplaced_1 fX5_45 R (by decide) rfl ?_
  refine r_iload_n C dX5_isMisplaced_4 (i := 1) rfl rfl ?_
  refine m_iald C dX5_isMisplaced_5 R (N := 60) rfl (by decide) rfl (by omega) (by omega) (by omega) ?_
  refine r_iconst C dX5_isMisplaced_6 ?_
  refine r_ic_le C dX5_isMisplaced_7 (t := 42) (by decide) (by first | assumption | exact R.rg _ _ | exact rg _ _ | (unfold inR; omega)) (by first | assumption | exact R.rg _ _ | exact rg _ _ | (unfold inR; omega)) (fun c7 => ?_) (fun c7 => ?_)
  · skip
    refine r_iconst C dX5_isMisplaced_42 ?_
    refine r_iret C dX5_isMisplaced_43 (Or.inr ⟨rfl, (by first | assumption | omega | decide)⟩) ?_
    first | exact k _ inR1 (.y ⟨by omega, c35⟩) | exact k _ inR0 (.n (fun z => by have z1 := z.1; have z2 := z.2; omega))
  · skip
    have bcy := B.cy p 0 hp0 hp1 (by omega) (by omega); rw [show 8 * p + 0 = 8 * p by omega] at bcy; have bir := ir_b B hp0 hp1 (g 5 (g 17 (8 * p)))
    refine r_aload_n C dX5_isMisplaced_10 (i := 0) rfl rfl ?_
    refine r_iload_n C dX5_isMisplaced_11 (i := 1) rfl rfl ?_
    refine r_aload_n C dX5_isMisplaced_12 (i := 0) rfl rfl ?_
    refine m_getA C dX5_isMisplaced_13 fX5_13 R (by decide) rfl ?_
    refine r_aload_n C dX5_isMisplaced_16 (i := 0) rfl rfl ?_
    refine m_getA C dX5_isMisplaced_17 fX5_48 R (by decide) rfl ?_
    refine r_bipush C dX5_isMisplaced_20 (by decide) ?_
    refine r_iload_n C dX5_isMisplaced_22 (i := 1) rfl rfl ?_
    refine r_imul C dX5_isMisplaced_23 ?_
    refine m_iald C dX5_isMisplaced_24 R (N := 480) rfl (by decide) rfl (by omega) (by omega) (by omega) ?_
    refine m_iald C dX5_isMisplaced_25 R (N := 8) rfl (by decide) rfl (by omega) (by omega) (by omega) ?_
    refine m_V2 C dX5_isMisplaced_26 sX5_134 rfl R (Nat.le_of_ble_eq_true rfl) (C_X5_inRack R B hp0 hp1 (R.rg _ _) ?_)
    refine r_aload_n C dX5_isMisplaced_29 (i := 0) rfl rfl ?_
    refine m_getA C dX5_isMisplaced_30 fX5_45 R (by decide) rfl ?_
    refine r_iload_n C dX5_isMisplaced_33 (i := 1) rfl rfl ?_
    refine m_iald C dX5_isMisplaced_34 R (N := 60) rfl (by decide) rfl (by omega) (by omega) (by omega) ?_
    refine r_ic_ne C dX5_isMisplaced_35 (t := 42) (by decide) (by first | assumption | exact R.rg _ _ | exact rg _ _ | (unfold inR; omega)) (by first | assumption | exact R.rg _ _ | exact rg _ _ | (unfold inR; omega)) (fun c35 => ?_) (fun c35 => ?_)
    · skip
      refine r_iconst C dX5_isMisplaced_42 ?_
      refine r_iret C dX5_isMisplaced_43 (Or.inr ⟨rfl, (by first | assumption | omega | decide)⟩) ?_
      first | exact k _ inR1 (.y ⟨by omega, c35⟩) | exact k _ inR0 (.n (fun z => by have z1 := z.1; have z2 := z.2; omega))
    · skip
      refine r_iconst C dX5_isMisplaced_38 ?_
      refine r_goto C dX5_isMisplaced_39 (t := 43) (by decide) ?_
      refine r_iret C dX5_isMisplaced_43 (Or.inr ⟨rfl, (by first | assumption | omega | decide)⟩) ?_
      first | exact k _ inR1 (.y ⟨by omega, c35⟩) | exact k _ inR0 (.n (fun z => by have z1 := z.1; have z2 := z.2; omega))

theorem bestG_b (g : GT) (p : Int) (h : 0 ≤ g 4 0) : bestG g p = -1 ∨ (0 ≤ bestG g p ∧ bestG g p < g 4 0 ∧ openP g (bestG g p) ∧ g 18 (60 * bestG g p + p) = 0) := bestI_b g p h
/-- a new piece of a file, when i places have been sought for it -/
def ADI (g : GT) (i : Int) (s : GT) : Prop :=
  BD s ∧ DC s ∧ s 11 0 = g 11 0 + 1 ∧ (∀ k, k ≠ 16 ∧ k ≠ 17 ∧ k ≠ 18 ∧ k ≠ 19 ∧ k ≠ 21 → ∀ j, s k j = npG g k j) ∧
  (∀ j, j ≠ g 11 0 → s 16 j = g 16 j) ∧ (∀ j, j < 8 * g 11 0 → s 17 j = g 17 j) ∧ (0 ≤ s 16 (g 11 0) ∧ s 16 (g 11 0) ≤ i) ∧
  (∀ j, 0 ≤ j → j < s 16 (g 11 0) → s 18 (60 * s 17 (8 * g 11 0 + j) + g 11 0) ≠ 0) ∧ (CL g → CL s)
theorem cl_np {g : GT} (K : CL g) : CL (npG g) := cl_same K (fun j => np_ne g (by decide) j)
theorem ad_0 {g : GT} (B : BD g) (D : DC g) (h : g 11 0 < 60) : ADI g 0 (npG g) := by
  refine ⟨bd_np B h, dc_np D, np_11 g, fun k hk j => rfl, fun j hj => ?_, fun j hj => np_ne g (by decide) j, ?_, fun j h0 h1 => ?_, cl_np⟩
  · rw [np_16, if_neg hj]
  · rw [np_16, if_pos rfl]; omega
  · rw [np_16, if_pos rfl] at h1; omega
def ad3 (s : GT) (b i : Int) : GT := up (up (up s 18 (60 * b + i) 1) 19 (60 * b + i) 0) 21 (60 * b + i) 0
theorem ad3_ne (s : GT) (b i : Int) {k : Nat} (h : k ≠ 18 ∧ k ≠ 19 ∧ k ≠ 21) (j : Int) : ad3 s b i k j = s k j := by
  unfold ad3
  rw [up_ne h.2.2, up_ne h.2.1, up_ne h.1]
theorem ad3_18 (s : GT) (b i j : Int) : ad3 s b i 18 j = if j = 60 * b + i then 1 else s 18 j := by
  unfold ad3
  rw [up_ne (by decide), up_ne (by decide), up_at]
theorem ad_s {g s : GT} {i : Int} (B : BD g) (h : g 11 0 < 60) (hi0 : 0 ≤ i) (hi1 : i < 3) (S : ADI g i s) : ADI g (i + 1) (adF (g 11 0) i s) := by
  have b2 := B.np
  obtain ⟨SB, SD, s11, sne, s16, s17, sc, sh, sk⟩ := S
  have bb := bestG_b s (g 11 0) SB.nn.1
  have sn := SB.nn
  unfold adF
  by_cases hr : bestG s (g 11 0) = -1
  · rw [if_pos hr]
    exact ⟨SB, SD, s11, sne, s16, s17, by omega, sh, sk⟩
  · rw [if_neg hr]
    replace bb := bb.resolve_left hr
    obtain ⟨b, hb⟩ : ∃ b, b = bestG s (g 11 0) := ⟨_, rfl⟩
    rw [← hb] at bb ⊢
    show ADI g (i + 1) (knG (ad3 s b (g 11 0)) (g 11 0) b)
    have t16 : ∀ j, ad3 s b (g 11 0) 16 j = s 16 j := fun j => ad3_ne s _ _ (by decide) j
    have t17 : ∀ j, ad3 s b (g 11 0) 17 j = s 17 j := fun j => ad3_ne s _ _ (by decide) j
    have t11 : ad3 s b (g 11 0) 11 0 = s 11 0 := ad3_ne s _ _ (by decide) 0
    have t4 : ad3 s b (g 11 0) 4 0 = s 4 0 := ad3_ne s _ _ (by decide) 0
    have TB : BD (ad3 s b (g 11 0)) := bd_same SB (fun k hk j => ad3_ne s _ _ (by omega) j)
    have TD : DC (ad3 s b (g 11 0)) := dc_same SD (fun k hk j => ad3_ne s _ _ (by omega) j)
    refine ⟨bd_kn TB b2.1 (by rw [t11]; omega) (by rw [t16]; omega) bb.1 (by rw [t4]; omega), dc_kn TB TD b2.1 (by rw [t11]; omega) (by rw [t16]; omega) (plG_none (fun j a c => ?_)), ?_, fun k hk j => ?_, fun j hj => ?_, fun j hj => ?_, ?_, fun j h0 h1 => ?_, fun K => ?_⟩
    · rw [t16] at c
      rw [t17]
      intro e
      have := sh j a c
      rw [e] at this
      exact this bb.2.2.2
    · rw [kn_ne _ _ _ (by decide) (by decide), t11, s11]
    · rw [kn_ne _ _ _ (by omega) (by omega), ad3_ne _ _ _ (by omega)]
      exact sne k hk j
    · rw [kn_16n _ _ _ hj, t16]; exact s16 j hj
    · rw [kn_17, if_neg (by rw [t16]; omega), t17]; exact s17 j hj
    · rw [kn_16, t16]; omega
    · rw [kn_16, t16] at h1
      rw [kn_17, t16, kn_ne _ _ _ (by decide) (by decide), ad3_18, t17]
      by_cases e2 : j = s 16 (g 11 0)
      · rw [if_pos (show 8 * g 11 0 + j = 8 * g 11 0 + s 16 (g 11 0) by omega), if_pos rfl]
        decide
      · rw [if_neg (show ¬ 8 * g 11 0 + j = 8 * g 11 0 + s 16 (g 11 0) by omega)]
        split
        · decide
        · exact sh j h0 (by omega)
    · exact cl_same (cl_up (cl_up (cl_up (sk K) (fun z => absurd z (by decide))) (fun _ => by omega)) (fun z => absurd z (by decide))) (fun j => kn_ne _ _ _ (by decide) (by decide) j)
theorem ad_i {g : GT} (B : BD g) (D : DC g) (h : g 11 0 < 60) {i : Int} (hi0 : 0 ≤ i) (hi1 : i ≤ 3) : ADI g i (itrI (adF (g 11 0)) i (npG g)) := by
  have key : ∀ m : Nat, (m : Int) ≤ 3 → ADI g m (itrI (adF (g 11 0)) m (npG g)) := by
    intro m
    induction m with
    | zero => intro _; exact ad_0 B D h
    | succ m ih =>
      intro hm
      rw [show ((m + 1 : Nat) : Int) = (m : Int) + 1 by omega, itrI_s _ _ (by omega)]
      exact ad_s B h (by omega) (by omega) (ih (by omega))
  have := key i.toNat (by omega)
  rwa [Int.toNat_of_nonneg hi0] at this

set_option maxRecDepth 100000 in
set_option maxHeartbeats 4000000 in
theorem C_X5_adds {gx : GX} {d : Nat} {Qr : Option AV → Hp → Prop} {Qx : String → Hp → Prop} {q : Nat} {ar : Nat → Nat} {g : GT} {h : Hp} {f : Int} (R : RM q ar g h) (B : BD g) (D : DC g) (hf0 : 0 ≤ f) (hf1 : f < g 22 0) (hr : g 25 f < 6) (hn : g 11 0 < 60) (k : ∀ h1, RM q ar (adG g f) h1 → Qr none h1) : aM gx (d + 5) mX5_adds [vr q, vi f] h 0 0 Qr Qx := by
  intro J C
  show J 0 [some (vr q), some (vi f), none, none, none] [] h 0 0
  have b3 := B.nf; have b2 := B.np; have b1 := B.nn; have brw := B.rw f hf0 hf1; have rg := R.rg
  refine r_aload_n C dX5_adds_0 (i := 0) rfl rfl ?_
  refine m_V0 C dX5_adds_1 sX5_162 rfl R (Nat.le_of_ble_eq_true rfl) (C_X5_newPiece R b2.1 hn (fun h R => ?_))
  refine r_istore_n C dX5_adds_4 (i := 2) rfl (Nat.le_of_ble_eq_true rfl) ?_
  dsimp only [List.set]
  refine r_iconst C dX5_adds_5 ?_
  refine r_istore_n C dX5_adds_6 (i := 3) rfl (Nat.le_of_ble_eq_true rfl) ?_
  dsimp only [List.set]
  suffices LOOP : ∀ (m : Nat) (i : Int) (h : Hp) (o4 : Option AV), 3 - i < (m : Int) → 0 ≤ i → i ≤ 3 → RM q ar (itrI (adF (g 11 0)) i (npG g)) h → J 7 [some (vr q), some (vi f), some (vi (g 11 0)), some (vi i), o4] [] h 0 0 by
    exact LOOP 4 0 _ _ (by omega) (by omega) (by omega) R
  intro m
  induction m with
  | zero => intro i h o4 hm hi0 hi1 R; exact absurd hm (by omega)
  | succ m ih =>
    intro i h o4 hm hi0 hi1 R
    have S := ad_i B D hn hi0 hi1
    obtain ⟨s, hs⟩ : ∃ s, s = itrI (adF (g 11 0)) i (npG g) := ⟨_, rfl⟩
    rw [← hs] at R S
    obtain ⟨SB, SD, s11, sne, s16, s17, sc, sh, -⟩ := S
    have sn := SB.nn
    have bb := bestG_b s (g 11 0) sn.1
    have e25 : s 25 f = g 25 f := by rw [sne 25 (by decide), np_ne g (by decide)]
    have rg := R.rg
    refine r_iload_n C dX5_adds_7 (i := 3) rfl rfl ?_
    refine r_iconst C dX5_adds_8 ?_
    refine r_ic_ge C dX5_adds_9 (t := 74) (by decide) (by first | assumption | exact R.rg _ _ | exact rg _ _ | (unfold inR; omega)) (by first | assumption | exact R.rg _ _ | exact rg _ _ | (unfold inR; omega)) (fun c9 => ?_) (fun c9 => ?_)
    · skip
      have hsg : s = ad1 g := by rw [hs, show i = 3 by omega]; rfl
      refine r_aload_n C dX5_adds_74 (i := 0) rfl rfl ?_
      refine m_getA C dX5_adds_75 fX5_72 R (by decide) rfl ?_
      refine r_bipush C dX5_adds_78 (by decide) ?_
      refine r_iload_n C dX5_adds_80 (i := 1) rfl rfl ?_
      refine r_imul C dX5_adds_81 ?_
      refine r_aload_n C dX5_adds_82 (i := 0) rfl rfl ?_
      refine m_getA C dX5_adds_83 fX5_69 R (by decide) rfl ?_
      refine r_iload_n C dX5_adds_86 (i := 1) rfl rfl ?_
      refine m_iald C dX5_adds_87 R (N := 20) rfl (by decide) rfl (by omega) (by omega) (by omega) ?_
      refine r_iadd C dX5_adds_88 ?_
      refine r_iload_n C dX5_adds_89 (i := 2) rfl rfl ?_
      refine m_iast C dX5_adds_90 R (N := 120) rfl (by decide) rfl (by omega) (by omega) (by omega) (by first | assumption | exact R.rg _ _ | exact rg _ _ | (unfold inR; omega)) (fun h R => ?_)
      refine r_aload_n C dX5_adds_91 (i := 0) rfl rfl ?_
      refine m_getA C dX5_adds_92 fX5_69 R (by decide) rfl ?_
      refine r_iload_n C dX5_adds_95 (i := 1) rfl rfl ?_
      refine r_dup2 C dX5_adds_96 rfl rfl ?_
      refine m_iald C dX5_adds_97 R (N := 20) rfl (by decide) rfl (by omega) (by omega) (by omega) ?_
      try simp (decide := true) only [up_ne]
      refine r_iconst C dX5_adds_98 ?_
      refine r_iadd C dX5_adds_99 ?_
      refine m_iast C dX5_adds_100 R (N := 20) rfl (by decide) rfl (by omega) (by omega) (by omega) (by first | assumption | exact R.rg _ _ | exact rg _ _ | (unfold inR; omega)) (fun h R => ?_)
      refine r_ret C dX5_adds_101 rfl ?_
      exact k _ (by unfold adG; rw [← hsg]; exact R)
    · skip
      refine r_aload_n C dX5_adds_12 (i := 0) rfl rfl ?_
      refine r_iload_n C dX5_adds_13 (i := 2) rfl rfl ?_
      refine m_V1 C dX5_adds_14 sX5_182 rfl R (Nat.le_of_ble_eq_true rfl) (C_X5_best R SB b2.1 (by omega) ?_)
      refine r_istore C dX5_adds_17 (Nat.le_of_ble_eq_true rfl) ?_
      dsimp only [List.set]
      refine r_iload C dX5_adds_19 rfl ?_
      refine r_iconst C dX5_adds_21 ?_
      refine r_ic_eq C dX5_adds_22 (t := 68) (by decide) (by first | assumption | exact R.rg _ _ | exact rg _ _ | (unfold inR; omega)) (by first | assumption | exact R.rg _ _ | exact rg _ _ | (unfold inR; omega)) (fun c22 => ?_) (fun c22 => ?_)
      · skip
        refine r_iinc C dX5_adds_68 rfl ?_
        dsimp only [List.set]
        refine r_goto C dX5_adds_71 (t := 7) (by decide) ?_
        first
          | exact ih _ _ _ (by omega) (by omega) (by omega) (by rw [itrI_s _ _ hi0, ← hs]; unfold adF; rw [if_pos c22]; exact R)
          | exact ih _ _ _ (by omega) (by omega) (by omega) (by rw [itrI_s _ _ hi0, ← hs]; unfold adF; rw [if_neg c22]; exact R)
      · skip
        replace bb := bb.resolve_left c22
        have t16 : ad3 s (bestG s (g 11 0)) (g 11 0) 16 (g 11 0) = s 16 (g 11 0) := ad3_ne s _ _ (by decide) _
        refine r_aload_n C dX5_adds_25 (i := 0) rfl rfl ?_
        refine m_getA C dX5_adds_26 fX5_51 R (by decide) rfl ?_
        refine r_iload C dX5_adds_29 rfl ?_
        refine r_iload_n C dX5_adds_31 (i := 2) rfl rfl ?_
        refine r_S2 C dX5_adds_32 sX5_104 (Nat.le_of_ble_eq_true rfl) (C_X5_at ?_)
        refine r_iconst C dX5_adds_35 ?_
        refine m_iast C dX5_adds_36 R (N := 480) rfl (by decide) rfl (by omega) (by omega) (by omega) (by first | assumption | exact R.rg _ _ | exact rg _ _ | (unfold inR; omega)) (fun h R => ?_)
        refine r_aload_n C dX5_adds_37 (i := 0) rfl rfl ?_
        refine m_getA C dX5_adds_38 fX5_54 R (by decide) rfl ?_
        refine r_iload C dX5_adds_41 rfl ?_
        refine r_iload_n C dX5_adds_43 (i := 2) rfl rfl ?_
        refine r_S2 C dX5_adds_44 sX5_104 (Nat.le_of_ble_eq_true rfl) (C_X5_at ?_)
        refine r_iconst C dX5_adds_47 ?_
        refine m_iast C dX5_adds_48 R (N := 480) rfl (by decide) rfl (by omega) (by omega) (by omega) (by first | assumption | exact R.rg _ _ | exact rg _ _ | (unfold inR; omega)) (fun h R => ?_)
        refine r_aload_n C dX5_adds_49 (i := 0) rfl rfl ?_
        refine m_getA C dX5_adds_50 fX5_60 R (by decide) rfl ?_
        refine r_iload C dX5_adds_53 rfl ?_
        refine r_iload_n C dX5_adds_55 (i := 2) rfl rfl ?_
        refine r_S2 C dX5_adds_56 sX5_104 (Nat.le_of_ble_eq_true rfl) (C_X5_at ?_)
        refine r_iconst C dX5_adds_59 ?_
        refine m_iast C dX5_adds_60 R (N := 480) rfl (by decide) rfl (by omega) (by omega) (by omega) (by first | assumption | exact R.rg _ _ | exact rg _ _ | (unfold inR; omega)) (fun h R => ?_)
        refine r_aload_n C dX5_adds_61 (i := 0) rfl rfl ?_
        refine r_iload_n C dX5_adds_62 (i := 2) rfl rfl ?_
        refine r_iload C dX5_adds_63 rfl ?_
        refine m_V2 C dX5_adds_65 sX5_170 rfl R (Nat.le_of_ble_eq_true rfl) (C_X5_knows R b2.1 (by omega) (by unfold inR; omega) (by rw [show up (up (up s 18 (60 * bestG s (g 11 0) + g 11 0) 1) 19 (60 * bestG s (g 11 0) + g 11 0) 0) 21 (60 * bestG s (g 11 0) + g 11 0) 0 16 (g 11 0) = s 16 (g 11 0) from t16]; omega) (by rw [show up (up (up s 18 (60 * bestG s (g 11 0) + g 11 0) 1) 19 (60 * bestG s (g 11 0) + g 11 0) 0) 21 (60 * bestG s (g 11 0) + g 11 0) 0 16 (g 11 0) = s 16 (g 11 0) from t16]; omega) (fun h R => ?_))
        refine r_iinc C dX5_adds_68 rfl ?_
        dsimp only [List.set]
        refine r_goto C dX5_adds_71 (t := 7) (by decide) ?_
        first
          | exact ih _ _ _ (by omega) (by omega) (by omega) (by rw [itrI_s _ _ hi0, ← hs]; unfold adF; rw [if_pos c22]; exact R)
          | exact ih _ _ _ (by omega) (by omega) (by omega) (by rw [itrI_s _ _ hi0, ← hs]; unfold adF; rw [if_neg c22]; exact R)

