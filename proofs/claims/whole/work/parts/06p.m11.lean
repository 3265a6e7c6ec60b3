/-! ===== the reference: the public methods, the smaller ones ===== -/
def C1 (P : Prop) (c : Int) : Prop := (¬ P ∧ c = 1) ∨ (P ∧ c = 0)
def C2 (P Q : Prop) (c : Int) : Prop := (¬ P ∧ c = 1) ∨ (P ∧ ¬ Q ∧ c = 2) ∨ (P ∧ Q ∧ c = 0)
def C3 (P Q S : Prop) (c : Int) : Prop := (¬ P ∧ c = 1) ∨ (P ∧ ¬ Q ∧ c = 2) ∨ (P ∧ Q ∧ ¬ S ∧ c = 3) ∨ (P ∧ Q ∧ S ∧ c = 0)
abbrev ndP (g : GT) (n : Int) : Prop := 0 ≤ n ∧ n < g 4 0
abbrev pcP (g : GT) (n : Int) : Prop := 0 ≤ n ∧ n < g 11 0
abbrev flP (g : GT) (n : Int) : Prop := 0 ≤ n ∧ n < g 22 0
abbrev inP (x a b : Int) : Prop := a ≤ x ∧ x ≤ b
def shB (w c : Int) : Int := (zI (zI w >>> (zI c &&& 31)).toInt &&& zI 1).toInt
def seB (w c : Int) : Int := (zI w ||| zI (zI 1 <<< (zI c &&& 31)).toInt).toInt
def ndG (s : GT) (a b : Int) : GT := up (up (up (up (up (up s 5 (s 4 0) a) 6 (s 4 0) b) 7 (s 4 0) 1) 9 (s 4 0) 1) 10 (s 4 0) (-1)) 4 0 (s 4 0 + 1)
def upG (s : GT) (n b : Int) : GT := up (up s 8 n (if s 7 n ≠ 0 ∧ b = 0 then s 1 0 else s 8 n)) 7 n b
def spG (s : GT) (n p c : Int) : GT := up s 21 (60 * n + p) (seB (s 21 (60 * n + p)) c)
def flG (s : GT) : GT := up (up (up s 23 (s 22 0) 0) 25 (s 22 0) 0) 22 0 (s 22 0 + 1)
def snF (f : Int) : Int → GT → GT := fun k s => up s 26 (6 * s 22 0 + k) (s 26 (6 * f + k))
def sn1 (s : GT) (f : Int) : GT := up (up s 23 (s 22 0) 0) 25 (s 22 0) (s 25 f)
def snG (s : GT) (f : Int) : GT := up (itrI (snF f) (s 25 f) (sn1 s f)) 22 0 (s 22 0 + 1)
def rmG (s : GT) (f : Int) : GT := up (up s 23 f 1) 24 f (s 1 0)
def rsG (s : GT) (f : Int) : GT := up s 23 f 0

set_option maxRecDepth 100000 in
set_option maxHeartbeats 4000000 in
theorem C_X5_node {gx : GX} {d : Nat} {Qr : Option AV → Hp → Prop} {Qx : String → Hp → Prop} {q : Nat} {ar : Nat → Nat} {g : GT} {h : Hp} {a b : Int} (R : RM q ar g h) (B : BD g) (ha : inR a) (hb9 : inR b) (k : ∀ c z h1 g1, C3 (inP a 0 3) (inP b 1 12) (g 4 0 ≠ 8) c → (c = 0 → z = g 4 0 ∧ g1 = ndG (up g 0 0 0) a b) → (c ≠ 0 → g1 = up g 0 0 c) → RM q ar g1 h1 → Qr (some (vi z)) h1) : aM gx (d + 2) mX5_node [vr q, vi a, vi b] h 0 0 Qr Qx := by
  intro J C
  show J 0 [some (vr q), some (vi a), some (vi b)] [] h 0 0
  have b1 := B.nn; have b2 := B.np; have b3 := B.nf; have rg := R.rg
  refine r_aload_n C dX5_node_0 (i := 0) rfl rfl ?_
  refine r_iload_n C dX5_node_1 (i := 1) rfl rfl ?_
  refine r_iconst C dX5_node_2 ?_
  refine r_iconst C dX5_node_3 ?_
  refine r_S3 C dX5_node_4 sX5_81 (Nat.le_of_ble_eq_true rfl) (C_X5_isIn (by first | assumption | (unfold inR; omega)) (by unfold inR; omega) (by unfold inR; omega) (fun z1 hz1 hb1 => ?_))
  refine r_if_ne C dX5_node_7 (t := 14) (by decide) (by first | assumption | exact R.rg _ _ | exact rg _ _ | (unfold inR; omega)) (fun c7 => ?_) (fun c7 => ?_)
  · skip
    have hn1 := hb1.t c7
    refine r_iload_n C dX5_node_14 (i := 2) rfl rfl ?_
    refine r_iconst C dX5_node_15 ?_
    refine r_bipush C dX5_node_16 (by decide) ?_
    refine r_S3 C dX5_node_18 sX5_81 (Nat.le_of_ble_eq_true rfl) (C_X5_isIn (by first | assumption | (unfold inR; omega)) (by unfold inR; omega) (by unfold inR; omega) (fun z2 hz2 hb2 => ?_))
    refine r_if_ne C dX5_node_21 (t := 28) (by decide) (by first | assumption | exact R.rg _ _ | exact rg _ _ | (unfold inR; omega)) (fun c21 => ?_) (fun c21 => ?_)
    · skip
      have hn2 := hb2.t c21
      refine r_aload_n C dX5_node_28 (i := 0) rfl rfl ?_
      refine m_get0 C dX5_node_29 fX5_78 R rfl rfl ?_
      refine r_bipush C dX5_node_32 (by decide) ?_
      refine r_ic_ne C dX5_node_34 (t := 41) (by decide) (by first | assumption | exact R.rg _ _ | exact rg _ _ | (unfold inR; omega)) (by first | assumption | exact R.rg _ _ | exact rg _ _ | (unfold inR; omega)) (fun c34 => ?_) (fun c34 => ?_)
      · skip
        refine r_iconst C dX5_node_41 ?_
        refine m_V1 C dX5_node_42 sX5_91 rfl R (Nat.le_of_ble_eq_true rfl) (C_X5_holds R (by unfold inR; omega) (fun zH h hzH hH R => ?_))
        refine r_if_ne C dX5_node_45 (t := 50) (by decide) (by first | assumption | exact R.rg _ _ | exact rg _ _ | (unfold inR; omega)) (fun c45 => ?_) (fun c45 => ?_)
        · skip
          obtain ⟨s, hs⟩ : ∃ s, s = up g 0 0 0 := ⟨_, rfl⟩
          rw [← hs] at R
          have ge : ∀ k, k ≠ 0 → ∀ j, s k j = g k j := fun k hk j => by rw [hs, up_ne hk]
          have SB : BD s := by rw [hs]; exact bd_up0 B (by decide)
          have rg := R.rg
          have e4 := ge 4 (by decide) 0; have e11 := ge 11 (by decide) 0; have e22 := ge 22 (by decide) 0
          refine r_aload_n C dX5_node_50 (i := 0) rfl rfl ?_
          refine m_getA C dX5_node_51 fX5_13 R (by decide) rfl ?_
          refine r_aload_n C dX5_node_54 (i := 0) rfl rfl ?_
          refine m_get0 C dX5_node_55 fX5_78 R rfl rfl ?_
          try simp (decide := true) only [up_ne]
          refine r_iload_n C dX5_node_58 (i := 1) rfl rfl ?_
          refine m_iast C dX5_node_59 R (N := 8) rfl (by decide) rfl (by omega) (by omega) (by omega) (by first | assumption | exact R.rg _ _ | exact rg _ _ | (unfold inR; omega)) (fun h R => ?_)
          refine r_aload_n C dX5_node_60 (i := 0) rfl rfl ?_
          refine m_getA C dX5_node_61 fX5_17 R (by decide) rfl ?_
          refine r_aload_n C dX5_node_64 (i := 0) rfl rfl ?_
          refine m_get0 C dX5_node_65 fX5_78 R rfl rfl ?_
          try simp (decide := true) only [up_ne]
          refine r_iload_n C dX5_node_68 (i := 2) rfl rfl ?_
          refine m_iast C dX5_node_69 R (N := 8) rfl (by decide) rfl (by omega) (by omega) (by omega) (by first | assumption | exact R.rg _ _ | exact rg _ _ | (unfold inR; omega)) (fun h R => ?_)
          refine r_aload_n C dX5_node_70 (i := 0) rfl rfl ?_
          refine m_getA C dX5_node_71 fX5_20 R (by decide) rfl ?_
          refine r_aload_n C dX5_node_74 (i := 0) rfl rfl ?_
          refine m_get0 C dX5_node_75 fX5_78 R rfl rfl ?_
          try simp (decide := true) only [up_ne]
          refine r_iconst C dX5_node_78 ?_
          refine m_zast C dX5_node_79 R (N := 8) rfl (by decide) rfl (by omega) (by omega) (by omega) (by first | assumption | omega) (fun h R => ?_)
          refine r_aload_n C dX5_node_80 (i := 0) rfl rfl ?_
          refine m_getA C dX5_node_81 fX5_27 R (by decide) rfl ?_
          refine r_aload_n C dX5_node_84 (i := 0) rfl rfl ?_
          refine m_get0 C dX5_node_85 fX5_78 R rfl rfl ?_
          try simp (decide := true) only [up_ne]
          refine r_iconst C dX5_node_88 ?_
          refine m_zast C dX5_node_89 R (N := 8) rfl (by decide) rfl (by omega) (by omega) (by omega) (by first | assumption | omega) (fun h R => ?_)
          refine r_aload_n C dX5_node_90 (i := 0) rfl rfl ?_
          refine m_getA C dX5_node_91 fX5_30 R (by decide) rfl ?_
          refine r_aload_n C dX5_node_94 (i := 0) rfl rfl ?_
          refine m_get0 C dX5_node_95 fX5_78 R rfl rfl ?_
          try simp (decide := true) only [up_ne]
          refine r_iconst C dX5_node_98 ?_
          refine m_iast C dX5_node_99 R (N := 8) rfl (by decide) rfl (by omega) (by omega) (by omega) (by first | assumption | exact R.rg _ _ | exact rg _ _ | (unfold inR; omega)) (fun h R => ?_)
          refine r_aload_n C dX5_node_100 (i := 0) rfl rfl ?_
          refine r_dup C dX5_node_101 rfl ?_
          refine m_get0 C dX5_node_102 fX5_78 R rfl rfl ?_
          try simp (decide := true) only [up_ne]
          refine r_iconst C dX5_node_105 ?_
          refine r_iadd C dX5_node_106 ?_
          refine m_put C dX5_node_107 fX5_78 R rfl rfl (Or.inl rfl) (by first | assumption | exact R.rg _ _ | exact rg _ _ | (unfold inR; omega)) (fun h R => ?_)
          try simp (decide := true) only [up_self]
          refine r_aload_n C dX5_node_110 (i := 0) rfl rfl ?_
          refine m_get0 C dX5_node_111 fX5_78 R rfl rfl ?_
          rw [up_self]
          refine r_iconst C dX5_node_114 ?_
          refine r_isub C dX5_node_115 ?_
          refine r_iret C dX5_node_116 (Or.inl rfl) ?_
          exact k 0 _ _ _ (by unfold C3; omega) (fun _ => ⟨by omega, by rw [← hs]; rfl⟩) (fun z => absurd rfl z) R
        · skip
          exact absurd rfl (hH.f c45)
      · skip
        refine r_iconst C dX5_node_37 ?_
        refine r_goto C dX5_node_38 (t := 42) (by decide) ?_
        refine m_V1 C dX5_node_42 sX5_91 rfl R (Nat.le_of_ble_eq_true rfl) (C_X5_holds R (by unfold inR; omega) (fun zH h hzH hH R => ?_))
        refine r_if_ne C dX5_node_45 (t := 50) (by decide) (by first | assumption | exact R.rg _ _ | exact rg _ _ | (unfold inR; omega)) (fun c45 => ?_) (fun c45 => ?_)
        · skip
          exact absurd (hH.t c45) (by decide)
        · skip
          refine r_iconst C dX5_node_48 ?_
          refine r_iret C dX5_node_49 (Or.inl rfl) ?_
          first | exact k 1 _ _ _ (by unfold C3; omega) (fun z => absurd z (by decide)) (fun _ => rfl) R | exact k 2 _ _ _ (by unfold C3; omega) (fun z => absurd z (by decide)) (fun _ => rfl) R | exact k 3 _ _ _ (by unfold C3; omega) (fun z => absurd z (by decide)) (fun _ => rfl) R
    · skip
      have hn2 := hb2.f c21
      refine r_iconst C dX5_node_24 ?_
      refine r_goto C dX5_node_25 (t := 42) (by decide) ?_
      refine m_V1 C dX5_node_42 sX5_91 rfl R (Nat.le_of_ble_eq_true rfl) (C_X5_holds R (by unfold inR; omega) (fun zH h hzH hH R => ?_))
      refine r_if_ne C dX5_node_45 (t := 50) (by decide) (by first | assumption | exact R.rg _ _ | exact rg _ _ | (unfold inR; omega)) (fun c45 => ?_) (fun c45 => ?_)
      · skip
        exact absurd (hH.t c45) (by decide)
      · skip
        refine r_iconst C dX5_node_48 ?_
        refine r_iret C dX5_node_49 (Or.inl rfl) ?_
        first | exact k 1 _ _ _ (by unfold C3; omega) (fun z => absurd z (by decide)) (fun _ => rfl) R | exact k 2 _ _ _ (by unfold C3; omega) (fun z => absurd z (by decide)) (fun _ => rfl) R | exact k 3 _ _ _ (by unfold C3; omega) (fun z => absurd z (by decide)) (fun _ => rfl) R
  · skip
    have hn1 := hb1.f c7
    refine r_iconst C dX5_node_10 ?_
    refine r_goto C dX5_node_11 (t := 42) (by decide) ?_
    refine m_V1 C dX5_node_42 sX5_91 rfl R (Nat.le_of_ble_eq_true rfl) (C_X5_holds R (by unfold inR; omega) (fun zH h hzH hH R => ?_))
    refine r_if_ne C dX5_node_45 (t := 50) (by decide) (by first | assumption | exact R.rg _ _ | exact rg _ _ | (unfold inR; omega)) (fun c45 => ?_) (fun c45 => ?_)
    · skip
      exact absurd (hH.t c45) (by decide)
    · skip
      refine r_iconst C dX5_node_48 ?_
      refine r_iret C dX5_node_49 (Or.inl rfl) ?_
      first | exact k 1 _ _ _ (by unfold C3; omega) (fun z => absurd z (by decide)) (fun _ => rfl) R | exact k 2 _ _ _ (by unfold C3; omega) (fun z => absurd z (by decide)) (fun _ => rfl) R | exact k 3 _ _ _ (by unfold C3; omega) (fun z => absurd z (by decide)) (fun _ => rfl) R

set_option maxRecDepth 100000 in
set_option maxHeartbeats 4000000 in
theorem C_X5_up {gx : GX} {d : Nat} {Qr : Option AV → Hp → Prop} {Qx : String → Hp → Prop} {q : Nat} {ar : Nat → Nat} {g : GT} {h : Hp} {n b : Int} (R : RM q ar g h) (B : BD g) (hn : inR n) (hb9 : b = 0 ∨ b = 1) (k : ∀ c z h1 g1, C1 (ndP g n) c → (c = 0 → z = g 7 n ∧ g1 = upG (up g 0 0 0) n b) → (c ≠ 0 → g1 = up g 0 0 c) → RM q ar g1 h1 → Qr (some (vi z)) h1) : aM gx (d + 3) mX5_up [vr q, vi n, vi b] h 0 0 Qr Qx := by
  intro J C
  show J 0 [some (vr q), some (vi n), some (vi b), none] [] h 0 0
  have b1 := B.nn; have b2 := B.np; have b3 := B.nf; have rg := R.rg
  refine r_aload_n C dX5_up_0 (i := 0) rfl rfl ?_
  refine r_aload_n C dX5_up_1 (i := 0) rfl rfl ?_
  refine r_iload_n C dX5_up_2 (i := 1) rfl rfl ?_
  refine m_V1 C dX5_up_3 sX5_95 rfl R (Nat.le_of_ble_eq_true rfl) (C_X5_isNode R B hn (fun z1 hz1 hb1 => ?_))
  refine r_if_eq C dX5_up_6 (t := 13) (by decide) (by first | assumption | exact R.rg _ _ | exact rg _ _ | (unfold inR; omega)) (fun c6 => ?_) (fun c6 => ?_)
  · skip
    have hn1 := hb1.f c6
    refine r_iconst C dX5_up_13 ?_
    refine m_V1 C dX5_up_14 sX5_91 rfl R (Nat.le_of_ble_eq_true rfl) (C_X5_holds R (by unfold inR; omega) (fun zH h hzH hH R => ?_))
    refine r_if_ne C dX5_up_17 (t := 22) (by decide) (by first | assumption | exact R.rg _ _ | exact rg _ _ | (unfold inR; omega)) (fun c17 => ?_) (fun c17 => ?_)
    · skip
      exact absurd (hH.t c17) (by decide)
    · skip
      refine r_iconst C dX5_up_20 ?_
      refine r_iret C dX5_up_21 (Or.inr ⟨rfl, (by first | assumption | omega | decide)⟩) ?_
      exact k 1 _ _ _ (by unfold C1; omega) (fun z => absurd z (by decide)) (fun _ => rfl) R
  · skip
    have hn1 := hb1.t c6
    refine r_iconst C dX5_up_9 ?_
    refine r_goto C dX5_up_10 (t := 14) (by decide) ?_
    refine m_V1 C dX5_up_14 sX5_91 rfl R (Nat.le_of_ble_eq_true rfl) (C_X5_holds R (by unfold inR; omega) (fun zH h hzH hH R => ?_))
    refine r_if_ne C dX5_up_17 (t := 22) (by decide) (by first | assumption | exact R.rg _ _ | exact rg _ _ | (unfold inR; omega)) (fun c17 => ?_) (fun c17 => ?_)
    · skip
      obtain ⟨s, hs⟩ : ∃ s, s = up g 0 0 0 := ⟨_, rfl⟩
      rw [← hs] at R
      have ge : ∀ k, k ≠ 0 → ∀ j, s k j = g k j := fun k hk j => by rw [hs, up_ne hk]
      have SB : BD s := by rw [hs]; exact bd_up0 B (by decide)
      have rg := R.rg
      have e4 := ge 4 (by decide) 0; have e11 := ge 11 (by decide) 0; have e22 := ge 22 (by decide) 0
      have e7 := ge 7 (by decide) n; have b7 := B.isup n
      refine r_aload_n C dX5_up_22 (i := 0) rfl rfl ?_
      refine m_getA C dX5_up_23 fX5_20 R (by decide) rfl ?_
      refine r_iload_n C dX5_up_26 (i := 1) rfl rfl ?_
      refine m_zald C dX5_up_27 R (N := 8) rfl (by decide) rfl (by omega) (by omega) (by omega) ?_
      refine r_istore_n C dX5_up_28 (i := 3) rfl (Nat.le_of_ble_eq_true rfl) ?_
      dsimp only [List.set]
      refine r_aload_n C dX5_up_29 (i := 0) rfl rfl ?_
      refine m_getA C dX5_up_30 fX5_24 R (by decide) rfl ?_
      refine r_iload_n C dX5_up_33 (i := 1) rfl rfl ?_
      refine r_iload_n C dX5_up_34 (i := 3) rfl rfl ?_
      refine r_if_eq C dX5_up_35 (t := 49) (by decide) (by first | assumption | exact R.rg _ _ | exact rg _ _ | (unfold inR; omega)) (fun c35 => ?_) (fun c35 => ?_)
      · skip
        refine r_aload_n C dX5_up_49 (i := 0) rfl rfl ?_
        refine m_getA C dX5_up_50 fX5_24 R (by decide) rfl ?_
        refine r_iload_n C dX5_up_53 (i := 1) rfl rfl ?_
        refine m_iald C dX5_up_54 R (N := 8) rfl (by decide) rfl (by omega) (by omega) (by omega) ?_
        refine m_iast C dX5_up_55 R (N := 8) rfl (by decide) rfl (by omega) (by omega) (by omega) (by first | assumption | exact R.rg _ _ | exact rg _ _ | (unfold inR; omega)) (fun h R => ?_)
        have hup : up s 8 n (if s 7 n ≠ 0 ∧ b = 0 then s 1 0 else s 8 n) = up s 8 n (if s 7 n ≠ 0 ∧ b = 0 then s 1 0 else s 8 n) := rfl
        refine r_aload_n C dX5_up_56 (i := 0) rfl rfl ?_
        refine m_getA C dX5_up_57 fX5_20 R (by decide) rfl ?_
        refine r_iload_n C dX5_up_60 (i := 1) rfl rfl ?_
        refine r_iload_n C dX5_up_61 (i := 2) rfl rfl ?_
        refine m_zast C dX5_up_62 R (N := 8) rfl (by decide) rfl (by omega) (by omega) (by omega) (by first | assumption | omega) (fun h R => ?_)
        refine r_iload_n C dX5_up_63 (i := 3) rfl rfl ?_
        refine r_iret C dX5_up_64 (Or.inr ⟨rfl, (by first | assumption | omega | decide)⟩) ?_
        first
          | exact k 0 _ _ _ (by unfold C1; omega) (fun _ => ⟨by omega, by rw [← hs]; unfold upG; rw [if_pos ⟨by omega, by omega⟩]⟩) (fun z => absurd rfl z) R
          | exact k 0 _ _ _ (by unfold C1; omega) (fun _ => ⟨by omega, by rw [← hs]; unfold upG; rw [if_neg (by omega)]⟩) (fun z => absurd rfl z) R
      · skip
        refine r_iload_n C dX5_up_38 (i := 2) rfl rfl ?_
        refine r_if_ne C dX5_up_39 (t := 49) (by decide) (by first | assumption | exact R.rg _ _ | exact rg _ _ | (unfold inR; omega)) (fun c39 => ?_) (fun c39 => ?_)
        · skip
          refine r_aload_n C dX5_up_49 (i := 0) rfl rfl ?_
          refine m_getA C dX5_up_50 fX5_24 R (by decide) rfl ?_
          refine r_iload_n C dX5_up_53 (i := 1) rfl rfl ?_
          refine m_iald C dX5_up_54 R (N := 8) rfl (by decide) rfl (by omega) (by omega) (by omega) ?_
          refine m_iast C dX5_up_55 R (N := 8) rfl (by decide) rfl (by omega) (by omega) (by omega) (by first | assumption | exact R.rg _ _ | exact rg _ _ | (unfold inR; omega)) (fun h R => ?_)
          have hup : up s 8 n (if s 7 n ≠ 0 ∧ b = 0 then s 1 0 else s 8 n) = up s 8 n (if s 7 n ≠ 0 ∧ b = 0 then s 1 0 else s 8 n) := rfl
          refine r_aload_n C dX5_up_56 (i := 0) rfl rfl ?_
          refine m_getA C dX5_up_57 fX5_20 R (by decide) rfl ?_
          refine r_iload_n C dX5_up_60 (i := 1) rfl rfl ?_
          refine r_iload_n C dX5_up_61 (i := 2) rfl rfl ?_
          refine m_zast C dX5_up_62 R (N := 8) rfl (by decide) rfl (by omega) (by omega) (by omega) (by first | assumption | omega) (fun h R => ?_)
          refine r_iload_n C dX5_up_63 (i := 3) rfl rfl ?_
          refine r_iret C dX5_up_64 (Or.inr ⟨rfl, (by first | assumption | omega | decide)⟩) ?_
          first
            | exact k 0 _ _ _ (by unfold C1; omega) (fun _ => ⟨by omega, by rw [← hs]; unfold upG; rw [if_pos ⟨by omega, by omega⟩]⟩) (fun z => absurd rfl z) R
            | exact k 0 _ _ _ (by unfold C1; omega) (fun _ => ⟨by omega, by rw [← hs]; unfold upG; rw [if_neg (by omega)]⟩) (fun z => absurd rfl z) R
        · skip
          refine r_aload_n C dX5_up_42 (i := 0) rfl rfl ?_
          refine m_get0 C dX5_up_43 fX5_98 R rfl rfl ?_
          refine r_goto C dX5_up_46 (t := 55) (by decide) ?_
          refine m_iast C dX5_up_55 R (N := 8) rfl (by decide) rfl (by omega) (by omega) (by omega) (by first | assumption | exact R.rg _ _ | exact rg _ _ | (unfold inR; omega)) (fun h R => ?_)
          have hup : up s 8 n (if s 7 n ≠ 0 ∧ b = 0 then s 1 0 else s 8 n) = up s 8 n (if s 7 n ≠ 0 ∧ b = 0 then s 1 0 else s 8 n) := rfl
          refine r_aload_n C dX5_up_56 (i := 0) rfl rfl ?_
          refine m_getA C dX5_up_57 fX5_20 R (by decide) rfl ?_
          refine r_iload_n C dX5_up_60 (i := 1) rfl rfl ?_
          refine r_iload_n C dX5_up_61 (i := 2) rfl rfl ?_
          refine m_zast C dX5_up_62 R (N := 8) rfl (by decide) rfl (by omega) (by omega) (by omega) (by first | assumption | omega) (fun h R => ?_)
          refine r_iload_n C dX5_up_63 (i := 3) rfl rfl ?_
          refine r_iret C dX5_up_64 (Or.inr ⟨rfl, (by first | assumption | omega | decide)⟩) ?_
          first
            | exact k 0 _ _ _ (by unfold C1; omega) (fun _ => ⟨by omega, by rw [← hs]; unfold upG; rw [if_pos ⟨by omega, by omega⟩]⟩) (fun z => absurd rfl z) R
            | exact k 0 _ _ _ (by unfold C1; omega) (fun _ => ⟨by omega, by rw [← hs]; unfold upG; rw [if_neg (by omega)]⟩) (fun z => absurd rfl z) R
    · skip
      exact absurd rfl (hH.f c17)

set_option maxRecDepth 100000 in
set_option maxHeartbeats 4000000 in
theorem C_X5_spoil {gx : GX} {d : Nat} {Qr : Option AV → Hp → Prop} {Qx : String → Hp → Prop} {q : Nat} {ar : Nat → Nat} {g : GT} {h : Hp} {n p c : Int} (R : RM q ar g h) (B : BD g) (hn : inR n) (hp : inR p) (hc : inR c) (k : ∀ e z h1 g1, C2 (ndP g n ∧ pcP g p ∧ inP c 0 3) (g 18 (60 * n + p) ≠ 0 ∧ c < g 19 (60 * n + p)) e → (e = 0 → BV z (shB (g 21 (60 * n + p)) c = 1) ∧ g1 = spG (up g 0 0 0) n p c) → (e ≠ 0 → g1 = up g 0 0 e) → RM q ar g1 h1 → Qr (some (vi z)) h1) : aM gx (d + 3) mX5_spoil [vr q, vi n, vi p, vi c] h 0 0 Qr Qx := by
  intro J C
  show J 0 [some (vr q), some (vi n), some (vi p), some (vi c), none, none] [] h 0 0
  have b1 := B.nn; have b2 := B.np; have b3 := B.nf; have rg := R.rg
  refine r_aload_n C dX5_spoil_0 (i := 0) rfl rfl ?_
  refine r_iload_n C dX5_spoil_1 (i := 1) rfl rfl ?_
  refine m_V1 C dX5_spoil_2 sX5_95 rfl R (Nat.le_of_ble_eq_true rfl) (C_X5_isNode R B hn (fun z1 hz1 hb1 => ?_))
  refine r_if_eq C dX5_spoil_5 (t := 29) (by decide) (by first | assumption | exact R.rg _ _ | exact rg _ _ | (unfold inR; omega)) (fun c5 => ?_) (fun c5 => ?_)
  · skip
    have hn1 := hb1.f c5
    refine r_iconst C dX5_spoil_29 ?_
    refine r_istore C dX5_spoil_30 (Nat.le_of_ble_eq_true rfl) ?_
    dsimp only [List.set]
    refine r_aload_n C dX5_spoil_32 (i := 0) rfl rfl ?_
    refine r_iload C dX5_spoil_33 rfl ?_
    refine r_if_ne C dX5_spoil_35 (t := 42) (by decide) (by first | assumption | exact R.rg _ _ | exact rg _ _ | (unfold inR; omega)) (fun c35 => ?_) (fun c35 => ?_)
    · skip
      exact absurd c35 (by decide)
    · skip
      refine r_iconst C dX5_spoil_38 ?_
      refine r_goto C dX5_spoil_39 (t := 74) (by decide) ?_
      refine m_V1 C dX5_spoil_74 sX5_91 rfl R (Nat.le_of_ble_eq_true rfl) (C_X5_holds R (by unfold inR; omega) (fun zH h hzH hH R => ?_))
      refine r_if_ne C dX5_spoil_77 (t := 82) (by decide) (by first | assumption | exact R.rg _ _ | exact rg _ _ | (unfold inR; omega)) (fun c77 => ?_) (fun c77 => ?_)
      · skip
        exact absurd (hH.t c77) (by decide)
      · skip
        refine r_iconst C dX5_spoil_80 ?_
        refine r_iret C dX5_spoil_81 (Or.inr ⟨rfl, (by first | assumption | omega | decide)⟩) ?_
        first | exact k 1 _ _ _ (by unfold C2; omega) (fun z => absurd z (by decide)) (fun _ => rfl) R | exact k 2 _ _ _ (by unfold C2; omega) (fun z => absurd z (by decide)) (fun _ => rfl) R
  · skip
    have hn1 := hb1.t c5
    refine r_aload_n C dX5_spoil_8 (i := 0) rfl rfl ?_
    refine r_iload_n C dX5_spoil_9 (i := 2) rfl rfl ?_
    refine m_V1 C dX5_spoil_10 sX5_101 rfl R (Nat.le_of_ble_eq_true rfl) (C_X5_isPiece R B hp (fun z2 hz2 hb2 => ?_))
    refine r_if_eq C dX5_spoil_13 (t := 29) (by decide) (by first | assumption | exact R.rg _ _ | exact rg _ _ | (unfold inR; omega)) (fun c13 => ?_) (fun c13 => ?_)
    · skip
      have hn2 := hb2.f c13
      refine r_iconst C dX5_spoil_29 ?_
      refine r_istore C dX5_spoil_30 (Nat.le_of_ble_eq_true rfl) ?_
      dsimp only [List.set]
      refine r_aload_n C dX5_spoil_32 (i := 0) rfl rfl ?_
      refine r_iload C dX5_spoil_33 rfl ?_
      refine r_if_ne C dX5_spoil_35 (t := 42) (by decide) (by first | assumption | exact R.rg _ _ | exact rg _ _ | (unfold inR; omega)) (fun c35 => ?_) (fun c35 => ?_)
      · skip
        exact absurd c35 (by decide)
      · skip
        refine r_iconst C dX5_spoil_38 ?_
        refine r_goto C dX5_spoil_39 (t := 74) (by decide) ?_
        refine m_V1 C dX5_spoil_74 sX5_91 rfl R (Nat.le_of_ble_eq_true rfl) (C_X5_holds R (by unfold inR; omega) (fun zH h hzH hH R => ?_))
        refine r_if_ne C dX5_spoil_77 (t := 82) (by decide) (by first | assumption | exact R.rg _ _ | exact rg _ _ | (unfold inR; omega)) (fun c77 => ?_) (fun c77 => ?_)
        · skip
          exact absurd (hH.t c77) (by decide)
        · skip
          refine r_iconst C dX5_spoil_80 ?_
          refine r_iret C dX5_spoil_81 (Or.inr ⟨rfl, (by first | assumption | omega | decide)⟩) ?_
          first | exact k 1 _ _ _ (by unfold C2; omega) (fun z => absurd z (by decide)) (fun _ => rfl) R | exact k 2 _ _ _ (by unfold C2; omega) (fun z => absurd z (by decide)) (fun _ => rfl) R
    · skip
      have hn2 := hb2.t c13
      refine r_iload_n C dX5_spoil_16 (i := 3) rfl rfl ?_
      refine r_iconst C dX5_spoil_17 ?_
      refine r_iconst C dX5_spoil_18 ?_
      refine r_S3 C dX5_spoil_19 sX5_81 (Nat.le_of_ble_eq_true rfl) (C_X5_isIn (by first | assumption | (unfold inR; omega)) (by unfold inR; omega) (by unfold inR; omega) (fun z3 hz3 hb3 => ?_))
      refine r_if_eq C dX5_spoil_22 (t := 29) (by decide) (by first | assumption | exact R.rg _ _ | exact rg _ _ | (unfold inR; omega)) (fun c22 => ?_) (fun c22 => ?_)
      · skip
        have hn3 := hb3.f c22
        refine r_iconst C dX5_spoil_29 ?_
        refine r_istore C dX5_spoil_30 (Nat.le_of_ble_eq_true rfl) ?_
        dsimp only [List.set]
        refine r_aload_n C dX5_spoil_32 (i := 0) rfl rfl ?_
        refine r_iload C dX5_spoil_33 rfl ?_
        refine r_if_ne C dX5_spoil_35 (t := 42) (by decide) (by first | assumption | exact R.rg _ _ | exact rg _ _ | (unfold inR; omega)) (fun c35 => ?_) (fun c35 => ?_)
        · skip
          exact absurd c35 (by decide)
        · skip
          refine r_iconst C dX5_spoil_38 ?_
          refine r_goto C dX5_spoil_39 (t := 74) (by decide) ?_
          refine m_V1 C dX5_spoil_74 sX5_91 rfl R (Nat.le_of_ble_eq_true rfl) (C_X5_holds R (by unfold inR; omega) (fun zH h hzH hH R => ?_))
          refine r_if_ne C dX5_spoil_77 (t := 82) (by decide) (by first | assumption | exact R.rg _ _ | exact rg _ _ | (unfold inR; omega)) (fun c77 => ?_) (fun c77 => ?_)
          · skip
            exact absurd (hH.t c77) (by decide)
          · skip
            refine r_iconst C dX5_spoil_80 ?_
            refine r_iret C dX5_spoil_81 (Or.inr ⟨rfl, (by first | assumption | omega | decide)⟩) ?_
            first | exact k 1 _ _ _ (by unfold C2; omega) (fun z => absurd z (by decide)) (fun _ => rfl) R | exact k 2 _ _ _ (by unfold C2; omega) (fun z => absurd z (by decide)) (fun _ => rfl) R
      · skip
        have hn3 := hb3.t c22
        refine r_iconst C dX5_spoil_25 ?_
        refine r_goto C dX5_spoil_26 (t := 30) (by decide) ?_
        refine r_istore C dX5_spoil_30 (Nat.le_of_ble_eq_true rfl) ?_
        dsimp only [List.set]
        refine r_aload_n C dX5_spoil_32 (i := 0) rfl rfl ?_
        refine r_iload C dX5_spoil_33 rfl ?_
        refine r_if_ne C dX5_spoil_35 (t := 42) (by decide) (by first | assumption | exact R.rg _ _ | exact rg _ _ | (unfold inR; omega)) (fun c35 => ?_) (fun c35 => ?_)
        · skip
          refine r_aload_n C dX5_spoil_42 (i := 0) rfl rfl ?_
          refine m_getA C dX5_spoil_43 fX5_51 R (by decide) rfl ?_
          refine r_iload_n C dX5_spoil_46 (i := 1) rfl rfl ?_
          refine r_iload_n C dX5_spoil_47 (i := 2) rfl rfl ?_
          refine r_S2 C dX5_spoil_48 sX5_104 (Nat.le_of_ble_eq_true rfl) (C_X5_at ?_)
          refine m_iald C dX5_spoil_51 R (N := 480) rfl (by decide) rfl (by omega) (by omega) (by omega) ?_
          refine r_if_eq C dX5_spoil_52 (t := 69) (by decide) (by first | assumption | exact R.rg _ _ | exact rg _ _ | (unfold inR; omega)) (fun c52 => ?_) (fun c52 => ?_)
          · skip
            refine r_iconst C dX5_spoil_69 ?_
            refine r_goto C dX5_spoil_70 (t := 74) (by decide) ?_
            refine m_V1 C dX5_spoil_74 sX5_91 rfl R (Nat.le_of_ble_eq_true rfl) (C_X5_holds R (by unfold inR; omega) (fun zH h hzH hH R => ?_))
            refine r_if_ne C dX5_spoil_77 (t := 82) (by decide) (by first | assumption | exact R.rg _ _ | exact rg _ _ | (unfold inR; omega)) (fun c77 => ?_) (fun c77 => ?_)
            · skip
              exact absurd (hH.t c77) (by decide)
            · skip
              refine r_iconst C dX5_spoil_80 ?_
              refine r_iret C dX5_spoil_81 (Or.inr ⟨rfl, (by first | assumption | omega | decide)⟩) ?_
              first | exact k 1 _ _ _ (by unfold C2; omega) (fun z => absurd z (by decide)) (fun _ => rfl) R | exact k 2 _ _ _ (by unfold C2; omega) (fun z => absurd z (by decide)) (fun _ => rfl) R
          · skip
            refine r_aload_n C dX5_spoil_55 (i := 0) rfl rfl ?_
            refine m_getA C dX5_spoil_56 fX5_54 R (by decide) rfl ?_
            refine r_iload_n C dX5_spoil_59 (i := 1) rfl rfl ?_
            refine r_iload_n C dX5_spoil_60 (i := 2) rfl rfl ?_
            refine r_S2 C dX5_spoil_61 sX5_104 (Nat.le_of_ble_eq_true rfl) (C_X5_at ?_)
            refine m_iald C dX5_spoil_64 R (N := 480) rfl (by decide) rfl (by omega) (by omega) (by omega) ?_
            refine r_iload_n C dX5_spoil_65 (i := 3) rfl rfl ?_
            refine r_ic_gt C dX5_spoil_66 (t := 73) (by decide) (by first | assumption | exact R.rg _ _ | exact rg _ _ | (unfold inR; omega)) (by first | assumption | exact R.rg _ _ | exact rg _ _ | (unfold inR; omega)) (fun c66 => ?_) (fun c66 => ?_)
            · skip
              refine r_iconst C dX5_spoil_73 ?_
              refine m_V1 C dX5_spoil_74 sX5_91 rfl R (Nat.le_of_ble_eq_true rfl) (C_X5_holds R (by unfold inR; omega) (fun zH h hzH hH R => ?_))
              refine r_if_ne C dX5_spoil_77 (t := 82) (by decide) (by first | assumption | exact R.rg _ _ | exact rg _ _ | (unfold inR; omega)) (fun c77 => ?_) (fun c77 => ?_)
              · skip
                obtain ⟨s, hs⟩ : ∃ s, s = up g 0 0 0 := ⟨_, rfl⟩
                rw [← hs] at R
                have ge : ∀ k, k ≠ 0 → ∀ j, s k j = g k j := fun k hk j => by rw [hs, up_ne hk]
                have SB : BD s := by rw [hs]; exact bd_up0 B (by decide)
                have rg := R.rg
                have e4 := ge 4 (by decide) 0; have e11 := ge 11 (by decide) 0; have e22 := ge 22 (by decide) 0
                have e21 := ge 21 (by decide) (60 * n + p)
                refine r_aload_n C dX5_spoil_82 (i := 0) rfl rfl ?_
                refine m_getA C dX5_spoil_83 fX5_60 R (by decide) rfl ?_
                refine r_iload_n C dX5_spoil_86 (i := 1) rfl rfl ?_
                refine r_iload_n C dX5_spoil_87 (i := 2) rfl rfl ?_
                refine r_S2 C dX5_spoil_88 sX5_104 (Nat.le_of_ble_eq_true rfl) (C_X5_at ?_)
                refine m_iald C dX5_spoil_91 R (N := 480) rfl (by decide) rfl (by omega) (by omega) (by omega) ?_
                refine r_iload_n C dX5_spoil_92 (i := 3) rfl rfl ?_
                refine r_ishr C dX5_spoil_93 ?_
                refine r_iconst C dX5_spoil_94 ?_
                refine r_iand C dX5_spoil_95 ?_
                have ishb := inR_toInt (zI (zI (s 21 (60 * n + p)) >>> (zI c &&& 31)).toInt &&& zI 1)
                refine r_iconst C dX5_spoil_96 ?_
                refine r_ic_ne C dX5_spoil_97 (t := 104) (by decide) (by first | assumption | exact R.rg _ _ | exact rg _ _ | (unfold inR; omega)) (by first | assumption | exact R.rg _ _ | exact rg _ _ | (unfold inR; omega)) (fun c97 => ?_) (fun c97 => ?_)
                · skip
                  refine r_iconst C dX5_spoil_104 ?_
                  refine r_istore C dX5_spoil_105 (Nat.le_of_ble_eq_true rfl) ?_
                  dsimp only [List.set]
                  refine r_aload_n C dX5_spoil_107 (i := 0) rfl rfl ?_
                  refine m_getA C dX5_spoil_108 fX5_60 R (by decide) rfl ?_
                  refine r_iload_n C dX5_spoil_111 (i := 1) rfl rfl ?_
                  refine r_iload_n C dX5_spoil_112 (i := 2) rfl rfl ?_
                  refine r_S2 C dX5_spoil_113 sX5_104 (Nat.le_of_ble_eq_true rfl) (C_X5_at ?_)
                  refine r_dup2 C dX5_spoil_116 rfl rfl ?_
                  refine m_iald C dX5_spoil_117 R (N := 480) rfl (by decide) rfl (by omega) (by omega) (by omega) ?_
                  refine r_iconst C dX5_spoil_118 ?_
                  refine r_iload_n C dX5_spoil_119 (i := 3) rfl rfl ?_
                  refine r_ishl C dX5_spoil_120 ?_
                  refine r_ior C dX5_spoil_121 ?_
                  refine m_iast C dX5_spoil_122 R (N := 480) rfl (by decide) rfl (by omega) (by omega) (by omega) (inR_toInt _) (fun h R => ?_)
                  refine r_iload C dX5_spoil_123 rfl ?_
                  refine r_iret C dX5_spoil_125 (Or.inr ⟨rfl, (by first | assumption | omega | decide)⟩) ?_
                  first
                    | exact k 0 _ _ _ (by unfold C2; omega) (fun _ => ⟨.y (by rw [← e21]; exact c97), by rw [← hs]; rfl⟩) (fun z => absurd rfl z) R
                    | exact k 0 _ _ _ (by unfold C2; omega) (fun _ => ⟨.n (by rw [← e21]; exact c97), by rw [← hs]; rfl⟩) (fun z => absurd rfl z) R
                · skip
                  refine r_iconst C dX5_spoil_100 ?_
                  refine r_goto C dX5_spoil_101 (t := 105) (by decide) ?_
                  refine r_istore C dX5_spoil_105 (Nat.le_of_ble_eq_true rfl) ?_
                  dsimp only [List.set]
                  refine r_aload_n C dX5_spoil_107 (i := 0) rfl rfl ?_
                  refine m_getA C dX5_spoil_108 fX5_60 R (by decide) rfl ?_
                  refine r_iload_n C dX5_spoil_111 (i := 1) rfl rfl ?_
                  refine r_iload_n C dX5_spoil_112 (i := 2) rfl rfl ?_
                  refine r_S2 C dX5_spoil_113 sX5_104 (Nat.le_of_ble_eq_true rfl) (C_X5_at ?_)
                  refine r_dup2 C dX5_spoil_116 rfl rfl ?_
                  refine m_iald C dX5_spoil_117 R (N := 480) rfl (by decide) rfl (by omega) (by omega) (by omega) ?_
                  refine r_iconst C dX5_spoil_118 ?_
                  refine r_iload_n C dX5_spoil_119 (i := 3) rfl rfl ?_
                  refine r_ishl C dX5_spoil_120 ?_
                  refine r_ior C dX5_spoil_121 ?_
                  refine m_iast C dX5_spoil_122 R (N := 480) rfl (by decide) rfl (by omega) (by omega) (by omega) (inR_toInt _) (fun h R => ?_)
                  refine r_iload C dX5_spoil_123 rfl ?_
                  refine r_iret C dX5_spoil_125 (Or.inr ⟨rfl, (by first | assumption | omega | decide)⟩) ?_
                  first
                    | exact k 0 _ _ _ (by unfold C2; omega) (fun _ => ⟨.y (by rw [← e21]; exact c97), by rw [← hs]; rfl⟩) (fun z => absurd rfl z) R
                    | exact k 0 _ _ _ (by unfold C2; omega) (fun _ => ⟨.n (by rw [← e21]; exact c97), by rw [← hs]; rfl⟩) (fun z => absurd rfl z) R
              · skip
                exact absurd rfl (hH.f c77)
            · skip
              refine r_iconst C dX5_spoil_69 ?_
              refine r_goto C dX5_spoil_70 (t := 74) (by decide) ?_
              refine m_V1 C dX5_spoil_74 sX5_91 rfl R (Nat.le_of_ble_eq_true rfl) (C_X5_holds R (by unfold inR; omega) (fun zH h hzH hH R => ?_))
              refine r_if_ne C dX5_spoil_77 (t := 82) (by decide) (by first | assumption | exact R.rg _ _ | exact rg _ _ | (unfold inR; omega)) (fun c77 => ?_) (fun c77 => ?_)
              · skip
                exact absurd (hH.t c77) (by decide)
              · skip
                refine r_iconst C dX5_spoil_80 ?_
                refine r_iret C dX5_spoil_81 (Or.inr ⟨rfl, (by first | assumption | omega | decide)⟩) ?_
                first | exact k 1 _ _ _ (by unfold C2; omega) (fun z => absurd z (by decide)) (fun _ => rfl) R | exact k 2 _ _ _ (by unfold C2; omega) (fun z => absurd z (by decide)) (fun _ => rfl) R
        · skip
          exact absurd c35 (by decide)

set_option maxRecDepth 100000 in
set_option maxHeartbeats 4000000 in
theorem C_X5_limit {gx : GX} {d : Nat} {Qr : Option AV → Hp → Prop} {Qx : String → Hp → Prop} {q : Nat} {ar : Nat → Nat} {g : GT} {h : Hp} {a : Int} (R : RM q ar g h) (B : BD g) (ha : inR a) (k : ∀ c z h1 g1, C1 (inP a 0 3) c → (c = 0 → z = g 2 0 ∧ g1 = up (up g 0 0 0) 2 0 a) → (c ≠ 0 → g1 = up g 0 0 c) → RM q ar g1 h1 → Qr (some (vi z)) h1) : aM gx (d + 2) mX5_limit [vr q, vi a] h 0 0 Qr Qx := by
  intro J C
  show J 0 [some (vr q), some (vi a), none] [] h 0 0
  have b1 := B.nn; have b2 := B.np; have b3 := B.nf; have rg := R.rg
  refine r_aload_n C dX5_limit_0 (i := 0) rfl rfl ?_
  refine r_iload_n C dX5_limit_1 (i := 1) rfl rfl ?_
  refine r_iconst C dX5_limit_2 ?_
  refine r_iconst C dX5_limit_3 ?_
  refine r_S3 C dX5_limit_4 sX5_81 (Nat.le_of_ble_eq_true rfl) (C_X5_isIn (by first | assumption | (unfold inR; omega)) (by unfold inR; omega) (by unfold inR; omega) (fun z1 hz1 hb1 => ?_))
  refine r_if_eq C dX5_limit_7 (t := 14) (by decide) (by first | assumption | exact R.rg _ _ | exact rg _ _ | (unfold inR; omega)) (fun c7 => ?_) (fun c7 => ?_)
  · skip
    have hn1 := hb1.f c7
    refine r_iconst C dX5_limit_14 ?_
    refine m_V1 C dX5_limit_15 sX5_91 rfl R (Nat.le_of_ble_eq_true rfl) (C_X5_holds R (by unfold inR; omega) (fun zH h hzH hH R => ?_))
    refine r_if_ne C dX5_limit_18 (t := 23) (by decide) (by first | assumption | exact R.rg _ _ | exact rg _ _ | (unfold inR; omega)) (fun c18 => ?_) (fun c18 => ?_)
    · skip
      exact absurd (hH.t c18) (by decide)
    · skip
      refine r_iconst C dX5_limit_21 ?_
      refine r_iret C dX5_limit_22 (Or.inl rfl) ?_
      exact k 1 _ _ _ (by unfold C1; omega) (fun z => absurd z (by decide)) (fun _ => rfl) R
  · skip
    have hn1 := hb1.t c7
    refine r_iconst C dX5_limit_10 ?_
    refine r_goto C dX5_limit_11 (t := 15) (by decide) ?_
    refine m_V1 C dX5_limit_15 sX5_91 rfl R (Nat.le_of_ble_eq_true rfl) (C_X5_holds R (by unfold inR; omega) (fun zH h hzH hH R => ?_))
    refine r_if_ne C dX5_limit_18 (t := 23) (by decide) (by first | assumption | exact R.rg _ _ | exact rg _ _ | (unfold inR; omega)) (fun c18 => ?_) (fun c18 => ?_)
    · skip
      obtain ⟨s, hs⟩ : ∃ s, s = up g 0 0 0 := ⟨_, rfl⟩
      rw [← hs] at R
      have ge : ∀ k, k ≠ 0 → ∀ j, s k j = g k j := fun k hk j => by rw [hs, up_ne hk]
      have SB : BD s := by rw [hs]; exact bd_up0 B (by decide)
      have rg := R.rg
      have e4 := ge 4 (by decide) 0; have e11 := ge 11 (by decide) 0; have e22 := ge 22 (by decide) 0
      have e2 := ge 2 (by decide) 0
      refine r_aload_n C dX5_limit_23 (i := 0) rfl rfl ?_
      refine m_get0 C dX5_limit_24 fX5_7 R rfl rfl ?_
      refine r_istore_n C dX5_limit_27 (i := 2) rfl (Nat.le_of_ble_eq_true rfl) ?_
      dsimp only [List.set]
      refine r_aload_n C dX5_limit_28 (i := 0) rfl rfl ?_
      refine r_iload_n C dX5_limit_29 (i := 1) rfl rfl ?_
      refine m_put C dX5_limit_30 fX5_7 R rfl rfl (Or.inl rfl) (by first | assumption | exact R.rg _ _ | exact rg _ _ | (unfold inR; omega)) (fun h R => ?_)
      refine r_iload_n C dX5_limit_33 (i := 2) rfl rfl ?_
      refine r_iret C dX5_limit_34 (Or.inl rfl) ?_
      exact k 0 _ _ _ (by unfold C1; omega) (fun _ => ⟨by omega, by rw [← hs]⟩) (fun z => absurd rfl z) R
    · skip
      exact absurd rfl (hH.f c18)

set_option maxRecDepth 100000 in
set_option maxHeartbeats 4000000 in
theorem C_X5_balance {gx : GX} {d : Nat} {Qr : Option AV → Hp → Prop} {Qx : String → Hp → Prop} {q : Nat} {ar : Nat → Nat} {g : GT} {h : Hp} {a : Int} (R : RM q ar g h) (B : BD g) (ha : a = 0 ∨ a = 1) (hbb : g 3 0 = 0 ∨ g 3 0 = 1) (k : ∀ h1, RM q ar (up (up g 0 0 0) 3 0 a) h1 → Qr (some (vi (g 3 0))) h1) : aM gx (d + 1) mX5_balance [vr q, vi a] h 0 0 Qr Qx := by
  intro J C
  show J 0 [some (vr q), some (vi a), none] [] h 0 0
  have b1 := B.nn; have b2 := B.np; have b3 := B.nf; have rg := R.rg
  refine r_aload_n C dX5_balance_0 (i := 0) rfl rfl ?_
  refine r_iconst C dX5_balance_1 ?_
  refine m_put C dX5_balance_2 fX5_75 R rfl rfl (Or.inl rfl) (by first | assumption | exact R.rg _ _ | exact rg _ _ | (unfold inR; omega)) (fun h R => ?_)
  refine r_aload_n C dX5_balance_5 (i := 0) rfl rfl ?_
  refine m_get0 C dX5_balance_6 fX5_108 R rfl rfl ?_
  try simp (decide := true) only [up_ne]
  refine r_istore_n C dX5_balance_9 (i := 2) rfl (Nat.le_of_ble_eq_true rfl) ?_
  dsimp only [List.set]
  refine r_aload_n C dX5_balance_10 (i := 0) rfl rfl ?_
  refine r_iload_n C dX5_balance_11 (i := 1) rfl rfl ?_
  refine m_put C dX5_balance_12 fX5_108 R rfl rfl (Or.inr ⟨rfl, (by first | assumption | omega)⟩) (by first | assumption | exact R.rg _ _ | exact rg _ _ | (unfold inR; omega)) (fun h R => ?_)
  refine r_iload_n C dX5_balance_15 (i := 2) rfl rfl ?_
  refine r_iret C dX5_balance_16 (Or.inr ⟨rfl, (by first | assumption | omega | decide)⟩) ?_
  exact k _ R

set_option maxRecDepth 100000 in
set_option maxHeartbeats 4000000 in
theorem C_X5_file {gx : GX} {d : Nat} {Qr : Option AV → Hp → Prop} {Qx : String → Hp → Prop} {q : Nat} {ar : Nat → Nat} {g : GT} {h : Hp} (R : RM q ar g h) (B : BD g) (k : ∀ c z h1 g1, C1 (g 22 0 ≠ 20) c → (c = 0 → z = g 22 0 ∧ g1 = flG (up g 0 0 0)) → (c ≠ 0 → g1 = up g 0 0 c) → RM q ar g1 h1 → Qr (some (vi z)) h1) : aM gx (d + 2) mX5_file [vr q] h 0 0 Qr Qx := by
  intro J C
  show J 0 [some (vr q)] [] h 0 0
  have b1 := B.nn; have b2 := B.np; have b3 := B.nf; have rg := R.rg
  refine r_aload_n C dX5_file_0 (i := 0) rfl rfl ?_
  refine r_aload_n C dX5_file_1 (i := 0) rfl rfl ?_
  refine m_get0 C dX5_file_2 fX5_88 R rfl rfl ?_
  refine r_bipush C dX5_file_5 (by decide) ?_
  refine r_ic_ne C dX5_file_7 (t := 14) (by decide) (by first | assumption | exact R.rg _ _ | exact rg _ _ | (unfold inR; omega)) (by first | assumption | exact R.rg _ _ | exact rg _ _ | (unfold inR; omega)) (fun c7 => ?_) (fun c7 => ?_)
  · skip
    refine r_iconst C dX5_file_14 ?_
    refine m_V1 C dX5_file_15 sX5_91 rfl R (Nat.le_of_ble_eq_true rfl) (C_X5_holds R (by unfold inR; omega) (fun zH h hzH hH R => ?_))
    refine r_if_ne C dX5_file_18 (t := 23) (by decide) (by first | assumption | exact R.rg _ _ | exact rg _ _ | (unfold inR; omega)) (fun c18 => ?_) (fun c18 => ?_)
    · skip
      obtain ⟨s, hs⟩ : ∃ s, s = up g 0 0 0 := ⟨_, rfl⟩
      rw [← hs] at R
      have ge : ∀ k, k ≠ 0 → ∀ j, s k j = g k j := fun k hk j => by rw [hs, up_ne hk]
      have SB : BD s := by rw [hs]; exact bd_up0 B (by decide)
      have rg := R.rg
      have e4 := ge 4 (by decide) 0; have e11 := ge 11 (by decide) 0; have e22 := ge 22 (by decide) 0
      refine r_aload_n C dX5_file_23 (i := 0) rfl rfl ?_
      refine m_getA C dX5_file_24 fX5_63 R (by decide) rfl ?_
      refine r_aload_n C dX5_file_27 (i := 0) rfl rfl ?_
      refine m_get0 C dX5_file_28 fX5_88 R rfl rfl ?_
      try simp (decide := true) only [up_ne]
      refine r_iconst C dX5_file_31 ?_
      refine m_iast C dX5_file_32 R (N := 20) rfl (by decide) rfl (by omega) (by omega) (by omega) (by first | assumption | exact R.rg _ _ | exact rg _ _ | (unfold inR; omega)) (fun h R => ?_)
      refine r_aload_n C dX5_file_33 (i := 0) rfl rfl ?_
      refine m_getA C dX5_file_34 fX5_69 R (by decide) rfl ?_
      refine r_aload_n C dX5_file_37 (i := 0) rfl rfl ?_
      refine m_get0 C dX5_file_38 fX5_88 R rfl rfl ?_
      try simp (decide := true) only [up_ne]
      refine r_iconst C dX5_file_41 ?_
      refine m_iast C dX5_file_42 R (N := 20) rfl (by decide) rfl (by omega) (by omega) (by omega) (by first | assumption | exact R.rg _ _ | exact rg _ _ | (unfold inR; omega)) (fun h R => ?_)
      refine r_aload_n C dX5_file_43 (i := 0) rfl rfl ?_
      refine r_dup C dX5_file_44 rfl ?_
      refine m_get0 C dX5_file_45 fX5_88 R rfl rfl ?_
      try simp (decide := true) only [up_ne]
      refine r_iconst C dX5_file_48 ?_
      refine r_iadd C dX5_file_49 ?_
      refine m_put C dX5_file_50 fX5_88 R rfl rfl (Or.inl rfl) (by first | assumption | exact R.rg _ _ | exact rg _ _ | (unfold inR; omega)) (fun h R => ?_)
      refine r_aload_n C dX5_file_53 (i := 0) rfl rfl ?_
      refine m_get0 C dX5_file_54 fX5_88 R rfl rfl ?_
      rw [up_self]
      refine r_iconst C dX5_file_57 ?_
      refine r_isub C dX5_file_58 ?_
      refine r_iret C dX5_file_59 (Or.inl rfl) ?_
      exact k 0 _ _ _ (by unfold C1; omega) (fun _ => ⟨by omega, by rw [← hs]; rfl⟩) (fun z => absurd rfl z) R
    · skip
      exact absurd rfl (hH.f c18)
  · skip
    refine r_iconst C dX5_file_10 ?_
    refine r_goto C dX5_file_11 (t := 15) (by decide) ?_
    refine m_V1 C dX5_file_15 sX5_91 rfl R (Nat.le_of_ble_eq_true rfl) (C_X5_holds R (by unfold inR; omega) (fun zH h hzH hH R => ?_))
    refine r_if_ne C dX5_file_18 (t := 23) (by decide) (by first | assumption | exact R.rg _ _ | exact rg _ _ | (unfold inR; omega)) (fun c18 => ?_) (fun c18 => ?_)
    · skip
      exact absurd (hH.t c18) (by decide)
    · skip
      refine r_iconst C dX5_file_21 ?_
      refine r_iret C dX5_file_22 (Or.inl rfl) ?_
      exact k 1 _ _ _ (by unfold C1; omega) (fun z => absurd z (by decide)) (fun _ => rfl) R

set_option maxRecDepth 100000 in
set_option maxHeartbeats 4000000 in
theorem C_X5_remove {gx : GX} {d : Nat} {Qr : Option AV → Hp → Prop} {Qx : String → Hp → Prop} {q : Nat} {ar : Nat → Nat} {g : GT} {h : Hp} {f : Int} (R : RM q ar g h) (B : BD g) (hf : inR f) (k : ∀ c h1 g1, C2 (flP g f) (g 23 f = 0) c → (c = 0 → g1 = rmG (up g 0 0 0) f) → (c ≠ 0 → g1 = up g 0 0 c) → RM q ar g1 h1 → Qr none h1) : aM gx (d + 3) mX5_remove [vr q, vi f] h 0 0 Qr Qx := by
  intro J C
  show J 0 [some (vr q), some (vi f)] [] h 0 0
  have b1 := B.nn; have b2 := B.np; have b3 := B.nf; have rg := R.rg
  refine r_aload_n C dX5_remove_0 (i := 0) rfl rfl ?_
  refine r_aload_n C dX5_remove_1 (i := 0) rfl rfl ?_
  refine r_iload_n C dX5_remove_2 (i := 1) rfl rfl ?_
  refine m_V1 C dX5_remove_3 sX5_140 rfl R (Nat.le_of_ble_eq_true rfl) (C_X5_isFile R B hf (fun z1 hz1 hb1 => ?_))
  refine r_if_ne C dX5_remove_6 (t := 13) (by decide) (by first | assumption | exact R.rg _ _ | exact rg _ _ | (unfold inR; omega)) (fun c6 => ?_) (fun c6 => ?_)
  · skip
    have hn1 := hb1.t c6
    refine r_aload_n C dX5_remove_13 (i := 0) rfl rfl ?_
    refine m_getA C dX5_remove_14 fX5_63 R (by decide) rfl ?_
    refine r_iload_n C dX5_remove_17 (i := 1) rfl rfl ?_
    refine m_iald C dX5_remove_18 R (N := 20) rfl (by decide) rfl (by omega) (by omega) (by omega) ?_
    refine r_if_ne C dX5_remove_19 (t := 26) (by decide) (by first | assumption | exact R.rg _ _ | exact rg _ _ | (unfold inR; omega)) (fun c19 => ?_) (fun c19 => ?_)
    · skip
      refine r_iconst C dX5_remove_26 ?_
      refine m_V1 C dX5_remove_27 sX5_91 rfl R (Nat.le_of_ble_eq_true rfl) (C_X5_holds R (by unfold inR; omega) (fun zH h hzH hH R => ?_))
      refine r_if_eq C dX5_remove_30 (t := 50) (by decide) (by first | assumption | exact R.rg _ _ | exact rg _ _ | (unfold inR; omega)) (fun c30 => ?_) (fun c30 => ?_)
      · skip
        refine r_ret C dX5_remove_50 rfl ?_
        first | exact k 1 _ _ (by unfold C2; omega) (fun z => absurd z (by decide)) (fun _ => rfl) R | exact k 2 _ _ (by unfold C2; omega) (fun z => absurd z (by decide)) (fun _ => rfl) R | exact k 0 _ _ (by unfold C2; omega) (fun _ => by rw [← hs]; rfl) (fun z => absurd rfl z) R
      · skip
        exact absurd (hH.t c30) (by decide)
    · skip
      refine r_iconst C dX5_remove_22 ?_
      refine r_goto C dX5_remove_23 (t := 27) (by decide) ?_
      refine m_V1 C dX5_remove_27 sX5_91 rfl R (Nat.le_of_ble_eq_true rfl) (C_X5_holds R (by unfold inR; omega) (fun zH h hzH hH R => ?_))
      refine r_if_eq C dX5_remove_30 (t := 50) (by decide) (by first | assumption | exact R.rg _ _ | exact rg _ _ | (unfold inR; omega)) (fun c30 => ?_) (fun c30 => ?_)
      · skip
        exact absurd rfl (hH.f c30)
      · skip
        obtain ⟨s, hs⟩ : ∃ s, s = up g 0 0 0 := ⟨_, rfl⟩
        rw [← hs] at R
        have ge : ∀ k, k ≠ 0 → ∀ j, s k j = g k j := fun k hk j => by rw [hs, up_ne hk]
        have SB : BD s := by rw [hs]; exact bd_up0 B (by decide)
        have rg := R.rg
        have e4 := ge 4 (by decide) 0; have e11 := ge 11 (by decide) 0; have e22 := ge 22 (by decide) 0
        have e1 := ge 1 (by decide) 0
        refine r_aload_n C dX5_remove_33 (i := 0) rfl rfl ?_
        refine m_getA C dX5_remove_34 fX5_63 R (by decide) rfl ?_
        refine r_iload_n C dX5_remove_37 (i := 1) rfl rfl ?_
        refine r_iconst C dX5_remove_38 ?_
        refine m_iast C dX5_remove_39 R (N := 20) rfl (by decide) rfl (by omega) (by omega) (by omega) (by first | assumption | exact R.rg _ _ | exact rg _ _ | (unfold inR; omega)) (fun h R => ?_)
        refine r_aload_n C dX5_remove_40 (i := 0) rfl rfl ?_
        refine m_getA C dX5_remove_41 fX5_66 R (by decide) rfl ?_
        refine r_iload_n C dX5_remove_44 (i := 1) rfl rfl ?_
        refine r_aload_n C dX5_remove_45 (i := 0) rfl rfl ?_
        refine m_get0 C dX5_remove_46 fX5_98 R rfl rfl ?_
        try simp (decide := true) only [up_ne]
        refine m_iast C dX5_remove_49 R (N := 20) rfl (by decide) rfl (by omega) (by omega) (by omega) (by first | assumption | exact R.rg _ _ | exact rg _ _ | (unfold inR; omega)) (fun h R => ?_)
        refine r_ret C dX5_remove_50 rfl ?_
        first | exact k 1 _ _ (by unfold C2; omega) (fun z => absurd z (by decide)) (fun _ => rfl) R | exact k 2 _ _ (by unfold C2; omega) (fun z => absurd z (by decide)) (fun _ => rfl) R | exact k 0 _ _ (by unfold C2; omega) (fun _ => by rw [← hs]; rfl) (fun z => absurd rfl z) R
  · skip
    have hn1 := hb1.f c6
    refine r_iconst C dX5_remove_9 ?_
    refine r_goto C dX5_remove_10 (t := 27) (by decide) ?_
    refine m_V1 C dX5_remove_27 sX5_91 rfl R (Nat.le_of_ble_eq_true rfl) (C_X5_holds R (by unfold inR; omega) (fun zH h hzH hH R => ?_))
    refine r_if_eq C dX5_remove_30 (t := 50) (by decide) (by first | assumption | exact R.rg _ _ | exact rg _ _ | (unfold inR; omega)) (fun c30 => ?_) (fun c30 => ?_)
    · skip
      refine r_ret C dX5_remove_50 rfl ?_
      first | exact k 1 _ _ (by unfold C2; omega) (fun z => absurd z (by decide)) (fun _ => rfl) R | exact k 2 _ _ (by unfold C2; omega) (fun z => absurd z (by decide)) (fun _ => rfl) R | exact k 0 _ _ (by unfold C2; omega) (fun _ => by rw [← hs]; rfl) (fun z => absurd rfl z) R
    · skip
      exact absurd (hH.t c30) (by decide)

set_option maxRecDepth 100000 in
set_option maxHeartbeats 4000000 in
theorem C_X5_restore {gx : GX} {d : Nat} {Qr : Option AV → Hp → Prop} {Qx : String → Hp → Prop} {q : Nat} {ar : Nat → Nat} {g : GT} {h : Hp} {f : Int} (R : RM q ar g h) (B : BD g) (hf : inR f) (k : ∀ c h1 g1, C2 (flP g f) (g 23 f = 1) c → (c = 0 → g1 = rsG (up g 0 0 0) f) → (c ≠ 0 → g1 = up g 0 0 c) → RM q ar g1 h1 → Qr none h1) : aM gx (d + 3) mX5_restore [vr q, vi f] h 0 0 Qr Qx := by
  intro J C
  show J 0 [some (vr q), some (vi f)] [] h 0 0
  have b1 := B.nn; have b2 := B.np; have b3 := B.nf; have rg := R.rg
  refine r_aload_n C dX5_restore_0 (i := 0) rfl rfl ?_
  refine r_aload_n C dX5_restore_1 (i := 0) rfl rfl ?_
  refine r_iload_n C dX5_restore_2 (i := 1) rfl rfl ?_
  refine m_V1 C dX5_restore_3 sX5_140 rfl R (Nat.le_of_ble_eq_true rfl) (C_X5_isFile R B hf (fun z1 hz1 hb1 => ?_))
  refine r_if_ne C dX5_restore_6 (t := 13) (by decide) (by first | assumption | exact R.rg _ _ | exact rg _ _ | (unfold inR; omega)) (fun c6 => ?_) (fun c6 => ?_)
  · skip
    have hn1 := hb1.t c6
    refine r_aload_n C dX5_restore_13 (i := 0) rfl rfl ?_
    refine m_getA C dX5_restore_14 fX5_63 R (by decide) rfl ?_
    refine r_iload_n C dX5_restore_17 (i := 1) rfl rfl ?_
    refine m_iald C dX5_restore_18 R (N := 20) rfl (by decide) rfl (by omega) (by omega) (by omega) ?_
    refine r_iconst C dX5_restore_19 ?_
    refine r_ic_ne C dX5_restore_20 (t := 27) (by decide) (by first | assumption | exact R.rg _ _ | exact rg _ _ | (unfold inR; omega)) (by first | assumption | exact R.rg _ _ | exact rg _ _ | (unfold inR; omega)) (fun c20 => ?_) (fun c20 => ?_)
    · skip
      refine r_iconst C dX5_restore_27 ?_
      refine m_V1 C dX5_restore_28 sX5_91 rfl R (Nat.le_of_ble_eq_true rfl) (C_X5_holds R (by unfold inR; omega) (fun zH h hzH hH R => ?_))
      refine r_if_eq C dX5_restore_31 (t := 41) (by decide) (by first | assumption | exact R.rg _ _ | exact rg _ _ | (unfold inR; omega)) (fun c31 => ?_) (fun c31 => ?_)
      · skip
        refine r_ret C dX5_restore_41 rfl ?_
        first | exact k 1 _ _ (by unfold C2; omega) (fun z => absurd z (by decide)) (fun _ => rfl) R | exact k 2 _ _ (by unfold C2; omega) (fun z => absurd z (by decide)) (fun _ => rfl) R | exact k 0 _ _ (by unfold C2; omega) (fun _ => by rw [← hs]; rfl) (fun z => absurd rfl z) R
      · skip
        exact absurd (hH.t c31) (by decide)
    · skip
      refine r_iconst C dX5_restore_23 ?_
      refine r_goto C dX5_restore_24 (t := 28) (by decide) ?_
      refine m_V1 C dX5_restore_28 sX5_91 rfl R (Nat.le_of_ble_eq_true rfl) (C_X5_holds R (by unfold inR; omega) (fun zH h hzH hH R => ?_))
      refine r_if_eq C dX5_restore_31 (t := 41) (by decide) (by first | assumption | exact R.rg _ _ | exact rg _ _ | (unfold inR; omega)) (fun c31 => ?_) (fun c31 => ?_)
      · skip
        exact absurd rfl (hH.f c31)
      · skip
        obtain ⟨s, hs⟩ : ∃ s, s = up g 0 0 0 := ⟨_, rfl⟩
        rw [← hs] at R
        have ge : ∀ k, k ≠ 0 → ∀ j, s k j = g k j := fun k hk j => by rw [hs, up_ne hk]
        have SB : BD s := by rw [hs]; exact bd_up0 B (by decide)
        have rg := R.rg
        have e4 := ge 4 (by decide) 0; have e11 := ge 11 (by decide) 0; have e22 := ge 22 (by decide) 0
        refine r_aload_n C dX5_restore_34 (i := 0) rfl rfl ?_
        refine m_getA C dX5_restore_35 fX5_63 R (by decide) rfl ?_
        refine r_iload_n C dX5_restore_38 (i := 1) rfl rfl ?_
        refine r_iconst C dX5_restore_39 ?_
        refine m_iast C dX5_restore_40 R (N := 20) rfl (by decide) rfl (by omega) (by omega) (by omega) (by first | assumption | exact R.rg _ _ | exact rg _ _ | (unfold inR; omega)) (fun h R => ?_)
        refine r_ret C dX5_restore_41 rfl ?_
        first | exact k 1 _ _ (by unfold C2; omega) (fun z => absurd z (by decide)) (fun _ => rfl) R | exact k 2 _ _ (by unfold C2; omega) (fun z => absurd z (by decide)) (fun _ => rfl) R | exact k 0 _ _ (by unfold C2; omega) (fun _ => by rw [← hs]; rfl) (fun z => absurd rfl z) R
  · skip
    have hn1 := hb1.f c6
    refine r_iconst C dX5_restore_9 ?_
    refine r_goto C dX5_restore_10 (t := 28) (by decide) ?_
    refine m_V1 C dX5_restore_28 sX5_91 rfl R (Nat.le_of_ble_eq_true rfl) (C_X5_holds R (by unfold inR; omega) (fun zH h hzH hH R => ?_))
    refine r_if_eq C dX5_restore_31 (t := 41) (by decide) (by first | assumption | exact R.rg _ _ | exact rg _ _ | (unfold inR; omega)) (fun c31 => ?_) (fun c31 => ?_)
    · skip
      refine r_ret C dX5_restore_41 rfl ?_
      first | exact k 1 _ _ (by unfold C2; omega) (fun z => absurd z (by decide)) (fun _ => rfl) R | exact k 2 _ _ (by unfold C2; omega) (fun z => absurd z (by decide)) (fun _ => rfl) R | exact k 0 _ _ (by unfold C2; omega) (fun _ => by rw [← hs]; rfl) (fun z => absurd rfl z) R
    · skip
      exact absurd (hH.t c31) (by decide)

