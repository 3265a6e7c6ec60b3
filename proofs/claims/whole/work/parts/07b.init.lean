/-! ===== the reference's constructor ===== -/
def g0T : GT := fun k j => if k = 2 ∧ j = 0 then 1 else 0
def INI (q : Nat) (ar : Nat → Nat) (S : List Nat) (h : Hp) : Prop :=
  (q ∈ hD h ∧ hK h q = 7) ∧ (∀ k ∈ S, arN k ≠ 0 ∧ ar k ∈ hD h ∧ hK h (ar k) = arK k ∧ hN h (ar k) = arN k ∧ hP h q k = some (ar k) ∧ ∀ j, hI h (ar k) j = 0) ∧
  (∀ k ∈ S, ∀ k' ∈ S, ar k = ar k' → k = k') ∧ (∀ k : Nat, hI h q k = g0T k 0)
theorem INI.st {q : Nat} {ar : Nat → Nat} {S : List Nat} {h : Hp} (I : INI q ar S h) {a k kd n : Nat} (ha : a ∉ hD h) (hk : k ∉ S) (h0 : arN k ≠ 0) (e1 : kd = arK k) (e2 : n = arN k) : INI q (fun x => if x = k then a else ar x) (k :: S) (wP (hNew h a kd n) q k (some a)) := by
  have hq : q ≠ a := fun z => ha (z ▸ I.1.1)
  have hD9 : ∀ b, b ∈ hD h → b ∈ hD (wP (hNew h a kd n) q k (some a)) := fun b hb => List.mem_append.mpr (Or.inl hb)
  have hDa : a ∈ hD (wP (hNew h a kd n) q k (some a)) := List.mem_append.mpr (Or.inr (List.mem_singleton.mpr rfl))
  have nK : ∀ b, b ≠ a → hK (wP (hNew h a kd n) q k (some a)) b = hK h b := fun b hb => if_neg hb
  have nN : ∀ b, b ≠ a → hN (wP (hNew h a kd n) q k (some a)) b = hN h b := fun b hb => if_neg hb
  have nI : ∀ b, b ≠ a → ∀ j, hI (wP (hNew h a kd n) q k (some a)) b j = hI h b j := fun b hb j => if_neg hb
  refine ⟨⟨hD9 q I.1.1, (nK q hq).trans I.1.2⟩, fun k' hk' => ?_, fun k1 h1 k2 h2 e => ?_, fun k' => ?_⟩
  · by_cases e : k' = k
    · rw [e]
      dsimp only
      rw [if_pos rfl]
      refine ⟨h0, hDa, ?_, ?_, ?_, fun j => ?_⟩
      · show (if a = a then kd else hK h a) = _
        rw [if_pos rfl, e1]
      · show (if a = a then n else hN h a) = _
        rw [if_pos rfl, e2]
      · show (if q = q ∧ (k : Int) = k then some a else _) = _
        rw [if_pos ⟨rfl, rfl⟩]
      · show (if a = a then (0 : Int) else hI h a j) = 0
        rw [if_pos rfl]
    · have hm : k' ∈ S := by
        rcases List.mem_cons.mp hk' with z | z
        · exact absurd z e
        · exact z
      have y := I.2.1 k' hm
      have hn : ar k' ≠ a := fun z => ha (z ▸ y.2.1)
      dsimp only
      rw [if_neg e]
      refine ⟨y.1, hD9 _ y.2.1, (nK _ hn).trans y.2.2.1, (nN _ hn).trans y.2.2.2.1, ?_, fun j => (nI _ hn j).trans (y.2.2.2.2.2 j)⟩
      show (if q = q ∧ (k' : Int) = k then some a else (if q = a then none else hP h q k')) = some (ar k')
      rw [if_neg (fun (z : q = q ∧ (k' : Int) = k) => e (by omega)), if_neg hq]
      exact y.2.2.2.2.1
  · dsimp only at e
    by_cases a1 : k1 = k <;> by_cases a2 : k2 = k
    · rw [a1, a2]
    · rw [if_pos a1, if_neg a2] at e
      have hm : k2 ∈ S := by
        rcases List.mem_cons.mp h2 with z | z
        · exact absurd z a2
        · exact z
      exact absurd (e ▸ (I.2.1 k2 hm).2.1) ha
    · rw [if_neg a1, if_pos a2] at e
      have hm : k1 ∈ S := by
        rcases List.mem_cons.mp h1 with z | z
        · exact absurd z a1
        · exact z
      exact absurd (e ▸ (I.2.1 k1 hm).2.1) ha
    · rw [if_neg a1, if_neg a2] at e
      refine I.2.2.1 k1 ?_ k2 ?_ e
      · exact (List.mem_cons.mp h1).resolve_left a1
      · exact (List.mem_cons.mp h2).resolve_left a2
  · rw [nI q hq]; exact I.2.2.2 k'
theorem INI.z {q : Nat} {h : Hp} (hq : q ∈ hD h) (hqk : hK h q = 7) (hi : ∀ k : Nat, hI h q k = 0) : INI q (fun _ => 0) [] (wI h q (2 : Nat) 1) := by
  refine ⟨⟨hq, hqk⟩, fun k z => absurd z List.not_mem_nil, fun k z => absurd z List.not_mem_nil, fun k => ?_⟩
  show (if q = q ∧ (k : Int) = (2 : Nat) then (1 : Int) else hI h q k) = g0T k 0
  unfold g0T
  by_cases z : k = 2
  · rw [if_pos ⟨rfl, by omega⟩, if_pos ⟨z, rfl⟩]
  · rw [if_neg (fun (y : q = q ∧ (k : Int) = (2 : Nat)) => z (by omega)), if_neg (fun y => z y.1)]
    exact hi k
theorem m_nI {gx : GX} {d : Nat} {call : CT} {M : MI} {Qr : Option AV → Hp → Prop} {Qx : String → Hp → Prop} {J : JT} (C : Cl gx d call M Qr Qx J) {q : Nat} {ar : Nat → Nat} {S : List Nat} {h : Hp} {pc ix k : Nat} {ls : List (Option AV)} {c s : Nat} {n : Int} (I : INI q ar S h) (hd1 : decode M.2.1 pc = .ok (.newarray .int, 2)) (hd2 : decode M.2.1 (pc + 2) = .ok (.putfield ix, 3)) (hf : fL M.1.cls ix 6 k) (hfi : finOk M 6 k) (hr : isRf 6 k = true) (hk : k ∉ S) (hK : arK k = 10) (h0 : arN k ≠ 0) (hn : n = arN k) (hc : 1 ≤ c) (hs : arN k ≤ s) (kk : ∀ ar' h', INI q ar' (k :: S) h' → J (pc + 2 + 3) ls [] h' (c - 1) (s - arN k)) : J pc ls [vi n, vr q] h c s := by
  subst hn
  have hle : arN k ≤ 1920 := by unfold arN; split <;> decide
  refine r_newI C hd1 (by omega) (by omega) hc (by omega) (fun a na => ?_)
  have T := I.st (a := a) (k := k) (kd := 10) (n := ((arN k : Nat) : Int).toNat) na hk h0 hK.symm (by omega)
  refine r_putP C hd2 hf hfi hr (List.mem_append.mpr (Or.inl I.1.1)) ((if_neg (fun (z : q = a) => na (z ▸ I.1.1))).trans I.1.2) ?_
  rw [Int.toNat_natCast] at T ⊢
  exact kk _ _ T
theorem m_nZ {gx : GX} {d : Nat} {call : CT} {M : MI} {Qr : Option AV → Hp → Prop} {Qx : String → Hp → Prop} {J : JT} (C : Cl gx d call M Qr Qx J) {q : Nat} {ar : Nat → Nat} {S : List Nat} {h : Hp} {pc ix k : Nat} {ls : List (Option AV)} {c s : Nat} {n : Int} (I : INI q ar S h) (hd1 : decode M.2.1 pc = .ok (.newarray .boolean, 2)) (hd2 : decode M.2.1 (pc + 2) = .ok (.putfield ix, 3)) (hf : fL M.1.cls ix 6 k) (hfi : finOk M 6 k) (hr : isRf 6 k = true) (hk : k ∉ S) (hK : arK k = 11) (h0 : arN k ≠ 0) (hn : n = arN k) (hc : 1 ≤ c) (hs : arN k ≤ s) (kk : ∀ ar' h', INI q ar' (k :: S) h' → J (pc + 2 + 3) ls [] h' (c - 1) (s - arN k)) : J pc ls [vi n, vr q] h c s := by
  subst hn
  have hle : arN k ≤ 1920 := by unfold arN; split <;> decide
  refine r_newZ C hd1 (by omega) (by omega) hc (by omega) (fun a na => ?_)
  have T := I.st (a := a) (k := k) (kd := 11) (n := ((arN k : Nat) : Int).toNat) na hk h0 hK.symm (by omega)
  refine r_putP C hd2 hf hfi hr (List.mem_append.mpr (Or.inl I.1.1)) ((if_neg (fun (z : q = a) => na (z ▸ I.1.1))).trans I.1.2) ?_
  rw [Int.toNat_natCast] at T ⊢
  exact kk _ _ T
theorem INI.rm {q : Nat} {ar : Nat → Nat} {S : List Nat} {h : Hp} (I : INI q ar S h) (hS : ∀ k, arN k ≠ 0 → k ∈ S) : RM q ar g0T h := by
  refine ⟨I.1, fun k hk => ?_, fun k k' h1 h2 e => I.2.2.1 k (hS k h1) k' (hS k' h2) e, fun k _ => I.2.2.2 k, fun k j => ?_⟩
  · obtain ⟨a0, a1, a2, a3, a4, a5⟩ := I.2.1 k (hS k hk)
    refine ⟨a1, a2, a3, a4, fun j => ?_⟩
    rw [a5]
    unfold g0T
    rw [if_neg (fun z => by rw [z.1] at hk; exact hk rfl)]
  · unfold g0T
    split
    · exact inR1
    · exact inR0

set_option maxRecDepth 100000 in
set_option maxHeartbeats 4000000 in
theorem C_X5_init {gx : GX} {d : Nat} {Qr : Option AV → Hp → Prop} {Qx : String → Hp → Prop} {q : Nat} {h : Hp} {c s : Nat} (hq : q ∈ hD h) (hqk : hK h q = 7) (hi : ∀ k : Nat, hI h q k = 0) (hc : 20 ≤ c) (hs : 4368 ≤ s) (k : ∀ ar h1, RM q ar g0T h1 → Qr none h1) : aM gx (d + 1) mX5_init [vr q] h c s Qr Qx := by
  intro J C
  show J 0 [some (vr q)] [] h c s
  refine r_aload_n C dX5_init_0 (i := 0) rfl rfl ?_
  refine r_objI C dX5_init_1 lX5_1 (Nat.le_of_ble_eq_true rfl) ?_
  refine r_aload_n C dX5_init_4 (i := 0) rfl rfl ?_
  refine r_iconst C dX5_init_5 ?_
  refine r_putI C dX5_init_6 fX5_7 (Or.inl rfl) (Or.inl rfl) hq hqk ?_
  have I0 := INI.z hq hqk hi
  refine r_aload_n C dX5_init_9 (i := 0) rfl rfl ?_
  refine r_bipush C dX5_init_10 (by decide) ?_
  refine m_nI C I0 dX5_init_12 dX5_init_14 fX5_13 (Or.inr ⟨rfl, rfl, rfl⟩) rfl (by decide) rfl (by decide) rfl (by omega) (by show _ ≤ _; simp only [arN]; omega) (fun ar5 h I5 => ?_)
  simp only [arN]
  refine r_aload_n C dX5_init_17 (i := 0) rfl rfl ?_
  refine r_bipush C dX5_init_18 (by decide) ?_
  refine m_nI C I5 dX5_init_20 dX5_init_22 fX5_17 (Or.inr ⟨rfl, rfl, rfl⟩) rfl (by decide) rfl (by decide) rfl (by omega) (by show _ ≤ _; simp only [arN]; omega) (fun ar6 h I6 => ?_)
  simp only [arN]
  refine r_aload_n C dX5_init_25 (i := 0) rfl rfl ?_
  refine r_bipush C dX5_init_26 (by decide) ?_
  refine m_nZ C I6 dX5_init_28 dX5_init_30 fX5_20 (Or.inr ⟨rfl, rfl, rfl⟩) rfl (by decide) rfl (by decide) rfl (by omega) (by show _ ≤ _; simp only [arN]; omega) (fun ar7 h I7 => ?_)
  simp only [arN]
  refine r_aload_n C dX5_init_33 (i := 0) rfl rfl ?_
  refine r_bipush C dX5_init_34 (by decide) ?_
  refine m_nI C I7 dX5_init_36 dX5_init_38 fX5_24 (Or.inr ⟨rfl, rfl, rfl⟩) rfl (by decide) rfl (by decide) rfl (by omega) (by show _ ≤ _; simp only [arN]; omega) (fun ar8 h I8 => ?_)
  simp only [arN]
  refine r_aload_n C dX5_init_41 (i := 0) rfl rfl ?_
  refine r_bipush C dX5_init_42 (by decide) ?_
  refine m_nZ C I8 dX5_init_44 dX5_init_46 fX5_27 (Or.inr ⟨rfl, rfl, rfl⟩) rfl (by decide) rfl (by decide) rfl (by omega) (by show _ ≤ _; simp only [arN]; omega) (fun ar9 h I9 => ?_)
  simp only [arN]
  refine r_aload_n C dX5_init_49 (i := 0) rfl rfl ?_
  refine r_bipush C dX5_init_50 (by decide) ?_
  refine m_nI C I9 dX5_init_52 dX5_init_54 fX5_30 (Or.inr ⟨rfl, rfl, rfl⟩) rfl (by decide) rfl (by decide) rfl (by omega) (by show _ ≤ _; simp only [arN]; omega) (fun ar10 h I10 => ?_)
  simp only [arN]
  refine r_aload_n C dX5_init_57 (i := 0) rfl rfl ?_
  refine r_bipush C dX5_init_58 (by decide) ?_
  refine m_nI C I10 dX5_init_60 dX5_init_62 fX5_33 (Or.inr ⟨rfl, rfl, rfl⟩) rfl (by decide) rfl (by decide) rfl (by omega) (by show _ ≤ _; simp only [arN]; omega) (fun ar12 h I12 => ?_)
  simp only [arN]
  refine r_aload_n C dX5_init_65 (i := 0) rfl rfl ?_
  refine r_bipush C dX5_init_66 (by decide) ?_
  refine m_nI C I12 dX5_init_68 dX5_init_70 fX5_36 (Or.inr ⟨rfl, rfl, rfl⟩) rfl (by decide) rfl (by decide) rfl (by omega) (by show _ ≤ _; simp only [arN]; omega) (fun ar13 h I13 => ?_)
  simp only [arN]
  refine r_aload_n C dX5_init_73 (i := 0) rfl rfl ?_
  refine r_bipush C dX5_init_74 (by decide) ?_
  refine m_nI C I13 dX5_init_76 dX5_init_78 fX5_39 (Or.inr ⟨rfl, rfl, rfl⟩) rfl (by decide) rfl (by decide) rfl (by omega) (by show _ ≤ _; simp only [arN]; omega) (fun ar14 h I14 => ?_)
  simp only [arN]
  refine r_aload_n C dX5_init_81 (i := 0) rfl rfl ?_
  refine r_bipush C dX5_init_82 (by decide) ?_
  refine m_nZ C I14 dX5_init_84 dX5_init_86 fX5_42 (Or.inr ⟨rfl, rfl, rfl⟩) rfl (by decide) rfl (by decide) rfl (by omega) (by show _ ≤ _; simp only [arN]; omega) (fun ar15 h I15 => ?_)
  simp only [arN]
  refine r_aload_n C dX5_init_89 (i := 0) rfl rfl ?_
  refine r_bipush C dX5_init_90 (by decide) ?_
  refine m_nI C I15 dX5_init_92 dX5_init_94 fX5_45 (Or.inr ⟨rfl, rfl, rfl⟩) rfl (by decide) rfl (by decide) rfl (by omega) (by show _ ≤ _; simp only [arN]; omega) (fun ar16 h I16 => ?_)
  simp only [arN]
  refine r_aload_n C dX5_init_97 (i := 0) rfl rfl ?_
  refine r_sipush C dX5_init_98 (by decide) ?_
  refine m_nI C I16 dX5_init_101 dX5_init_103 fX5_48 (Or.inr ⟨rfl, rfl, rfl⟩) rfl (by decide) rfl (by decide) rfl (by omega) (by show _ ≤ _; simp only [arN]; omega) (fun ar17 h I17 => ?_)
  simp only [arN]
  refine r_aload_n C dX5_init_106 (i := 0) rfl rfl ?_
  refine r_sipush C dX5_init_107 (by decide) ?_
  refine m_nI C I17 dX5_init_110 dX5_init_112 fX5_51 (Or.inr ⟨rfl, rfl, rfl⟩) rfl (by decide) rfl (by decide) rfl (by omega) (by show _ ≤ _; simp only [arN]; omega) (fun ar18 h I18 => ?_)
  simp only [arN]
  refine r_aload_n C dX5_init_115 (i := 0) rfl rfl ?_
  refine r_sipush C dX5_init_116 (by decide) ?_
  refine m_nI C I18 dX5_init_119 dX5_init_121 fX5_54 (Or.inr ⟨rfl, rfl, rfl⟩) rfl (by decide) rfl (by decide) rfl (by omega) (by show _ ≤ _; simp only [arN]; omega) (fun ar19 h I19 => ?_)
  simp only [arN]
  refine r_aload_n C dX5_init_124 (i := 0) rfl rfl ?_
  refine r_sipush C dX5_init_125 (by decide) ?_
  refine m_nI C I19 dX5_init_128 dX5_init_130 fX5_57 (Or.inr ⟨rfl, rfl, rfl⟩) rfl (by decide) rfl (by decide) rfl (by omega) (by show _ ≤ _; simp only [arN]; omega) (fun ar20 h I20 => ?_)
  simp only [arN]
  refine r_aload_n C dX5_init_133 (i := 0) rfl rfl ?_
  refine r_sipush C dX5_init_134 (by decide) ?_
  refine m_nI C I20 dX5_init_137 dX5_init_139 fX5_60 (Or.inr ⟨rfl, rfl, rfl⟩) rfl (by decide) rfl (by decide) rfl (by omega) (by show _ ≤ _; simp only [arN]; omega) (fun ar21 h I21 => ?_)
  simp only [arN]
  refine r_aload_n C dX5_init_142 (i := 0) rfl rfl ?_
  refine r_bipush C dX5_init_143 (by decide) ?_
  refine m_nI C I21 dX5_init_145 dX5_init_147 fX5_63 (Or.inr ⟨rfl, rfl, rfl⟩) rfl (by decide) rfl (by decide) rfl (by omega) (by show _ ≤ _; simp only [arN]; omega) (fun ar23 h I23 => ?_)
  simp only [arN]
  refine r_aload_n C dX5_init_150 (i := 0) rfl rfl ?_
  refine r_bipush C dX5_init_151 (by decide) ?_
  refine m_nI C I23 dX5_init_153 dX5_init_155 fX5_66 (Or.inr ⟨rfl, rfl, rfl⟩) rfl (by decide) rfl (by decide) rfl (by omega) (by show _ ≤ _; simp only [arN]; omega) (fun ar24 h I24 => ?_)
  simp only [arN]
  refine r_aload_n C dX5_init_158 (i := 0) rfl rfl ?_
  refine r_bipush C dX5_init_159 (by decide) ?_
  refine m_nI C I24 dX5_init_161 dX5_init_163 fX5_69 (Or.inr ⟨rfl, rfl, rfl⟩) rfl (by decide) rfl (by decide) rfl (by omega) (by show _ ≤ _; simp only [arN]; omega) (fun ar25 h I25 => ?_)
  simp only [arN]
  refine r_aload_n C dX5_init_166 (i := 0) rfl rfl ?_
  refine r_bipush C dX5_init_167 (by decide) ?_
  refine m_nI C I25 dX5_init_169 dX5_init_171 fX5_72 (Or.inr ⟨rfl, rfl, rfl⟩) rfl (by decide) rfl (by decide) rfl (by omega) (by show _ ≤ _; simp only [arN]; omega) (fun ar26 h I26 => ?_)
  simp only [arN]
  refine r_ret C dX5_init_174 rfl ?_
  exact k _ _ (I26.rm (fun k hk => by unfold arN at hk; split at hk <;> first | decide | exact absurd rfl hk))

