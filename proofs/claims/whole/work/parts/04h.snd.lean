/-! ===== plain runs are the machine's runs ===== -/
section SND
variable {l : Launch} {s0 : State} {a0 : Array Value} {D : va_G} {cy : Nat → ClassId} {gx : GX}
theorem sl_one : ∀ As : List AV, noLong (As.map some) → lg_sl (As.map tv) = (As.map tv).map Slot.val
  | [], _ => rfl
  | v :: t, h => by
    have h1 : catV v = 1 := h 0 v rfl
    have h2 := sl_one t (fun j w hj => h (j + 1) w hj)
    show (if (tv v).category = 2 then [Slot.val (tv v), .second] else [.val (tv v)]) ++ lg_sl (t.map tv) = _
    rw [tv_cat, h1, if_neg (by decide), h2]
    rfl
theorem args_of : ∀ (As : List AV) (n k : Nat), noLong (As.map some) → lv_args k (As.map tv) = lvOf k (As.map some ++ List.replicate n none)
  | [], 0, k, _ => rfl
  | [], n + 1, k, h => by
    show [] = lvOf k (none :: List.replicate n none)
    exact args_of [] n (k + 1) h
  | v :: t, n, k, h => by
    have h1 : catV v = 1 := h 0 v rfl
    have h2 := args_of t n (k + 1) (fun j w hj => h (j + 1) w hj)
    show (k, tv v) :: lv_args (if (tv v).category = 2 then k + 2 else k + 1) (t.map tv) = (k, tv v) :: lvOf (k + 1) _
    rw [tv_cat, h1, if_neg (by decide), h2]
    rfl
theorem noL_app {As : List AV} (h : noLong (As.map some)) (n : Nat) : noLong (As.map some ++ List.replicate n none) := by
  intro j w hj
  by_cases q : j < (As.map some).length
  · rw [List.getElem?_append_left q] at hj
    exact h j w hj
  · rw [List.getElem?_append_right (by omega), List.getElem?_replicate] at hj
    split at hj
    · cases hj
    · cases hj
/-- a method's entry -/
theorem entry_go {p : Program} {e : Env} {R : Room} {s : State} {m : MethodId} {args : Array Value} {below : List Frame} {meth : Method} {c : Code} {Q : State → Prop} {As : List AV} {h : Hp} {nL c1 s1 : Nat} (hargs : args = (As.map tv).toArray) (hlen : As.length ≤ nL) (hcat : noLong (As.map some)) (hR : Rel s0 D cy h s.heap) (hc : c1 ≤ R.cells) (hs : s1 ≤ R.slots)
    (k : JW p l e R s m args below meth c Q s0 D cy nL 0 (As.map some ++ List.replicate (nL - As.length) none) [] h c1 s1) : W p l e R s m args below meth c s.heap [] 0 0 Q (entryFrame m args nL) := by
  rw [hargs, lg_entry_eq]
  have hlg : (lg_sl (As.map tv)).length = As.length := by rw [sl_one As hcat]; simp
  have hl := lv_entry (As.map tv) (n := nL) (by rw [hlg]; exact hlen)
  rw [args_of As (nL - As.length) 0 hcat] at hl
  rw [hargs] at k
  exact k s.heap [] 0 0 _ hR va_S.rf (by omega) (by omega) (by simp; omega) (noL_app hcat _) hl
theorem snd (hG : Gl l s0 a0 D cy gx) : ∀ d, Snd l s0 D cy gx d := by
  intro d
  induction d with
  | zero => intro N As h c1 s1 Qr Qx hok hlen hcat hrun; exact absurd hrun id
  | succ d ih =>
    intro N As h c1 s1 Qr Qx hok hlen hcat hrun
    cases htb : N.2.2.2.2 with
    | none =>
      have hw : [mW N] = Cond.code N.1 N.2.1 N.2.2.1 N.2.2.2.1 :: [] := by rw [mW_none htb]
      refine vx_ofW hok.2.1.1 hw ?_
      intro p e s m args below meth c s₁ B hml htab hv
      obtain ⟨hargs, hW, hR⟩ := hv
      have C : Cx p l e s m meth c s0 a0 D cy gx N := ⟨hG, B.exec, B.bytes, hml, findClass_of_methodNamed B.named, hW, hR.2.2.1, hR.2.2.2, B.notSynchronized, fun q => by rw [(name_of_methodNamed B.named B.method).1]; exact q, B.returns, fun _ => by
        rw [htb]
        cases hq : c.exceptionTable.toList with
        | nil => rfl
        | cons x t => exact absurd (htab x (by rw [hq]; exact List.mem_cons_self)) id⟩
      refine entry_go hargs hlen hcat hR (Nat.le_refl c1) (Nat.le_refl s1) ?_
      refine hrun _ ⟨cl1 B.exec B.bytes, cl2 B.exec B.bytes, cl3 B.exec B.bytes, cl4 C ?_ ?_ rfl, cl5 C, cl6 C ih (out_none C htb hok.2.1.2) (Nat.le_refl _) (Nat.le_refl _) rfl, cl7 C ?_ ?_ rfl, cl8 C (Nat.le_refl _) (Nat.le_refl _) rfl hok.2.1.2⟩
      · show 1 ≤ d + 1; omega
      · show 24 ≤ 41 * (d + 1); omega
      · show 1 ≤ d + 1; omega
      · show 41 ≤ 41 * (d + 1); omega
    | some hh =>
      have hw : [mW N] = Cond.codeWith N.1 N.2.1 N.2.2.1 N.2.2.2.1 hh :: [] := by unfold mW; rw [htb]
      refine vx_ofWH hok.2.1.1 hw ?_
      intro p e s m args below meth c s₁ B hml hv
      obtain ⟨hargs, hW, hR⟩ := hv
      have hcw : (Cond.codeWith N.1 N.2.1 N.2.2.1 N.2.2.2.1 hh).before args s = true := atoms_spec (ws := [mW N]) B.pre _ (by rw [hw]; exact List.mem_cons_self)
      have htt : c.exceptionTable.toList = (match N.2.2.2.2 with | none => [] | some hh => tableOf hh) := by
        rw [htb]
        exact vx_table (x := N.1) B hcw
      have C : Cx p l e s m meth c s0 a0 D cy gx N := ⟨hG, B.exec, B.bytes, hml, findClass_of_methodNamed B.named, hW, hR.2.2.1, hR.2.2.2, B.notSynchronized, fun q => by rw [(name_of_methodNamed B.named B.method).1]; exact q, B.returns, fun _ => htt⟩
      refine entry_go hargs hlen hcat hR (Nat.le_refl c1) (Nat.le_refl s1) ?_
      refine hrun _ ⟨cl1 B.exec B.bytes, cl2 B.exec B.bytes, cl3 B.exec B.bytes, cl4 C ?_ ?_ rfl, cl5 C, cl6 C ih (out_some C htb hok.2.1.2) (Nat.le_refl _) (Nat.le_refl _) rfl, cl7 C ?_ ?_ rfl, cl8 C (Nat.le_refl _) (Nat.le_refl _) rfl hok.2.1.2⟩
      · show 1 ≤ d + 1; omega
      · show 24 ≤ 41 * (d + 1); omega
      · show 1 ≤ d + 1; omega
      · show 41 ≤ 41 * (d + 1); omega
end SND
