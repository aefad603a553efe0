/-! Text: object 1 (letters 2, numbers 3, length at 2, place at 3), and how it is read -/
theorem hw_hw {h : Hp} {o k x y : Nat} : hw (hw h o k x) o k y = hw h o k y := by
  funext a j
  unfold hw
  by_cases q : a = o ∧ j = k <;> simp [q]
theorem c_withinN {d x a b : Nat} {h : Hp} (hx : x < 2 ^ 31) (ha : a < 2 ^ 31) (hb : b < 2 ^ 31) : RT mX7_within d [.int (nI x), .int (nI a), .int (nI b)] h (fun v h' => v = some (.int (nI (if a ≤ x ∧ x ≤ b then 1 else 0))) ∧ h' = h) := by
  refine c_within.imp (fun v h' e => ?_)
  by_cases q : a ≤ x ∧ x ≤ b
  · rw [if_pos q]
    rw [if_pos ⟨(nI_leI ha hx).mpr q.1, (nI_leI hx hb).mpr q.2⟩] at e
    exact e
  · rw [if_neg q]
    rw [if_neg (fun z => q ⟨(nI_leI ha hx).mp z.1, (nI_leI hx hb).mp z.2⟩)] at e
    exact e
def ltr (T : Nat → Nat) (n k : Nat) : Nat := if k < n then T k else 0
def isd (x : Nat) : Prop := 48 ≤ x ∧ x ≤ 57
theorem isd_d (x : Nat) : isd x ∨ ¬ isd x := by unfold isd; omega
noncomputable def nu1 (l : Nat → Nat) (a : Nat) : Option (Nat × Nat) :=
  if 48 ≤ l a ∧ l a ≤ 57 then (if 48 ≤ l (a + 1) ∧ l (a + 1) ≤ 57 then some (10 * (l a - 48) + (l (a + 1) - 48), a + 2) else some (l a - 48, a + 1)) else none
/-- a number, then the sign sep -/
noncomputable def nsp (l : Nat → Nat) (sep a : Nat) : Option (Nat × Nat) := match nu1 l a with
  | none => none
  | some q => if l q.2 = sep then some (q.1, q.2 + 1) else none
/-- r numbers parted by , and a ; behind the last one -/
noncomputable def nmL (l : Nat → Nat) : Nat → Nat → Option (List Nat × Nat)
  | 0, a => some ([], a)
  | r + 1, a => match nsp l (if r = 0 then 59 else 44) a with
    | none => none
    | some q => match nmL l r q.2 with
      | none => none
      | some w => some (q.1 :: w.1, w.2)
/-- the text: n letters T, read up to a -/
def TXS (h : Hp) (T : Nat → Nat) (n a : Nat) : Prop := h 1 2 = n ∧ h 1 3 = a ∧ ∀ k, k < n → h 2 k = T k
def TOk (T : Nat → Nat) (n : Nat) : Prop := n ≤ 200 ∧ ∀ k, k < n → 32 ≤ T k ∧ T k ≤ 126
theorem ltr_lt {T : Nat → Nat} {n : Nat} (ht : TOk T n) (k : Nat) : ltr T n k ≤ 126 := by
  unfold ltr
  split
  · exact (ht.2 k (by assumption)).2
  · omega
theorem c_T_letterHere {d n a : Nat} {h : Hp} {T : Nat → Nat} (ht : TXS h T n a) (hk : TOk T n) (ha : a < 2 ^ 30) : RT mX5_letterHere d [.ref 1] h (fun v h' => v = some (.int (nI (ltr T n a))) ∧ h' = h) := by
  obtain ⟨e1, e2, e3⟩ := ht
  have hn := hk.1
  have hl := ltr_lt hk a
  change AW mX5_letterHere _ 0 [some (.ref 1)] [] h _
  refine aw_aload_n dX5_letterHere_0 rfl rfl ?_
  refine aw_getI dX5_letterHere_1 fX5_28 (by first | assumption | rfl) (by rfl) ?_
  refine aw_if_ltN (tgt := 42) dX5_letterHere_4 (by decide) (by omega) (fun q => absurd q (by omega)) (fun _ => ?_)
  refine aw_aload_n dX5_letterHere_7 rfl rfl ?_
  refine aw_getI dX5_letterHere_8 fX5_28 (by first | assumption | rfl) (by rfl) ?_
  refine aw_aload_n dX5_letterHere_11 rfl rfl ?_
  refine aw_getI dX5_letterHere_12 fX5_19 (by first | assumption | rfl) (by rfl) ?_
  refine aw_icmp_geN (tgt := 42) dX5_letterHere_15 (by decide) (by omega) (by omega) (fun c15 => ?_) (fun c15 => ?_)
  · have ez : ltr T n a = 0 := by unfold ltr; rw [if_neg (by omega)]
    rw [ez]
    refine aw_iconst (v := nI 0) dX5_letterHere_42 (by decide) ?_
    refine aw_iret dX5_letterHere_43 rfl (by first | rfl | exact (pk_charN (by omega)).1 | decide) ?_
    exact ⟨rfl, rfl⟩
  · have e4 := e3 a (by omega)
    have ez : ltr T n a = T a := by unfold ltr; rw [if_pos (by omega)]
    have h5 := hk.2 a (by omega)
    refine aw_aload_n dX5_letterHere_18 rfl rfl ?_
    refine aw_getI dX5_letterHere_19 fX5_28 (by first | assumption | rfl) (by rfl) ?_
    refine aw_aload_n dX5_letterHere_22 rfl rfl ?_
    refine aw_getR dX5_letterHere_23 fX5_9 (by first | assumption | rfl) (by rfl) ?_
    refine aw_alenC dX5_letterHere_26 (by first | assumption | rfl) ?_
    refine aw_icmp_geN (tgt := 42) dX5_letterHere_27 (by decide) (by omega) (by omega) (fun q => absurd q (by omega)) (fun _ => ?_)
    refine aw_aload_n dX5_letterHere_30 rfl rfl ?_
    refine aw_getR dX5_letterHere_31 fX5_9 (by first | assumption | rfl) (by rfl) ?_
    refine aw_aload_n dX5_letterHere_34 rfl rfl ?_
    refine aw_getI dX5_letterHere_35 fX5_28 (by first | assumption | rfl) (by rfl) ?_
    refine aw_caload dX5_letterHere_38 (by first | assumption | rfl) (by omega) (by omega) ?_
    rw [e2, e4, ez]
    refine aw_goto (tgt := 43) dX5_letterHere_39 (by decide) ?_
    refine aw_iret dX5_letterHere_43 rfl (by first | rfl | exact (pk_charN (by omega)).1 | decide) ?_
    exact ⟨rfl, rfl⟩
theorem c_T_isFigure {d x : Nat} {h : Hp} (hx : x < 2 ^ 30) : RT mX5_isFigure d [.int (nI x)] h (fun v h' => v = some (.int (nI (if 48 ≤ x ∧ x ≤ 57 then 1 else 0))) ∧ h' = h) := by
  change AW mX5_isFigure _ 0 [some (.int (nI x))] [] h _
  refine aw_iload_n dX5_isFigure_0 rfl rfl ?_
  refine aw_bipush (v := nI 48) dX5_isFigure_1 (by decide) ?_
  refine aw_icmp_ltN (tgt := 16) dX5_isFigure_3 (by decide) (by omega) (by omega) (fun c3 => ?_) (fun c3 => ?_)
  · rw [if_neg (by omega)]
    refine aw_iconst (v := nI 0) dX5_isFigure_16 (by decide) ?_
    refine aw_iret dX5_isFigure_17 rfl (by first | rfl | exact (pk_charN (by omega)).1 | decide) ?_
    exact ⟨rfl, rfl⟩
  · refine aw_iload_n dX5_isFigure_6 rfl rfl ?_
    refine aw_bipush (v := nI 57) dX5_isFigure_7 (by decide) ?_
    refine aw_icmp_gtN (tgt := 16) dX5_isFigure_9 (by decide) (by omega) (by omega) (fun c9 => ?_) (fun c9 => ?_)
    · rw [if_neg (by omega)]
      refine aw_iconst (v := nI 0) dX5_isFigure_16 (by decide) ?_
      refine aw_iret dX5_isFigure_17 rfl (by first | rfl | exact (pk_charN (by omega)).1 | decide) ?_
      exact ⟨rfl, rfl⟩
    · rw [if_pos (by omega)]
      refine aw_iconst (v := nI 1) dX5_isFigure_12 (by decide) ?_
      refine aw_goto (tgt := 17) dX5_isFigure_13 (by decide) ?_
      refine aw_iret dX5_isFigure_17 rfl (by first | rfl | exact (pk_charN (by omega)).1 | decide) ?_
      exact ⟨rfl, rfl⟩
theorem TXS.go {h : Hp} {T : Nat → Nat} {n a a2 : Nat} (ht : TXS h T n a) : TXS (hw h 1 3 a2) T n a2 := by
  obtain ⟨e1, e2, e3⟩ := ht
  refine ⟨?_, ?_, fun k hk => ?_⟩
  · rw [hw_at, if_neg (by decide)]; exact e1
  · rw [hw_at, if_pos rfl]
  · rw [hw_ne (by decide)]; exact e3 k hk
theorem mx0 : (if nI 0 < nI 4294967295 then nI 4294967295 else nI 0) = nI 0 := by decide
theorem c_T_readNumberN {d n a : Nat} {h : Hp} {T : Nat → Nat} (ht : TXS h T n a) (hk : TOk T n) (ha : a < 2 ^ 29) (hz : nu1 (ltr T n) a = none) : RT mX5_readNumber (d + 1) [.ref 1] h (fun v h' => v = some (.int (nI 4294967295)) ∧ h' = h) := by
  have hl := ltr_lt hk a
  have hc : ¬ (48 ≤ ltr T n a ∧ ltr T n a ≤ 57) := fun q => by
    unfold nu1 at hz
    rw [if_pos q] at hz
    split at hz <;> cases hz
  change AW mX5_readNumber _ 0 [some (.ref 1), none, none] [] h _
  refine aw_iconst (v := nI 4294967295) dX5_readNumber_0 (by decide) ?_
  refine aw_istore_n dX5_readNumber_1 rfl (Nat.le_of_ble_eq_true rfl) rfl ?_
  dsimp only [List.set]
  refine aw_iconst (v := nI 0) dX5_readNumber_2 (by decide) ?_
  refine aw_istore_n dX5_readNumber_3 rfl (Nat.le_of_ble_eq_true rfl) rfl ?_
  dsimp only [List.set]
  refine aw_iload_n dX5_readNumber_4 rfl rfl ?_
  refine aw_iconst (v := nI 2) dX5_readNumber_5 (by decide) ?_
  refine aw_icmp_geN (tgt := 52) dX5_readNumber_6 (by decide) (by omega) (by omega) (fun q => absurd q (by omega)) (fun _ => ?_)
  refine aw_aload_n dX5_readNumber_9 rfl rfl ?_
  refine aw_callVF dX5_readNumber_10 kX5_35 (c_T_letterHere ht hk (by omega)) (by first | assumption | rfl) rfl rfl rfl (Nat.le_of_ble_eq_true rfl) (Nat.le_of_ble_eq_true rfl) ?_
  dsimp only [Option.toList, List.cons_append, List.nil_append, Nat.reduceAdd]
  refine aw_callSF dX5_readNumber_13 kX5_63 (c_T_isFigure (by omega)) rfl rfl rfl (Nat.le_of_ble_eq_true rfl) (Nat.le_of_ble_eq_true rfl) ?_
  dsimp only [Option.toList, List.cons_append, List.nil_append, Nat.reduceAdd]
  rw [if_neg hc]
  refine aw_if_eqN (tgt := 52) dX5_readNumber_16 (by decide) (by omega) (fun _ => ?_) (fun q => absurd q (by omega))
  refine aw_iload_n dX5_readNumber_52 rfl rfl ?_
  refine aw_iret dX5_readNumber_53 rfl (by first | rfl | exact (pk_charN (by omega)).1 | decide) ?_
  exact ⟨rfl, rfl⟩
theorem c_T_readNumberS {d n a x a2 : Nat} {h : Hp} {T : Nat → Nat} (ht : TXS h T n a) (hk : TOk T n) (ha : a < 2 ^ 29) (hz : nu1 (ltr T n) a = some (x, a2)) : RT mX5_readNumber (d + 1) [.ref 1] h (fun v h' => v = some (.int (nI x)) ∧ h' = hw h 1 3 a2) := by
  have hl := ltr_lt hk a
  have hl2 := ltr_lt hk (a + 1)
  have hc : (48 ≤ ltr T n a ∧ ltr T n a ≤ 57) := by
    unfold nu1 at hz
    by_cases q : 48 ≤ ltr T n a ∧ ltr T n a ≤ 57
    · exact q
    · rw [if_neg q] at hz; cases hz
  have e13 := ht.2.1
  have t2 : TXS (hw h 1 3 (a + 1)) T n (a + 1) := ht.go
  change AW mX5_readNumber _ 0 [some (.ref 1), none, none] [] h _
  refine aw_iconst (v := nI 4294967295) dX5_readNumber_0 (by decide) ?_
  refine aw_istore_n dX5_readNumber_1 rfl (Nat.le_of_ble_eq_true rfl) rfl ?_
  dsimp only [List.set]
  refine aw_iconst (v := nI 0) dX5_readNumber_2 (by decide) ?_
  refine aw_istore_n dX5_readNumber_3 rfl (Nat.le_of_ble_eq_true rfl) rfl ?_
  dsimp only [List.set]
  refine aw_iload_n dX5_readNumber_4 rfl rfl ?_
  refine aw_iconst (v := nI 2) dX5_readNumber_5 (by decide) ?_
  refine aw_icmp_geN (tgt := 52) dX5_readNumber_6 (by decide) (by omega) (by omega) (fun q => absurd q (by omega)) (fun _ => ?_)
  refine aw_aload_n dX5_readNumber_9 rfl rfl ?_
  refine aw_callVF dX5_readNumber_10 kX5_35 (c_T_letterHere ht hk (by omega)) (by first | assumption | rfl) rfl rfl rfl (Nat.le_of_ble_eq_true rfl) (Nat.le_of_ble_eq_true rfl) ?_
  dsimp only [Option.toList, List.cons_append, List.nil_append, Nat.reduceAdd]
  refine aw_callSF dX5_readNumber_13 kX5_63 (c_T_isFigure (by omega)) rfl rfl rfl (Nat.le_of_ble_eq_true rfl) (Nat.le_of_ble_eq_true rfl) ?_
  dsimp only [Option.toList, List.cons_append, List.nil_append, Nat.reduceAdd]
  rw [if_pos hc]
  refine aw_if_eqN (tgt := 52) dX5_readNumber_16 (by decide) (by omega) (fun q => absurd q (by omega)) (fun _ => ?_)
  refine aw_bipush (v := nI 10) dX5_readNumber_19 (by decide) ?_
  refine aw_iconst (v := nI 0) dX5_readNumber_21 (by decide) ?_
  refine aw_iload_n dX5_readNumber_22 rfl rfl ?_
  refine aw_mmax dX5_readNumber_23 kX5_67 (Nat.le_of_ble_eq_true rfl) ?_
  rw [mx0]
  refine aw_imulN dX5_readNumber_26 ?_
  refine aw_aload_n dX5_readNumber_27 rfl rfl ?_
  refine aw_callVF dX5_readNumber_28 kX5_35 (c_T_letterHere ht hk (by omega)) (by first | assumption | rfl) rfl rfl rfl (Nat.le_of_ble_eq_true rfl) (Nat.le_of_ble_eq_true rfl) ?_
  dsimp only [Option.toList, List.cons_append, List.nil_append, Nat.reduceAdd]
  refine aw_bipush (v := nI 48) dX5_readNumber_31 (by decide) ?_
  refine aw_isubN dX5_readNumber_33 (by omega) ?_
  refine aw_iaddN dX5_readNumber_34 ?_
  refine aw_istore_n dX5_readNumber_35 rfl (Nat.le_of_ble_eq_true rfl) rfl ?_
  dsimp only [List.set]
  refine aw_aload_n dX5_readNumber_36 rfl rfl ?_
  refine aw_dup dX5_readNumber_37 rfl ?_
  refine aw_getI dX5_readNumber_38 fX5_28 (by first | assumption | rfl) (by rfl) ?_
  refine aw_iconst (v := nI 1) dX5_readNumber_41 (by decide) ?_
  refine aw_iaddN dX5_readNumber_42 ?_
  rw [e13]
  refine aw_putfield dX5_readNumber_43 gX5_28 (by first | assumption | rfl) (by rfl) ?_
  refine aw_iincN (v := 1) dX5_readNumber_46 rfl rfl ?_
  dsimp only [List.set]
  refine aw_goto (tgt := 4) dX5_readNumber_49 (by decide) ?_
  refine aw_iload_n dX5_readNumber_4 rfl rfl ?_
  refine aw_iconst (v := nI 2) dX5_readNumber_5 (by decide) ?_
  refine aw_icmp_geN (tgt := 52) dX5_readNumber_6 (by decide) (by omega) (by omega) (fun q => absurd q (by omega)) (fun _ => ?_)
  refine aw_aload_n dX5_readNumber_9 rfl rfl ?_
  refine aw_callVF dX5_readNumber_10 kX5_35 (c_T_letterHere t2 hk (by omega)) (by first | assumption | rfl) rfl rfl rfl (Nat.le_of_ble_eq_true rfl) (Nat.le_of_ble_eq_true rfl) ?_
  dsimp only [Option.toList, List.cons_append, List.nil_append, Nat.reduceAdd]
  refine aw_callSF dX5_readNumber_13 kX5_63 (c_T_isFigure (by omega)) rfl rfl rfl (Nat.le_of_ble_eq_true rfl) (Nat.le_of_ble_eq_true rfl) ?_
  dsimp only [Option.toList, List.cons_append, List.nil_append, Nat.reduceAdd]
  unfold nu1 at hz
  rw [if_pos hc] at hz
  by_cases hc2 : 48 ≤ ltr T n (a + 1) ∧ ltr T n (a + 1) ≤ 57
  · rw [if_pos hc2] at hz ⊢
    have hz1 := Option.some.inj hz
    have hx : x = 10 * (ltr T n a - 48) + (ltr T n (a + 1) - 48) := (congrArg Prod.fst hz1).symm
    have hy : a2 = a + 2 := (congrArg Prod.snd hz1).symm
    refine aw_if_eqN (tgt := 52) dX5_readNumber_16 (by decide) (by omega) (fun q => absurd q (by omega)) (fun _ => ?_)
    refine aw_bipush (v := nI 10) dX5_readNumber_19 (by decide) ?_
    refine aw_iconst (v := nI 0) dX5_readNumber_21 (by decide) ?_
    refine aw_iload_n dX5_readNumber_22 rfl rfl ?_
    refine aw_mmaxN dX5_readNumber_23 kX5_67 (by omega) (by omega) (Nat.le_of_ble_eq_true rfl) ?_
    refine aw_imulN dX5_readNumber_26 ?_
    refine aw_aload_n dX5_readNumber_27 rfl rfl ?_
    refine aw_callVF dX5_readNumber_28 kX5_35 (c_T_letterHere t2 hk (by omega)) (by first | assumption | rfl) rfl rfl rfl (Nat.le_of_ble_eq_true rfl) (Nat.le_of_ble_eq_true rfl) ?_
    dsimp only [Option.toList, List.cons_append, List.nil_append, Nat.reduceAdd]
    refine aw_bipush (v := nI 48) dX5_readNumber_31 (by decide) ?_
    refine aw_isubN dX5_readNumber_33 (by omega) ?_
    refine aw_iaddN dX5_readNumber_34 ?_
    refine aw_istore_n dX5_readNumber_35 rfl (Nat.le_of_ble_eq_true rfl) rfl ?_
    dsimp only [List.set]
    refine aw_aload_n dX5_readNumber_36 rfl rfl ?_
    refine aw_dup dX5_readNumber_37 rfl ?_
    refine aw_getI dX5_readNumber_38 fX5_28 (by first | assumption | rfl) (by rfl) ?_
    refine aw_iconst (v := nI 1) dX5_readNumber_41 (by decide) ?_
    refine aw_iaddN dX5_readNumber_42 ?_
    rw [hw_at, if_pos rfl]
    refine aw_putfield dX5_readNumber_43 gX5_28 (by first | assumption | rfl) (by rfl) ?_
    refine aw_iincN (v := 1) dX5_readNumber_46 rfl rfl ?_
    dsimp only [List.set]
    refine aw_goto (tgt := 4) dX5_readNumber_49 (by decide) ?_
    refine aw_iload_n dX5_readNumber_4 rfl rfl ?_
    refine aw_iconst (v := nI 2) dX5_readNumber_5 (by decide) ?_
    refine aw_icmp_geN (tgt := 52) dX5_readNumber_6 (by decide) (by omega) (by omega) (fun _ => ?_) (fun q => absurd q (by omega))
    refine aw_iload_n dX5_readNumber_52 rfl rfl ?_
    refine aw_iret dX5_readNumber_53 rfl (by first | rfl | exact (pk_charN (by omega)).1 | decide) ?_
    refine ⟨?_, ?_⟩
    · rw [hx]
      congr 3
      omega
    · rw [hw_hw, hy]
  · rw [if_neg hc2] at hz ⊢
    have hz1 := Option.some.inj hz
    have hx : x = ltr T n a - 48 := (congrArg Prod.fst hz1).symm
    have hy : a2 = a + 1 := (congrArg Prod.snd hz1).symm
    refine aw_if_eqN (tgt := 52) dX5_readNumber_16 (by decide) (by omega) (fun _ => ?_) (fun q => absurd q (by omega))
    refine aw_iload_n dX5_readNumber_52 rfl rfl ?_
    refine aw_iret dX5_readNumber_53 rfl (by first | rfl | exact (pk_charN (by omega)).1 | decide) ?_
    refine ⟨?_, ?_⟩
    · rw [hx]
      congr 3
      omega
    · rw [hy]
theorem nu1_lt {l : Nat → Nat} {a x a2 : Nat} (hl : ∀ k, l k ≤ 126) (hz : nu1 l a = some (x, a2)) : x ≤ 99 ∧ a < a2 ∧ a2 ≤ a + 2 := by
  unfold nu1 at hz
  split at hz
  · split at hz
    · have hz1 := Option.some.inj hz
      have := congrArg Prod.fst hz1
      have := congrArg Prod.snd hz1
      dsimp only at *
      omega
    · have hz1 := Option.some.inj hz
      have := congrArg Prod.fst hz1
      have := congrArg Prod.snd hz1
      dsimp only at *
      omega
  · cases hz
/-- what reading numbers leaves alone -/
def FT3 (h h' : Hp) : Prop := h' 1 2 = h 1 2 ∧ ∀ o, o ≠ 1 → o ≠ 3 → h' o = h o
theorem FT3.rf {h : Hp} : FT3 h h := ⟨rfl, fun _ _ _ => rfl⟩
theorem FT3.trans {h h1 h2 : Hp} (a : FT3 h h1) (b : FT3 h1 h2) : FT3 h h2 := ⟨b.1.trans a.1, fun o p q => (b.2 o p q).trans (a.2 o p q)⟩
theorem FT3.place {h : Hp} {x : Nat} : FT3 h (hw h 1 3 x) := ⟨by rw [hw_at, if_neg (by decide)], fun o p _ => hw_ne p⟩
theorem FT3.num {h : Hp} {k x : Nat} : FT3 h (hw h 3 k x) := ⟨by rw [hw_ne (by decide)], fun o _ p => hw_ne p⟩
/-- readNumbers' end -/
def rnQ (l : Nat → Nat) (h : Hp) (k r a : Nat) : Option Value → Hp → Prop := fun v h' => FT3 h h' ∧ match nmL l r a with
  | none => v = some (.int (nI 0))
  | some w => v = some (.int (nI 1)) ∧ h' 1 3 = w.2 ∧ (∀ j, j < r → h' 3 (k + j) = w.1.getD j 0) ∧ ∀ j, j < k → h' 3 j = h 3 j
theorem c_T_readNumbers {d n a many : Nat} {h : Hp} {T : Nat → Nat} (ht : TXS h T n a) (hk : TOk T n) (ha : a ≤ 200) (hm : many ≤ 3) : RT mX5_readNumbers (d + 2) [.ref 1, .int (nI many)] h (rnQ (ltr T n) h 0 many a) := by
  have hl := ltr_lt hk
  have loop : ∀ r k aa hh, k + r = many → TXS hh T n aa → aa + 3 * r ≤ 2 ^ 28 → AW mX5_readNumbers (d + 2) 2 [some (.ref 1), some (.int (nI many)), some (.int (nI k)), none, none] [] hh (rnQ (ltr T n) hh k r aa) := by
    intro r
    induction r with
    | zero =>
      intro k aa hh hkr htx hbd
      refine aw_iload_n dX5_readNumbers_2 rfl rfl ?_
      refine aw_iload_n dX5_readNumbers_3 rfl rfl ?_
      refine aw_icmp_geN (tgt := 68) dX5_readNumbers_4 (by decide) (by omega) (by omega) (fun _ => ?_) (fun q => absurd q (by omega))
      refine aw_iconst (v := nI 1) dX5_readNumbers_68 (by decide) ?_
      refine aw_iret dX5_readNumbers_69 rfl (by first | rfl | exact (pk_charN (by omega)).1 | decide) ?_
      exact ⟨FT3.rf, rfl, htx.2.1, fun j hj => by omega, fun j _ => rfl⟩
    | succ r ih =>
      intro k aa hh hkr htx hbd
      have hla := ltr_lt hk
      cases hz : nu1 (ltr T n) aa with
      | none =>
        have hnm : nmL (ltr T n) (r + 1) aa = none := by
          unfold nmL nsp
          rw [hz]
        have fin : rnQ (ltr T n) hh k (r + 1) aa (some (.int (nI 0))) hh := ⟨FT3.rf, by rw [hnm]⟩
        refine aw_iload_n dX5_readNumbers_2 rfl rfl ?_
        refine aw_iload_n dX5_readNumbers_3 rfl rfl ?_
        refine aw_icmp_geN (tgt := 68) dX5_readNumbers_4 (by decide) (by omega) (by omega) (fun q => absurd q (by omega)) (fun _ => ?_)
        refine aw_aload_n dX5_readNumbers_7 rfl rfl ?_
        refine aw_callVF dX5_readNumbers_8 kX5_55 (c_T_readNumberN htx hk (by omega) hz) (by first | assumption | rfl) rfl rfl rfl (Nat.le_of_ble_eq_true rfl) (Nat.le_of_ble_eq_true rfl) ?_
        dsimp only [Option.toList, List.cons_append, List.nil_append, Nat.reduceAdd]
        refine aw_istore_n dX5_readNumbers_11 rfl (Nat.le_of_ble_eq_true rfl) rfl ?_
        dsimp only [List.set]
        refine aw_iload_n dX5_readNumbers_12 rfl rfl ?_
        refine aw_iload_n dX5_readNumbers_13 rfl rfl ?_
        refine aw_iconst (v := nI 1) dX5_readNumbers_14 (by decide) ?_
        refine aw_isubN dX5_readNumbers_15 (by omega) ?_
        refine aw_icmp_neN (tgt := 24) dX5_readNumbers_16 (by decide) (by omega) (by omega) (fun c16 => ?_) (fun c16 => ?_)
        · refine aw_bipush (v := nI 44) dX5_readNumbers_24 (by decide) ?_
          refine aw_istore dX5_readNumbers_26 (Nat.le_of_ble_eq_true rfl) rfl ?_
          dsimp only [List.set]
          refine aw_iload_n dX5_readNumbers_28 rfl rfl ?_
          refine aw_if_lt (tgt := 41) dX5_readNumbers_29 (by decide) (fun q => ?_) (fun q => absurd (by decide) q)
          refine aw_iconst (v := nI 0) dX5_readNumbers_41 (by decide) ?_
          refine aw_iret dX5_readNumbers_42 rfl (by first | rfl | exact (pk_charN (by omega)).1 | decide) ?_
          exact fin
        · refine aw_bipush (v := nI 59) dX5_readNumbers_19 (by decide) ?_
          refine aw_goto (tgt := 26) dX5_readNumbers_21 (by decide) ?_
          refine aw_istore dX5_readNumbers_26 (Nat.le_of_ble_eq_true rfl) rfl ?_
          dsimp only [List.set]
          refine aw_iload_n dX5_readNumbers_28 rfl rfl ?_
          refine aw_if_lt (tgt := 41) dX5_readNumbers_29 (by decide) (fun q => ?_) (fun q => absurd (by decide) q)
          refine aw_iconst (v := nI 0) dX5_readNumbers_41 (by decide) ?_
          refine aw_iret dX5_readNumbers_42 rfl (by first | rfl | exact (pk_charN (by omega)).1 | decide) ?_
          exact fin
      | some q0 =>
        obtain ⟨x, a2⟩ := q0
        obtain ⟨hx99, ha2, ha3⟩ := nu1_lt (ltr_lt hk) hz
        have t2 : TXS (hw hh 1 3 a2) T n a2 := htx.go
        have hla2 := ltr_lt hk a2
        have tail : ∀ sep, sep = (if r = 0 then 59 else 44) → AW mX5_readNumbers (d + 2) 28 [some (.ref 1), some (.int (nI many)), some (.int (nI k)), some (.int (nI x)), some (.int (nI sep))] [] (hw hh 1 3 a2) (rnQ (ltr T n) hh k (r + 1) aa) := by
          intro sep hsep
          have hs59 : sep ≤ 59 := by rw [hsep]; split <;> omega
          refine aw_iload_n dX5_readNumbers_28 rfl rfl ?_
          refine aw_if_ltN (tgt := 41) dX5_readNumbers_29 (by decide) (by omega) (fun q => absurd q (by omega)) (fun _ => ?_)
          refine aw_aload_n dX5_readNumbers_32 rfl rfl ?_
          refine aw_callVF dX5_readNumbers_33 kX5_35 (c_T_letterHere t2 hk (by omega)) (by first | assumption | rfl) rfl rfl rfl (Nat.le_of_ble_eq_true rfl) (Nat.le_of_ble_eq_true rfl) ?_
          dsimp only [Option.toList, List.cons_append, List.nil_append, Nat.reduceAdd]
          refine aw_iload dX5_readNumbers_36 rfl ?_
          refine aw_icmp_eqN (tgt := 43) dX5_readNumbers_38 (by decide) (by omega) (by omega) (fun c38 => ?_) (fun c38 => ?_)
          · have hns : nsp (ltr T n) (if r = 0 then 59 else 44) aa = some (x, a2 + 1) := by
              unfold nsp
              rw [hz]
              dsimp only
              rw [← hsep, if_pos c38]
            have e13 : hw (hw hh 1 3 a2) 3 k x 1 3 = a2 := by rw [hw_ne (by decide), hw_at, if_pos rfl]
            refine aw_aload_n dX5_readNumbers_43 rfl rfl ?_
            refine aw_getR dX5_readNumbers_44 fX5_15 (by first | assumption | rfl) (by rfl) ?_
            refine aw_iload_n dX5_readNumbers_47 rfl rfl ?_
            refine aw_iload_n dX5_readNumbers_48 rfl rfl ?_
            refine aw_callSF dX5_readNumbers_49 kX5_59 (c_put (by first | assumption | rfl) (by omega) (by decide)) rfl rfl rfl (Nat.le_of_ble_eq_true rfl) (Nat.le_of_ble_eq_true rfl) ?_
            dsimp only [Option.toList, List.cons_append, List.nil_append, Nat.reduceAdd]
            refine aw_aload_n dX5_readNumbers_52 rfl rfl ?_
            refine aw_dup dX5_readNumbers_53 rfl ?_
            refine aw_getI dX5_readNumbers_54 fX5_28 (by first | assumption | rfl) (by rfl) ?_
            refine aw_iconst (v := nI 1) dX5_readNumbers_57 (by decide) ?_
            refine aw_iaddN dX5_readNumbers_58 ?_
            rw [e13]
            have t3 : TXS (hw (hw (hw hh 1 3 a2) 3 k x) 1 3 (a2 + 1)) T n (a2 + 1) := by
              obtain ⟨y1, y2, y3⟩ := t2
              refine ⟨?_, by rw [hw_at, if_pos rfl], fun j hj => ?_⟩
              · rw [hw_at, if_neg (by decide), hw_ne (by decide)]; exact y1
              · rw [hw_ne (by decide), hw_ne (by decide)]; exact y3 j hj
            refine aw_putfield dX5_readNumbers_59 gX5_28 (by first | assumption | rfl) (by rfl) ?_
            refine aw_iincN (v := 1) dX5_readNumbers_62 rfl rfl ?_
            dsimp only [List.set]
            refine aw_goto (tgt := 2) dX5_readNumbers_65 (by decide) ?_
            refine aw_forget 3 ?_
            refine aw_forget 4 ?_
            dsimp only [List.set]
            refine aw_imp ?_ (ih (k + 1) (a2 + 1) _ (by omega) t3 (by omega))
            intro v h2 hq
            obtain ⟨g1, g2⟩ := hq
            refine ⟨((FT3.place.trans FT3.num).trans FT3.place).trans g1, ?_⟩
            have hnm : nmL (ltr T n) (r + 1) aa = (match nmL (ltr T n) r (a2 + 1) with
              | none => none
              | some w => some (x :: w.1, w.2)) := by
              conv => lhs; unfold nmL
              rw [hns]
            rw [hnm]
            cases hz2 : nmL (ltr T n) r (a2 + 1) with
            | none =>
              rw [hz2] at g2
              exact g2
            | some w =>
              rw [hz2] at g2
              obtain ⟨y1, y2, y3, y4⟩ := g2
              refine ⟨y1, y2, fun j hj => ?_, fun j hj => ?_⟩
              · cases j with
                | zero =>
                  rw [Nat.add_zero, y4 k (by omega), hw_ne (by decide), hw_at, if_pos rfl]
                  rfl
                | succ j =>
                  have := y3 j (by omega)
                  rw [show k + (j + 1) = k + 1 + j by omega, this]
                  rfl
              · rw [y4 j (by omega), hw_ne (by decide), hw_at, if_neg (by omega), hw_ne (by decide)]
          · have hns : nmL (ltr T n) (r + 1) aa = none := by
              unfold nmL nsp
              rw [hz]
              dsimp only
              rw [← hsep, if_neg c38]
            refine aw_iconst (v := nI 0) dX5_readNumbers_41 (by decide) ?_
            refine aw_iret dX5_readNumbers_42 rfl (by first | rfl | exact (pk_charN (by omega)).1 | decide) ?_
            exact ⟨FT3.place, by rw [hns]⟩
        refine aw_iload_n dX5_readNumbers_2 rfl rfl ?_
        refine aw_iload_n dX5_readNumbers_3 rfl rfl ?_
        refine aw_icmp_geN (tgt := 68) dX5_readNumbers_4 (by decide) (by omega) (by omega) (fun q => absurd q (by omega)) (fun _ => ?_)
        refine aw_aload_n dX5_readNumbers_7 rfl rfl ?_
        refine aw_callVF dX5_readNumbers_8 kX5_55 (c_T_readNumberS htx hk (by omega) hz) (by first | assumption | rfl) rfl rfl rfl (Nat.le_of_ble_eq_true rfl) (Nat.le_of_ble_eq_true rfl) ?_
        dsimp only [Option.toList, List.cons_append, List.nil_append, Nat.reduceAdd]
        refine aw_istore_n dX5_readNumbers_11 rfl (Nat.le_of_ble_eq_true rfl) rfl ?_
        dsimp only [List.set]
        refine aw_iload_n dX5_readNumbers_12 rfl rfl ?_
        refine aw_iload_n dX5_readNumbers_13 rfl rfl ?_
        refine aw_iconst (v := nI 1) dX5_readNumbers_14 (by decide) ?_
        refine aw_isubN dX5_readNumbers_15 (by omega) ?_
        refine aw_icmp_neN (tgt := 24) dX5_readNumbers_16 (by decide) (by omega) (by omega) (fun c16 => ?_) (fun c16 => ?_)
        · refine aw_bipush (v := nI 44) dX5_readNumbers_24 (by decide) ?_
          refine aw_istore dX5_readNumbers_26 (Nat.le_of_ble_eq_true rfl) rfl ?_
          dsimp only [List.set]
          exact tail _ (by rw [if_neg (by omega)])
        · refine aw_bipush (v := nI 59) dX5_readNumbers_19 (by decide) ?_
          refine aw_goto (tgt := 26) dX5_readNumbers_21 (by decide) ?_
          refine aw_istore dX5_readNumbers_26 (Nat.le_of_ble_eq_true rfl) rfl ?_
          dsimp only [List.set]
          exact tail _ (by rw [if_pos (by omega)])
  change AW mX5_readNumbers _ 0 [some (.ref 1), some (.int (nI many)), none, none, none] [] h _
  refine aw_iconst (v := nI 0) dX5_readNumbers_0 (by decide) ?_
  refine aw_istore_n dX5_readNumbers_1 rfl (Nat.le_of_ble_eq_true rfl) rfl ?_
  dsimp only [List.set]
  exact loop many 0 a h (by omega) ht (by omega)
