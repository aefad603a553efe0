/-! the reference's objects hold the state -/
def RM (h : Hp) (X : XS) : Prop := HM h (xS X) ∧ MV h (xn X) 70 0 (xC X) ∧ MV h (xn X) 71 0 (fiC X) ∧ (h 67 5 = (xU X).1 ∧ ∀ k, k < (xU X).1 → MV h (xn X) 72 (17 * k) ((xU X).2 k)) ∧ (h 67 7 = (xV X).1 ∧ ∀ k, k < (xV X).1 → MV h (xn X) 73 (17 * k) ((xV X).2 k)) ∧ (h 67 9 = (xZ X).1 ∧ ∀ k, k < (xZ X).1 → h 74 (3 * k) = ((xZ X).2 k).1 ∧ h 74 (3 * k + 1) = ((xZ X).2 k).2.1 ∧ h 74 (3 * k + 2) = ((xZ X).2 k).2.2) ∧ (h 67 12 = (xT X).1 ∧ ∀ k, k < (xT X).1 → h 75 k = (xT X).2 k)
def FN (h h' : Hp) : Prop := ∀ o, o < 67 → h' o = h o
theorem FN.trans {h h1 h2 : Hp} (a : FN h h1) (b : FN h1 h2) : FN h h2 := fun o ho => (b o ho).trans (a o ho)
theorem F81.fn {h h1 : Hp} (a : F81 h h1) : FN h h1 := fun o ho => a o (by omega) (by omega)
theorem RM.gen {h h' : Hp} {X : XS} (hr : RM h X) (h1 : ∀ o, 68 ≤ o → o ≤ 75 → h' o = h o) (h2 : ∀ k, k = 0 ∨ k = 5 ∨ k = 7 ∨ k = 9 ∨ k = 12 → h' 67 k = h 67 k) : RM h' X := by
  unfold RM HM MV
  rw [h1 68 (by decide) (by decide), h1 69 (by decide) (by decide), h1 70 (by decide) (by decide), h1 71 (by decide) (by decide), h1 72 (by decide) (by decide), h1 73 (by decide) (by decide), h1 74 (by decide) (by decide), h1 75 (by decide) (by decide), h2 0 (by decide), h2 5 (by decide), h2 7 (by decide), h2 9 (by decide), h2 12 (by decide)]
  exact hr
theorem RM.fr {h h' : Hp} {X : XS} (hr : RM h X) (hf : F81 h h') : RM h' X := hr.gen (fun o h1 h2 => hf o (by omega) (by omega)) (fun k _ => by rw [hf 67 (by decide) (by decide)])
def QM (h : Hp) (X : XS) (a : Int32) : Option Value → Hp → Prop := fun v h' => v = some (.int a) ∧ RM h' X ∧ FN h h'
def QN (h : Hp) (r : AX) : Option Value → Hp → Prop := QM h r.2 r.1
theorem QM.same {h : Hp} {X : XS} {a : Int32} (hr : RM h X) : QM h X a (some (.int a)) h := ⟨rfl, hr, fun o _ => rfl⟩
theorem QM.fr {h h' : Hp} {X : XS} {a : Int32} (hr : RM h X) (hf : F81 h h') : QM h X a (some (.int a)) h' := ⟨rfl, hr.fr hf, hf.fn⟩
theorem m_oneS {d j : Nat} {i : Int32} {h : Hp} {X : XS} (hr : RM h X) (hv : VX X) (e : ix i 0 (xn X - 1) = some j) : RT mX8_isOne (d + 1) [.ref 67, .int i] h (fun v h' => v = some (.int (nI 1)) ∧ h' = h) := by
  have e1 : h 67 0 = xn X := hr.1.1
  have h37 := hv.n
  change AW mX8_isOne _ 0 [some (.ref 67), some (.int i)] [] h _
  refine aw_iload_n dX8_isOne_0 rfl rfl ?_
  refine aw_iconst (v := nI 0) dX8_isOne_1 (by decide) ?_
  refine aw_aload_n dX8_isOne_2 rfl rfl ?_
  refine aw_getI dX8_isOne_3 fX8_73 (by first | assumption | rfl) (by rfl) ?_
  rw [e1]
  refine aw_iconst (v := nI 1) dX8_isOne_6 (by decide) ?_
  refine aw_isubN dX8_isOne_7 (by omega) ?_
  refine aw_callSF dX8_isOne_8 kX8_76 (m_iS e) rfl rfl rfl (Nat.le_of_ble_eq_true rfl) (Nat.le_of_ble_eq_true rfl) ?_
  dsimp only [Option.toList, List.cons_append, List.nil_append, Nat.reduceAdd]
  refine aw_iret dX8_isOne_11 rfl (by first | rfl | exact (pk_charN (by omega)).1 | decide) ?_
  exact ⟨rfl, rfl⟩
theorem m_oneN {d : Nat} {i : Int32} {h : Hp} {X : XS} (hr : RM h X) (hv : VX X) (e : ix i 0 (xn X - 1) = none) : RT mX8_isOne (d + 1) [.ref 67, .int i] h (fun v h' => v = some (.int (nI 0)) ∧ h' = h) := by
  have e1 : h 67 0 = xn X := hr.1.1
  have h37 := hv.n
  change AW mX8_isOne _ 0 [some (.ref 67), some (.int i)] [] h _
  refine aw_iload_n dX8_isOne_0 rfl rfl ?_
  refine aw_iconst (v := nI 0) dX8_isOne_1 (by decide) ?_
  refine aw_aload_n dX8_isOne_2 rfl rfl ?_
  refine aw_getI dX8_isOne_3 fX8_73 (by first | assumption | rfl) (by rfl) ?_
  rw [e1]
  refine aw_iconst (v := nI 1) dX8_isOne_6 (by decide) ?_
  refine aw_isubN dX8_isOne_7 (by omega) ?_
  refine aw_callSF dX8_isOne_8 kX8_76 (m_iN e) rfl rfl rfl (Nat.le_of_ble_eq_true rfl) (Nat.le_of_ble_eq_true rfl) ?_
  dsimp only [Option.toList, List.cons_append, List.nil_append, Nat.reduceAdd]
  refine aw_iret dX8_isOne_11 rfl (by first | rfl | exact (pk_charN (by omega)).1 | decide) ?_
  exact ⟨rfl, rfl⟩
theorem m_fromX {d : Nat} {h : Hp} {X : XS} (hr : RM h X) (hv : VX X) : RT mX8_from (d + 2) [.ref 67, .ref 70] h (fun v h' => v = none ∧ NS h' (xS X) (xC X).2.1 (cL (xn X) (xC X)) (xC X).1 (xC X).2.2 ∧ F81 h h') := m_from hr.1 hv.1 hr.2.1 hv.2.1.2.2 rfl (by decide)
theorem y_has {d : Nat} {h : Hp} {X : XS} {i t : Int32} (hr : RM h X) (hv : VX X) : RT mX8_has (d + 6) [.ref 67, .int i, .int t] h (QM h X (a_has X i t)) := by
  have hn := hv.n
  unfold a_has
  change AW mX8_has _ 0 [some (.ref 67), some (.int i), some (.int t)] [] h _
  cases ei : ix i 0 (xn X - 1) with
  | none =>
    refine aw_aload_n dX8_has_0 rfl rfl ?_
    refine aw_iload_n dX8_has_1 rfl rfl ?_
    refine aw_callVF dX8_has_2 kX8_151 (m_oneN hr hv ei) (by first | assumption | rfl) rfl rfl rfl (Nat.le_of_ble_eq_true rfl) (Nat.le_of_ble_eq_true rfl) ?_
    dsimp only [Option.toList, List.cons_append, List.nil_append, Nat.reduceAdd]
    refine aw_if_eqN (tgt := 18) dX8_has_5 (by decide) (by omega) (fun _ => ?_) (fun q => absurd q (by omega))
    refine aw_iconst (v := nI 4294967295) dX8_has_18 (by decide) ?_
    refine aw_iret dX8_has_19 rfl (by first | rfl | exact (pk_charN (by omega)).1 | decide) ?_
    exact QM.same hr
  | some i =>
    obtain ⟨rfl, hi1, hi2⟩ := ix_s (by omega) (by omega) ei
    dsimp only
    cases et : ix t 0 120 with
    | none =>
      refine aw_aload_n dX8_has_0 rfl rfl ?_
      refine aw_iload_n dX8_has_1 rfl rfl ?_
      refine aw_callVF dX8_has_2 kX8_151 (m_oneS hr hv ei) (by first | assumption | rfl) rfl rfl rfl (Nat.le_of_ble_eq_true rfl) (Nat.le_of_ble_eq_true rfl) ?_
      dsimp only [Option.toList, List.cons_append, List.nil_append, Nat.reduceAdd]
      refine aw_if_eqN (tgt := 18) dX8_has_5 (by decide) (by omega) (fun q => absurd q (by omega)) (fun _ => ?_)
      refine aw_iload_n dX8_has_8 rfl rfl ?_
      refine aw_iconst (v := nI 0) dX8_has_9 (by decide) ?_
      refine aw_bipush (v := nI 120) dX8_has_10 (by decide) ?_
      refine aw_callSF dX8_has_12 kX8_76 (m_iN et) rfl rfl rfl (Nat.le_of_ble_eq_true rfl) (Nat.le_of_ble_eq_true rfl) ?_
      dsimp only [Option.toList, List.cons_append, List.nil_append, Nat.reduceAdd]
      refine aw_if_neN (tgt := 20) dX8_has_15 (by decide) (by omega) (fun q => absurd q (by omega)) (fun _ => ?_)
      refine aw_iconst (v := nI 4294967295) dX8_has_18 (by decide) ?_
      refine aw_iret dX8_has_19 rfl (by first | rfl | exact (pk_charN (by omega)).1 | decide) ?_
      exact QM.same hr
    | some t =>
      obtain ⟨rfl, ht1, ht2⟩ := ix_s (by omega) (by omega) et
      have hc1 := hv.2.1.1
      refine aw_aload_n dX8_has_0 rfl rfl ?_
      refine aw_iload_n dX8_has_1 rfl rfl ?_
      refine aw_callVF dX8_has_2 kX8_151 (m_oneS hr hv ei) (by first | assumption | rfl) rfl rfl rfl (Nat.le_of_ble_eq_true rfl) (Nat.le_of_ble_eq_true rfl) ?_
      dsimp only [Option.toList, List.cons_append, List.nil_append, Nat.reduceAdd]
      refine aw_if_eqN (tgt := 18) dX8_has_5 (by decide) (by omega) (fun q => absurd q (by omega)) (fun _ => ?_)
      refine aw_iload_n dX8_has_8 rfl rfl ?_
      refine aw_iconst (v := nI 0) dX8_has_9 (by decide) ?_
      refine aw_bipush (v := nI 120) dX8_has_10 (by decide) ?_
      refine aw_callSF dX8_has_12 kX8_76 (m_iS et) rfl rfl rfl (Nat.le_of_ble_eq_true rfl) (Nat.le_of_ble_eq_true rfl) ?_
      dsimp only [Option.toList, List.cons_append, List.nil_append, Nat.reduceAdd]
      refine aw_if_neN (tgt := 20) dX8_has_15 (by decide) (by omega) (fun _ => ?_) (fun q => absurd q (by omega))
      refine aw_aload_n dX8_has_20 rfl rfl ?_
      refine aw_aload_n dX8_has_21 rfl rfl ?_
      refine aw_getR dX8_has_22 fX8_16 (by first | assumption | rfl) (by rfl) ?_
      refine aw_callV dX8_has_25 kX8_154 (m_fromX hr hv) (by first | assumption | rfl) rfl rfl rfl (Nat.le_of_ble_eq_true rfl) (Nat.le_of_ble_eq_true rfl) ?_
      rintro _ h2 ⟨rfl, w2, f2⟩
      dsimp only [Option.toList, List.cons_append, List.nil_append, Nat.reduceAdd]
      refine aw_aload_n dX8_has_28 rfl rfl ?_
      refine aw_iload_n dX8_has_29 rfl rfl ?_
      refine aw_iconst (v := nI 1) dX8_has_30 (by decide) ?_
      refine aw_iaddN dX8_has_31 ?_
      refine aw_callV dX8_has_32 kX8_164 (m_goesOn w2 (cL_ok hv.1 hv.2.1) hv.2.1.2.1 (by omega)) (by first | assumption | rfl) rfl rfl rfl (Nat.le_of_ble_eq_true rfl) (Nat.le_of_ble_eq_true rfl) ?_
      rintro _ h3 ⟨rfl, w3, f3⟩
      dsimp only [Option.toList, List.cons_append, List.nil_append, Nat.reduceAdd]
      refine aw_aload_n dX8_has_35 rfl rfl ?_
      refine aw_getR dX8_has_36 fX8_46 (by first | assumption | rfl) (by rfl) ?_
      refine aw_iconst (v := nI 1) dX8_has_39 (by decide) ?_
      refine aw_iload_n dX8_has_40 rfl rfl ?_
      refine aw_iaddN dX8_has_41 ?_
      refine aw_iaload dX8_has_42 (by first | assumption | rfl) (by omega) (by omega) ?_
      rw [(w3.2.2 i (show i < xn X by omega)).1]
      refine aw_iret dX8_has_43 rfl (by first | rfl | exact (pk_charN (by omega)).1 | decide) ?_
      exact QM.fr hr (f2.trans f3)
theorem y_whose {d : Nat} {h : Hp} {X : XS} {r t : Int32} (hr : RM h X) (hv : VX X) : RT mX8_whose (d + 6) [.ref 67, .int r, .int t] h (QM h X (a_whose X r t)) := by
  have hn := hv.n
  unfold a_whose
  change AW mX8_whose _ 0 [some (.ref 67), some (.int r), some (.int t)] [] h _
  cases ei : ix r 0 (xn X - 1) with
  | none =>
    refine aw_aload_n dX8_whose_0 rfl rfl ?_
    refine aw_iload_n dX8_whose_1 rfl rfl ?_
    refine aw_callVF dX8_whose_2 kX8_151 (m_oneN hr hv ei) (by first | assumption | rfl) rfl rfl rfl (Nat.le_of_ble_eq_true rfl) (Nat.le_of_ble_eq_true rfl) ?_
    dsimp only [Option.toList, List.cons_append, List.nil_append, Nat.reduceAdd]
    refine aw_if_eqN (tgt := 18) dX8_whose_5 (by decide) (by omega) (fun _ => ?_) (fun q => absurd q (by omega))
    refine aw_iconst (v := nI 4294967295) dX8_whose_18 (by decide) ?_
    refine aw_iret dX8_whose_19 rfl (by first | rfl | exact (pk_charN (by omega)).1 | decide) ?_
    exact QM.same hr
  | some r =>
    obtain ⟨rfl, hi1, hi2⟩ := ix_s (by omega) (by omega) ei
    dsimp only
    cases et : ix t 0 120 with
    | none =>
      refine aw_aload_n dX8_whose_0 rfl rfl ?_
      refine aw_iload_n dX8_whose_1 rfl rfl ?_
      refine aw_callVF dX8_whose_2 kX8_151 (m_oneS hr hv ei) (by first | assumption | rfl) rfl rfl rfl (Nat.le_of_ble_eq_true rfl) (Nat.le_of_ble_eq_true rfl) ?_
      dsimp only [Option.toList, List.cons_append, List.nil_append, Nat.reduceAdd]
      refine aw_if_eqN (tgt := 18) dX8_whose_5 (by decide) (by omega) (fun q => absurd q (by omega)) (fun _ => ?_)
      refine aw_iload_n dX8_whose_8 rfl rfl ?_
      refine aw_iconst (v := nI 0) dX8_whose_9 (by decide) ?_
      refine aw_bipush (v := nI 120) dX8_whose_10 (by decide) ?_
      refine aw_callSF dX8_whose_12 kX8_76 (m_iN et) rfl rfl rfl (Nat.le_of_ble_eq_true rfl) (Nat.le_of_ble_eq_true rfl) ?_
      dsimp only [Option.toList, List.cons_append, List.nil_append, Nat.reduceAdd]
      refine aw_if_neN (tgt := 20) dX8_whose_15 (by decide) (by omega) (fun q => absurd q (by omega)) (fun _ => ?_)
      refine aw_iconst (v := nI 4294967295) dX8_whose_18 (by decide) ?_
      refine aw_iret dX8_whose_19 rfl (by first | rfl | exact (pk_charN (by omega)).1 | decide) ?_
      exact QM.same hr
    | some t =>
      obtain ⟨rfl, ht1, ht2⟩ := ix_s (by omega) (by omega) et
      have hc1 := hv.2.1.1
      refine aw_aload_n dX8_whose_0 rfl rfl ?_
      refine aw_iload_n dX8_whose_1 rfl rfl ?_
      refine aw_callVF dX8_whose_2 kX8_151 (m_oneS hr hv ei) (by first | assumption | rfl) rfl rfl rfl (Nat.le_of_ble_eq_true rfl) (Nat.le_of_ble_eq_true rfl) ?_
      dsimp only [Option.toList, List.cons_append, List.nil_append, Nat.reduceAdd]
      refine aw_if_eqN (tgt := 18) dX8_whose_5 (by decide) (by omega) (fun q => absurd q (by omega)) (fun _ => ?_)
      refine aw_iload_n dX8_whose_8 rfl rfl ?_
      refine aw_iconst (v := nI 0) dX8_whose_9 (by decide) ?_
      refine aw_bipush (v := nI 120) dX8_whose_10 (by decide) ?_
      refine aw_callSF dX8_whose_12 kX8_76 (m_iS et) rfl rfl rfl (Nat.le_of_ble_eq_true rfl) (Nat.le_of_ble_eq_true rfl) ?_
      dsimp only [Option.toList, List.cons_append, List.nil_append, Nat.reduceAdd]
      refine aw_if_neN (tgt := 20) dX8_whose_15 (by decide) (by omega) (fun _ => ?_) (fun q => absurd q (by omega))
      refine aw_aload_n dX8_whose_20 rfl rfl ?_
      refine aw_aload_n dX8_whose_21 rfl rfl ?_
      refine aw_getR dX8_whose_22 fX8_16 (by first | assumption | rfl) (by rfl) ?_
      refine aw_callV dX8_whose_25 kX8_154 (m_fromX hr hv) (by first | assumption | rfl) rfl rfl rfl (Nat.le_of_ble_eq_true rfl) (Nat.le_of_ble_eq_true rfl) ?_
      rintro _ h2 ⟨rfl, w2, f2⟩
      dsimp only [Option.toList, List.cons_append, List.nil_append, Nat.reduceAdd]
      refine aw_aload_n dX8_whose_28 rfl rfl ?_
      refine aw_iload_n dX8_whose_29 rfl rfl ?_
      refine aw_iconst (v := nI 1) dX8_whose_30 (by decide) ?_
      refine aw_iaddN dX8_whose_31 ?_
      refine aw_callV dX8_whose_32 kX8_164 (m_goesOn w2 (cL_ok hv.1 hv.2.1) hv.2.1.2.1 (by omega)) (by first | assumption | rfl) rfl rfl rfl (Nat.le_of_ble_eq_true rfl) (Nat.le_of_ble_eq_true rfl) ?_
      rintro _ h3 ⟨rfl, w3, f3⟩
      dsimp only [Option.toList, List.cons_append, List.nil_append, Nat.reduceAdd]
      refine aw_aload_n dX8_whose_35 rfl rfl ?_
      refine aw_iload_n dX8_whose_36 rfl rfl ?_
      refine aw_callVF dX8_whose_37 kX8_158 (m_whoseNow w3 hv.1 (rmX_pm hv (t + 1)) (show r < xn X by omega)) (by first | assumption | rfl) rfl rfl rfl (Nat.le_of_ble_eq_true rfl) (Nat.le_of_ble_eq_true rfl) ?_
      dsimp only [Option.toList, List.cons_append, List.nil_append, Nat.reduceAdd]
      refine aw_iret dX8_whose_40 rfl (by first | rfl | exact (pk_charN (by omega)).1 | decide) ?_
      exact QM.fr hr (f2.trans f3)
theorem y_sun {d : Nat} {h : Hp} {X : XS} {i t : Int32} (hr : RM h X) (hv : VX X) : RT mX8_sun (d + 6) [.ref 67, .int i, .int t] h (QM h X (a_sun X i t)) := by
  have hn := hv.n
  unfold a_sun
  change AW mX8_sun _ 0 [some (.ref 67), some (.int i), some (.int t)] [] h _
  cases ei : ix i 0 (xn X - 1) with
  | none =>
    refine aw_aload_n dX8_sun_0 rfl rfl ?_
    refine aw_iload_n dX8_sun_1 rfl rfl ?_
    refine aw_callVF dX8_sun_2 kX8_151 (m_oneN hr hv ei) (by first | assumption | rfl) rfl rfl rfl (Nat.le_of_ble_eq_true rfl) (Nat.le_of_ble_eq_true rfl) ?_
    dsimp only [Option.toList, List.cons_append, List.nil_append, Nat.reduceAdd]
    refine aw_if_eqN (tgt := 18) dX8_sun_5 (by decide) (by omega) (fun _ => ?_) (fun q => absurd q (by omega))
    refine aw_iconst (v := nI 4294967295) dX8_sun_18 (by decide) ?_
    refine aw_iret dX8_sun_19 rfl (by first | rfl | exact (pk_charN (by omega)).1 | decide) ?_
    exact QM.same hr
  | some i =>
    obtain ⟨rfl, hi1, hi2⟩ := ix_s (by omega) (by omega) ei
    dsimp only
    cases et : ix t 1 120 with
    | none =>
      refine aw_aload_n dX8_sun_0 rfl rfl ?_
      refine aw_iload_n dX8_sun_1 rfl rfl ?_
      refine aw_callVF dX8_sun_2 kX8_151 (m_oneS hr hv ei) (by first | assumption | rfl) rfl rfl rfl (Nat.le_of_ble_eq_true rfl) (Nat.le_of_ble_eq_true rfl) ?_
      dsimp only [Option.toList, List.cons_append, List.nil_append, Nat.reduceAdd]
      refine aw_if_eqN (tgt := 18) dX8_sun_5 (by decide) (by omega) (fun q => absurd q (by omega)) (fun _ => ?_)
      refine aw_iload_n dX8_sun_8 rfl rfl ?_
      refine aw_iconst (v := nI 1) dX8_sun_9 (by decide) ?_
      refine aw_bipush (v := nI 120) dX8_sun_10 (by decide) ?_
      refine aw_callSF dX8_sun_12 kX8_76 (m_iN et) rfl rfl rfl (Nat.le_of_ble_eq_true rfl) (Nat.le_of_ble_eq_true rfl) ?_
      dsimp only [Option.toList, List.cons_append, List.nil_append, Nat.reduceAdd]
      refine aw_if_neN (tgt := 20) dX8_sun_15 (by decide) (by omega) (fun q => absurd q (by omega)) (fun _ => ?_)
      refine aw_iconst (v := nI 4294967295) dX8_sun_18 (by decide) ?_
      refine aw_iret dX8_sun_19 rfl (by first | rfl | exact (pk_charN (by omega)).1 | decide) ?_
      exact QM.same hr
    | some t =>
      obtain ⟨rfl, ht1, ht2⟩ := ix_s (by omega) (by omega) et
      have hc1 := hv.2.1.1
      refine aw_aload_n dX8_sun_0 rfl rfl ?_
      refine aw_iload_n dX8_sun_1 rfl rfl ?_
      refine aw_callVF dX8_sun_2 kX8_151 (m_oneS hr hv ei) (by first | assumption | rfl) rfl rfl rfl (Nat.le_of_ble_eq_true rfl) (Nat.le_of_ble_eq_true rfl) ?_
      dsimp only [Option.toList, List.cons_append, List.nil_append, Nat.reduceAdd]
      refine aw_if_eqN (tgt := 18) dX8_sun_5 (by decide) (by omega) (fun q => absurd q (by omega)) (fun _ => ?_)
      refine aw_iload_n dX8_sun_8 rfl rfl ?_
      refine aw_iconst (v := nI 1) dX8_sun_9 (by decide) ?_
      refine aw_bipush (v := nI 120) dX8_sun_10 (by decide) ?_
      refine aw_callSF dX8_sun_12 kX8_76 (m_iS et) rfl rfl rfl (Nat.le_of_ble_eq_true rfl) (Nat.le_of_ble_eq_true rfl) ?_
      dsimp only [Option.toList, List.cons_append, List.nil_append, Nat.reduceAdd]
      refine aw_if_neN (tgt := 20) dX8_sun_15 (by decide) (by omega) (fun _ => ?_) (fun q => absurd q (by omega))
      refine aw_aload_n dX8_sun_20 rfl rfl ?_
      refine aw_aload_n dX8_sun_21 rfl rfl ?_
      refine aw_getR dX8_sun_22 fX8_16 (by first | assumption | rfl) (by rfl) ?_
      refine aw_callV dX8_sun_25 kX8_154 (m_fromX hr hv) (by first | assumption | rfl) rfl rfl rfl (Nat.le_of_ble_eq_true rfl) (Nat.le_of_ble_eq_true rfl) ?_
      rintro _ h2 ⟨rfl, w2, f2⟩
      dsimp only [Option.toList, List.cons_append, List.nil_append, Nat.reduceAdd]
      refine aw_aload_n dX8_sun_28 rfl rfl ?_
      refine aw_iload_n dX8_sun_29 rfl rfl ?_
      refine aw_iload_n dX8_sun_30 rfl rfl ?_
      refine aw_callV dX8_sun_31 kX8_167 (m_sunOn w2 (cL_ok hv.1 hv.2.1) hv.2.1.2.1 (show i < xn X by omega) (by omega)) (by first | assumption | rfl) rfl rfl rfl (Nat.le_of_ble_eq_true rfl) (Nat.le_of_ble_eq_true rfl) ?_
      rintro _ h3 ⟨rfl, w3, f3⟩
      dsimp only [Option.toList, List.cons_append, List.nil_append, Nat.reduceAdd]
      refine aw_iret dX8_sun_34 rfl (by first | rfl | exact (pk_charN (by omega)).1 | decide) ?_
      exact QM.fr hr (f2.trans f3)
theorem y_cold {d : Nat} {h : Hp} {X : XS} {t : Int32} (hr : RM h X) (hv : VX X) : RT mX8_cold (d + 6) [.ref 67, .int t] h (QM h X (a_cold X t)) := by
  have hn := hv.n
  unfold a_cold
  change AW mX8_cold _ 0 [some (.ref 67), some (.int t)] [] h _
  cases et : ix t 0 120 with
  | none =>
    refine aw_iload_n dX8_cold_0 rfl rfl ?_
    refine aw_iconst (v := nI 0) dX8_cold_1 (by decide) ?_
    refine aw_bipush (v := nI 120) dX8_cold_2 (by decide) ?_
    refine aw_callSF dX8_cold_4 kX8_76 (m_iN et) rfl rfl rfl (Nat.le_of_ble_eq_true rfl) (Nat.le_of_ble_eq_true rfl) ?_
    dsimp only [Option.toList, List.cons_append, List.nil_append, Nat.reduceAdd]
    refine aw_if_neN (tgt := 12) dX8_cold_7 (by decide) (by omega) (fun q => absurd q (by omega)) (fun _ => ?_)
    refine aw_iconst (v := nI 4294967295) dX8_cold_10 (by decide) ?_
    refine aw_iret dX8_cold_11 rfl (by first | rfl | exact (pk_charN (by omega)).1 | decide) ?_
    exact QM.same hr
  | some t =>
    obtain ⟨rfl, ht1, ht2⟩ := ix_s (by omega) (by omega) et
    have hc1 := hv.2.1.1
    refine aw_iload_n dX8_cold_0 rfl rfl ?_
    refine aw_iconst (v := nI 0) dX8_cold_1 (by decide) ?_
    refine aw_bipush (v := nI 120) dX8_cold_2 (by decide) ?_
    refine aw_callSF dX8_cold_4 kX8_76 (m_iS et) rfl rfl rfl (Nat.le_of_ble_eq_true rfl) (Nat.le_of_ble_eq_true rfl) ?_
    dsimp only [Option.toList, List.cons_append, List.nil_append, Nat.reduceAdd]
    refine aw_if_neN (tgt := 12) dX8_cold_7 (by decide) (by omega) (fun _ => ?_) (fun q => absurd q (by omega))
    refine aw_aload_n dX8_cold_12 rfl rfl ?_
    refine aw_aload_n dX8_cold_13 rfl rfl ?_
    refine aw_getR dX8_cold_14 fX8_16 (by first | assumption | rfl) (by rfl) ?_
    refine aw_callV dX8_cold_17 kX8_154 (m_fromX hr hv) (by first | assumption | rfl) rfl rfl rfl (Nat.le_of_ble_eq_true rfl) (Nat.le_of_ble_eq_true rfl) ?_
    rintro _ h2 ⟨rfl, w2, f2⟩
    dsimp only [Option.toList, List.cons_append, List.nil_append, Nat.reduceAdd]
    refine aw_aload_n dX8_cold_20 rfl rfl ?_
    refine aw_iload_n dX8_cold_21 rfl rfl ?_
    refine aw_callV dX8_cold_22 kX8_164 (m_goesOn w2 (cL_ok hv.1 hv.2.1) hv.2.1.2.1 (by omega)) (by first | assumption | rfl) rfl rfl rfl (Nat.le_of_ble_eq_true rfl) (Nat.le_of_ble_eq_true rfl) ?_
    rintro _ h3 ⟨rfl, w3, f3⟩
    dsimp only [Option.toList, List.cons_append, List.nil_append, Nat.reduceAdd]
    refine aw_aload_n dX8_cold_25 rfl rfl ?_
    refine aw_callV dX8_cold_26 kX8_145 (m_goes w3 (cL_ok hv.1 hv.2.1) (rmX_pm hv t) (by omega)) (by first | assumption | rfl) rfl rfl rfl (Nat.le_of_ble_eq_true rfl) (Nat.le_of_ble_eq_true rfl) ?_
    rintro _ h4 ⟨rfl, w4, f4⟩
    dsimp only [Option.toList, List.cons_append, List.nil_append, Nat.reduceAdd]
    refine aw_iret dX8_cold_29 rfl (by first | rfl | exact (pk_charN (by omega)).1 | decide) ?_
    exact QM.fr hr ((f2.trans f3).trans f4)
theorem y_want {d : Nat} {h : Hp} {X : XS} {t : Int32} (hr : RM h X) (hv : VX X) : RT mX8_want (d + 6) [.ref 67, .int t] h (QM h X (a_want X t)) := by
  have hn := hv.n
  unfold a_want
  change AW mX8_want _ 0 [some (.ref 67), some (.int t)] [] h _
  cases et : ix t 1 120 with
  | none =>
    refine aw_iload_n dX8_want_0 rfl rfl ?_
    refine aw_iconst (v := nI 1) dX8_want_1 (by decide) ?_
    refine aw_bipush (v := nI 120) dX8_want_2 (by decide) ?_
    refine aw_callSF dX8_want_4 kX8_76 (m_iN et) rfl rfl rfl (Nat.le_of_ble_eq_true rfl) (Nat.le_of_ble_eq_true rfl) ?_
    dsimp only [Option.toList, List.cons_append, List.nil_append, Nat.reduceAdd]
    refine aw_if_neN (tgt := 12) dX8_want_7 (by decide) (by omega) (fun q => absurd q (by omega)) (fun _ => ?_)
    refine aw_iconst (v := nI 4294967295) dX8_want_10 (by decide) ?_
    refine aw_iret dX8_want_11 rfl (by first | rfl | exact (pk_charN (by omega)).1 | decide) ?_
    exact QM.same hr
  | some t =>
    obtain ⟨rfl, ht1, ht2⟩ := ix_s (by omega) (by omega) et
    have hc1 := hv.2.1.1
    refine aw_iload_n dX8_want_0 rfl rfl ?_
    refine aw_iconst (v := nI 1) dX8_want_1 (by decide) ?_
    refine aw_bipush (v := nI 120) dX8_want_2 (by decide) ?_
    refine aw_callSF dX8_want_4 kX8_76 (m_iS et) rfl rfl rfl (Nat.le_of_ble_eq_true rfl) (Nat.le_of_ble_eq_true rfl) ?_
    dsimp only [Option.toList, List.cons_append, List.nil_append, Nat.reduceAdd]
    refine aw_if_neN (tgt := 12) dX8_want_7 (by decide) (by omega) (fun _ => ?_) (fun q => absurd q (by omega))
    refine aw_aload_n dX8_want_12 rfl rfl ?_
    refine aw_aload_n dX8_want_13 rfl rfl ?_
    refine aw_getR dX8_want_14 fX8_16 (by first | assumption | rfl) (by rfl) ?_
    refine aw_callV dX8_want_17 kX8_154 (m_fromX hr hv) (by first | assumption | rfl) rfl rfl rfl (Nat.le_of_ble_eq_true rfl) (Nat.le_of_ble_eq_true rfl) ?_
    rintro _ h2 ⟨rfl, w2, f2⟩
    dsimp only [Option.toList, List.cons_append, List.nil_append, Nat.reduceAdd]
    refine aw_aload_n dX8_want_20 rfl rfl ?_
    refine aw_iload_n dX8_want_21 rfl rfl ?_
    refine aw_callV dX8_want_22 kX8_170 (m_wantOn w2 (cL_ok hv.1 hv.2.1) hv.2.1.2.1 (by omega)) (by first | assumption | rfl) rfl rfl rfl (Nat.le_of_ble_eq_true rfl) (Nat.le_of_ble_eq_true rfl) ?_
    rintro _ h3 ⟨rfl, w3, f3⟩
    dsimp only [Option.toList, List.cons_append, List.nil_append, Nat.reduceAdd]
    refine aw_iret dX8_want_25 rfl (by first | rfl | exact (pk_charN (by omega)).1 | decide) ?_
    exact QM.fr hr (f2.trans f3)
theorem y_cousin {d : Nat} {h : Hp} {X : XS} {i w : Int32} (hr : RM h X) (hv : VX X) : RT mX8_cousin (d + 6) [.ref 67, .int i, .int w] h (QM h X (a_cousin X i w)) := by
  have hn := hv.n
  unfold a_cousin
  change AW mX8_cousin _ 0 [some (.ref 67), some (.int i), some (.int w)] [] h _
  cases ei : ix i 0 (xn X - 1) with
  | none =>
    refine aw_aload_n dX8_cousin_0 rfl rfl ?_
    refine aw_iload_n dX8_cousin_1 rfl rfl ?_
    refine aw_callVF dX8_cousin_2 kX8_151 (m_oneN hr hv ei) (by first | assumption | rfl) rfl rfl rfl (Nat.le_of_ble_eq_true rfl) (Nat.le_of_ble_eq_true rfl) ?_
    dsimp only [Option.toList, List.cons_append, List.nil_append, Nat.reduceAdd]
    refine aw_if_eqN (tgt := 17) dX8_cousin_5 (by decide) (by omega) (fun _ => ?_) (fun q => absurd q (by omega))
    refine aw_iconst (v := nI 4294967295) dX8_cousin_17 (by decide) ?_
    refine aw_iret dX8_cousin_18 rfl (by first | rfl | exact (pk_charN (by omega)).1 | decide) ?_
    exact QM.same hr
  | some i =>
    obtain ⟨rfl, hi1, hi2⟩ := ix_s (by omega) (by omega) ei
    dsimp only
    cases ew : ix w 0 4 with
    | none =>
      refine aw_aload_n dX8_cousin_0 rfl rfl ?_
      refine aw_iload_n dX8_cousin_1 rfl rfl ?_
      refine aw_callVF dX8_cousin_2 kX8_151 (m_oneS hr hv ei) (by first | assumption | rfl) rfl rfl rfl (Nat.le_of_ble_eq_true rfl) (Nat.le_of_ble_eq_true rfl) ?_
      dsimp only [Option.toList, List.cons_append, List.nil_append, Nat.reduceAdd]
      refine aw_if_eqN (tgt := 17) dX8_cousin_5 (by decide) (by omega) (fun q => absurd q (by omega)) (fun _ => ?_)
      refine aw_iload_n dX8_cousin_8 rfl rfl ?_
      refine aw_iconst (v := nI 0) dX8_cousin_9 (by decide) ?_
      refine aw_iconst (v := nI 4) dX8_cousin_10 (by decide) ?_
      refine aw_callSF dX8_cousin_11 kX8_76 (m_iN ew) rfl rfl rfl (Nat.le_of_ble_eq_true rfl) (Nat.le_of_ble_eq_true rfl) ?_
      dsimp only [Option.toList, List.cons_append, List.nil_append, Nat.reduceAdd]
      refine aw_if_neN (tgt := 19) dX8_cousin_14 (by decide) (by omega) (fun q => absurd q (by omega)) (fun _ => ?_)
      refine aw_iconst (v := nI 4294967295) dX8_cousin_17 (by decide) ?_
      refine aw_iret dX8_cousin_18 rfl (by first | rfl | exact (pk_charN (by omega)).1 | decide) ?_
      exact QM.same hr
    | some w =>
      obtain ⟨rfl, hw1, hw2⟩ := ix_s (by omega) (by omega) ew
      have hin : i < xn X := by omega
      refine aw_aload_n dX8_cousin_0 rfl rfl ?_
      refine aw_iload_n dX8_cousin_1 rfl rfl ?_
      refine aw_callVF dX8_cousin_2 kX8_151 (m_oneS hr hv ei) (by first | assumption | rfl) rfl rfl rfl (Nat.le_of_ble_eq_true rfl) (Nat.le_of_ble_eq_true rfl) ?_
      dsimp only [Option.toList, List.cons_append, List.nil_append, Nat.reduceAdd]
      refine aw_if_eqN (tgt := 17) dX8_cousin_5 (by decide) (by omega) (fun q => absurd q (by omega)) (fun _ => ?_)
      refine aw_iload_n dX8_cousin_8 rfl rfl ?_
      refine aw_iconst (v := nI 0) dX8_cousin_9 (by decide) ?_
      refine aw_iconst (v := nI 4) dX8_cousin_10 (by decide) ?_
      refine aw_callSF dX8_cousin_11 kX8_76 (m_iS ew) rfl rfl rfl (Nat.le_of_ble_eq_true rfl) (Nat.le_of_ble_eq_true rfl) ?_
      dsimp only [Option.toList, List.cons_append, List.nil_append, Nat.reduceAdd]
      refine aw_if_neN (tgt := 19) dX8_cousin_14 (by decide) (by omega) (fun _ => ?_) (fun q => absurd q (by omega))
      refine aw_aload_n dX8_cousin_19 rfl rfl ?_
      refine aw_aload_n dX8_cousin_20 rfl rfl ?_
      refine aw_getR dX8_cousin_21 fX8_16 (by first | assumption | rfl) (by rfl) ?_
      refine aw_callV dX8_cousin_24 kX8_154 (m_fromX hr hv) (by first | assumption | rfl) rfl rfl rfl (Nat.le_of_ble_eq_true rfl) (Nat.le_of_ble_eq_true rfl) ?_
      rintro _ h2 ⟨rfl, w2, f2⟩
      dsimp only [Option.toList, List.cons_append, List.nil_append, Nat.reduceAdd]
      refine aw_iload_n dX8_cousin_27 rfl rfl ?_
      have z := w2.1.2 i hin
      have r2 := hr.fr f2
      have y1 : h2 70 (1 + i) = (xC X).2.2 i := by have q := (r2.2.1.2 i hin).1; rw [Nat.zero_add] at q; exact q
      have y2 : h2 70 (9 + i) = (xC X).2.1 i := by have q := (r2.2.1.2 i hin).2; rw [Nat.zero_add] at q; exact q
      rcases (show w = 0 ∨ w = 1 ∨ w = 2 ∨ w = 3 ∨ w = 4 by omega) with rfl | rfl | rfl | rfl | rfl
      · refine aw_tableIn (off := 32) (tgt := 60) dX8_cousin_28 (by decide) (by decide) (by decide) (by decide) ?_
        refine aw_aload_n dX8_cousin_60 rfl rfl ?_
        refine aw_getR dX8_cousin_61 fX8_7 (by first | assumption | rfl) (by rfl) ?_
        refine aw_iconst (v := nI 2) dX8_cousin_64 (by decide) ?_
        refine aw_iload_n dX8_cousin_65 rfl rfl ?_
        refine aw_imulN dX8_cousin_66 ?_
        refine aw_iaload dX8_cousin_67 (by first | assumption | rfl) (by omega) (by omega) ?_
        rw [z.1]
        refine aw_iret dX8_cousin_68 rfl (by first | rfl | exact (pk_charN (by omega)).1 | decide) ?_
        exact QM.fr hr f2
      · refine aw_tableIn (off := 41) (tgt := 69) dX8_cousin_28 (by decide) (by decide) (by decide) (by decide) ?_
        refine aw_aload_n dX8_cousin_69 rfl rfl ?_
        refine aw_getR dX8_cousin_70 fX8_16 (by first | assumption | rfl) (by rfl) ?_
        refine aw_bipush (v := nI 9) dX8_cousin_73 (by decide) ?_
        refine aw_iload_n dX8_cousin_75 rfl rfl ?_
        refine aw_iaddN dX8_cousin_76 ?_
        refine aw_iaload dX8_cousin_77 (by first | assumption | rfl) (by omega) (by omega) ?_
        rw [y2]
        refine aw_iret dX8_cousin_78 rfl (by first | rfl | exact (pk_charN (by omega)).1 | decide) ?_
        exact QM.fr hr f2
      · refine aw_tableIn (off := 51) (tgt := 79) dX8_cousin_28 (by decide) (by decide) (by decide) (by decide) ?_
        refine aw_aload_n dX8_cousin_79 rfl rfl ?_
        refine aw_getR dX8_cousin_80 fX8_7 (by first | assumption | rfl) (by rfl) ?_
        refine aw_iconst (v := nI 2) dX8_cousin_83 (by decide) ?_
        refine aw_iload_n dX8_cousin_84 rfl rfl ?_
        refine aw_imulN dX8_cousin_85 ?_
        refine aw_iconst (v := nI 1) dX8_cousin_86 (by decide) ?_
        refine aw_iaddN dX8_cousin_87 ?_
        refine aw_iaload dX8_cousin_88 (by first | assumption | rfl) (by omega) (by omega) ?_
        rw [z.2.1]
        refine aw_iret dX8_cousin_89 rfl (by first | rfl | exact (pk_charN (by omega)).1 | decide) ?_
        exact QM.fr hr f2
      · refine aw_tableIn (off := 62) (tgt := 90) dX8_cousin_28 (by decide) (by decide) (by decide) (by decide) ?_
        refine aw_aload_n dX8_cousin_90 rfl rfl ?_
        refine aw_getR dX8_cousin_91 fX8_16 (by first | assumption | rfl) (by rfl) ?_
        refine aw_iconst (v := nI 1) dX8_cousin_94 (by decide) ?_
        refine aw_iload_n dX8_cousin_95 rfl rfl ?_
        refine aw_iaddN dX8_cousin_96 ?_
        refine aw_iaload dX8_cousin_97 (by first | assumption | rfl) (by omega) (by omega) ?_
        rw [y1]
        refine aw_iret dX8_cousin_98 rfl (by first | rfl | exact (pk_charN (by omega)).1 | decide) ?_
        exact QM.fr hr f2
      · refine aw_tableOut (tgt := 99) dX8_cousin_28 (by decide) (by decide) ?_
        refine aw_aload_n dX8_cousin_99 rfl rfl ?_
        refine aw_iload_n dX8_cousin_100 rfl rfl ?_
        refine aw_callVF dX8_cousin_101 kX8_130 (m_placeOf w2.1.1 hv.1 (fun j hj => ⟨(w2.2.2 j hj).2.1, hv.2.1.2.2 j hj⟩) hin) (by first | assumption | rfl) rfl rfl rfl (Nat.le_of_ble_eq_true rfl) (Nat.le_of_ble_eq_true rfl) ?_
        dsimp only [Option.toList, List.cons_append, List.nil_append, Nat.reduceAdd]
        refine aw_iret dX8_cousin_104 rfl (by first | rfl | exact (pk_charN (by omega)).1 | decide) ?_
        exact QM.fr hr f2
theorem y_room {d : Nat} {h : Hp} {X : XS} {r w : Int32} (hr : RM h X) (hv : VX X) : RT mX8_room (d + 6) [.ref 67, .int r, .int w] h (QM h X (a_room X r w)) := by
  have hn := hv.n
  unfold a_room
  change AW mX8_room _ 0 [some (.ref 67), some (.int r), some (.int w)] [] h _
  cases ei : ix r 0 (xn X - 1) with
  | none =>
    refine aw_aload_n dX8_room_0 rfl rfl ?_
    refine aw_iload_n dX8_room_1 rfl rfl ?_
    refine aw_callVF dX8_room_2 kX8_151 (m_oneN hr hv ei) (by first | assumption | rfl) rfl rfl rfl (Nat.le_of_ble_eq_true rfl) (Nat.le_of_ble_eq_true rfl) ?_
    dsimp only [Option.toList, List.cons_append, List.nil_append, Nat.reduceAdd]
    refine aw_if_eqN (tgt := 17) dX8_room_5 (by decide) (by omega) (fun _ => ?_) (fun q => absurd q (by omega))
    refine aw_iconst (v := nI 4294967295) dX8_room_17 (by decide) ?_
    refine aw_iret dX8_room_18 rfl (by first | rfl | exact (pk_charN (by omega)).1 | decide) ?_
    exact QM.same hr
  | some r =>
    obtain ⟨rfl, hi1, hi2⟩ := ix_s (by omega) (by omega) ei
    dsimp only
    cases ew : ix w 0 2 with
    | none =>
      refine aw_aload_n dX8_room_0 rfl rfl ?_
      refine aw_iload_n dX8_room_1 rfl rfl ?_
      refine aw_callVF dX8_room_2 kX8_151 (m_oneS hr hv ei) (by first | assumption | rfl) rfl rfl rfl (Nat.le_of_ble_eq_true rfl) (Nat.le_of_ble_eq_true rfl) ?_
      dsimp only [Option.toList, List.cons_append, List.nil_append, Nat.reduceAdd]
      refine aw_if_eqN (tgt := 17) dX8_room_5 (by decide) (by omega) (fun q => absurd q (by omega)) (fun _ => ?_)
      refine aw_iload_n dX8_room_8 rfl rfl ?_
      refine aw_iconst (v := nI 0) dX8_room_9 (by decide) ?_
      refine aw_iconst (v := nI 2) dX8_room_10 (by decide) ?_
      refine aw_callSF dX8_room_11 kX8_76 (m_iN ew) rfl rfl rfl (Nat.le_of_ble_eq_true rfl) (Nat.le_of_ble_eq_true rfl) ?_
      dsimp only [Option.toList, List.cons_append, List.nil_append, Nat.reduceAdd]
      refine aw_if_neN (tgt := 19) dX8_room_14 (by decide) (by omega) (fun q => absurd q (by omega)) (fun _ => ?_)
      refine aw_iconst (v := nI 4294967295) dX8_room_17 (by decide) ?_
      refine aw_iret dX8_room_18 rfl (by first | rfl | exact (pk_charN (by omega)).1 | decide) ?_
      exact QM.same hr
    | some w =>
      obtain ⟨rfl, hw1, hw2⟩ := ix_s (by omega) (by omega) ew
      have hin : r < xn X := by omega
      refine aw_aload_n dX8_room_0 rfl rfl ?_
      refine aw_iload_n dX8_room_1 rfl rfl ?_
      refine aw_callVF dX8_room_2 kX8_151 (m_oneS hr hv ei) (by first | assumption | rfl) rfl rfl rfl (Nat.le_of_ble_eq_true rfl) (Nat.le_of_ble_eq_true rfl) ?_
      dsimp only [Option.toList, List.cons_append, List.nil_append, Nat.reduceAdd]
      refine aw_if_eqN (tgt := 17) dX8_room_5 (by decide) (by omega) (fun q => absurd q (by omega)) (fun _ => ?_)
      refine aw_iload_n dX8_room_8 rfl rfl ?_
      refine aw_iconst (v := nI 0) dX8_room_9 (by decide) ?_
      refine aw_iconst (v := nI 2) dX8_room_10 (by decide) ?_
      refine aw_callSF dX8_room_11 kX8_76 (m_iS ew) rfl rfl rfl (Nat.le_of_ble_eq_true rfl) (Nat.le_of_ble_eq_true rfl) ?_
      dsimp only [Option.toList, List.cons_append, List.nil_append, Nat.reduceAdd]
      refine aw_if_neN (tgt := 19) dX8_room_14 (by decide) (by omega) (fun _ => ?_) (fun q => absurd q (by omega))
      refine aw_aload_n dX8_room_19 rfl rfl ?_
      refine aw_aload_n dX8_room_20 rfl rfl ?_
      refine aw_getR dX8_room_21 fX8_16 (by first | assumption | rfl) (by rfl) ?_
      refine aw_callV dX8_room_24 kX8_154 (m_fromX hr hv) (by first | assumption | rfl) rfl rfl rfl (Nat.le_of_ble_eq_true rfl) (Nat.le_of_ble_eq_true rfl) ?_
      rintro _ h2 ⟨rfl, w2, f2⟩
      dsimp only [Option.toList, List.cons_append, List.nil_append, Nat.reduceAdd]
      refine aw_iload_n dX8_room_27 rfl rfl ?_
      refine aw_iconst (v := nI 2) dX8_room_28 (by decide) ?_
      have z := w2.1.2 r hin
      rcases (show w = 0 ∨ w = 1 ∨ w = 2 by omega) with rfl | rfl | rfl
      · refine aw_icmp_neN (tgt := 40) dX8_room_29 (by decide) (by omega) (by omega) (fun _ => ?_) (fun q => absurd q (by omega))
        refine aw_aload_n dX8_room_40 rfl rfl ?_
        refine aw_getR dX8_room_41 fX8_13 (by first | assumption | rfl) (by rfl) ?_
        refine aw_iconst (v := nI 2) dX8_room_44 (by decide) ?_
        refine aw_iload_n dX8_room_45 rfl rfl ?_
        refine aw_imulN dX8_room_46 ?_
        refine aw_iload_n dX8_room_47 rfl rfl ?_
        refine aw_iaddN dX8_room_48 ?_
        refine aw_iaload dX8_room_49 (by first | assumption | rfl) (by omega) (by omega) ?_
        rw [show h2 69 (2 * r + 0) = sA (xS X) r from z.2.2.1]
        refine aw_iret dX8_room_50 rfl (by first | rfl | exact (pk_charN (by omega)).1 | decide) ?_
        exact QM.fr hr f2
      · refine aw_icmp_neN (tgt := 40) dX8_room_29 (by decide) (by omega) (by omega) (fun _ => ?_) (fun q => absurd q (by omega))
        refine aw_aload_n dX8_room_40 rfl rfl ?_
        refine aw_getR dX8_room_41 fX8_13 (by first | assumption | rfl) (by rfl) ?_
        refine aw_iconst (v := nI 2) dX8_room_44 (by decide) ?_
        refine aw_iload_n dX8_room_45 rfl rfl ?_
        refine aw_imulN dX8_room_46 ?_
        refine aw_iload_n dX8_room_47 rfl rfl ?_
        refine aw_iaddN dX8_room_48 ?_
        refine aw_iaload dX8_room_49 (by first | assumption | rfl) (by omega) (by omega) ?_
        rw [z.2.2.2]
        refine aw_iret dX8_room_50 rfl (by first | rfl | exact (pk_charN (by omega)).1 | decide) ?_
        exact QM.fr hr f2
      · refine aw_icmp_neN (tgt := 40) dX8_room_29 (by decide) (by omega) (by omega) (fun q => absurd q (by omega)) (fun _ => ?_)
        refine aw_aload_n dX8_room_32 rfl rfl ?_
        refine aw_iload_n dX8_room_33 rfl rfl ?_
        refine aw_callVF dX8_room_34 kX8_158 (m_whoseNow w2 hv.1 hv.2.1.2.1 hin) (by first | assumption | rfl) rfl rfl rfl (Nat.le_of_ble_eq_true rfl) (Nat.le_of_ble_eq_true rfl) ?_
        dsimp only [Option.toList, List.cons_append, List.nil_append, Nat.reduceAdd]
        refine aw_goto (tgt := 50) dX8_room_37 (by decide) ?_
        refine aw_iret dX8_room_50 rfl (by first | rfl | exact (pk_charN (by omega)).1 | decide) ?_
        exact QM.fr hr f2
theorem y_count {d : Nat} {h : Hp} {X : XS} {w : Int32} (hr : RM h X) (hv : VX X) : RT mX8_count (d + 6) [.ref 67, .int w] h (QM h X (a_count X w)) := by
  unfold a_count
  change AW mX8_count _ 0 [some (.ref 67), some (.int w)] [] h _
  cases ew : ix w 0 5 with
  | none =>
    have ho := ix_out (by omega) ew
    refine aw_iload_n dX8_count_0 rfl rfl ?_
    refine aw_tableOut (tgt := 72) dX8_count_1 (ho) (by decide) ?_
    refine aw_iconst (v := nI 4294967295) dX8_count_72 (by decide) ?_
    refine aw_iret dX8_count_73 rfl (by first | rfl | exact (pk_charN (by omega)).1 | decide) ?_
    exact QM.same hr
  | some w =>
    obtain ⟨rfl, hw1, hw2⟩ := ix_s (by omega) (by omega) ew
    rcases (show w = 0 ∨ w = 1 ∨ w = 2 ∨ w = 3 ∨ w = 4 ∨ w = 5 by omega) with rfl | rfl | rfl | rfl | rfl | rfl
    · refine aw_iload_n dX8_count_0 rfl rfl ?_
      refine aw_tableIn (off := 39) (tgt := 40) dX8_count_1 (by decide) (by decide) (by decide) (by decide) ?_
      refine aw_aload_n dX8_count_40 rfl rfl ?_
      refine aw_getI dX8_count_41 fX8_73 (by first | assumption | rfl) (by rfl) ?_
      rw [show h 67 0 = xn X from hr.1.1]
      refine aw_iret dX8_count_44 rfl (by first | rfl | exact (pk_charN (by omega)).1 | decide) ?_
      exact QM.same hr
    · refine aw_iload_n dX8_count_0 rfl rfl ?_
      refine aw_tableIn (off := 44) (tgt := 45) dX8_count_1 (by decide) (by decide) (by decide) (by decide) ?_
      refine aw_aload_n dX8_count_45 rfl rfl ?_
      refine aw_getR dX8_count_46 fX8_16 (by first | assumption | rfl) (by rfl) ?_
      refine aw_iconst (v := nI 0) dX8_count_49 (by decide) ?_
      refine aw_iaload dX8_count_50 (by first | assumption | rfl) (by omega) (by omega) ?_
      rw [show h 70 0 = (xC X).1 from hr.2.1.1]
      refine aw_iret dX8_count_51 rfl (by first | rfl | exact (pk_charN (by omega)).1 | decide) ?_
      exact QM.same hr
    · refine aw_iload_n dX8_count_0 rfl rfl ?_
      refine aw_tableIn (off := 51) (tgt := 52) dX8_count_1 (by decide) (by decide) (by decide) (by decide) ?_
      refine aw_aload_n dX8_count_52 rfl rfl ?_
      refine aw_getI dX8_count_53 fX8_124 (by first | assumption | rfl) (by rfl) ?_
      rw [hr.2.2.2.2.2.1.1]
      refine aw_iret dX8_count_56 rfl (by first | rfl | exact (pk_charN (by omega)).1 | decide) ?_
      exact QM.same hr
    · refine aw_iload_n dX8_count_0 rfl rfl ?_
      refine aw_tableIn (off := 56) (tgt := 57) dX8_count_1 (by decide) (by decide) (by decide) (by decide) ?_
      refine aw_aload_n dX8_count_57 rfl rfl ?_
      refine aw_getI dX8_count_58 fX8_118 (by first | assumption | rfl) (by rfl) ?_
      rw [hr.2.2.2.1.1]
      refine aw_iret dX8_count_61 rfl (by first | rfl | exact (pk_charN (by omega)).1 | decide) ?_
      exact QM.same hr
    · refine aw_iload_n dX8_count_0 rfl rfl ?_
      refine aw_tableIn (off := 61) (tgt := 62) dX8_count_1 (by decide) (by decide) (by decide) (by decide) ?_
      refine aw_aload_n dX8_count_62 rfl rfl ?_
      refine aw_getI dX8_count_63 fX8_121 (by first | assumption | rfl) (by rfl) ?_
      rw [hr.2.2.2.2.1.1]
      refine aw_iret dX8_count_66 rfl (by first | rfl | exact (pk_charN (by omega)).1 | decide) ?_
      exact QM.same hr
    · refine aw_iload_n dX8_count_0 rfl rfl ?_
      refine aw_tableIn (off := 66) (tgt := 67) dX8_count_1 (by decide) (by decide) (by decide) (by decide) ?_
      refine aw_aload_n dX8_count_67 rfl rfl ?_
      refine aw_getI dX8_count_68 fX8_80 (by first | assumption | rfl) (by rfl) ?_
      rw [hr.2.2.2.2.2.2.1]
      refine aw_iret dX8_count_71 rfl (by first | rfl | exact (pk_charN (by omega)).1 | decide) ?_
      exact QM.same hr
