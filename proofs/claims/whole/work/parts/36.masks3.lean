/-! the reference: way, register, foundling -/
theorem nI_w (x : Nat) : nI (x + 4294967296) = nI x := by
  rw [← nI_add, show nI 4294967296 = 0 by decide, Int32.add_zero]
theorem m_wayUp {d a r dd : Nat} {h : Hp} {X : XS} (hns : NS h (xS X) (xC X).2.1 (cL (xn X) (xC X)) dd (xC X).2.2) (hv : VX X) (ha : a < xn X) (hr : r < xn X) (hne : a ≠ r) : RT mX8_wayBy (d + 1) [.ref 67, .int (nI a), .int (nI r), .int (nI 1)] h (fun v h' => v = some (.int (nI (wyU X a r))) ∧ h' = h) := by
  have hn := hv.n
  have hpm := hv.2.1.2.1
  have e67 : h 67 0 = xn X := hns.1.1
  obtain ⟨m, hm⟩ : ∃ m, m = (r + xn X - a) % xn X := ⟨_, rfl⟩
  have hm1 : 1 ≤ m ∧ m < xn X ∧ (a + m = r ∨ a + m = r + xn X) := by
    rcases Nat.lt_or_ge r a with q | q
    · rw [hm, Nat.mod_eq_of_lt (by omega)]; omega
    · rw [hm, show r + xn X - a = (r - a) + xn X by omega, Nat.add_mod_right, Nat.mod_eq_of_lt (by omega)]; omega
  have hroom : ∀ j, 1 ≤ j → j ≤ m → ((a + j) % xn X = r ↔ j = m) := fun j h1 h2 => by
    rcases Nat.lt_or_ge (a + j) (xn X) with q | q
    · rw [Nat.mod_eq_of_lt q]; omega
    · rw [show a + j = (a + j - xn X) + xn X by omega, Nat.add_mod_right, Nat.mod_eq_of_lt (by omega)]; omega
  have loop : ∀ u j, j + u = m → 1 ≤ j → AW mX8_wayBy (d + 1) 18 [some (.ref 67), some (.int (nI a)), some (.int (nI r)), some (.int (nI 1)), some (.int (nI (wbS X a (j - 1)))), some (.int (nI ((a + j) % xn X)))] [] h (fun v h' => v = some (.int (nI (wyU X a r))) ∧ h' = h) := by
    intro u
    induction u with
    | zero =>
      intro j hj h1
      have ej : j = m := by omega
      have er := (hroom j h1 (by omega)).mpr ej
      refine aw_iload dX8_wayBy_18 rfl ?_
      refine aw_iload_n dX8_wayBy_20 rfl rfl ?_
      refine aw_icmp_eqN (tgt := 63) dX8_wayBy_21 (by decide) (by omega) (by omega) (fun _ => ?_) (fun q => absurd q (by omega))
      refine aw_iload dX8_wayBy_63 rfl ?_
      refine aw_iret dX8_wayBy_65 rfl (by first | rfl | exact (pk_charN (by omega)).1 | decide) ?_
      refine ⟨?_, rfl⟩
      unfold wyU
      rw [← hm, ej]
    | succ u ih =>
      intro j hj h1
      have hne2 : (a + j) % xn X ≠ r := fun z => by have := (hroom j h1 (by omega)).mp z; omega
      have hmod : (a + j) % xn X < xn X := Nat.mod_lt _ (by omega)
      have ho := own_lt hpm hmod
      have ew : h 68 (2 * own (xC X).2.2 ((a + j) % xn X) (sn (xS X)) 0 + 1) = sW (xS X) (own (xC X).2.2 ((a + j) % xn X) (xn X) 0) := (hns.1.2 _ ho).2.1
      have ho2 : own (xC X).2.2 ((a + j) % xn X) (sn (xS X)) 0 < xn X := ho
      refine aw_iload dX8_wayBy_18 rfl ?_
      refine aw_iload_n dX8_wayBy_20 rfl rfl ?_
      refine aw_icmp_eqN (tgt := 63) dX8_wayBy_21 (by decide) (by omega) (by omega) (fun q => absurd q (by omega)) (fun _ => ?_)
      refine aw_iload dX8_wayBy_24 rfl ?_
      refine aw_aload_n dX8_wayBy_26 rfl rfl ?_
      refine aw_getR dX8_wayBy_27 fX8_7 (by first | assumption | rfl) (by rfl) ?_
      refine aw_iconst (v := nI 2) dX8_wayBy_30 (by decide) ?_
      refine aw_aload_n dX8_wayBy_31 rfl rfl ?_
      refine aw_iload dX8_wayBy_32 rfl ?_
      refine aw_callVF dX8_wayBy_34 kX8_158 (m_whoseNow hns hv.1 hpm hmod) (by first | assumption | rfl) rfl rfl rfl (Nat.le_of_ble_eq_true rfl) (Nat.le_of_ble_eq_true rfl) ?_
      dsimp only [Option.toList, List.cons_append, List.nil_append, Nat.reduceAdd]
      refine aw_imulN dX8_wayBy_37 ?_
      refine aw_iconst (v := nI 1) dX8_wayBy_38 (by decide) ?_
      refine aw_iaddN dX8_wayBy_39 ?_
      refine aw_iaload dX8_wayBy_40 (by first | assumption | rfl) (by omega) (by omega) ?_
      rw [ew]
      refine aw_iaddN dX8_wayBy_41 ?_
      refine aw_istore dX8_wayBy_42 (Nat.le_of_ble_eq_true rfl) rfl ?_
      dsimp only [List.set]
      refine aw_iload dX8_wayBy_44 rfl ?_
      refine aw_iload_n dX8_wayBy_46 rfl rfl ?_
      refine aw_iaddN dX8_wayBy_47 ?_
      refine aw_aload_n dX8_wayBy_48 rfl rfl ?_
      refine aw_getI dX8_wayBy_49 fX8_73 (by first | assumption | rfl) (by rfl) ?_
      rw [e67]
      refine aw_iaddN dX8_wayBy_52 ?_
      refine aw_aload_n dX8_wayBy_53 rfl rfl ?_
      refine aw_getI dX8_wayBy_54 fX8_73 (by first | assumption | rfl) (by rfl) ?_
      rw [e67]
      refine aw_iremN dX8_wayBy_57 (by omega) (by omega) (by omega) ?_
      refine aw_istore dX8_wayBy_58 (Nat.le_of_ble_eq_true rfl) rfl ?_
      dsimp only [List.set]
      refine aw_goto (tgt := 18) dX8_wayBy_60 (by decide) ?_
      have e1 : ((a + j) % xn X + 1 + xn X) % xn X = (a + (j + 1)) % xn X := by
        rw [Nat.add_mod_right, Nat.mod_add_mod]
        rfl
      have e2 : wbS X a (j - 1) + sW (xS X) (own (xC X).2.2 ((a + j) % xn X) (xn X) 0) = wbS X a (j + 1 - 1) := by
        obtain ⟨j2, rfl⟩ : ∃ j2, j = j2 + 1 := ⟨j - 1, by omega⟩
        rfl
      rw [e1, e2]
      exact ih (j + 1) (by omega) (by omega)
  change AW mX8_wayBy _ 0 [some (.ref 67), some (.int (nI a)), some (.int (nI r)), some (.int (nI 1)), none, none] [] h _
  refine aw_iconst (v := nI 0) dX8_wayBy_0 (by decide) ?_
  refine aw_istore dX8_wayBy_1 (Nat.le_of_ble_eq_true rfl) rfl ?_
  dsimp only [List.set]
  refine aw_iload_n dX8_wayBy_3 rfl rfl ?_
  refine aw_iload_n dX8_wayBy_4 rfl rfl ?_
  refine aw_iaddN dX8_wayBy_5 ?_
  refine aw_aload_n dX8_wayBy_6 rfl rfl ?_
  refine aw_getI dX8_wayBy_7 fX8_73 (by first | assumption | rfl) (by rfl) ?_
  rw [e67]
  refine aw_iaddN dX8_wayBy_10 ?_
  refine aw_aload_n dX8_wayBy_11 rfl rfl ?_
  refine aw_getI dX8_wayBy_12 fX8_73 (by first | assumption | rfl) (by rfl) ?_
  rw [e67]
  refine aw_iremN dX8_wayBy_15 (by omega) (by omega) (by omega) ?_
  refine aw_istore dX8_wayBy_16 (Nat.le_of_ble_eq_true rfl) rfl ?_
  dsimp only [List.set]
  rw [Nat.add_mod_right]
  exact loop (m - 1) 1 (by omega) (by omega)
theorem m_wayDn {d a r dd : Nat} {h : Hp} {X : XS} (hns : NS h (xS X) (xC X).2.1 (cL (xn X) (xC X)) dd (xC X).2.2) (hv : VX X) (ha : a < xn X) (hr : r < xn X) (hne : a ≠ r) : RT mX8_wayBy (d + 1) [.ref 67, .int (nI a), .int (nI r), .int (nI 4294967295)] h (fun v h' => v = some (.int (nI (wyU X r a))) ∧ h' = h) := by
  have hn := hv.n
  have hpm := hv.2.1.2.1
  have e67 : h 67 0 = xn X := hns.1.1
  obtain ⟨m, hm⟩ : ∃ m, m = (a + xn X - r) % xn X := ⟨_, rfl⟩
  have hm1 : 1 ≤ m ∧ m < xn X ∧ (r + m = a ∨ r + m = a + xn X) := by
    rcases Nat.lt_or_ge a r with q | q
    · rw [hm, Nat.mod_eq_of_lt (by omega)]; omega
    · rw [hm, show a + xn X - r = (a - r) + xn X by omega, Nat.add_mod_right, Nat.mod_eq_of_lt (by omega)]; omega
  have hroom : ∀ j, j < m → ((r + j) % xn X = r ↔ j = 0) := fun j h1 => by
    rcases Nat.lt_or_ge (r + j) (xn X) with q | q
    · rw [Nat.mod_eq_of_lt q]; omega
    · rw [show r + j = (r + j - xn X) + xn X by omega, Nat.add_mod_right, Nat.mod_eq_of_lt (by omega)]; omega
  have dec : ∀ j, 1 ≤ j → j ≤ m → nI ((r + j) % xn X + 4294967295 + xn X) = nI ((r + j) % xn X + xn X - 1) ∧ ((r + j) % xn X + xn X - 1) % xn X = (r + (j - 1)) % xn X := fun j h1 h2 => by
    have hmod : (r + j) % xn X < xn X := Nat.mod_lt _ (by omega)
    refine ⟨by rw [show (r + j) % xn X + 4294967295 + xn X = ((r + j) % xn X + xn X - 1) + 4294967296 by omega, nI_w], ?_⟩
    rcases Nat.lt_or_ge (r + j) (xn X) with q | q
    · rw [Nat.mod_eq_of_lt q, show r + j + xn X - 1 = (r + (j - 1)) + xn X by omega, Nat.add_mod_right]
    · have e : (r + j) % xn X = r + j - xn X := by
        rw [show r + j = (r + j - xn X) + xn X by omega, Nat.add_mod_right, Nat.mod_eq_of_lt (by omega)]
        omega
      rw [e, show r + j - xn X + xn X - 1 = r + (j - 1) by omega]
  have loop : ∀ j s, j < m → s + wbS X r j = wyU X r a → AW mX8_wayBy (d + 1) 18 [some (.ref 67), some (.int (nI a)), some (.int (nI r)), some (.int (nI 4294967295)), some (.int (nI s)), some (.int (nI ((r + j) % xn X)))] [] h (fun v h' => v = some (.int (nI (wyU X r a))) ∧ h' = h) := by
    intro j
    induction j with
    | zero =>
      intro s hj hs
      have er := (hroom 0 hj).mpr rfl
      refine aw_iload dX8_wayBy_18 rfl ?_
      refine aw_iload_n dX8_wayBy_20 rfl rfl ?_
      refine aw_icmp_eqN (tgt := 63) dX8_wayBy_21 (by decide) (by omega) (by omega) (fun _ => ?_) (fun q => absurd q (by omega))
      refine aw_iload dX8_wayBy_63 rfl ?_
      refine aw_iret dX8_wayBy_65 rfl (by first | rfl | exact (pk_charN (by omega)).1 | decide) ?_
      refine ⟨?_, rfl⟩
      rw [← hs]
      rfl
    | succ j ih =>
      intro s hj hs
      have hne2 : (r + (j + 1)) % xn X ≠ r := fun z => by have := (hroom (j + 1) hj).mp z; omega
      have hmod : (r + (j + 1)) % xn X < xn X := Nat.mod_lt _ (by omega)
      have ho := own_lt hpm hmod
      have ew : h 68 (2 * own (xC X).2.2 ((r + (j + 1)) % xn X) (sn (xS X)) 0 + 1) = sW (xS X) (own (xC X).2.2 ((r + (j + 1)) % xn X) (xn X) 0) := (hns.1.2 _ ho).2.1
      have ho2 : own (xC X).2.2 ((r + (j + 1)) % xn X) (sn (xS X)) 0 < xn X := ho
      obtain ⟨d1, d2⟩ := dec (j + 1) (by omega) (by omega)
      refine aw_iload dX8_wayBy_18 rfl ?_
      refine aw_iload_n dX8_wayBy_20 rfl rfl ?_
      refine aw_icmp_eqN (tgt := 63) dX8_wayBy_21 (by decide) (by omega) (by omega) (fun q => absurd q (by omega)) (fun _ => ?_)
      refine aw_iload dX8_wayBy_24 rfl ?_
      refine aw_aload_n dX8_wayBy_26 rfl rfl ?_
      refine aw_getR dX8_wayBy_27 fX8_7 (by first | assumption | rfl) (by rfl) ?_
      refine aw_iconst (v := nI 2) dX8_wayBy_30 (by decide) ?_
      refine aw_aload_n dX8_wayBy_31 rfl rfl ?_
      refine aw_iload dX8_wayBy_32 rfl ?_
      refine aw_callVF dX8_wayBy_34 kX8_158 (m_whoseNow hns hv.1 hpm hmod) (by first | assumption | rfl) rfl rfl rfl (Nat.le_of_ble_eq_true rfl) (Nat.le_of_ble_eq_true rfl) ?_
      dsimp only [Option.toList, List.cons_append, List.nil_append, Nat.reduceAdd]
      refine aw_imulN dX8_wayBy_37 ?_
      refine aw_iconst (v := nI 1) dX8_wayBy_38 (by decide) ?_
      refine aw_iaddN dX8_wayBy_39 ?_
      refine aw_iaload dX8_wayBy_40 (by first | assumption | rfl) (by omega) (by omega) ?_
      rw [ew]
      refine aw_iaddN dX8_wayBy_41 ?_
      refine aw_istore dX8_wayBy_42 (Nat.le_of_ble_eq_true rfl) rfl ?_
      dsimp only [List.set]
      refine aw_iload dX8_wayBy_44 rfl ?_
      refine aw_iload_n dX8_wayBy_46 rfl rfl ?_
      refine aw_iaddN dX8_wayBy_47 ?_
      refine aw_aload_n dX8_wayBy_48 rfl rfl ?_
      refine aw_getI dX8_wayBy_49 fX8_73 (by first | assumption | rfl) (by rfl) ?_
      rw [e67]
      refine aw_iaddN dX8_wayBy_52 ?_
      refine aw_aload_n dX8_wayBy_53 rfl rfl ?_
      refine aw_getI dX8_wayBy_54 fX8_73 (by first | assumption | rfl) (by rfl) ?_
      rw [e67, d1]
      refine aw_iremN dX8_wayBy_57 (by omega) (by omega) (by omega) ?_
      refine aw_istore dX8_wayBy_58 (Nat.le_of_ble_eq_true rfl) rfl ?_
      dsimp only [List.set]
      refine aw_goto (tgt := 18) dX8_wayBy_60 (by decide) ?_
      rw [d2, Nat.add_sub_cancel]
      refine ih _ (by omega) ?_
      rw [← hs]
      show _ = s + (wbS X r j + sW (xS X) (own (xC X).2.2 ((r + (j + 1)) % xn X) (xn X) 0))
      omega
  have ea : a = (r + m) % xn X := by
    rcases hm1.2.2 with q | q
    · rw [q, Nat.mod_eq_of_lt ha]
    · rw [q, Nat.add_mod_right, Nat.mod_eq_of_lt ha]
  obtain ⟨d1, d2⟩ := dec m hm1.1 (Nat.le_refl _)
  rw [← ea] at d1 d2
  change AW mX8_wayBy _ 0 [some (.ref 67), some (.int (nI a)), some (.int (nI r)), some (.int (nI 4294967295)), none, none] [] h _
  refine aw_iconst (v := nI 0) dX8_wayBy_0 (by decide) ?_
  refine aw_istore dX8_wayBy_1 (Nat.le_of_ble_eq_true rfl) rfl ?_
  dsimp only [List.set]
  refine aw_iload_n dX8_wayBy_3 rfl rfl ?_
  refine aw_iload_n dX8_wayBy_4 rfl rfl ?_
  refine aw_iaddN dX8_wayBy_5 ?_
  refine aw_aload_n dX8_wayBy_6 rfl rfl ?_
  refine aw_getI dX8_wayBy_7 fX8_73 (by first | assumption | rfl) (by rfl) ?_
  rw [e67]
  refine aw_iaddN dX8_wayBy_10 ?_
  refine aw_aload_n dX8_wayBy_11 rfl rfl ?_
  refine aw_getI dX8_wayBy_12 fX8_73 (by first | assumption | rfl) (by rfl) ?_
  rw [e67, d1]
  refine aw_iremN dX8_wayBy_15 (by omega) (by omega) (by omega) ?_
  refine aw_istore dX8_wayBy_16 (Nat.le_of_ble_eq_true rfl) rfl ?_
  dsimp only [List.set]
  rw [d2]
  refine loop (m - 1) 0 (by omega) ?_
  rw [Nat.zero_add]
  unfold wyU
  rw [← hm]
theorem wyU_self {X : XS} (hv : VX X) (a : Nat) (ha : a < xn X) : wyU X a a = 0 := by
  unfold wyU
  rw [show a + xn X - a = xn X by omega, Nat.mod_self]
  rfl
theorem y_way {d : Nat} {h : Hp} {X : XS} {i r w : Int32} (hr : RM h X) (hv : VX X) : RT mX8_way (d + 6) [.ref 67, .int i, .int r, .int w] h (QM h X (a_way X i r w)) := by
  have hn := hv.n
  unfold a_way
  change AW mX8_way _ 0 [some (.ref 67), some (.int i), some (.int r), some (.int w), none, none, none] [] h _
  cases ei : ix i 0 (xn X - 1) with
  | none =>
    refine aw_aload_n dX8_way_0 rfl rfl ?_
    refine aw_iload_n dX8_way_1 rfl rfl ?_
    refine aw_callVF dX8_way_2 kX8_151 (m_oneN hr hv ei) (by first | assumption | rfl) rfl rfl rfl (Nat.le_of_ble_eq_true rfl) (Nat.le_of_ble_eq_true rfl) ?_
    dsimp only [Option.toList, List.cons_append, List.nil_append, Nat.reduceAdd]
    refine aw_if_eqN (tgt := 25) dX8_way_5 (by decide) (by omega) (fun _ => ?_) (fun q => absurd q (by omega))
    refine aw_iconst (v := nI 4294967295) dX8_way_25 (by decide) ?_
    refine aw_iret dX8_way_26 rfl (by first | rfl | exact (pk_charN (by omega)).1 | decide) ?_
    exact QM.same hr
  | some i =>
    obtain ⟨rfl, hi1, hi2⟩ := ix_s (by omega) (by omega) ei
    dsimp only
    cases er : ix r 0 (xn X - 1) with
    | none =>
      refine aw_aload_n dX8_way_0 rfl rfl ?_
      refine aw_iload_n dX8_way_1 rfl rfl ?_
      refine aw_callVF dX8_way_2 kX8_151 (m_oneS hr hv ei) (by first | assumption | rfl) rfl rfl rfl (Nat.le_of_ble_eq_true rfl) (Nat.le_of_ble_eq_true rfl) ?_
      dsimp only [Option.toList, List.cons_append, List.nil_append, Nat.reduceAdd]
      refine aw_if_eqN (tgt := 25) dX8_way_5 (by decide) (by omega) (fun q => absurd q (by omega)) (fun _ => ?_)
      refine aw_aload_n dX8_way_8 rfl rfl ?_
      refine aw_iload_n dX8_way_9 rfl rfl ?_
      refine aw_callVF dX8_way_10 kX8_151 (m_oneN hr hv er) (by first | assumption | rfl) rfl rfl rfl (Nat.le_of_ble_eq_true rfl) (Nat.le_of_ble_eq_true rfl) ?_
      dsimp only [Option.toList, List.cons_append, List.nil_append, Nat.reduceAdd]
      refine aw_if_eqN (tgt := 25) dX8_way_13 (by decide) (by omega) (fun _ => ?_) (fun q => absurd q (by omega))
      refine aw_iconst (v := nI 4294967295) dX8_way_25 (by decide) ?_
      refine aw_iret dX8_way_26 rfl (by first | rfl | exact (pk_charN (by omega)).1 | decide) ?_
      exact QM.same hr
    | some r =>
      obtain ⟨rfl, hr1, hr2⟩ := ix_s (by omega) (by omega) er
      dsimp only
      cases ew : ix w 0 1 with
      | none =>
        refine aw_aload_n dX8_way_0 rfl rfl ?_
        refine aw_iload_n dX8_way_1 rfl rfl ?_
        refine aw_callVF dX8_way_2 kX8_151 (m_oneS hr hv ei) (by first | assumption | rfl) rfl rfl rfl (Nat.le_of_ble_eq_true rfl) (Nat.le_of_ble_eq_true rfl) ?_
        dsimp only [Option.toList, List.cons_append, List.nil_append, Nat.reduceAdd]
        refine aw_if_eqN (tgt := 25) dX8_way_5 (by decide) (by omega) (fun q => absurd q (by omega)) (fun _ => ?_)
        refine aw_aload_n dX8_way_8 rfl rfl ?_
        refine aw_iload_n dX8_way_9 rfl rfl ?_
        refine aw_callVF dX8_way_10 kX8_151 (m_oneS hr hv er) (by first | assumption | rfl) rfl rfl rfl (Nat.le_of_ble_eq_true rfl) (Nat.le_of_ble_eq_true rfl) ?_
        dsimp only [Option.toList, List.cons_append, List.nil_append, Nat.reduceAdd]
        refine aw_if_eqN (tgt := 25) dX8_way_13 (by decide) (by omega) (fun q => absurd q (by omega)) (fun _ => ?_)
        refine aw_iload_n dX8_way_16 rfl rfl ?_
        refine aw_iconst (v := nI 0) dX8_way_17 (by decide) ?_
        refine aw_iconst (v := nI 1) dX8_way_18 (by decide) ?_
        refine aw_callSF dX8_way_19 kX8_76 (m_iN ew) rfl rfl rfl (Nat.le_of_ble_eq_true rfl) (Nat.le_of_ble_eq_true rfl) ?_
        dsimp only [Option.toList, List.cons_append, List.nil_append, Nat.reduceAdd]
        refine aw_if_neN (tgt := 27) dX8_way_22 (by decide) (by omega) (fun q => absurd q (by omega)) (fun _ => ?_)
        refine aw_iconst (v := nI 4294967295) dX8_way_25 (by decide) ?_
        refine aw_iret dX8_way_26 rfl (by first | rfl | exact (pk_charN (by omega)).1 | decide) ?_
        exact QM.same hr
      | some w =>
        obtain ⟨rfl, hw1, hw2⟩ := ix_s (by omega) (by omega) ew
        dsimp only
        have hin : i < xn X := by omega
        have hrn : r < xn X := by omega
        have hfi := hv.2.1.2.1.1 i hin
        refine aw_aload_n dX8_way_0 rfl rfl ?_
        refine aw_iload_n dX8_way_1 rfl rfl ?_
        refine aw_callVF dX8_way_2 kX8_151 (m_oneS hr hv ei) (by first | assumption | rfl) rfl rfl rfl (Nat.le_of_ble_eq_true rfl) (Nat.le_of_ble_eq_true rfl) ?_
        dsimp only [Option.toList, List.cons_append, List.nil_append, Nat.reduceAdd]
        refine aw_if_eqN (tgt := 25) dX8_way_5 (by decide) (by omega) (fun q => absurd q (by omega)) (fun _ => ?_)
        refine aw_aload_n dX8_way_8 rfl rfl ?_
        refine aw_iload_n dX8_way_9 rfl rfl ?_
        refine aw_callVF dX8_way_10 kX8_151 (m_oneS hr hv er) (by first | assumption | rfl) rfl rfl rfl (Nat.le_of_ble_eq_true rfl) (Nat.le_of_ble_eq_true rfl) ?_
        dsimp only [Option.toList, List.cons_append, List.nil_append, Nat.reduceAdd]
        refine aw_if_eqN (tgt := 25) dX8_way_13 (by decide) (by omega) (fun q => absurd q (by omega)) (fun _ => ?_)
        refine aw_iload_n dX8_way_16 rfl rfl ?_
        refine aw_iconst (v := nI 0) dX8_way_17 (by decide) ?_
        refine aw_iconst (v := nI 1) dX8_way_18 (by decide) ?_
        refine aw_callSF dX8_way_19 kX8_76 (m_iS ew) rfl rfl rfl (Nat.le_of_ble_eq_true rfl) (Nat.le_of_ble_eq_true rfl) ?_
        dsimp only [Option.toList, List.cons_append, List.nil_append, Nat.reduceAdd]
        refine aw_if_neN (tgt := 27) dX8_way_22 (by decide) (by omega) (fun _ => ?_) (fun q => absurd q (by omega))
        refine aw_aload_n dX8_way_27 rfl rfl ?_
        refine aw_aload_n dX8_way_28 rfl rfl ?_
        refine aw_getR dX8_way_29 fX8_16 (by first | assumption | rfl) (by rfl) ?_
        refine aw_callV dX8_way_32 kX8_154 (m_fromX hr hv) (by first | assumption | rfl) rfl rfl rfl (Nat.le_of_ble_eq_true rfl) (Nat.le_of_ble_eq_true rfl) ?_
        rintro _ h2 ⟨rfl, w2, f2⟩
        dsimp only [Option.toList, List.cons_append, List.nil_append, Nat.reduceAdd]
        refine aw_aload_n dX8_way_35 rfl rfl ?_
        refine aw_getR dX8_way_36 fX8_16 (by first | assumption | rfl) (by rfl) ?_
        refine aw_iconst (v := nI 1) dX8_way_39 (by decide) ?_
        refine aw_iload_n dX8_way_40 rfl rfl ?_
        refine aw_iaddN dX8_way_41 ?_
        refine aw_iaload dX8_way_42 (by first | assumption | rfl) (by omega) (by omega) ?_
        have e70 : h2 70 (1 + i) = (xC X).2.2 i := by
          have q := ((hr.fr f2).2.1.2 i hin).1
          rw [Nat.zero_add] at q
          exact q
        rw [e70]
        generalize (xC X).2.2 i = a at hfi ⊢
        have fin : ∀ up dn, up = wyU X a r → dn = wyU X r a → AW mX8_way (d + 6) 85 [some (.ref 67), some (.int (nI i)), some (.int (nI r)), some (.int (nI w)), some (.int (nI a)), some (.int (nI up)), some (.int (nI dn))] [] h2 (QM h X (nI (if w = 0 then min (wyU X a r) (wyU X r a) else if wyU X r a < wyU X a r then 1 else 0))) := by
          rintro up dn rfl rfl
          have u1 := wyU_lt hv (a := a) (r := r)
          have u2 := wyU_lt hv (a := r) (r := a)
          rcases (show w = 0 ∨ w = 1 by omega) with rfl | rfl
          · rw [if_pos rfl]
            refine aw_iload_n dX8_way_85 rfl rfl ?_
            refine aw_iconst (v := nI 1) dX8_way_86 (by decide) ?_
            refine aw_icmp_neN (tgt := 105) dX8_way_87 (by decide) (by omega) (by omega) (fun _ => ?_) (fun q => absurd q (by omega))
            refine aw_iload dX8_way_105 rfl ?_
            refine aw_iload dX8_way_107 rfl ?_
            refine aw_icmp_geN (tgt := 117) dX8_way_109 (by decide) (by omega) (by omega) (fun c109 => ?_) (fun c109 => ?_)
            · rw [Nat.min_eq_left (by omega)]
              refine aw_iload dX8_way_117 rfl ?_
              refine aw_iret dX8_way_119 rfl (by first | rfl | exact (pk_charN (by omega)).1 | decide) ?_
              exact QM.fr hr f2
            · rw [Nat.min_eq_right (by omega)]
              refine aw_iload dX8_way_112 rfl ?_
              refine aw_goto (tgt := 119) dX8_way_114 (by decide) ?_
              refine aw_iret dX8_way_119 rfl (by first | rfl | exact (pk_charN (by omega)).1 | decide) ?_
              exact QM.fr hr f2
          · rw [if_neg (by decide)]
            refine aw_iload_n dX8_way_85 rfl rfl ?_
            refine aw_iconst (v := nI 1) dX8_way_86 (by decide) ?_
            refine aw_icmp_neN (tgt := 105) dX8_way_87 (by decide) (by omega) (by omega) (fun q => absurd q (by omega)) (fun _ => ?_)
            refine aw_iload dX8_way_90 rfl ?_
            refine aw_iload dX8_way_92 rfl ?_
            refine aw_icmp_geN (tgt := 101) dX8_way_94 (by decide) (by omega) (by omega) (fun c94 => ?_) (fun c94 => ?_)
            · rw [if_neg (by omega)]
              refine aw_iconst (v := nI 0) dX8_way_101 (by decide) ?_
              refine aw_goto (tgt := 119) dX8_way_102 (by decide) ?_
              refine aw_iret dX8_way_119 rfl (by first | rfl | exact (pk_charN (by omega)).1 | decide) ?_
              exact QM.fr hr f2
            · rw [if_pos (by omega)]
              refine aw_iconst (v := nI 1) dX8_way_97 (by decide) ?_
              refine aw_goto (tgt := 119) dX8_way_98 (by decide) ?_
              refine aw_iret dX8_way_119 rfl (by first | rfl | exact (pk_charN (by omega)).1 | decide) ?_
              exact QM.fr hr f2
        by_cases hq : a = r
        · subst hq
          refine aw_istore dX8_way_43 (Nat.le_of_ble_eq_true rfl) rfl ?_
          dsimp only [List.set]
          refine aw_iload dX8_way_45 rfl ?_
          refine aw_iload_n dX8_way_47 rfl rfl ?_
          refine aw_icmp_neN (tgt := 55) dX8_way_48 (by decide) (by omega) (by omega) (fun q => absurd q (by omega)) (fun _ => ?_)
          refine aw_iconst (v := nI 0) dX8_way_51 (by decide) ?_
          refine aw_goto (tgt := 63) dX8_way_52 (by decide) ?_
          refine aw_istore dX8_way_63 (Nat.le_of_ble_eq_true rfl) rfl ?_
          dsimp only [List.set]
          refine aw_iload dX8_way_65 rfl ?_
          refine aw_iload_n dX8_way_67 rfl rfl ?_
          refine aw_icmp_neN (tgt := 75) dX8_way_68 (by decide) (by omega) (by omega) (fun q => absurd q (by omega)) (fun _ => ?_)
          refine aw_iconst (v := nI 0) dX8_way_71 (by decide) ?_
          refine aw_goto (tgt := 83) dX8_way_72 (by decide) ?_
          refine aw_istore dX8_way_83 (Nat.le_of_ble_eq_true rfl) rfl ?_
          dsimp only [List.set]
          exact fin 0 0 (wyU_self hv a hfi).symm (wyU_self hv a hfi).symm
        · refine aw_istore dX8_way_43 (Nat.le_of_ble_eq_true rfl) rfl ?_
          dsimp only [List.set]
          refine aw_iload dX8_way_45 rfl ?_
          refine aw_iload_n dX8_way_47 rfl rfl ?_
          refine aw_icmp_neN (tgt := 55) dX8_way_48 (by decide) (by omega) (by omega) (fun _ => ?_) (fun q => absurd q (by omega))
          refine aw_aload_n dX8_way_55 rfl rfl ?_
          refine aw_iload dX8_way_56 rfl ?_
          refine aw_iload_n dX8_way_58 rfl rfl ?_
          refine aw_iconst (v := nI 1) dX8_way_59 (by decide) ?_
          refine aw_callVF dX8_way_60 kX8_190 (m_wayUp w2 hv hfi hrn hq) (by first | assumption | rfl) rfl rfl rfl (Nat.le_of_ble_eq_true rfl) (Nat.le_of_ble_eq_true rfl) ?_
          dsimp only [Option.toList, List.cons_append, List.nil_append, Nat.reduceAdd]
          refine aw_istore dX8_way_63 (Nat.le_of_ble_eq_true rfl) rfl ?_
          dsimp only [List.set]
          refine aw_iload dX8_way_65 rfl ?_
          refine aw_iload_n dX8_way_67 rfl rfl ?_
          refine aw_icmp_neN (tgt := 75) dX8_way_68 (by decide) (by omega) (by omega) (fun _ => ?_) (fun q => absurd q (by omega))
          refine aw_aload_n dX8_way_75 rfl rfl ?_
          refine aw_iload dX8_way_76 rfl ?_
          refine aw_iload_n dX8_way_78 rfl rfl ?_
          refine aw_iconst (v := nI 4294967295) dX8_way_79 (by decide) ?_
          refine aw_callVF dX8_way_80 kX8_190 (m_wayDn w2 hv hfi hrn hq) (by first | assumption | rfl) rfl rfl rfl (Nat.le_of_ble_eq_true rfl) (Nat.le_of_ble_eq_true rfl) ?_
          dsimp only [Option.toList, List.cons_append, List.nil_append, Nat.reduceAdd]
          refine aw_istore dX8_way_83 (Nat.le_of_ble_eq_true rfl) rfl ?_
          dsimp only [List.set]
          exact fin _ _ rfl rfl
/-- the walk with another birthday, begun -/
theorem m_other {x i : Nat} {h : Hp} {S : Hs} {b L f : Nat → Nat} {dd : Nat} (hns : NS h S b L dd f) (hS : HsOk S) (hi : i < sn S) (hb : ∀ j, j < sn S → b j < 60) (hx : x < 60) : HM (hw h 80 (9 + i) x) S ∧ hw h 80 (9 + i) x 80 0 = dd ∧ (∀ j, j < sn S → hw h 80 (9 + i) x 80 (1 + j) = f j ∧ hw h 80 (9 + i) x 80 (9 + j) = fu b i x j ∧ fu b i x j < 60) ∧ F81 h (hw h 80 (9 + i) x) := by
  have h38 := hS.2.1
  obtain ⟨x1, x2, x3⟩ := hns
  have ff : F81 h (hw h 80 (9 + i) x) := fun o p _ => hw_ne p
  refine ⟨x1.fr ff, by rw [hw_at, if_neg (by omega)]; exact x2, fun j hj => ⟨by rw [hw_at, if_neg (by omega)]; exact (x3 j hj).1, ?_, ?_⟩, ff⟩
  · rw [hw_at]
    unfold fu
    by_cases q : j = i
    · rw [if_pos (by omega), if_pos q]
    · rw [if_neg (by omega), if_neg q]; exact (x3 j hj).2.1
  · unfold fu
    split
    · exact hx
    · exact hb j hj
theorem y_foundling {d : Nat} {h : Hp} {X : XS} {i r t p : Int32} (hr : RM h X) (hv : VX X) : RT mX8_foundling (d + 7) [.ref 67, .int i, .int r, .int t, .int p] h (QM h X (a_foundling X i r t p)) := by
  have hn := hv.n
  have hS := hv.1
  have hc1 := hv.2.1.1
  unfold a_foundling
  change AW mX8_foundling _ 0 [some (.ref 67), some (.int i), some (.int r), some (.int t), some (.int p), none, none, none, none] [] h _
  cases ei : ix i 0 (xn X - 1) with
  | none =>
    refine aw_aload_n dX8_foundling_0 rfl rfl ?_
    refine aw_iload_n dX8_foundling_1 rfl rfl ?_
    refine aw_callVF dX8_foundling_2 kX8_151 (m_oneN hr hv ei) (by first | assumption | rfl) rfl rfl rfl (Nat.le_of_ble_eq_true rfl) (Nat.le_of_ble_eq_true rfl) ?_
    dsimp only [Option.toList, List.cons_append, List.nil_append, Nat.reduceAdd]
    refine aw_if_eqN (tgt := 36) dX8_foundling_5 (by decide) (by omega) (fun _ => ?_) (fun q => absurd q (by omega))
    refine aw_iconst (v := nI 4294967295) dX8_foundling_36 (by decide) ?_
    refine aw_iret dX8_foundling_37 rfl (by first | rfl | exact (pk_charN (by omega)).1 | decide) ?_
    exact QM.same hr
  | some i =>
    obtain ⟨rfl, hi1, hi2⟩ := ix_s (by omega) (by omega) ei
    dsimp only
    cases er : ix r 0 (xn X - 1) with
    | none =>
      refine aw_aload_n dX8_foundling_0 rfl rfl ?_
      refine aw_iload_n dX8_foundling_1 rfl rfl ?_
      refine aw_callVF dX8_foundling_2 kX8_151 (m_oneS hr hv ei) (by first | assumption | rfl) rfl rfl rfl (Nat.le_of_ble_eq_true rfl) (Nat.le_of_ble_eq_true rfl) ?_
      dsimp only [Option.toList, List.cons_append, List.nil_append, Nat.reduceAdd]
      refine aw_if_eqN (tgt := 36) dX8_foundling_5 (by decide) (by omega) (fun q => absurd q (by omega)) (fun _ => ?_)
      refine aw_aload_n dX8_foundling_8 rfl rfl ?_
      refine aw_iload_n dX8_foundling_9 rfl rfl ?_
      refine aw_callVF dX8_foundling_10 kX8_151 (m_oneN hr hv er) (by first | assumption | rfl) rfl rfl rfl (Nat.le_of_ble_eq_true rfl) (Nat.le_of_ble_eq_true rfl) ?_
      dsimp only [Option.toList, List.cons_append, List.nil_append, Nat.reduceAdd]
      refine aw_if_eqN (tgt := 36) dX8_foundling_13 (by decide) (by omega) (fun _ => ?_) (fun q => absurd q (by omega))
      refine aw_iconst (v := nI 4294967295) dX8_foundling_36 (by decide) ?_
      refine aw_iret dX8_foundling_37 rfl (by first | rfl | exact (pk_charN (by omega)).1 | decide) ?_
      exact QM.same hr
    | some r =>
      obtain ⟨rfl, hr1, hr2⟩ := ix_s (by omega) (by omega) er
      dsimp only
      cases et : ix t 0 120 with
      | none =>
        refine aw_aload_n dX8_foundling_0 rfl rfl ?_
        refine aw_iload_n dX8_foundling_1 rfl rfl ?_
        refine aw_callVF dX8_foundling_2 kX8_151 (m_oneS hr hv ei) (by first | assumption | rfl) rfl rfl rfl (Nat.le_of_ble_eq_true rfl) (Nat.le_of_ble_eq_true rfl) ?_
        dsimp only [Option.toList, List.cons_append, List.nil_append, Nat.reduceAdd]
        refine aw_if_eqN (tgt := 36) dX8_foundling_5 (by decide) (by omega) (fun q => absurd q (by omega)) (fun _ => ?_)
        refine aw_aload_n dX8_foundling_8 rfl rfl ?_
        refine aw_iload_n dX8_foundling_9 rfl rfl ?_
        refine aw_callVF dX8_foundling_10 kX8_151 (m_oneS hr hv er) (by first | assumption | rfl) rfl rfl rfl (Nat.le_of_ble_eq_true rfl) (Nat.le_of_ble_eq_true rfl) ?_
        dsimp only [Option.toList, List.cons_append, List.nil_append, Nat.reduceAdd]
        refine aw_if_eqN (tgt := 36) dX8_foundling_13 (by decide) (by omega) (fun q => absurd q (by omega)) (fun _ => ?_)
        refine aw_iload_n dX8_foundling_16 rfl rfl ?_
        refine aw_iconst (v := nI 0) dX8_foundling_17 (by decide) ?_
        refine aw_bipush (v := nI 120) dX8_foundling_18 (by decide) ?_
        refine aw_callSF dX8_foundling_20 kX8_76 (m_iN et) rfl rfl rfl (Nat.le_of_ble_eq_true rfl) (Nat.le_of_ble_eq_true rfl) ?_
        dsimp only [Option.toList, List.cons_append, List.nil_append, Nat.reduceAdd]
        refine aw_if_eqN (tgt := 36) dX8_foundling_23 (by decide) (by omega) (fun _ => ?_) (fun q => absurd q (by omega))
        refine aw_iconst (v := nI 4294967295) dX8_foundling_36 (by decide) ?_
        refine aw_iret dX8_foundling_37 rfl (by first | rfl | exact (pk_charN (by omega)).1 | decide) ?_
        exact QM.same hr
      | some t =>
        obtain ⟨rfl, ht1, ht2⟩ := ix_s (by omega) (by omega) et
        dsimp only
        cases ep : ix p 0 1 with
        | none =>
          refine aw_aload_n dX8_foundling_0 rfl rfl ?_
          refine aw_iload_n dX8_foundling_1 rfl rfl ?_
          refine aw_callVF dX8_foundling_2 kX8_151 (m_oneS hr hv ei) (by first | assumption | rfl) rfl rfl rfl (Nat.le_of_ble_eq_true rfl) (Nat.le_of_ble_eq_true rfl) ?_
          dsimp only [Option.toList, List.cons_append, List.nil_append, Nat.reduceAdd]
          refine aw_if_eqN (tgt := 36) dX8_foundling_5 (by decide) (by omega) (fun q => absurd q (by omega)) (fun _ => ?_)
          refine aw_aload_n dX8_foundling_8 rfl rfl ?_
          refine aw_iload_n dX8_foundling_9 rfl rfl ?_
          refine aw_callVF dX8_foundling_10 kX8_151 (m_oneS hr hv er) (by first | assumption | rfl) rfl rfl rfl (Nat.le_of_ble_eq_true rfl) (Nat.le_of_ble_eq_true rfl) ?_
          dsimp only [Option.toList, List.cons_append, List.nil_append, Nat.reduceAdd]
          refine aw_if_eqN (tgt := 36) dX8_foundling_13 (by decide) (by omega) (fun q => absurd q (by omega)) (fun _ => ?_)
          refine aw_iload_n dX8_foundling_16 rfl rfl ?_
          refine aw_iconst (v := nI 0) dX8_foundling_17 (by decide) ?_
          refine aw_bipush (v := nI 120) dX8_foundling_18 (by decide) ?_
          refine aw_callSF dX8_foundling_20 kX8_76 (m_iS et) rfl rfl rfl (Nat.le_of_ble_eq_true rfl) (Nat.le_of_ble_eq_true rfl) ?_
          dsimp only [Option.toList, List.cons_append, List.nil_append, Nat.reduceAdd]
          refine aw_if_eqN (tgt := 36) dX8_foundling_23 (by decide) (by omega) (fun q => absurd q (by omega)) (fun _ => ?_)
          refine aw_iload dX8_foundling_26 rfl ?_
          refine aw_iconst (v := nI 0) dX8_foundling_28 (by decide) ?_
          refine aw_iconst (v := nI 1) dX8_foundling_29 (by decide) ?_
          refine aw_callSF dX8_foundling_30 kX8_76 (m_iN ep) rfl rfl rfl (Nat.le_of_ble_eq_true rfl) (Nat.le_of_ble_eq_true rfl) ?_
          dsimp only [Option.toList, List.cons_append, List.nil_append, Nat.reduceAdd]
          refine aw_if_neN (tgt := 38) dX8_foundling_33 (by decide) (by omega) (fun q => absurd q (by omega)) (fun _ => ?_)
          refine aw_iconst (v := nI 4294967295) dX8_foundling_36 (by decide) ?_
          refine aw_iret dX8_foundling_37 rfl (by first | rfl | exact (pk_charN (by omega)).1 | decide) ?_
          exact QM.same hr
        | some p =>
          obtain ⟨rfl, hp1, hp2⟩ := ix_s (by omega) (by omega) ep
          dsimp only
          have hin : i < xn X := by omega
          have gcd : ∀ b a y hh, F81 h hh → y ≤ 60 → a ≤ 60 → b ≤ 60 → 1 ≤ Nat.gcd a b → Nat.gcd a b = Nat.gcd 60 y → AW mX8_foundling (d + 7) 117 [some (.ref 67), some (.int (nI i)), some (.int (nI r)), some (.int (nI t)), some (.int (nI p)), some (.int (nI y)), some (.int (nI a)), some (.int (nI b)), none] [] hh (QM h X (nI ((if p = 0 then y else 60) / Nat.gcd 60 y))) := by
            intro b
            induction b using Nat.strongRecOn with
            | ind b ih =>
              intro a y hh hg hy ha hb h1 he
              by_cases hb0 : b = 0
              · subst hb0
                rw [Nat.gcd_zero_right] at h1 he
                rw [← he]
                rcases (show p = 0 ∨ p = 1 by omega) with rfl | rfl
                · refine aw_iload dX8_foundling_117 rfl ?_
                  refine aw_if_leN (tgt := 140) dX8_foundling_119 (by decide) (by omega) (fun _ => ?_) (fun q => absurd q (by omega))
                  refine aw_iload dX8_foundling_140 rfl ?_
                  refine aw_if_neN (tgt := 150) dX8_foundling_142 (by decide) (by omega) (fun q => absurd q (by omega)) (fun _ => ?_)
                  refine aw_iload dX8_foundling_145 rfl ?_
                  refine aw_goto (tgt := 152) dX8_foundling_147 (by decide) ?_
                  refine aw_iload dX8_foundling_152 rfl ?_
                  refine aw_idivN dX8_foundling_154 (by omega) (by omega) (by omega) ?_
                  refine aw_iret dX8_foundling_155 rfl (by first | rfl | exact (pk_charN (by omega)).1 | decide) ?_
                  exact QM.fr hr hg
                · refine aw_iload dX8_foundling_117 rfl ?_
                  refine aw_if_leN (tgt := 140) dX8_foundling_119 (by decide) (by omega) (fun _ => ?_) (fun q => absurd q (by omega))
                  refine aw_iload dX8_foundling_140 rfl ?_
                  refine aw_if_neN (tgt := 150) dX8_foundling_142 (by decide) (by omega) (fun _ => ?_) (fun q => absurd q (by omega))
                  refine aw_bipush (v := nI 60) dX8_foundling_150 (by decide) ?_
                  refine aw_iload dX8_foundling_152 rfl ?_
                  refine aw_idivN dX8_foundling_154 (by omega) (by omega) (by omega) ?_
                  refine aw_iret dX8_foundling_155 rfl (by first | rfl | exact (pk_charN (by omega)).1 | decide) ?_
                  exact QM.fr hr hg
              · have hlt : a % b < b := Nat.mod_lt _ (by omega)
                have e : Nat.gcd a b = Nat.gcd b (a % b) := by rw [Nat.gcd_comm a b, Nat.gcd_rec b a, Nat.gcd_comm]
                refine aw_iload dX8_foundling_117 rfl ?_
                refine aw_if_leN (tgt := 140) dX8_foundling_119 (by decide) (by omega) (fun q => absurd q (by omega)) (fun _ => ?_)
                refine aw_iload dX8_foundling_122 rfl ?_
                refine aw_iload dX8_foundling_124 rfl ?_
                refine aw_iremN dX8_foundling_126 (by omega) (by omega) (by omega) ?_
                refine aw_istore dX8_foundling_127 (Nat.le_of_ble_eq_true rfl) rfl ?_
                dsimp only [List.set]
                refine aw_iload dX8_foundling_129 rfl ?_
                refine aw_istore dX8_foundling_131 (Nat.le_of_ble_eq_true rfl) rfl ?_
                dsimp only [List.set]
                refine aw_iload dX8_foundling_133 rfl ?_
                refine aw_istore dX8_foundling_135 (Nat.le_of_ble_eq_true rfl) rfl ?_
                dsimp only [List.set]
                refine aw_goto (tgt := 117) dX8_foundling_137 (by decide) ?_
                refine aw_forget 8 ?_
                dsimp only [List.set]
                exact ih (a % b) hlt b y hh hg hy hb (by omega) (by rw [← e]; exact h1) (by rw [← e]; exact he)
          have loop : ∀ u x hh, x + u = 60 → F81 h hh → AW mX8_foundling (d + 7) 44 [some (.ref 67), some (.int (nI i)), some (.int (nI r)), some (.int (nI t)), some (.int (nI p)), some (.int (nI (fnS X i r (t + 1) x))), some (.int (nI x)), none, none] [] hh (QM h X (nI ((if p = 0 then fnS X i r (t + 1) 60 else 60) / Nat.gcd 60 (fnS X i r (t + 1) 60)))) := by
            intro u
            induction u with
            | zero =>
              intro x hh hx hg
              have ex : x = 60 := by omega
              subst ex
              have hle := fnS_le (X := X) (i := i) (r := r) (t := t + 1) 60
              generalize fnS X i r (t + 1) 60 = y at hle ⊢
              refine aw_iload dX8_foundling_44 rfl ?_
              refine aw_bipush (v := nI 60) dX8_foundling_46 (by decide) ?_
              refine aw_icmp_geN (tgt := 109) dX8_foundling_48 (by decide) (by omega) (by omega) (fun _ => ?_) (fun q => absurd q (by omega))
              refine aw_iload dX8_foundling_109 rfl ?_
              refine aw_istore dX8_foundling_111 (Nat.le_of_ble_eq_true rfl) rfl ?_
              dsimp only [List.set]
              refine aw_bipush (v := nI 60) dX8_foundling_113 (by decide) ?_
              refine aw_istore dX8_foundling_115 (Nat.le_of_ble_eq_true rfl) rfl ?_
              dsimp only [List.set]
              exact gcd 60 y y hh hg hle hle (by omega) (Nat.gcd_pos_of_pos_right _ (by decide)) (Nat.gcd_comm _ _)
            | succ u ih =>
              intro x hh hx hg
              have r2 := hr.fr hg
              refine aw_iload dX8_foundling_44 rfl ?_
              refine aw_bipush (v := nI 60) dX8_foundling_46 (by decide) ?_
              refine aw_icmp_geN (tgt := 109) dX8_foundling_48 (by decide) (by omega) (by omega) (fun q => absurd q (by omega)) (fun _ => ?_)
              refine aw_aload_n dX8_foundling_51 rfl rfl ?_
              refine aw_aload_n dX8_foundling_52 rfl rfl ?_
              refine aw_getR dX8_foundling_53 fX8_16 (by first | assumption | rfl) (by rfl) ?_
              refine aw_callV dX8_foundling_56 kX8_154 (m_fromX r2 hv) (by first | assumption | rfl) rfl rfl rfl (Nat.le_of_ble_eq_true rfl) (Nat.le_of_ble_eq_true rfl) ?_
              rintro _ h3 ⟨rfl, w3, f3⟩
              dsimp only [Option.toList, List.cons_append, List.nil_append, Nat.reduceAdd]
              refine aw_aload_n dX8_foundling_59 rfl rfl ?_
              refine aw_getR dX8_foundling_60 fX8_46 (by first | assumption | rfl) (by rfl) ?_
              refine aw_bipush (v := nI 9) dX8_foundling_63 (by decide) ?_
              refine aw_iload_n dX8_foundling_65 rfl rfl ?_
              refine aw_iaddN dX8_foundling_66 ?_
              refine aw_iload dX8_foundling_67 rfl ?_
              refine aw_iastore dX8_foundling_69 (by first | assumption | rfl) (by omega) (by omega) ?_
              refine aw_aload_n dX8_foundling_70 rfl rfl ?_
              obtain ⟨o1, o2, o3, o4⟩ := m_other (x := x) w3 hS hin hv.2.1.2.2 (by omega)
              refine aw_callV dX8_foundling_71 kX8_127 (m_findList o1 hS o2 o3) (by first | assumption | rfl) rfl rfl rfl (Nat.le_of_ble_eq_true rfl) (Nat.le_of_ble_eq_true rfl) ?_
              rintro _ h4 ⟨rfl, w4, f4⟩
              dsimp only [Option.toList, List.cons_append, List.nil_append, Nat.reduceAdd]
              refine aw_aload_n dX8_foundling_74 rfl rfl ?_
              refine aw_iload_n dX8_foundling_75 rfl rfl ?_
              refine aw_iconst (v := nI 1) dX8_foundling_76 (by decide) ?_
              refine aw_iaddN dX8_foundling_77 ?_
              have hok2 : WO (xS X) (fu (xC X).2.1 i x) (lsB (xn X) (fu (xC X).2.1 i x)) := WO_ls hS (fun j hj => (o3 j hj).2.2)
              have g4 : F81 h h4 := ((hg.trans f3).trans o4).trans (fun o p q => f4 o q)
              refine aw_callV dX8_foundling_78 kX8_164 (m_goesOn w4 hok2 hv.2.1.2.1 (by omega)) (by first | assumption | rfl) rfl rfl rfl (Nat.le_of_ble_eq_true rfl) (Nat.le_of_ble_eq_true rfl) ?_
              rintro _ h5 ⟨rfl, w5, f5⟩
              dsimp only [Option.toList, List.cons_append, List.nil_append, Nat.reduceAdd]
              refine aw_iload dX8_foundling_81 rfl ?_
              refine aw_aload_n dX8_foundling_83 rfl rfl ?_
              refine aw_getR dX8_foundling_84 fX8_46 (by first | assumption | rfl) (by rfl) ?_
              refine aw_iconst (v := nI 1) dX8_foundling_87 (by decide) ?_
              refine aw_iload_n dX8_foundling_88 rfl rfl ?_
              refine aw_iaddN dX8_foundling_89 ?_
              refine aw_iaload dX8_foundling_90 (by first | assumption | rfl) (by omega) (by omega) ?_
              have g5 := g4.trans f5
              have hpm := PM_rmF (b := fu (xC X).2.1 i x) (L := lsB (xn X) (fu (xC X).2.1 i x)) (day0 := (xC X).1) hS (fun q hq => (hok2.2 q hq).2) hv.2.1.2.1 (t + 1)
              have hri := hpm.1 i hin
              have hle : sn (xS X) ≤ 8 := hn.2
              have e80 : h5 80 (1 + i) = rmF (xS X) (fu (xC X).2.1 i x) (lsB (xn X) (fu (xC X).2.1 i x)) (xC X).1 (xC X).2.2 (t + 1) i := (w5.2.2 i hin).1
              rw [e80]
              have ihx := ih (x + 1) h5 (by omega) g5
              refine aw_iload_n dX8_foundling_91 rfl rfl ?_
              refine aw_icmp_neN (tgt := 99) dX8_foundling_92 (by decide) (by omega) (by omega) (fun c92 => ?_) (fun c92 => ?_)
              · have e : fnS X i r (t + 1) (x + 1) = fnS X i r (t + 1) x + 0 := by
                  show fnS X i r (t + 1) x + (if _ then 1 else 0) = _
                  rw [if_neg c92]
                rw [e] at ihx
                refine aw_iconst (v := nI 0) dX8_foundling_99 (by decide) ?_
                refine aw_iaddN dX8_foundling_100 ?_
                refine aw_istore dX8_foundling_101 (Nat.le_of_ble_eq_true rfl) rfl ?_
                dsimp only [List.set]
                refine aw_iincN (v := 1) dX8_foundling_103 rfl rfl ?_
                dsimp only [List.set]
                refine aw_goto (tgt := 44) dX8_foundling_106 (by decide) ?_
                exact ihx
              · have e : fnS X i r (t + 1) (x + 1) = fnS X i r (t + 1) x + 1 := by
                  show fnS X i r (t + 1) x + (if _ then 1 else 0) = _
                  rw [if_pos (by omega)]
                rw [e] at ihx
                refine aw_iconst (v := nI 1) dX8_foundling_95 (by decide) ?_
                refine aw_goto (tgt := 100) dX8_foundling_96 (by decide) ?_
                refine aw_iaddN dX8_foundling_100 ?_
                refine aw_istore dX8_foundling_101 (Nat.le_of_ble_eq_true rfl) rfl ?_
                dsimp only [List.set]
                refine aw_iincN (v := 1) dX8_foundling_103 rfl rfl ?_
                dsimp only [List.set]
                refine aw_goto (tgt := 44) dX8_foundling_106 (by decide) ?_
                exact ihx
          refine aw_aload_n dX8_foundling_0 rfl rfl ?_
          refine aw_iload_n dX8_foundling_1 rfl rfl ?_
          refine aw_callVF dX8_foundling_2 kX8_151 (m_oneS hr hv ei) (by first | assumption | rfl) rfl rfl rfl (Nat.le_of_ble_eq_true rfl) (Nat.le_of_ble_eq_true rfl) ?_
          dsimp only [Option.toList, List.cons_append, List.nil_append, Nat.reduceAdd]
          refine aw_if_eqN (tgt := 36) dX8_foundling_5 (by decide) (by omega) (fun q => absurd q (by omega)) (fun _ => ?_)
          refine aw_aload_n dX8_foundling_8 rfl rfl ?_
          refine aw_iload_n dX8_foundling_9 rfl rfl ?_
          refine aw_callVF dX8_foundling_10 kX8_151 (m_oneS hr hv er) (by first | assumption | rfl) rfl rfl rfl (Nat.le_of_ble_eq_true rfl) (Nat.le_of_ble_eq_true rfl) ?_
          dsimp only [Option.toList, List.cons_append, List.nil_append, Nat.reduceAdd]
          refine aw_if_eqN (tgt := 36) dX8_foundling_13 (by decide) (by omega) (fun q => absurd q (by omega)) (fun _ => ?_)
          refine aw_iload_n dX8_foundling_16 rfl rfl ?_
          refine aw_iconst (v := nI 0) dX8_foundling_17 (by decide) ?_
          refine aw_bipush (v := nI 120) dX8_foundling_18 (by decide) ?_
          refine aw_callSF dX8_foundling_20 kX8_76 (m_iS et) rfl rfl rfl (Nat.le_of_ble_eq_true rfl) (Nat.le_of_ble_eq_true rfl) ?_
          dsimp only [Option.toList, List.cons_append, List.nil_append, Nat.reduceAdd]
          refine aw_if_eqN (tgt := 36) dX8_foundling_23 (by decide) (by omega) (fun q => absurd q (by omega)) (fun _ => ?_)
          refine aw_iload dX8_foundling_26 rfl ?_
          refine aw_iconst (v := nI 0) dX8_foundling_28 (by decide) ?_
          refine aw_iconst (v := nI 1) dX8_foundling_29 (by decide) ?_
          refine aw_callSF dX8_foundling_30 kX8_76 (m_iS ep) rfl rfl rfl (Nat.le_of_ble_eq_true rfl) (Nat.le_of_ble_eq_true rfl) ?_
          dsimp only [Option.toList, List.cons_append, List.nil_append, Nat.reduceAdd]
          refine aw_if_neN (tgt := 38) dX8_foundling_33 (by decide) (by omega) (fun _ => ?_) (fun q => absurd q (by omega))
          refine aw_iconst (v := nI 0) dX8_foundling_38 (by decide) ?_
          refine aw_istore dX8_foundling_39 (Nat.le_of_ble_eq_true rfl) rfl ?_
          dsimp only [List.set]
          refine aw_iconst (v := nI 0) dX8_foundling_41 (by decide) ?_
          refine aw_istore dX8_foundling_42 (Nat.le_of_ble_eq_true rfl) rfl ?_
          dsimp only [List.set]
          exact loop 60 0 h (by omega) (fun o _ _ => rfl)
