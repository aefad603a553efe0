/-! cousin, room, count; what would be -/
noncomputable def a_cousin (X : XS) (i w : Int32) : Int32 := match ix i 0 (xn X - 1) with
  | none => aBAD
  | some i => match ix w 0 4 with
    | none => aBAD
    | some w => nI (if w = 0 then sK (xS X) i else if w = 1 then (xC X).2.1 i else if w = 2 then sW (xS X) i else if w = 3 then (xC X).2.2 i else rkc (xC X).2.1 i (xn X))
theorem x_cousin {d : Nat} {h : Hp} {X : XS} {i w : Int32} (hr : RX h X) (hv : VX X) : RT mX7_cousin (d + 6) [.ref 0, .int i, .int w] h (QX h X (a_cousin X i w)) := by
  have hn := hv.n
  unfold a_cousin
  change AW mX7_cousin _ 0 [some (.ref 0), some (.int i), some (.int w)] [] h _
  cases ei : ix i 0 (xn X - 1) with
  | none =>
    refine aw_aload_n dX7_cousin_0 rfl rfl ?_
    refine aw_iload_n dX7_cousin_1 rfl rfl ?_
    refine aw_callVF dX7_cousin_2 kX7_116 (c_isCN hr hv ei) (by first | assumption | rfl) rfl rfl rfl (Nat.le_of_ble_eq_true rfl) (Nat.le_of_ble_eq_true rfl) ?_
    dsimp only [Option.toList, List.cons_append, List.nil_append, Nat.reduceAdd]
    refine aw_if_eqN (tgt := 17) dX7_cousin_5 (by decide) (by omega) (fun _ => ?_) (fun q => absurd q (by omega))
    refine aw_iconst (v := nI 4294967295) dX7_cousin_17 (by decide) ?_
    refine aw_iret dX7_cousin_18 rfl (by first | rfl | exact (pk_charN (by omega)).1 | decide) ?_
    exact QX.same hr
  | some i =>
    obtain ⟨rfl, hi1, hi2⟩ := ix_s (by omega) (by omega) ei
    dsimp only
    cases ew : ix w 0 4 with
    | none =>
      refine aw_aload_n dX7_cousin_0 rfl rfl ?_
      refine aw_iload_n dX7_cousin_1 rfl rfl ?_
      refine aw_callVF dX7_cousin_2 kX7_116 (c_isCS hr hv ei) (by first | assumption | rfl) rfl rfl rfl (Nat.le_of_ble_eq_true rfl) (Nat.le_of_ble_eq_true rfl) ?_
      dsimp only [Option.toList, List.cons_append, List.nil_append, Nat.reduceAdd]
      refine aw_if_eqN (tgt := 17) dX7_cousin_5 (by decide) (by omega) (fun q => absurd q (by omega)) (fun _ => ?_)
      refine aw_iload_n dX7_cousin_8 rfl rfl ?_
      refine aw_iconst (v := nI 0) dX7_cousin_9 (by decide) ?_
      refine aw_iconst (v := nI 4) dX7_cousin_10 (by decide) ?_
      refine aw_callSF dX7_cousin_11 kX7_99 (c_wiN ew) rfl rfl rfl (Nat.le_of_ble_eq_true rfl) (Nat.le_of_ble_eq_true rfl) ?_
      dsimp only [Option.toList, List.cons_append, List.nil_append, Nat.reduceAdd]
      refine aw_if_neN (tgt := 19) dX7_cousin_14 (by decide) (by omega) (fun q => absurd q (by omega)) (fun _ => ?_)
      refine aw_iconst (v := nI 4294967295) dX7_cousin_17 (by decide) ?_
      refine aw_iret dX7_cousin_18 rfl (by first | rfl | exact (pk_charN (by omega)).1 | decide) ?_
      exact QX.same hr
    | some w =>
      obtain ⟨rfl, hw1, hw2⟩ := ix_s (by omega) (by omega) ew
      have hin : i < xn X := by omega
      have z := hr.1.2.2 i hin
      have y := hr.2.1.2 i hin
      refine aw_aload_n dX7_cousin_0 rfl rfl ?_
      refine aw_iload_n dX7_cousin_1 rfl rfl ?_
      refine aw_callVF dX7_cousin_2 kX7_116 (c_isCS hr hv ei) (by first | assumption | rfl) rfl rfl rfl (Nat.le_of_ble_eq_true rfl) (Nat.le_of_ble_eq_true rfl) ?_
      dsimp only [Option.toList, List.cons_append, List.nil_append, Nat.reduceAdd]
      refine aw_if_eqN (tgt := 17) dX7_cousin_5 (by decide) (by omega) (fun q => absurd q (by omega)) (fun _ => ?_)
      refine aw_iload_n dX7_cousin_8 rfl rfl ?_
      refine aw_iconst (v := nI 0) dX7_cousin_9 (by decide) ?_
      refine aw_iconst (v := nI 4) dX7_cousin_10 (by decide) ?_
      refine aw_callSF dX7_cousin_11 kX7_99 (c_wiS ew) rfl rfl rfl (Nat.le_of_ble_eq_true rfl) (Nat.le_of_ble_eq_true rfl) ?_
      dsimp only [Option.toList, List.cons_append, List.nil_append, Nat.reduceAdd]
      refine aw_if_neN (tgt := 19) dX7_cousin_14 (by decide) (by omega) (fun _ => ?_) (fun q => absurd q (by omega))
      refine aw_iload_n dX7_cousin_19 rfl rfl ?_
      rcases (show w = 0 ∨ w = 1 ∨ w = 2 ∨ w = 3 ∨ w = 4 by omega) with rfl | rfl | rfl | rfl | rfl
      · refine aw_tableIn (off := 32) (tgt := 52) dX7_cousin_20 (by decide) (by decide) (by decide) (by decide) ?_
        refine aw_aload_n dX7_cousin_52 rfl rfl ?_
        refine aw_getR dX7_cousin_53 fX7_19 (by first | assumption | rfl) (by rfl) ?_
        refine aw_iload_n dX7_cousin_56 rfl rfl ?_
        refine aw_callVF dX7_cousin_57 kX7_120 (c_P_kindOf (by omega)) (by first | assumption | rfl) rfl rfl rfl (Nat.le_of_ble_eq_true rfl) (Nat.le_of_ble_eq_true rfl) ?_
        dsimp only [Option.toList, List.cons_append, List.nil_append, Nat.reduceAdd]
        rw [z.1]
        refine aw_iret dX7_cousin_60 rfl (by first | rfl | exact (pk_charN (by omega)).1 | decide) ?_
        exact QX.same hr
      · refine aw_tableIn (off := 41) (tgt := 61) dX7_cousin_20 (by decide) (by decide) (by decide) (by decide) ?_
        refine aw_aload_n dX7_cousin_61 rfl rfl ?_
        refine aw_getR dX7_cousin_62 fX7_29 (by first | assumption | rfl) (by rfl) ?_
        refine aw_iload_n dX7_cousin_65 rfl rfl ?_
        refine aw_callVF dX7_cousin_66 kX7_124 (c_S_birthdayOf (by first | assumption | exact ⟨rfl, rfl, rfl⟩) (by omega)) (by first | assumption | rfl) rfl rfl rfl (Nat.le_of_ble_eq_true rfl) (Nat.le_of_ble_eq_true rfl) ?_
        dsimp only [Option.toList, List.cons_append, List.nil_append, Nat.reduceAdd]
        rw [y.2]
        refine aw_iret dX7_cousin_69 rfl (by first | rfl | exact (pk_charN (by omega)).1 | decide) ?_
        exact QX.same hr
      · refine aw_tableIn (off := 50) (tgt := 70) dX7_cousin_20 (by decide) (by decide) (by decide) (by decide) ?_
        refine aw_aload_n dX7_cousin_70 rfl rfl ?_
        refine aw_getR dX7_cousin_71 fX7_19 (by first | assumption | rfl) (by rfl) ?_
        refine aw_iload_n dX7_cousin_74 rfl rfl ?_
        refine aw_callVF dX7_cousin_75 kX7_127 (c_P_wantOf (by omega)) (by first | assumption | rfl) rfl rfl rfl (Nat.le_of_ble_eq_true rfl) (Nat.le_of_ble_eq_true rfl) ?_
        dsimp only [Option.toList, List.cons_append, List.nil_append, Nat.reduceAdd]
        rw [z.2.1]
        refine aw_iret dX7_cousin_78 rfl (by first | rfl | exact (pk_charN (by omega)).1 | decide) ?_
        exact QX.same hr
      · refine aw_tableIn (off := 59) (tgt := 79) dX7_cousin_20 (by decide) (by decide) (by decide) (by decide) ?_
        refine aw_aload_n dX7_cousin_79 rfl rfl ?_
        refine aw_getR dX7_cousin_80 fX7_29 (by first | assumption | rfl) (by rfl) ?_
        refine aw_iload_n dX7_cousin_83 rfl rfl ?_
        refine aw_callVF dX7_cousin_84 kX7_130 (c_S_roomOf (by first | assumption | exact ⟨rfl, rfl, rfl⟩) (by omega)) (by first | assumption | rfl) rfl rfl rfl (Nat.le_of_ble_eq_true rfl) (Nat.le_of_ble_eq_true rfl) ?_
        dsimp only [Option.toList, List.cons_append, List.nil_append, Nat.reduceAdd]
        rw [y.1]
        refine aw_iret dX7_cousin_87 rfl (by first | rfl | exact (pk_charN (by omega)).1 | decide) ?_
        exact QX.same hr
      · refine aw_tableOut (tgt := 88) dX7_cousin_20 (by decide) (by decide) ?_
        refine aw_aload_n dX7_cousin_88 rfl rfl ?_
        refine aw_getR dX7_cousin_89 fX7_60 (by first | assumption | rfl) (by rfl) ?_
        refine aw_aload_n dX7_cousin_92 rfl rfl ?_
        refine aw_getR dX7_cousin_93 fX7_29 (by first | assumption | rfl) (by rfl) ?_
        refine aw_callV dX7_cousin_96 kX7_133 (c_Xbegin hr hv) (by first | assumption | rfl) rfl rfl rfl (Nat.le_of_ble_eq_true rfl) (Nat.le_of_ble_eq_true rfl) ?_
        rintro _ h2 ⟨rfl, w2, f2⟩
        dsimp only [Option.toList, List.cons_append, List.nil_append, Nat.reduceAdd]
        refine aw_aload_n dX7_cousin_99 rfl rfl ?_
        refine aw_getR dX7_cousin_100 fX7_60 (by first | assumption | rfl) (by rfl) ?_
        refine aw_iload_n dX7_cousin_103 rfl rfl ?_
        refine aw_callVF dX7_cousin_104 kX7_137 (c_W_placeOf w2 (cL_ok hv.1 hv.2.1) hin) (by first | assumption | rfl) rfl rfl rfl (Nat.le_of_ble_eq_true rfl) (Nat.le_of_ble_eq_true rfl) ?_
        dsimp only [Option.toList, List.cons_append, List.nil_append, Nat.reduceAdd]
        refine aw_iret dX7_cousin_107 rfl (by first | rfl | exact (pk_charN (by omega)).1 | decide) ?_
        exact QX.fq hr hv (FQ.of f2)
noncomputable def a_room (X : XS) (r w : Int32) : Int32 := match ix r 0 (xn X - 1) with
  | none => aBAD
  | some r => match ix w 0 2 with
    | none => aBAD
    | some w => nI (if w = 0 then sA (xS X) r else if w = 1 then sB (xS X) r else own (xC X).2.2 r (xn X) 0)
theorem x_room {d : Nat} {h : Hp} {X : XS} {r w : Int32} (hr : RX h X) (hv : VX X) : RT mX7_room (d + 6) [.ref 0, .int r, .int w] h (QX h X (a_room X r w)) := by
  have hn := hv.n
  unfold a_room
  change AW mX7_room _ 0 [some (.ref 0), some (.int r), some (.int w)] [] h _
  cases ei : ix r 0 (xn X - 1) with
  | none =>
    refine aw_aload_n dX7_room_0 rfl rfl ?_
    refine aw_iload_n dX7_room_1 rfl rfl ?_
    refine aw_callVF dX7_room_2 kX7_140 (c_isRN hr hv ei) (by first | assumption | rfl) rfl rfl rfl (Nat.le_of_ble_eq_true rfl) (Nat.le_of_ble_eq_true rfl) ?_
    dsimp only [Option.toList, List.cons_append, List.nil_append, Nat.reduceAdd]
    refine aw_if_eqN (tgt := 17) dX7_room_5 (by decide) (by omega) (fun _ => ?_) (fun q => absurd q (by omega))
    refine aw_iconst (v := nI 4294967295) dX7_room_17 (by decide) ?_
    refine aw_iret dX7_room_18 rfl (by first | rfl | exact (pk_charN (by omega)).1 | decide) ?_
    exact QX.same hr
  | some r =>
    obtain ⟨rfl, hi1, hi2⟩ := ix_s (by omega) (by omega) ei
    dsimp only
    cases ew : ix w 0 2 with
    | none =>
      refine aw_aload_n dX7_room_0 rfl rfl ?_
      refine aw_iload_n dX7_room_1 rfl rfl ?_
      refine aw_callVF dX7_room_2 kX7_140 (c_isRS hr hv ei) (by first | assumption | rfl) rfl rfl rfl (Nat.le_of_ble_eq_true rfl) (Nat.le_of_ble_eq_true rfl) ?_
      dsimp only [Option.toList, List.cons_append, List.nil_append, Nat.reduceAdd]
      refine aw_if_eqN (tgt := 17) dX7_room_5 (by decide) (by omega) (fun q => absurd q (by omega)) (fun _ => ?_)
      refine aw_iload_n dX7_room_8 rfl rfl ?_
      refine aw_iconst (v := nI 0) dX7_room_9 (by decide) ?_
      refine aw_iconst (v := nI 2) dX7_room_10 (by decide) ?_
      refine aw_callSF dX7_room_11 kX7_99 (c_wiN ew) rfl rfl rfl (Nat.le_of_ble_eq_true rfl) (Nat.le_of_ble_eq_true rfl) ?_
      dsimp only [Option.toList, List.cons_append, List.nil_append, Nat.reduceAdd]
      refine aw_if_neN (tgt := 19) dX7_room_14 (by decide) (by omega) (fun q => absurd q (by omega)) (fun _ => ?_)
      refine aw_iconst (v := nI 4294967295) dX7_room_17 (by decide) ?_
      refine aw_iret dX7_room_18 rfl (by first | rfl | exact (pk_charN (by omega)).1 | decide) ?_
      exact QX.same hr
    | some w =>
      obtain ⟨rfl, hw1, hw2⟩ := ix_s (by omega) (by omega) ew
      have hin : r < xn X := by omega
      have z := hr.1.2.2 r hin
      refine aw_aload_n dX7_room_0 rfl rfl ?_
      refine aw_iload_n dX7_room_1 rfl rfl ?_
      refine aw_callVF dX7_room_2 kX7_140 (c_isRS hr hv ei) (by first | assumption | rfl) rfl rfl rfl (Nat.le_of_ble_eq_true rfl) (Nat.le_of_ble_eq_true rfl) ?_
      dsimp only [Option.toList, List.cons_append, List.nil_append, Nat.reduceAdd]
      refine aw_if_eqN (tgt := 17) dX7_room_5 (by decide) (by omega) (fun q => absurd q (by omega)) (fun _ => ?_)
      refine aw_iload_n dX7_room_8 rfl rfl ?_
      refine aw_iconst (v := nI 0) dX7_room_9 (by decide) ?_
      refine aw_iconst (v := nI 2) dX7_room_10 (by decide) ?_
      refine aw_callSF dX7_room_11 kX7_99 (c_wiS ew) rfl rfl rfl (Nat.le_of_ble_eq_true rfl) (Nat.le_of_ble_eq_true rfl) ?_
      dsimp only [Option.toList, List.cons_append, List.nil_append, Nat.reduceAdd]
      refine aw_if_neN (tgt := 19) dX7_room_14 (by decide) (by omega) (fun _ => ?_) (fun q => absurd q (by omega))
      refine aw_iload_n dX7_room_19 rfl rfl ?_
      rcases (show w = 0 ∨ w = 1 ∨ w = 2 by omega) with rfl | rfl | rfl
      · refine aw_lookup (off := 28) (tgt := 48) dX7_room_20 (by decide) (by decide) (by decide) ?_
        refine aw_aload_n dX7_room_48 rfl rfl ?_
        refine aw_getR dX7_room_49 fX7_19 (by first | assumption | rfl) (by rfl) ?_
        refine aw_iload_n dX7_room_52 rfl rfl ?_
        refine aw_callVF dX7_room_53 kX7_143 (c_P_winterSun (by omega)) (by first | assumption | rfl) rfl rfl rfl (Nat.le_of_ble_eq_true rfl) (Nat.le_of_ble_eq_true rfl) ?_
        dsimp only [Option.toList, List.cons_append, List.nil_append, Nat.reduceAdd]
        rw [z.2.2.1]
        refine aw_iret dX7_room_56 rfl (by first | rfl | exact (pk_charN (by omega)).1 | decide) ?_
        exact QX.same hr
      · refine aw_lookup (off := 37) (tgt := 57) dX7_room_20 (by decide) (by decide) (by decide) ?_
        refine aw_aload_n dX7_room_57 rfl rfl ?_
        refine aw_getR dX7_room_58 fX7_19 (by first | assumption | rfl) (by rfl) ?_
        refine aw_iload_n dX7_room_61 rfl rfl ?_
        refine aw_callVF dX7_room_62 kX7_146 (c_P_summerSun (by omega)) (by first | assumption | rfl) rfl rfl rfl (Nat.le_of_ble_eq_true rfl) (Nat.le_of_ble_eq_true rfl) ?_
        dsimp only [Option.toList, List.cons_append, List.nil_append, Nat.reduceAdd]
        rw [z.2.2.2]
        refine aw_iret dX7_room_65 rfl (by first | rfl | exact (pk_charN (by omega)).1 | decide) ?_
        exact QX.same hr
      · have e17 : ∀ i, i < xn X → h 17 i = (xC X).2.2 i := fun i hi => (hr.2.1.2 i hi).1
        refine aw_lookup (off := 46) (tgt := 66) dX7_room_20 (by decide) (by decide) (by decide) ?_
        refine aw_aload_n dX7_room_66 rfl rfl ?_
        refine aw_getR dX7_room_67 fX7_29 (by first | assumption | rfl) (by rfl) ?_
        refine aw_iload_n dX7_room_70 rfl rfl ?_
        refine aw_aload_n dX7_room_71 rfl rfl ?_
        refine aw_getR dX7_room_72 fX7_19 (by first | assumption | rfl) (by rfl) ?_
        refine aw_callVF dX7_room_75 kX7_113 (c_P_cousins) (by first | assumption | rfl) rfl rfl rfl (Nat.le_of_ble_eq_true rfl) (Nat.le_of_ble_eq_true rfl) ?_
        dsimp only [Option.toList, List.cons_append, List.nil_append, Nat.reduceAdd]
        rw [show h 4 5 = xn X from hr.1.1]
        refine aw_callVF dX7_room_78 kX7_149 (c_S_ownerOf ⟨rfl, rfl, rfl⟩ hn.2 (by omega) (fun i hi => by show h 17 i < _; rw [e17 i hi]; have := hv.2.1.2.1.1 i hi; omega)) (by first | assumption | rfl) rfl rfl rfl (Nat.le_of_ble_eq_true rfl) (Nat.le_of_ble_eq_true rfl) ?_
        dsimp only [Option.toList, List.cons_append, List.nil_append, Nat.reduceAdd]
        rw [own_congr (xn X) 0 (fun i _ hi => e17 i (by omega))]
        refine aw_iret dX7_room_81 rfl (by first | rfl | exact (pk_charN (by omega)).1 | decide) ?_
        exact QX.same hr
noncomputable def a_count (X : XS) (w : Int32) : Int32 := match ix w 0 5 with
  | none => aBAD
  | some w => nI (if w = 0 then xn X else if w = 1 then (xC X).1 else if w = 2 then (xZ X).1 else if w = 3 then (xU X).1 else if w = 4 then (xV X).1 else (xT X).1)
theorem ix_out {x : Int32} {hi : Nat} (hh : hi < 2 ^ 31) (e : ix x 0 hi = none) : x.toInt < 0 ∨ (hi : Int) < x.toInt := by
  have q := ix_n e
  rw [nI_0, Int32.le_iff_toInt_le, Int32.le_iff_toInt_le, nI_toInt hh] at q
  have : (0 : Int32).toInt = 0 := rfl
  omega
theorem x_count {d : Nat} {h : Hp} {X : XS} {w : Int32} (hr : RX h X) (hv : VX X) : RT mX7_count (d + 6) [.ref 0, .int w] h (QX h X (a_count X w)) := by
  unfold a_count
  change AW mX7_count _ 0 [some (.ref 0), some (.int w)] [] h _
  cases ew : ix w 0 5 with
  | none =>
    have ho := ix_out (by omega) ew
    refine aw_iload_n dX7_count_0 rfl rfl ?_
    refine aw_tableOut (tgt := 88) dX7_count_1 (ho) (by decide) ?_
    refine aw_iconst (v := nI 4294967295) dX7_count_88 (by decide) ?_
    refine aw_iret dX7_count_89 rfl (by first | rfl | exact (pk_charN (by omega)).1 | decide) ?_
    exact QX.same hr
  | some w =>
    obtain ⟨rfl, hw1, hw2⟩ := ix_s (by omega) (by omega) ew
    obtain ⟨zs, z1, _⟩ := hr.2.2.2.2.2.1
    rcases (show w = 0 ∨ w = 1 ∨ w = 2 ∨ w = 3 ∨ w = 4 ∨ w = 5 by omega) with rfl | rfl | rfl | rfl | rfl | rfl
    · refine aw_iload_n dX7_count_0 rfl rfl ?_
      refine aw_tableIn (off := 39) (tgt := 40) dX7_count_1 (by decide) (by decide) (by decide) (by decide) ?_
      refine aw_aload_n dX7_count_40 rfl rfl ?_
      refine aw_getR dX7_count_41 fX7_19 (by first | assumption | rfl) (by rfl) ?_
      refine aw_callVF dX7_count_44 kX7_113 (c_P_cousins) (by first | assumption | rfl) rfl rfl rfl (Nat.le_of_ble_eq_true rfl) (Nat.le_of_ble_eq_true rfl) ?_
      dsimp only [Option.toList, List.cons_append, List.nil_append, Nat.reduceAdd]
      rw [show h 4 5 = xn X from hr.1.1]
      refine aw_iret dX7_count_47 rfl (by first | rfl | exact (pk_charN (by omega)).1 | decide) ?_
      exact QX.same hr
    · refine aw_iload_n dX7_count_0 rfl rfl ?_
      refine aw_tableIn (off := 47) (tgt := 48) dX7_count_1 (by decide) (by decide) (by decide) (by decide) ?_
      refine aw_aload_n dX7_count_48 rfl rfl ?_
      refine aw_getR dX7_count_49 fX7_29 (by first | assumption | rfl) (by rfl) ?_
      refine aw_callVF dX7_count_52 kX7_153 (c_S_day (by first | assumption | exact ⟨rfl, rfl, rfl⟩)) (by first | assumption | rfl) rfl rfl rfl (Nat.le_of_ble_eq_true rfl) (Nat.le_of_ble_eq_true rfl) ?_
      dsimp only [Option.toList, List.cons_append, List.nil_append, Nat.reduceAdd]
      rw [show h 16 2 = (xC X).1 from hr.2.1.1]
      refine aw_iret dX7_count_55 rfl (by first | rfl | exact (pk_charN (by omega)).1 | decide) ?_
      exact QX.same hr
    · refine aw_iload_n dX7_count_0 rfl rfl ?_
      refine aw_tableIn (off := 55) (tgt := 56) dX7_count_1 (by decide) (by decide) (by decide) (by decide) ?_
      refine aw_aload_n dX7_count_56 rfl rfl ?_
      refine aw_getR dX7_count_57 fX7_51 (by first | assumption | rfl) (by rfl) ?_
      refine aw_callVF dX7_count_60 kX7_230 (c_Z_size) (by first | assumption | rfl) rfl rfl rfl (Nat.le_of_ble_eq_true rfl) (Nat.le_of_ble_eq_true rfl) ?_
      dsimp only [Option.toList, List.cons_append, List.nil_append, Nat.reduceAdd]
      rw [z1.1]
      refine aw_iret dX7_count_63 rfl (by first | rfl | exact (pk_charN (by omega)).1 | decide) ?_
      exact QX.same hr
    · refine aw_iload_n dX7_count_0 rfl rfl ?_
      refine aw_tableIn (off := 63) (tgt := 64) dX7_count_1 (by decide) (by decide) (by decide) (by decide) ?_
      refine aw_aload_n dX7_count_64 rfl rfl ?_
      refine aw_getR dX7_count_65 fX7_41 (by first | assumption | rfl) (by rfl) ?_
      refine aw_callVF dX7_count_68 kX7_180 (c_L_size (n := 8) (by first | assumption | exact Or.inl ⟨rfl, rfl⟩)) (by first | assumption | rfl) rfl rfl rfl (Nat.le_of_ble_eq_true rfl) (Nat.le_of_ble_eq_true rfl) ?_
      dsimp only [Option.toList, List.cons_append, List.nil_append, Nat.reduceAdd]
      rw [hr.2.2.2.1.1]
      refine aw_iret dX7_count_71 rfl (by first | rfl | exact (pk_charN (by omega)).1 | decide) ?_
      exact QX.same hr
    · refine aw_iload_n dX7_count_0 rfl rfl ?_
      refine aw_tableIn (off := 71) (tgt := 72) dX7_count_1 (by decide) (by decide) (by decide) (by decide) ?_
      refine aw_aload_n dX7_count_72 rfl rfl ?_
      refine aw_getR dX7_count_73 fX7_45 (by first | assumption | rfl) (by rfl) ?_
      refine aw_callVF dX7_count_76 kX7_180 (c_L_size (n := 2) (Or.inr ⟨rfl, rfl⟩)) (by first | assumption | rfl) rfl rfl rfl (Nat.le_of_ble_eq_true rfl) (Nat.le_of_ble_eq_true rfl) ?_
      dsimp only [Option.toList, List.cons_append, List.nil_append, Nat.reduceAdd]
      rw [hr.2.2.2.2.1.1]
      refine aw_iret dX7_count_79 rfl (by first | rfl | exact (pk_charN (by omega)).1 | decide) ?_
      exact QX.same hr
    · refine aw_iload_n dX7_count_0 rfl rfl ?_
      refine aw_tableIn (off := 79) (tgt := 80) dX7_count_1 (by decide) (by decide) (by decide) (by decide) ?_
      refine aw_aload_n dX7_count_80 rfl rfl ?_
      refine aw_getR dX7_count_81 fX7_12 (by first | assumption | rfl) (by rfl) ?_
      refine aw_callVF dX7_count_84 kX7_107 (c_T_size) (by first | assumption | rfl) rfl rfl rfl (Nat.le_of_ble_eq_true rfl) (Nat.le_of_ble_eq_true rfl) ?_
      dsimp only [Option.toList, List.cons_append, List.nil_append, Nat.reduceAdd]
      rw [hr.2.2.2.2.2.2.1]
      refine aw_iret dX7_count_87 rfl (by first | rfl | exact (pk_charN (by omega)).1 | decide) ?_
      exact QX.same hr
noncomputable def a_swaps (X : XS) (i m k : Int32) : Int32 := match ix i 0 (xn X - 1) with
  | none => aBAD
  | some i => match ix m 1 60 with
    | none => aBAD
    | some m => match ix k 0 2 with
      | none => aBAD
      | some k => nI (if k = 0 then (dbR (xn X) (vSun (xS X) (xC X) i m) (xC X).2.2 4096).1 else if k = 1 then (dbR (xn X) (vSun (xS X) (xC X) i m) (xC X).2.2 4096).2.1 else (dbR (xn X) (vSun (xS X) (xC X) i m) (xC X).2.2 4096).2.2)
theorem x_swaps {d : Nat} {h : Hp} {X : XS} {i m k : Int32} (hr : RX h X) (hv : VX X) : RT mX7_swaps (d + 6) [.ref 0, .int i, .int m, .int k] h (QX h X (a_swaps X i m k)) := by
  have hn := hv.n
  unfold a_swaps
  change AW mX7_swaps _ 0 [some (.ref 0), some (.int i), some (.int m), some (.int k)] [] h _
  cases ei : ix i 0 (xn X - 1) with
  | none =>
    refine aw_aload_n dX7_swaps_0 rfl rfl ?_
    refine aw_iload_n dX7_swaps_1 rfl rfl ?_
    refine aw_callVF dX7_swaps_2 kX7_116 (c_isCN hr hv ei) (by first | assumption | rfl) rfl rfl rfl (Nat.le_of_ble_eq_true rfl) (Nat.le_of_ble_eq_true rfl) ?_
    dsimp only [Option.toList, List.cons_append, List.nil_append, Nat.reduceAdd]
    refine aw_if_eqN (tgt := 27) dX7_swaps_5 (by decide) (by omega) (fun _ => ?_) (fun q => absurd q (by omega))
    refine aw_iconst (v := nI 4294967295) dX7_swaps_27 (by decide) ?_
    refine aw_iret dX7_swaps_28 rfl (by first | rfl | exact (pk_charN (by omega)).1 | decide) ?_
    exact QX.same hr
  | some i =>
    obtain ⟨rfl, hi1, hi2⟩ := ix_s (by omega) (by omega) ei
    dsimp only
    cases em : ix m 1 60 with
    | none =>
      refine aw_aload_n dX7_swaps_0 rfl rfl ?_
      refine aw_iload_n dX7_swaps_1 rfl rfl ?_
      refine aw_callVF dX7_swaps_2 kX7_116 (c_isCS hr hv ei) (by first | assumption | rfl) rfl rfl rfl (Nat.le_of_ble_eq_true rfl) (Nat.le_of_ble_eq_true rfl) ?_
      dsimp only [Option.toList, List.cons_append, List.nil_append, Nat.reduceAdd]
      refine aw_if_eqN (tgt := 27) dX7_swaps_5 (by decide) (by omega) (fun q => absurd q (by omega)) (fun _ => ?_)
      refine aw_iload_n dX7_swaps_8 rfl rfl ?_
      refine aw_iconst (v := nI 1) dX7_swaps_9 (by decide) ?_
      refine aw_bipush (v := nI 60) dX7_swaps_10 (by decide) ?_
      refine aw_callSF dX7_swaps_12 kX7_99 (c_wiN em) rfl rfl rfl (Nat.le_of_ble_eq_true rfl) (Nat.le_of_ble_eq_true rfl) ?_
      dsimp only [Option.toList, List.cons_append, List.nil_append, Nat.reduceAdd]
      refine aw_if_eqN (tgt := 27) dX7_swaps_15 (by decide) (by omega) (fun _ => ?_) (fun q => absurd q (by omega))
      refine aw_iconst (v := nI 4294967295) dX7_swaps_27 (by decide) ?_
      refine aw_iret dX7_swaps_28 rfl (by first | rfl | exact (pk_charN (by omega)).1 | decide) ?_
      exact QX.same hr
    | some m =>
      obtain ⟨rfl, hm1, hm2⟩ := ix_s (by omega) (by omega) em
      dsimp only
      cases ek : ix k 0 2 with
      | none =>
        refine aw_aload_n dX7_swaps_0 rfl rfl ?_
        refine aw_iload_n dX7_swaps_1 rfl rfl ?_
        refine aw_callVF dX7_swaps_2 kX7_116 (c_isCS hr hv ei) (by first | assumption | rfl) rfl rfl rfl (Nat.le_of_ble_eq_true rfl) (Nat.le_of_ble_eq_true rfl) ?_
        dsimp only [Option.toList, List.cons_append, List.nil_append, Nat.reduceAdd]
        refine aw_if_eqN (tgt := 27) dX7_swaps_5 (by decide) (by omega) (fun q => absurd q (by omega)) (fun _ => ?_)
        refine aw_iload_n dX7_swaps_8 rfl rfl ?_
        refine aw_iconst (v := nI 1) dX7_swaps_9 (by decide) ?_
        refine aw_bipush (v := nI 60) dX7_swaps_10 (by decide) ?_
        refine aw_callSF dX7_swaps_12 kX7_99 (c_wiS em) rfl rfl rfl (Nat.le_of_ble_eq_true rfl) (Nat.le_of_ble_eq_true rfl) ?_
        dsimp only [Option.toList, List.cons_append, List.nil_append, Nat.reduceAdd]
        refine aw_if_eqN (tgt := 27) dX7_swaps_15 (by decide) (by omega) (fun q => absurd q (by omega)) (fun _ => ?_)
        refine aw_iload_n dX7_swaps_18 rfl rfl ?_
        refine aw_iconst (v := nI 0) dX7_swaps_19 (by decide) ?_
        refine aw_iconst (v := nI 2) dX7_swaps_20 (by decide) ?_
        refine aw_callSF dX7_swaps_21 kX7_99 (c_wiN ek) rfl rfl rfl (Nat.le_of_ble_eq_true rfl) (Nat.le_of_ble_eq_true rfl) ?_
        dsimp only [Option.toList, List.cons_append, List.nil_append, Nat.reduceAdd]
        refine aw_if_neN (tgt := 29) dX7_swaps_24 (by decide) (by omega) (fun q => absurd q (by omega)) (fun _ => ?_)
        refine aw_iconst (v := nI 4294967295) dX7_swaps_27 (by decide) ?_
        refine aw_iret dX7_swaps_28 rfl (by first | rfl | exact (pk_charN (by omega)).1 | decide) ?_
        exact QX.same hr
      | some k =>
        obtain ⟨rfl, hk1, hk2⟩ := ix_s (by omega) (by omega) ek
        refine aw_aload_n dX7_swaps_0 rfl rfl ?_
        refine aw_iload_n dX7_swaps_1 rfl rfl ?_
        refine aw_callVF dX7_swaps_2 kX7_116 (c_isCS hr hv ei) (by first | assumption | rfl) rfl rfl rfl (Nat.le_of_ble_eq_true rfl) (Nat.le_of_ble_eq_true rfl) ?_
        dsimp only [Option.toList, List.cons_append, List.nil_append, Nat.reduceAdd]
        refine aw_if_eqN (tgt := 27) dX7_swaps_5 (by decide) (by omega) (fun q => absurd q (by omega)) (fun _ => ?_)
        refine aw_iload_n dX7_swaps_8 rfl rfl ?_
        refine aw_iconst (v := nI 1) dX7_swaps_9 (by decide) ?_
        refine aw_bipush (v := nI 60) dX7_swaps_10 (by decide) ?_
        refine aw_callSF dX7_swaps_12 kX7_99 (c_wiS em) rfl rfl rfl (Nat.le_of_ble_eq_true rfl) (Nat.le_of_ble_eq_true rfl) ?_
        dsimp only [Option.toList, List.cons_append, List.nil_append, Nat.reduceAdd]
        refine aw_if_eqN (tgt := 27) dX7_swaps_15 (by decide) (by omega) (fun q => absurd q (by omega)) (fun _ => ?_)
        refine aw_iload_n dX7_swaps_18 rfl rfl ?_
        refine aw_iconst (v := nI 0) dX7_swaps_19 (by decide) ?_
        refine aw_iconst (v := nI 2) dX7_swaps_20 (by decide) ?_
        refine aw_callSF dX7_swaps_21 kX7_99 (c_wiS ek) rfl rfl rfl (Nat.le_of_ble_eq_true rfl) (Nat.le_of_ble_eq_true rfl) ?_
        dsimp only [Option.toList, List.cons_append, List.nil_append, Nat.reduceAdd]
        refine aw_if_neN (tgt := 29) dX7_swaps_24 (by decide) (by omega) (fun _ => ?_) (fun q => absurd q (by omega))
        refine aw_aload_n dX7_swaps_29 rfl rfl ?_
        refine aw_getR dX7_swaps_30 fX7_69 (by first | assumption | rfl) (by rfl) ?_
        refine aw_aload_n dX7_swaps_33 rfl rfl ?_
        refine aw_getR dX7_swaps_34 fX7_29 (by first | assumption | rfl) (by rfl) ?_
        refine aw_iload_n dX7_swaps_37 rfl rfl ?_
        refine aw_iload_n dX7_swaps_38 rfl rfl ?_
        refine aw_callV dX7_swaps_39 kX7_193 (c_Q_seekMostSun hr.1 hv.1 hr.2.1 hv.2.1 (show i < sn (xS X) by show i < xn X; omega) hm2) (by first | assumption | rfl) rfl rfl rfl (Nat.le_of_ble_eq_true rfl) (Nat.le_of_ble_eq_true rfl) ?_
        rintro _ h2 ⟨rfl, q2, f2⟩
        dsimp only [Option.toList, List.cons_append, List.nil_append, Nat.reduceAdd]
        refine aw_iload_n dX7_swaps_42 rfl rfl ?_
        have q2 : QS h2 (dbR (xn X) (vSun (xS X) (xC X) i m) (xC X).2.2 4096) := q2
        generalize dbR (xn X) (vSun (xS X) (xC X) i m) (xC X).2.2 4096 = D9 at q2 ⊢
        rcases (show k = 0 ∨ k = 1 ∨ k = 2 by omega) with rfl | rfl | rfl
        · rw [if_pos rfl]
          refine aw_lookup (off := 25) (tgt := 68) dX7_swaps_43 (by decide) (by decide) (by decide) ?_
          refine aw_aload_n dX7_swaps_68 rfl rfl ?_
          refine aw_getR dX7_swaps_69 fX7_69 (by first | assumption | rfl) (by rfl) ?_
          refine aw_callVF dX7_swaps_72 kX7_197 (c_Q_best) (by first | assumption | rfl) rfl rfl rfl (Nat.le_of_ble_eq_true rfl) (Nat.le_of_ble_eq_true rfl) ?_
          dsimp only [Option.toList, List.cons_append, List.nil_append, Nat.reduceAdd]
          rw [q2.1]
          refine aw_iret dX7_swaps_75 rfl (by first | rfl | exact (pk_charN (by omega)).1 | decide) ?_
          exact QX.fq hr hv f2
        · rw [if_neg (by decide), if_pos rfl]
          refine aw_lookup (off := 33) (tgt := 76) dX7_swaps_43 (by decide) (by decide) (by decide) ?_
          refine aw_aload_n dX7_swaps_76 rfl rfl ?_
          refine aw_getR dX7_swaps_77 fX7_69 (by first | assumption | rfl) (by rfl) ?_
          refine aw_callVF dX7_swaps_80 kX7_200 (c_Q_firstPair) (by first | assumption | rfl) rfl rfl rfl (Nat.le_of_ble_eq_true rfl) (Nat.le_of_ble_eq_true rfl) ?_
          dsimp only [Option.toList, List.cons_append, List.nil_append, Nat.reduceAdd]
          rw [q2.2.1]
          refine aw_iret dX7_swaps_83 rfl (by first | rfl | exact (pk_charN (by omega)).1 | decide) ?_
          exact QX.fq hr hv f2
        · rw [if_neg (by decide), if_neg (by decide)]
          refine aw_lookup (off := 41) (tgt := 84) dX7_swaps_43 (by decide) (by decide) (by decide) ?_
          refine aw_aload_n dX7_swaps_84 rfl rfl ?_
          refine aw_getR dX7_swaps_85 fX7_69 (by first | assumption | rfl) (by rfl) ?_
          refine aw_callVF dX7_swaps_88 kX7_203 (c_Q_secondPair) (by first | assumption | rfl) rfl rfl rfl (Nat.le_of_ble_eq_true rfl) (Nat.le_of_ble_eq_true rfl) ?_
          dsimp only [Option.toList, List.cons_append, List.nil_append, Nat.reduceAdd]
          rw [q2.2.2]
          refine aw_iret dX7_swaps_91 rfl (by first | rfl | exact (pk_charN (by omega)).1 | decide) ?_
          exact QX.fq hr hv f2
noncomputable def a_warm (X : XS) (m w : Int32) : Int32 := match ix m 1 60 with
  | none => aBAD
  | some m => match ix w 0 1 with
    | none => aBAD
    | some w => nI (if w = 0 then (wrS (xn X) (vCold (xS X) (xC X) m) (xC X).2.2 64).1 else (wrS (xn X) (vCold (xS X) (xC X) m) (xC X).2.2 64).2)
theorem x_warm {d : Nat} {h : Hp} {X : XS} {m w : Int32} (hr : RX h X) (hv : VX X) : RT mX7_warm (d + 6) [.ref 0, .int m, .int w] h (QX h X (a_warm X m w)) := by
  have hn := hv.n
  unfold a_warm
  change AW mX7_warm _ 0 [some (.ref 0), some (.int m), some (.int w)] [] h _
  cases em : ix m 1 60 with
  | none =>
    refine aw_iload_n dX7_warm_0 rfl rfl ?_
    refine aw_iconst (v := nI 1) dX7_warm_1 (by decide) ?_
    refine aw_bipush (v := nI 60) dX7_warm_2 (by decide) ?_
    refine aw_callSF dX7_warm_4 kX7_99 (c_wiN em) rfl rfl rfl (Nat.le_of_ble_eq_true rfl) (Nat.le_of_ble_eq_true rfl) ?_
    dsimp only [Option.toList, List.cons_append, List.nil_append, Nat.reduceAdd]
    refine aw_if_eqN (tgt := 19) dX7_warm_7 (by decide) (by omega) (fun _ => ?_) (fun q => absurd q (by omega))
    refine aw_iconst (v := nI 4294967295) dX7_warm_19 (by decide) ?_
    refine aw_iret dX7_warm_20 rfl (by first | rfl | exact (pk_charN (by omega)).1 | decide) ?_
    exact QX.same hr
  | some m =>
    obtain ⟨rfl, hm1, hm2⟩ := ix_s (by omega) (by omega) em
    dsimp only
    cases ek : ix w 0 1 with
    | none =>
      refine aw_iload_n dX7_warm_0 rfl rfl ?_
      refine aw_iconst (v := nI 1) dX7_warm_1 (by decide) ?_
      refine aw_bipush (v := nI 60) dX7_warm_2 (by decide) ?_
      refine aw_callSF dX7_warm_4 kX7_99 (c_wiS em) rfl rfl rfl (Nat.le_of_ble_eq_true rfl) (Nat.le_of_ble_eq_true rfl) ?_
      dsimp only [Option.toList, List.cons_append, List.nil_append, Nat.reduceAdd]
      refine aw_if_eqN (tgt := 19) dX7_warm_7 (by decide) (by omega) (fun q => absurd q (by omega)) (fun _ => ?_)
      refine aw_iload_n dX7_warm_10 rfl rfl ?_
      refine aw_iconst (v := nI 0) dX7_warm_11 (by decide) ?_
      refine aw_iconst (v := nI 1) dX7_warm_12 (by decide) ?_
      refine aw_callSF dX7_warm_13 kX7_99 (c_wiN ek) rfl rfl rfl (Nat.le_of_ble_eq_true rfl) (Nat.le_of_ble_eq_true rfl) ?_
      dsimp only [Option.toList, List.cons_append, List.nil_append, Nat.reduceAdd]
      refine aw_if_neN (tgt := 21) dX7_warm_16 (by decide) (by omega) (fun q => absurd q (by omega)) (fun _ => ?_)
      refine aw_iconst (v := nI 4294967295) dX7_warm_19 (by decide) ?_
      refine aw_iret dX7_warm_20 rfl (by first | rfl | exact (pk_charN (by omega)).1 | decide) ?_
      exact QX.same hr
    | some k =>
      obtain ⟨rfl, hk1, hk2⟩ := ix_s (by omega) (by omega) ek
      refine aw_iload_n dX7_warm_0 rfl rfl ?_
      refine aw_iconst (v := nI 1) dX7_warm_1 (by decide) ?_
      refine aw_bipush (v := nI 60) dX7_warm_2 (by decide) ?_
      refine aw_callSF dX7_warm_4 kX7_99 (c_wiS em) rfl rfl rfl (Nat.le_of_ble_eq_true rfl) (Nat.le_of_ble_eq_true rfl) ?_
      dsimp only [Option.toList, List.cons_append, List.nil_append, Nat.reduceAdd]
      refine aw_if_eqN (tgt := 19) dX7_warm_7 (by decide) (by omega) (fun q => absurd q (by omega)) (fun _ => ?_)
      refine aw_iload_n dX7_warm_10 rfl rfl ?_
      refine aw_iconst (v := nI 0) dX7_warm_11 (by decide) ?_
      refine aw_iconst (v := nI 1) dX7_warm_12 (by decide) ?_
      refine aw_callSF dX7_warm_13 kX7_99 (c_wiS ek) rfl rfl rfl (Nat.le_of_ble_eq_true rfl) (Nat.le_of_ble_eq_true rfl) ?_
      dsimp only [Option.toList, List.cons_append, List.nil_append, Nat.reduceAdd]
      refine aw_if_neN (tgt := 21) dX7_warm_16 (by decide) (by omega) (fun _ => ?_) (fun q => absurd q (by omega))
      refine aw_aload_n dX7_warm_21 rfl rfl ?_
      refine aw_getR dX7_warm_22 fX7_69 (by first | assumption | rfl) (by rfl) ?_
      refine aw_aload_n dX7_warm_25 rfl rfl ?_
      refine aw_getR dX7_warm_26 fX7_29 (by first | assumption | rfl) (by rfl) ?_
      refine aw_iload_n dX7_warm_29 rfl rfl ?_
      refine aw_callV dX7_warm_30 kX7_206 (c_Q_seekFewestCold hr.1 hv.1 hr.2.1 hv.2.1 hm2) (by first | assumption | rfl) rfl rfl rfl (Nat.le_of_ble_eq_true rfl) (Nat.le_of_ble_eq_true rfl) ?_
      rintro _ h2 ⟨rfl, q1, q2, f2⟩
      dsimp only [Option.toList, List.cons_append, List.nil_append, Nat.reduceAdd]
      refine aw_iload_n dX7_warm_33 rfl rfl ?_
      rcases (show k = 0 ∨ k = 1 by omega) with rfl | rfl
      · refine aw_if_neN (tgt := 47) dX7_warm_34 (by decide) (by omega) (fun q => absurd q (by omega)) (fun _ => ?_)
        refine aw_aload_n dX7_warm_37 rfl rfl ?_
        refine aw_getR dX7_warm_38 fX7_69 (by first | assumption | rfl) (by rfl) ?_
        refine aw_callVF dX7_warm_41 kX7_197 (c_Q_best) (by first | assumption | rfl) rfl rfl rfl (Nat.le_of_ble_eq_true rfl) (Nat.le_of_ble_eq_true rfl) ?_
        dsimp only [Option.toList, List.cons_append, List.nil_append, Nat.reduceAdd]
        refine aw_goto (tgt := 54) dX7_warm_44 (by decide) ?_
        rw [q1]
        refine aw_iret dX7_warm_54 rfl (by first | rfl | exact (pk_charN (by omega)).1 | decide) ?_
        exact QX.fq hr hv f2
      · refine aw_if_neN (tgt := 47) dX7_warm_34 (by decide) (by omega) (fun _ => ?_) (fun q => absurd q (by omega))
        refine aw_aload_n dX7_warm_47 rfl rfl ?_
        refine aw_getR dX7_warm_48 fX7_69 (by first | assumption | rfl) (by rfl) ?_
        refine aw_callVF dX7_warm_51 kX7_200 (c_Q_firstPair) (by first | assumption | rfl) rfl rfl rfl (Nat.le_of_ble_eq_true rfl) (Nat.le_of_ble_eq_true rfl) ?_
        dsimp only [Option.toList, List.cons_append, List.nil_append, Nat.reduceAdd]
        rw [q2]
        refine aw_iret dX7_warm_54 rfl (by first | rfl | exact (pk_charN (by omega)).1 | decide) ?_
        exact QX.fq hr hv f2
noncomputable def a_canHave (X : XS) (r t : Int32) : Int32 := match ix r 0 (xn X - 1) with
  | none => aBAD
  | some r => match ix t 0 120 with
    | none => aBAD
    | some t => cvS (xS X) (xC X) r (t + 1) 64
theorem x_canHave {d : Nat} {h : Hp} {X : XS} {r t : Int32} (hr : RX h X) (hv : VX X) : RT mX7_canHave (d + 6) [.ref 0, .int r, .int t] h (QX h X (a_canHave X r t)) := by
  have hn := hv.n
  unfold a_canHave
  change AW mX7_canHave _ 0 [some (.ref 0), some (.int r), some (.int t)] [] h _
  cases ei : ix r 0 (xn X - 1) with
  | none =>
    refine aw_aload_n dX7_canHave_0 rfl rfl ?_
    refine aw_iload_n dX7_canHave_1 rfl rfl ?_
    refine aw_callVF dX7_canHave_2 kX7_140 (c_isRN hr hv ei) (by first | assumption | rfl) rfl rfl rfl (Nat.le_of_ble_eq_true rfl) (Nat.le_of_ble_eq_true rfl) ?_
    dsimp only [Option.toList, List.cons_append, List.nil_append, Nat.reduceAdd]
    refine aw_if_eqN (tgt := 18) dX7_canHave_5 (by decide) (by omega) (fun _ => ?_) (fun q => absurd q (by omega))
    refine aw_iconst (v := nI 4294967295) dX7_canHave_18 (by decide) ?_
    refine aw_iret dX7_canHave_19 rfl (by first | rfl | exact (pk_charN (by omega)).1 | decide) ?_
    exact QX.same hr
  | some r =>
    obtain ⟨rfl, hi1, hi2⟩ := ix_s (by omega) (by omega) ei
    dsimp only
    cases et : ix t 0 120 with
    | none =>
      refine aw_aload_n dX7_canHave_0 rfl rfl ?_
      refine aw_iload_n dX7_canHave_1 rfl rfl ?_
      refine aw_callVF dX7_canHave_2 kX7_140 (c_isRS hr hv ei) (by first | assumption | rfl) rfl rfl rfl (Nat.le_of_ble_eq_true rfl) (Nat.le_of_ble_eq_true rfl) ?_
      dsimp only [Option.toList, List.cons_append, List.nil_append, Nat.reduceAdd]
      refine aw_if_eqN (tgt := 18) dX7_canHave_5 (by decide) (by omega) (fun q => absurd q (by omega)) (fun _ => ?_)
      refine aw_iload_n dX7_canHave_8 rfl rfl ?_
      refine aw_iconst (v := nI 0) dX7_canHave_9 (by decide) ?_
      refine aw_bipush (v := nI 120) dX7_canHave_10 (by decide) ?_
      refine aw_callSF dX7_canHave_12 kX7_99 (c_wiN et) rfl rfl rfl (Nat.le_of_ble_eq_true rfl) (Nat.le_of_ble_eq_true rfl) ?_
      dsimp only [Option.toList, List.cons_append, List.nil_append, Nat.reduceAdd]
      refine aw_if_neN (tgt := 20) dX7_canHave_15 (by decide) (by omega) (fun q => absurd q (by omega)) (fun _ => ?_)
      refine aw_iconst (v := nI 4294967295) dX7_canHave_18 (by decide) ?_
      refine aw_iret dX7_canHave_19 rfl (by first | rfl | exact (pk_charN (by omega)).1 | decide) ?_
      exact QX.same hr
    | some t =>
      obtain ⟨rfl, ht1, ht2⟩ := ix_s (by omega) (by omega) et
      refine aw_aload_n dX7_canHave_0 rfl rfl ?_
      refine aw_iload_n dX7_canHave_1 rfl rfl ?_
      refine aw_callVF dX7_canHave_2 kX7_140 (c_isRS hr hv ei) (by first | assumption | rfl) rfl rfl rfl (Nat.le_of_ble_eq_true rfl) (Nat.le_of_ble_eq_true rfl) ?_
      dsimp only [Option.toList, List.cons_append, List.nil_append, Nat.reduceAdd]
      refine aw_if_eqN (tgt := 18) dX7_canHave_5 (by decide) (by omega) (fun q => absurd q (by omega)) (fun _ => ?_)
      refine aw_iload_n dX7_canHave_8 rfl rfl ?_
      refine aw_iconst (v := nI 0) dX7_canHave_9 (by decide) ?_
      refine aw_bipush (v := nI 120) dX7_canHave_10 (by decide) ?_
      refine aw_callSF dX7_canHave_12 kX7_99 (c_wiS et) rfl rfl rfl (Nat.le_of_ble_eq_true rfl) (Nat.le_of_ble_eq_true rfl) ?_
      dsimp only [Option.toList, List.cons_append, List.nil_append, Nat.reduceAdd]
      refine aw_if_neN (tgt := 20) dX7_canHave_15 (by decide) (by omega) (fun _ => ?_) (fun q => absurd q (by omega))
      refine aw_aload_n dX7_canHave_20 rfl rfl ?_
      refine aw_getR dX7_canHave_21 fX7_69 (by first | assumption | rfl) (by rfl) ?_
      refine aw_aload_n dX7_canHave_24 rfl rfl ?_
      refine aw_getR dX7_canHave_25 fX7_29 (by first | assumption | rfl) (by rfl) ?_
      refine aw_iload_n dX7_canHave_28 rfl rfl ?_
      refine aw_iload_n dX7_canHave_29 rfl rfl ?_
      refine aw_callV dX7_canHave_30 kX7_210 (c_Q_owners hr.1 hv.1 hr.2.1 hv.2.1 (show r < sn (xS X) by show r < xn X; omega) ht2) (by first | assumption | rfl) rfl rfl rfl (Nat.le_of_ble_eq_true rfl) (Nat.le_of_ble_eq_true rfl) ?_
      rintro _ h2 ⟨rfl, f2⟩
      dsimp only [Option.toList, List.cons_append, List.nil_append, Nat.reduceAdd]
      refine aw_iret dX7_canHave_33 rfl (by first | rfl | exact (pk_charN (by omega)).1 | decide) ?_
      exact QX.fq hr hv f2
/-- behind how many rounds of leap years all have their rooms again -/
def rdS (X : XS) : Nat → Nat → Nat
  | 0, _ => 4294967292
  | u + 1, k => if ∀ i, i < xn X → rmX X (240 * k) i = (xC X).2.2 i then 240 * k else rdS X u (k + 1)
def a_round (X : XS) : Int32 := nI (rdS X 4 1)
theorem x_round {d : Nat} {h : Hp} {X : XS} (hr : RX h X) (hv : VX X) : RT mX7_round (d + 6) [.ref 0] h (QX h X (a_round X)) := by
  have hn := hv.n
  have hc1 := hv.2.1.1
  have hok := cL_ok hv.1 hv.2.1
  have loop : ∀ u k s c hh, k + u = 5 → 1 ≤ k → WS hh (xS X) (xC X).2.1 (cL (xn X) (xC X)) ((xC X).1 + 240 * (k - 1)) (rmX X (240 * (k - 1))) s c → FW6 h hh → AW mX7_round (d + 6) 17 [some (.ref 0), some (.int (nI 240)), some (.int (nI (240 * k)))] [] hh (QX h X (nI (rdS X u k))) := by
    intro u
    induction u with
    | zero =>
      intro k s c hh hk h1 hw1 hf
      refine aw_iload_n dX7_round_17 rfl rfl ?_
      refine aw_iconst (v := nI 4) dX7_round_18 (by decide) ?_
      refine aw_iload_n dX7_round_19 rfl rfl ?_
      refine aw_imulN dX7_round_20 ?_
      refine aw_icmp_gtN (tgt := 65) dX7_round_21 (by decide) (by omega) (by omega) (fun _ => ?_) (fun q => absurd q (by omega))
      refine aw_bipush (v := nI 4294967292) dX7_round_65 (by decide) ?_
      refine aw_iret dX7_round_67 rfl (by first | rfl | exact (pk_charN (by omega)).1 | decide) ?_
      exact QX.fq hr hv (FQ.of hf)
    | succ u ih =>
      intro k s c hh hk h1 hw1 hf
      have hpm := rmX_pm hv (240 * (k - 1))
      refine aw_iload_n dX7_round_17 rfl rfl ?_
      refine aw_iconst (v := nI 4) dX7_round_18 (by decide) ?_
      refine aw_iload_n dX7_round_19 rfl rfl ?_
      refine aw_imulN dX7_round_20 ?_
      refine aw_icmp_gtN (tgt := 65) dX7_round_21 (by decide) (by omega) (by omega) (fun q => absurd q (by omega)) (fun _ => ?_)
      refine aw_aload_n dX7_round_24 rfl rfl ?_
      refine aw_getR dX7_round_25 fX7_60 (by first | assumption | rfl) (by rfl) ?_
      refine aw_iload_n dX7_round_28 rfl rfl ?_
      refine aw_callV dX7_round_29 kX7_159 (c_W_go hw1 hok hpm (by omega)) (by first | assumption | rfl) rfl rfl rfl (Nat.le_of_ble_eq_true rfl) (Nat.le_of_ble_eq_true rfl) ?_
      rintro _ h2 ⟨rfl, w2, f2⟩
      dsimp only [Option.toList, List.cons_append, List.nil_append, Nat.reduceAdd]
      refine aw_aload_n dX7_round_32 rfl rfl ?_
      refine aw_getR dX7_round_33 fX7_60 (by first | assumption | rfl) (by rfl) ?_
      refine aw_callVF dX7_round_36 kX7_162 (c_W_standing) (by first | assumption | rfl) rfl rfl rfl (Nat.le_of_ble_eq_true rfl) (Nat.le_of_ble_eq_true rfl) ?_
      dsimp only [Option.toList, List.cons_append, List.nil_append, Nat.reduceAdd]
      refine aw_aload_n dX7_round_39 rfl rfl ?_
      refine aw_getR dX7_round_40 fX7_29 (by first | assumption | rfl) (by rfl) ?_
      refine aw_aload_n dX7_round_43 rfl rfl ?_
      refine aw_getR dX7_round_44 fX7_19 (by first | assumption | rfl) (by rfl) ?_
      refine aw_callVF dX7_round_47 kX7_113 (c_P_cousins) (by first | assumption | rfl) rfl rfl rfl (Nat.le_of_ble_eq_true rfl) (Nat.le_of_ble_eq_true rfl) ?_
      dsimp only [Option.toList, List.cons_append, List.nil_append, Nat.reduceAdd]
      have ew : rmF (xS X) (xC X).2.1 (cL (xn X) (xC X)) ((xC X).1 + 240 * (k - 1)) (rmX X (240 * (k - 1))) 240 = rmX X (240 * k) := by
        have e := rmF_add (S := xS X) (b := (xC X).2.1) (L := cL (xn X) (xC X)) (dd := (xC X).1) (f := (xC X).2.2) (g := 240 * (k - 1)) 240
        rw [show 240 * (k - 1) + 240 = 240 * k by omega] at e
        exact e
      rw [ew] at w2
      have ed : (xC X).1 + 240 * (k - 1) + 240 = (xC X).1 + 240 * (k + 1 - 1) := by omega
      have f3 := hf.trans f2
      have e62 : ∀ i, i < xn X → h2 62 i = rmX X (240 * k) i := fun i hi => (w2.2.2.2 i hi).1
      have e17 : ∀ i, i < xn X → h2 17 i = (xC X).2.2 i := fun i hi => by rw [f3 17 (by decide)]; exact (hr.2.1.2 i hi).1
      have hpk := rmX_pm hv (240 * k)
      rw [show h2 4 5 = xn X from w2.1.1]
      refine aw_callVF dX7_round_50 kX7_214 (c_S_hasRoomsOf ⟨rfl, rfl, rfl⟩ ⟨rfl, rfl, rfl⟩ hn.2 (fun i hi => ⟨by show h2 62 i < _; rw [e62 i hi]; have := hpk.1 i hi; omega, by show h2 17 i < _; rw [e17 i hi]; have := hv.2.1.2.1.1 i hi; omega⟩)) (by first | assumption | rfl) rfl rfl rfl (Nat.le_of_ble_eq_true rfl) (Nat.le_of_ble_eq_true rfl) ?_
      dsimp only [Option.toList, List.cons_append, List.nil_append, Nat.reduceAdd]
      by_cases hq : ∀ i, i < xn X → rmX X (240 * k) i = (xC X).2.2 i
      · have e : rdS X (u + 1) k = 240 * k := by rw [rdS, if_pos hq]
        rw [e, if_pos (fun i hi => by rw [e62 i hi, e17 i hi]; exact hq i hi)]
        refine aw_if_eqN (tgt := 58) dX7_round_53 (by decide) (by omega) (fun q => absurd q (by omega)) (fun _ => ?_)
        refine aw_iload_n dX7_round_56 rfl rfl ?_
        refine aw_iret dX7_round_57 rfl (by first | rfl | exact (pk_charN (by omega)).1 | decide) ?_
        exact QX.fq hr hv (FQ.of f3)
      · have e : rdS X (u + 1) k = rdS X u (k + 1) := by rw [rdS, if_neg hq]
        rw [e, if_neg (fun z => hq (fun i hi => by rw [← e62 i hi, ← e17 i hi]; exact z i hi))]
        refine aw_if_eqN (tgt := 58) dX7_round_53 (by decide) (by omega) (fun _ => ?_) (fun q => absurd q (by omega))
        refine aw_iload_n dX7_round_58 rfl rfl ?_
        refine aw_iload_n dX7_round_59 rfl rfl ?_
        refine aw_iaddN dX7_round_60 ?_
        refine aw_istore_n dX7_round_61 rfl (Nat.le_of_ble_eq_true rfl) rfl ?_
        dsimp only [List.set]
        refine aw_goto (tgt := 17) dX7_round_62 (by decide) ?_
        rw [show 240 * k + 240 = 240 * (k + 1) by omega]
        rw [ed] at w2
        exact ih (k + 1) _ _ h2 (by omega) (by omega) w2 f3
  change AW mX7_round _ 0 [some (.ref 0), none, none] [] h _
  refine aw_sipush (v := nI 240) dX7_round_0 (by decide) ?_
  refine aw_istore_n dX7_round_3 rfl (Nat.le_of_ble_eq_true rfl) rfl ?_
  dsimp only [List.set]
  refine aw_aload_n dX7_round_4 rfl rfl ?_
  refine aw_getR dX7_round_5 fX7_60 (by first | assumption | rfl) (by rfl) ?_
  refine aw_aload_n dX7_round_8 rfl rfl ?_
  refine aw_getR dX7_round_9 fX7_29 (by first | assumption | rfl) (by rfl) ?_
  refine aw_callV dX7_round_12 kX7_133 (c_Xbegin hr hv) (by first | assumption | rfl) rfl rfl rfl (Nat.le_of_ble_eq_true rfl) (Nat.le_of_ble_eq_true rfl) ?_
  rintro _ h2 ⟨rfl, w2, f2⟩
  dsimp only [Option.toList, List.cons_append, List.nil_append, Nat.reduceAdd]
  refine aw_iload_n dX7_round_15 rfl rfl ?_
  refine aw_istore_n dX7_round_16 rfl (Nat.le_of_ble_eq_true rfl) rfl ?_
  dsimp only [List.set]
  exact loop 4 1 _ _ h2 (by omega) (by omega) w2 f2
/-- the first k who has least V of 0 .. k -/
def loS (V : Nat → Nat) : Nat → Nat
  | 0 => 0
  | k + 1 => if V (k + 1) < V (loS V k) then k + 1 else loS V k
theorem loS_le (V : Nat → Nat) : ∀ k, loS V k ≤ k := by
  intro k
  induction k with
  | zero => exact Nat.le_refl _
  | succ k ih =>
    unfold loS
    split <;> omega
noncomputable def a_loses (X : XS) (w : Int32) : Int32 := match ix w 0 1 with
  | none => aBAD
  | some w => nI (if w = 0 then loS (fun i => vSun (xS X) (xC X) i 60 (xC X).2.2) (xn X - 1) else vSun (xS X) (xC X) (loS (fun i => vSun (xS X) (xC X) i 60 (xC X).2.2) (xn X - 1)) 60 (xC X).2.2)
theorem x_loses {d : Nat} {h : Hp} {X : XS} {w : Int32} (hr : RX h X) (hv : VX X) : RT mX7_loses (d + 6) [.ref 0, .int w] h (QX h X (a_loses X w)) := by
  have hn := hv.n
  have hc1 := hv.2.1.1
  have hok := cL_ok hv.1 hv.2.1
  unfold a_loses
  change AW mX7_loses _ 0 [some (.ref 0), some (.int w), none, none] [] h _
  cases ew : ix w 0 1 with
  | none =>
    refine aw_iload_n dX7_loses_0 rfl rfl ?_
    refine aw_iconst (v := nI 0) dX7_loses_1 (by decide) ?_
    refine aw_iconst (v := nI 1) dX7_loses_2 (by decide) ?_
    refine aw_callSF dX7_loses_3 kX7_99 (c_wiN ew) rfl rfl rfl (Nat.le_of_ble_eq_true rfl) (Nat.le_of_ble_eq_true rfl) ?_
    dsimp only [Option.toList, List.cons_append, List.nil_append, Nat.reduceAdd]
    refine aw_if_neN (tgt := 11) dX7_loses_6 (by decide) (by omega) (fun q => absurd q (by omega)) (fun _ => ?_)
    refine aw_iconst (v := nI 4294967295) dX7_loses_9 (by decide) ?_
    refine aw_iret dX7_loses_10 rfl (by first | rfl | exact (pk_charN (by omega)).1 | decide) ?_
    exact QX.same hr
  | some w =>
    obtain ⟨rfl, hw1, hw2⟩ := ix_s (by omega) (by omega) ew
    dsimp only
    refine aw_iload_n dX7_loses_0 rfl rfl ?_
    refine aw_iconst (v := nI 0) dX7_loses_1 (by decide) ?_
    refine aw_iconst (v := nI 1) dX7_loses_2 (by decide) ?_
    refine aw_callSF dX7_loses_3 kX7_99 (c_wiS ew) rfl rfl rfl (Nat.le_of_ble_eq_true rfl) (Nat.le_of_ble_eq_true rfl) ?_
    dsimp only [Option.toList, List.cons_append, List.nil_append, Nat.reduceAdd]
    refine aw_if_neN (tgt := 11) dX7_loses_6 (by decide) (by omega) (fun _ => ?_) (fun q => absurd q (by omega))
    refine aw_aload_n dX7_loses_11 rfl rfl ?_
    refine aw_getR dX7_loses_12 fX7_60 (by first | assumption | rfl) (by rfl) ?_
    refine aw_aload_n dX7_loses_15 rfl rfl ?_
    refine aw_getR dX7_loses_16 fX7_29 (by first | assumption | rfl) (by rfl) ?_
    refine aw_callV dX7_loses_19 kX7_133 (c_Xbegin hr hv) (by first | assumption | rfl) rfl rfl rfl (Nat.le_of_ble_eq_true rfl) (Nat.le_of_ble_eq_true rfl) ?_
    rintro _ h2 ⟨rfl, w2, f2⟩
    dsimp only [Option.toList, List.cons_append, List.nil_append, Nat.reduceAdd]
    refine aw_aload_n dX7_loses_22 rfl rfl ?_
    refine aw_getR dX7_loses_23 fX7_60 (by first | assumption | rfl) (by rfl) ?_
    refine aw_bipush (v := nI 60) dX7_loses_26 (by decide) ?_
    refine aw_callV dX7_loses_28 kX7_159 (c_W_go w2 hok hv.2.1.2.1 (by omega)) (by first | assumption | rfl) rfl rfl rfl (Nat.le_of_ble_eq_true rfl) (Nat.le_of_ble_eq_true rfl) ?_
    rintro _ h3 ⟨rfl, w3, f3⟩
    dsimp only [Option.toList, List.cons_append, List.nil_append, Nat.reduceAdd]
    refine aw_iconst (v := nI 0) dX7_loses_31 (by decide) ?_
    refine aw_istore_n dX7_loses_32 rfl (Nat.le_of_ble_eq_true rfl) rfl ?_
    dsimp only [List.set]
    refine aw_iconst (v := nI 1) dX7_loses_33 (by decide) ?_
    refine aw_istore_n dX7_loses_34 rfl (Nat.le_of_ble_eq_true rfl) rfl ?_
    dsimp only [List.set]
    obtain ⟨V, hV⟩ : ∃ V, V = (fun i => vSun (xS X) (xC X) i 60 (xC X).2.2) := ⟨_, rfl⟩
    have eV : ∀ i, vSun (xS X) (xC X) i 60 (xC X).2.2 = V i := fun i => by rw [hV]
    rw [← hV, eV]
    have e65 : ∀ i, i < xn X → h3 65 i = V i := fun i hi => by
      have z := (w3.2.2.2 i hi).2.2.2
      dsimp only at z
      rw [z, Nat.zero_add, hV]
      rfl
    have vlt : ∀ i, i < xn X → V i ≤ 540 := fun i hi => by
      have := sunF_lt (b := (xC X).2.1) (dd := (xC X).1) hv.1 (fun q hq => (hok.2 q hq).2) hv.2.1.2.1 hi 60
      rw [hV]
      exact this
    have e45 : h3 4 5 = xn X := w3.1.1
    have loop : ∀ u k, k + u = xn X - 1 → AW mX7_loses (d + 6) 35 [some (.ref 0), some (.int (nI w)), some (.int (nI (loS V k))), some (.int (nI (k + 1)))] [] h3 (QX h X (nI (if w = 0 then loS V (xn X - 1) else V (loS V (xn X - 1))))) := by
      intro u
      induction u with
      | zero =>
        intro k hk
        have ek : k = xn X - 1 := by omega
        subst ek
        have hl := loS_le V (xn X - 1)
        refine aw_iload_n dX7_loses_35 rfl rfl ?_
        refine aw_aload_n dX7_loses_36 rfl rfl ?_
        refine aw_getR dX7_loses_37 fX7_19 (by first | assumption | rfl) (by rfl) ?_
        refine aw_callVF dX7_loses_40 kX7_113 (c_P_cousins) (by first | assumption | rfl) rfl rfl rfl (Nat.le_of_ble_eq_true rfl) (Nat.le_of_ble_eq_true rfl) ?_
        dsimp only [Option.toList, List.cons_append, List.nil_append, Nat.reduceAdd]
        rw [e45]
        refine aw_icmp_geN (tgt := 73) dX7_loses_43 (by decide) (by omega) (by omega) (fun _ => ?_) (fun q => absurd q (by omega))
        refine aw_iload_n dX7_loses_73 rfl rfl ?_
        rcases (show w = 0 ∨ w = 1 by omega) with rfl | rfl
        · refine aw_if_neN (tgt := 81) dX7_loses_74 (by decide) (by omega) (fun q => absurd q (by omega)) (fun _ => ?_)
          refine aw_iload_n dX7_loses_77 rfl rfl ?_
          refine aw_goto (tgt := 89) dX7_loses_78 (by decide) ?_
          refine aw_iret dX7_loses_89 rfl (by first | rfl | exact (pk_charN (by omega)).1 | decide) ?_
          exact QX.fq hr hv (FQ.of (f2.trans f3))
        · refine aw_if_neN (tgt := 81) dX7_loses_74 (by decide) (by omega) (fun _ => ?_) (fun q => absurd q (by omega))
          refine aw_aload_n dX7_loses_81 rfl rfl ?_
          refine aw_getR dX7_loses_82 fX7_60 (by first | assumption | rfl) (by rfl) ?_
          refine aw_iload_n dX7_loses_85 rfl rfl ?_
          refine aw_callVF dX7_loses_86 kX7_181 (c_W_sunTogether (by omega)) (by first | assumption | rfl) rfl rfl rfl (Nat.le_of_ble_eq_true rfl) (Nat.le_of_ble_eq_true rfl) ?_
          dsimp only [Option.toList, List.cons_append, List.nil_append, Nat.reduceAdd]
          rw [e65 _ (by omega)]
          refine aw_iret dX7_loses_89 rfl (by first | rfl | exact (pk_charN (by omega)).1 | decide) ?_
          exact QX.fq hr hv (FQ.of (f2.trans f3))
      | succ u ih =>
        intro k hk
        have hl := loS_le V k
        have v1 := vlt (k + 1) (by omega)
        have v2 := vlt (loS V k) (by omega)
        refine aw_iload_n dX7_loses_35 rfl rfl ?_
        refine aw_aload_n dX7_loses_36 rfl rfl ?_
        refine aw_getR dX7_loses_37 fX7_19 (by first | assumption | rfl) (by rfl) ?_
        refine aw_callVF dX7_loses_40 kX7_113 (c_P_cousins) (by first | assumption | rfl) rfl rfl rfl (Nat.le_of_ble_eq_true rfl) (Nat.le_of_ble_eq_true rfl) ?_
        dsimp only [Option.toList, List.cons_append, List.nil_append, Nat.reduceAdd]
        rw [e45]
        refine aw_icmp_geN (tgt := 73) dX7_loses_43 (by decide) (by omega) (by omega) (fun q => absurd q (by omega)) (fun _ => ?_)
        refine aw_aload_n dX7_loses_46 rfl rfl ?_
        refine aw_getR dX7_loses_47 fX7_60 (by first | assumption | rfl) (by rfl) ?_
        refine aw_iload_n dX7_loses_50 rfl rfl ?_
        refine aw_callVF dX7_loses_51 kX7_181 (c_W_sunTogether (by omega)) (by first | assumption | rfl) rfl rfl rfl (Nat.le_of_ble_eq_true rfl) (Nat.le_of_ble_eq_true rfl) ?_
        dsimp only [Option.toList, List.cons_append, List.nil_append, Nat.reduceAdd]
        refine aw_aload_n dX7_loses_54 rfl rfl ?_
        refine aw_getR dX7_loses_55 fX7_60 (by first | assumption | rfl) (by rfl) ?_
        refine aw_iload_n dX7_loses_58 rfl rfl ?_
        refine aw_callVF dX7_loses_59 kX7_181 (c_W_sunTogether (by omega)) (by first | assumption | rfl) rfl rfl rfl (Nat.le_of_ble_eq_true rfl) (Nat.le_of_ble_eq_true rfl) ?_
        dsimp only [Option.toList, List.cons_append, List.nil_append, Nat.reduceAdd]
        rw [e65 _ (by omega), e65 _ (by omega)]
        refine aw_icmp_geN (tgt := 67) dX7_loses_62 (by decide) (by omega) (by omega) (fun c62 => ?_) (fun c62 => ?_)
        · have e : loS V (k + 1) = loS V k := by rw [loS, if_neg (by omega)]
          refine aw_iincN (v := 1) dX7_loses_67 rfl rfl ?_
          dsimp only [List.set]
          refine aw_goto (tgt := 35) dX7_loses_70 (by decide) ?_
          rw [← e]
          exact ih (k + 1) (by omega)
        · have e : loS V (k + 1) = k + 1 := by rw [loS, if_pos (by omega)]
          refine aw_iload_n dX7_loses_65 rfl rfl ?_
          refine aw_istore_n dX7_loses_66 rfl (Nat.le_of_ble_eq_true rfl) rfl ?_
          dsimp only [List.set]
          refine aw_iincN (v := 1) dX7_loses_67 rfl rfl ?_
          dsimp only [List.set]
          refine aw_goto (tgt := 35) dX7_loses_70 (by decide) ?_
          have := ih (k + 1) (by omega)
          rw [e] at this
          exact this

    exact loop (xn X - 1) 0 (by omega)
def nxV (X : XS) (p : Nat) : Nat := ahd (xC X).2.1 (xC X).1 (cL (xn X) (xC X) p)
noncomputable def a_next (X : XS) (w : Int32) : Int32 := match ix w 0 1 with
  | none => aBAD
  | some w => nI (if w = 0 then cL (xn X) (xC X) (loS (nxV X) (xn X - 1)) else nxV X (loS (nxV X) (xn X - 1)))
theorem x_next {d : Nat} {h : Hp} {X : XS} {w : Int32} (hr : RX h X) (hv : VX X) : RT mX7_next (d + 6) [.ref 0, .int w] h (QX h X (a_next X w)) := by
  have hn := hv.n
  have hc1 := hv.2.1.1
  have hok := cL_ok hv.1 hv.2.1
  unfold a_next
  change AW mX7_next _ 0 [some (.ref 0), some (.int w), none, none, none] [] h _
  cases ew : ix w 0 1 with
  | none =>
    refine aw_iload_n dX7_next_0 rfl rfl ?_
    refine aw_iconst (v := nI 0) dX7_next_1 (by decide) ?_
    refine aw_iconst (v := nI 1) dX7_next_2 (by decide) ?_
    refine aw_callSF dX7_next_3 kX7_99 (c_wiN ew) rfl rfl rfl (Nat.le_of_ble_eq_true rfl) (Nat.le_of_ble_eq_true rfl) ?_
    dsimp only [Option.toList, List.cons_append, List.nil_append, Nat.reduceAdd]
    refine aw_if_neN (tgt := 11) dX7_next_6 (by decide) (by omega) (fun q => absurd q (by omega)) (fun _ => ?_)
    refine aw_iconst (v := nI 4294967295) dX7_next_9 (by decide) ?_
    refine aw_iret dX7_next_10 rfl (by first | rfl | exact (pk_charN (by omega)).1 | decide) ?_
    exact QX.same hr
  | some w =>
    obtain ⟨rfl, hw1, hw2⟩ := ix_s (by omega) (by omega) ew
    dsimp only
    refine aw_iload_n dX7_next_0 rfl rfl ?_
    refine aw_iconst (v := nI 0) dX7_next_1 (by decide) ?_
    refine aw_iconst (v := nI 1) dX7_next_2 (by decide) ?_
    refine aw_callSF dX7_next_3 kX7_99 (c_wiS ew) rfl rfl rfl (Nat.le_of_ble_eq_true rfl) (Nat.le_of_ble_eq_true rfl) ?_
    dsimp only [Option.toList, List.cons_append, List.nil_append, Nat.reduceAdd]
    refine aw_if_neN (tgt := 11) dX7_next_6 (by decide) (by omega) (fun _ => ?_) (fun q => absurd q (by omega))
    refine aw_aload_n dX7_next_11 rfl rfl ?_
    refine aw_getR dX7_next_12 fX7_60 (by first | assumption | rfl) (by rfl) ?_
    refine aw_aload_n dX7_next_15 rfl rfl ?_
    refine aw_getR dX7_next_16 fX7_29 (by first | assumption | rfl) (by rfl) ?_
    refine aw_callV dX7_next_19 kX7_133 (c_Xbegin hr hv) (by first | assumption | rfl) rfl rfl rfl (Nat.le_of_ble_eq_true rfl) (Nat.le_of_ble_eq_true rfl) ?_
    rintro _ h2 ⟨rfl, w2, f2⟩
    dsimp only [Option.toList, List.cons_append, List.nil_append, Nat.reduceAdd]
    refine aw_aload_n dX7_next_22 rfl rfl ?_
    refine aw_getR dX7_next_23 fX7_60 (by first | assumption | rfl) (by rfl) ?_
    refine aw_iconst (v := nI 0) dX7_next_26 (by decide) ?_
    refine aw_callVF dX7_next_27 kX7_242 (c_W_listed (by omega)) (by first | assumption | rfl) rfl rfl rfl (Nat.le_of_ble_eq_true rfl) (Nat.le_of_ble_eq_true rfl) ?_
    dsimp only [Option.toList, List.cons_append, List.nil_append, Nat.reduceAdd]
    have e64 : ∀ p, p < xn X → h2 64 p = cL (xn X) (xC X) p := fun p hp => (w2.2.2.2 p hp).2.2.1
    have hL : ∀ p, p < xn X → cL (xn X) (xC X) p < xn X := fun p hp => (hok.2 p hp).2
    have e16 : h2 16 2 = (xC X).1 := by rw [f2 16 (by decide)]; exact hr.2.1.1
    have e18 : ∀ i, i < xn X → h2 18 i = (xC X).2.1 i := fun i hi => by rw [f2 18 (by decide)]; exact (hr.2.1.2 i hi).2
    have hb : ∀ i, i < xn X → (xC X).2.1 i < 60 := hv.2.1.2.2
    have e45 : h2 4 5 = xn X := w2.1.1
    have dT : ∀ {dd : Nat} (p : Nat), p < xn X → RT mX4_daysToBirthdayOf (dd + 2) [.ref 16, .int (nI (cL (xn X) (xC X) p))] h2 (fun v h' => v = some (.int (nI (nxV X p))) ∧ h' = h2) := fun {dd} p hp => by
      refine (c_S_daysTo (d := dd) (o := 16) (i := cL (xn X) (xC X) p) (h := h2) ⟨rfl, rfl, rfl⟩ (by have := hL p hp; omega) (by show h2 18 _ < 60; rw [e18 _ (hL p hp)]; exact hb _ (hL p hp)) (by rw [e16]; omega)).imp ?_
      rintro v h' ⟨rfl, rfl⟩
      refine ⟨?_, rfl⟩
      rw [show h' (16 + 2) (cL (xn X) (xC X) p) = (xC X).2.1 (cL (xn X) (xC X) p) from e18 _ (hL p hp), e16]
      rfl
    have nlt : ∀ p, nxV X p < 60 := fun p => Nat.mod_lt _ (by decide)
    have loop : ∀ u k, k + u = xn X - 1 → AW mX7_next (d + 6) 33 [some (.ref 0), some (.int (nI w)), some (.int (nI (cL (xn X) (xC X) (loS (nxV X) k)))), some (.int (nI (k + 1))), none] [] h2 (QX h X (nI (if w = 0 then cL (xn X) (xC X) (loS (nxV X) (xn X - 1)) else nxV X (loS (nxV X) (xn X - 1))))) := by
      intro u
      induction u with
      | zero =>
        intro k hk
        have ek : k = xn X - 1 := by omega
        subst ek
        have hl := loS_le (nxV X) (xn X - 1)
        refine aw_iload_n dX7_next_33 rfl rfl ?_
        refine aw_aload_n dX7_next_34 rfl rfl ?_
        refine aw_getR dX7_next_35 fX7_19 (by first | assumption | rfl) (by rfl) ?_
        refine aw_callVF dX7_next_38 kX7_113 (c_P_cousins) (by first | assumption | rfl) rfl rfl rfl (Nat.le_of_ble_eq_true rfl) (Nat.le_of_ble_eq_true rfl) ?_
        dsimp only [Option.toList, List.cons_append, List.nil_append, Nat.reduceAdd]
        rw [e45]
        refine aw_icmp_geN (tgt := 83) dX7_next_41 (by decide) (by omega) (by omega) (fun _ => ?_) (fun q => absurd q (by omega))
        refine aw_iload_n dX7_next_83 rfl rfl ?_
        rcases (show w = 0 ∨ w = 1 by omega) with rfl | rfl
        · refine aw_if_neN (tgt := 91) dX7_next_84 (by decide) (by omega) (fun q => absurd q (by omega)) (fun _ => ?_)
          refine aw_iload_n dX7_next_87 rfl rfl ?_
          refine aw_goto (tgt := 99) dX7_next_88 (by decide) ?_
          refine aw_iret dX7_next_99 rfl (by first | rfl | exact (pk_charN (by omega)).1 | decide) ?_
          exact QX.fq hr hv (FQ.of f2)
        · refine aw_if_neN (tgt := 91) dX7_next_84 (by decide) (by omega) (fun _ => ?_) (fun q => absurd q (by omega))
          refine aw_aload_n dX7_next_91 rfl rfl ?_
          refine aw_getR dX7_next_92 fX7_29 (by first | assumption | rfl) (by rfl) ?_
          refine aw_iload_n dX7_next_95 rfl rfl ?_
          refine aw_callVF dX7_next_96 kX7_245 (dT _ (by omega)) (by first | assumption | rfl) rfl rfl rfl (Nat.le_of_ble_eq_true rfl) (Nat.le_of_ble_eq_true rfl) ?_
          dsimp only [Option.toList, List.cons_append, List.nil_append, Nat.reduceAdd]
          refine aw_iret dX7_next_99 rfl (by first | rfl | exact (pk_charN (by omega)).1 | decide) ?_
          exact QX.fq hr hv (FQ.of f2)
      | succ u ih =>
        intro k hk
        have hl := loS_le (nxV X) k
        have n1 := nlt (k + 1)
        have n2 := nlt (loS (nxV X) k)
        refine aw_iload_n dX7_next_33 rfl rfl ?_
        refine aw_aload_n dX7_next_34 rfl rfl ?_
        refine aw_getR dX7_next_35 fX7_19 (by first | assumption | rfl) (by rfl) ?_
        refine aw_callVF dX7_next_38 kX7_113 (c_P_cousins) (by first | assumption | rfl) rfl rfl rfl (Nat.le_of_ble_eq_true rfl) (Nat.le_of_ble_eq_true rfl) ?_
        dsimp only [Option.toList, List.cons_append, List.nil_append, Nat.reduceAdd]
        rw [e45]
        refine aw_icmp_geN (tgt := 83) dX7_next_41 (by decide) (by omega) (by omega) (fun q => absurd q (by omega)) (fun _ => ?_)
        refine aw_aload_n dX7_next_44 rfl rfl ?_
        refine aw_getR dX7_next_45 fX7_60 (by first | assumption | rfl) (by rfl) ?_
        refine aw_iload_n dX7_next_48 rfl rfl ?_
        refine aw_callVF dX7_next_49 kX7_242 (c_W_listed (by omega)) (by first | assumption | rfl) rfl rfl rfl (Nat.le_of_ble_eq_true rfl) (Nat.le_of_ble_eq_true rfl) ?_
        dsimp only [Option.toList, List.cons_append, List.nil_append, Nat.reduceAdd]
        rw [e64 _ (by omega)]
        refine aw_istore dX7_next_52 (Nat.le_of_ble_eq_true rfl) rfl ?_
        dsimp only [List.set]
        refine aw_aload_n dX7_next_54 rfl rfl ?_
        refine aw_getR dX7_next_55 fX7_29 (by first | assumption | rfl) (by rfl) ?_
        refine aw_iload dX7_next_58 rfl ?_
        refine aw_callVF dX7_next_60 kX7_245 (dT _ (by omega)) (by first | assumption | rfl) rfl rfl rfl (Nat.le_of_ble_eq_true rfl) (Nat.le_of_ble_eq_true rfl) ?_
        dsimp only [Option.toList, List.cons_append, List.nil_append, Nat.reduceAdd]
        refine aw_aload_n dX7_next_63 rfl rfl ?_
        refine aw_getR dX7_next_64 fX7_29 (by first | assumption | rfl) (by rfl) ?_
        refine aw_iload_n dX7_next_67 rfl rfl ?_
        refine aw_callVF dX7_next_68 kX7_245 (dT _ (by omega)) (by first | assumption | rfl) rfl rfl rfl (Nat.le_of_ble_eq_true rfl) (Nat.le_of_ble_eq_true rfl) ?_
        dsimp only [Option.toList, List.cons_append, List.nil_append, Nat.reduceAdd]
        refine aw_icmp_geN (tgt := 77) dX7_next_71 (by decide) (by omega) (by omega) (fun c71 => ?_) (fun c71 => ?_)
        · have e : loS (nxV X) (k + 1) = loS (nxV X) k := by rw [loS, if_neg (by omega)]
          refine aw_iincN (v := 1) dX7_next_77 rfl rfl ?_
          dsimp only [List.set]
          refine aw_goto (tgt := 33) dX7_next_80 (by decide) ?_
          refine aw_forget 4 ?_
          dsimp only [List.set]
          rw [← e]
          exact ih (k + 1) (by omega)
        · have e : loS (nxV X) (k + 1) = k + 1 := by rw [loS, if_pos (by omega)]
          refine aw_iload dX7_next_74 rfl ?_
          refine aw_istore_n dX7_next_76 rfl (Nat.le_of_ble_eq_true rfl) rfl ?_
          dsimp only [List.set]
          refine aw_iincN (v := 1) dX7_next_77 rfl rfl ?_
          dsimp only [List.set]
          refine aw_goto (tgt := 33) dX7_next_80 (by decide) ?_
          refine aw_forget 4 ?_
          dsimp only [List.set]
          have := ih (k + 1) (by omega)
          rw [e] at this
          exact this
    rw [e64 0 (by omega)]
    refine aw_istore_n dX7_next_30 rfl (Nat.le_of_ble_eq_true rfl) rfl ?_
    dsimp only [List.set]
    refine aw_iconst (v := nI 1) dX7_next_31 (by decide) ?_
    refine aw_istore_n dX7_next_32 rfl (Nat.le_of_ble_eq_true rfl) rfl ?_
    dsimp only [List.set]
    exact loop (xn X - 1) 0 (by omega)
