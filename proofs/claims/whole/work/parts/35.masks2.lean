/-! the reference: canHave, round, loses, next, year -/
theorem y_canHave {d : Nat} {h : Hp} {X : XS} {r t : Int32} (hr : RM h X) (hv : VX X) : RT mX8_canHave (d + 6) [.ref 67, .int r, .int t] h (QM h X (a_canHave X r t)) := by
  have hn := hv.n
  have hS := hv.1
  have hok := cL_ok hv.1 hv.2.1
  have hc1 := hv.2.1.1
  have hLs : ∀ q, q < sn (xS X) → cL (xn X) (xC X) q < sn (xS X) := fun q hq => (hok.2 q hq).2
  unfold a_canHave
  change AW mX8_canHave _ 0 [some (.ref 67), some (.int r), some (.int t), none, none] [] h _
  cases ei : ix r 0 (xn X - 1) with
  | none =>
    refine aw_aload_n dX8_canHave_0 rfl rfl ?_
    refine aw_iload_n dX8_canHave_1 rfl rfl ?_
    refine aw_callVF dX8_canHave_2 kX8_151 (m_oneN hr hv ei) (by first | assumption | rfl) rfl rfl rfl (Nat.le_of_ble_eq_true rfl) (Nat.le_of_ble_eq_true rfl) ?_
    dsimp only [Option.toList, List.cons_append, List.nil_append, Nat.reduceAdd]
    refine aw_if_eqN (tgt := 18) dX8_canHave_5 (by decide) (by omega) (fun _ => ?_) (fun q => absurd q (by omega))
    refine aw_iconst (v := nI 4294967295) dX8_canHave_18 (by decide) ?_
    refine aw_iret dX8_canHave_19 rfl (by first | rfl | exact (pk_charN (by omega)).1 | decide) ?_
    exact QM.same hr
  | some r =>
    obtain ⟨rfl, hi1, hi2⟩ := ix_s (by omega) (by omega) ei
    dsimp only
    cases et : ix t 0 120 with
    | none =>
      refine aw_aload_n dX8_canHave_0 rfl rfl ?_
      refine aw_iload_n dX8_canHave_1 rfl rfl ?_
      refine aw_callVF dX8_canHave_2 kX8_151 (m_oneS hr hv ei) (by first | assumption | rfl) rfl rfl rfl (Nat.le_of_ble_eq_true rfl) (Nat.le_of_ble_eq_true rfl) ?_
      dsimp only [Option.toList, List.cons_append, List.nil_append, Nat.reduceAdd]
      refine aw_if_eqN (tgt := 18) dX8_canHave_5 (by decide) (by omega) (fun q => absurd q (by omega)) (fun _ => ?_)
      refine aw_iload_n dX8_canHave_8 rfl rfl ?_
      refine aw_iconst (v := nI 0) dX8_canHave_9 (by decide) ?_
      refine aw_bipush (v := nI 120) dX8_canHave_10 (by decide) ?_
      refine aw_callSF dX8_canHave_12 kX8_76 (m_iN et) rfl rfl rfl (Nat.le_of_ble_eq_true rfl) (Nat.le_of_ble_eq_true rfl) ?_
      dsimp only [Option.toList, List.cons_append, List.nil_append, Nat.reduceAdd]
      refine aw_if_neN (tgt := 20) dX8_canHave_15 (by decide) (by omega) (fun q => absurd q (by omega)) (fun _ => ?_)
      refine aw_iconst (v := nI 4294967295) dX8_canHave_18 (by decide) ?_
      refine aw_iret dX8_canHave_19 rfl (by first | rfl | exact (pk_charN (by omega)).1 | decide) ?_
      exact QM.same hr
    | some t =>
      obtain ⟨rfl, ht1, ht2⟩ := ix_s (by omega) (by omega) et
      dsimp only
      have hrn : r < xn X := by omega
      have loop : ∀ u c hh, c + u = 64 → F81 h hh → AW mX8_canHave (d + 6) 46 [some (.ref 67), some (.int (nI r)), some (.int (nI t)), some (.int (cvS (xS X) (xC X) r (t + 1) c)), some (.int (nI c))] [] hh (QM h X (cvS (xS X) (xC X) r (t + 1) 64)) := by
        intro u
        induction u with
        | zero =>
          intro c hh hc hg
          have ec : c = 64 := by omega
          subst ec
          refine aw_iload dX8_canHave_46 rfl ?_
          refine aw_bipush (v := nI 64) dX8_canHave_48 (by decide) ?_
          refine aw_icmp_geN (tgt := 113) dX8_canHave_50 (by decide) (by omega) (by omega) (fun _ => ?_) (fun q => absurd q (by omega))
          refine aw_iload_n dX8_canHave_113 rfl rfl ?_
          refine aw_iret dX8_canHave_114 rfl (by first | rfl | exact (pk_charN (by omega)).1 | decide) ?_
          exact QM.fr hr hg
        | succ u ih =>
          intro c hh hc hg
          have r2 := hr.fr hg
          have e67 : hh 67 0 = xn X := r2.1.1
          refine aw_iload dX8_canHave_46 rfl ?_
          refine aw_bipush (v := nI 64) dX8_canHave_48 (by decide) ?_
          refine aw_icmp_geN (tgt := 113) dX8_canHave_50 (by decide) (by omega) (by omega) (fun q => absurd q (by omega)) (fun _ => ?_)
          refine aw_iload dX8_canHave_53 rfl ?_
          refine aw_aload_n dX8_canHave_55 rfl rfl ?_
          refine aw_getI dX8_canHave_56 fX8_73 (by first | assumption | rfl) (by rfl) ?_
          rw [e67]
          refine aw_callSF dX8_canHave_59 kX8_186 (m_isPair (by omega) (by omega)) rfl rfl rfl (Nat.le_of_ble_eq_true rfl) (Nat.le_of_ble_eq_true rfl) ?_
          dsimp only [Option.toList, List.cons_append, List.nil_append, Nat.reduceAdd]
          by_cases q1 : isP (xn X) c
          · rw [if_pos q1]
            have hpm := PM_ap (p := c) hv.2.1.2.1 (show c / 8 < xn X ∧ c % 8 < xn X by omega)
            refine aw_if_eqN (tgt := 107) dX8_canHave_62 (by decide) (by omega) (fun q => absurd q (by omega)) (fun _ => ?_)
            refine aw_aload_n dX8_canHave_65 rfl rfl ?_
            refine aw_aload_n dX8_canHave_66 rfl rfl ?_
            refine aw_getR dX8_canHave_67 fX8_16 (by first | assumption | rfl) (by rfl) ?_
            refine aw_callV dX8_canHave_70 kX8_154 (m_fromX r2 hv) (by first | assumption | rfl) rfl rfl rfl (Nat.le_of_ble_eq_true rfl) (Nat.le_of_ble_eq_true rfl) ?_
            rintro _ h3 ⟨rfl, w3, f3⟩
            dsimp only [Option.toList, List.cons_append, List.nil_append, Nat.reduceAdd]
            refine aw_aload_n dX8_canHave_73 rfl rfl ?_
            refine aw_getR dX8_canHave_74 fX8_46 (by first | assumption | rfl) (by rfl) ?_
            refine aw_iload dX8_canHave_77 rfl ?_
            refine aw_bipush (v := nI 8) dX8_canHave_79 (by decide) ?_
            refine aw_idivN dX8_canHave_81 (by omega) (by omega) (by omega) ?_
            refine aw_iload dX8_canHave_82 rfl ?_
            refine aw_bipush (v := nI 8) dX8_canHave_84 (by decide) ?_
            refine aw_iremN dX8_canHave_86 (by omega) (by omega) (by omega) ?_
            refine aw_callSF dX8_canHave_87 kX8_133 (m_swapped (by first | assumption | rfl) (by omega) (by omega) (by decide)) rfl rfl rfl (Nat.le_of_ble_eq_true rfl) (Nat.le_of_ble_eq_true rfl) ?_
            dsimp only [Option.toList, List.cons_append, List.nil_append, Nat.reduceAdd]
            obtain ⟨w4, f4⟩ := w3.swap hS (i := c / 8) (j := c % 8) (show c / 8 < xn X by omega) (show c % 8 < xn X by omega)
            refine aw_aload_n dX8_canHave_90 rfl rfl ?_
            refine aw_iload_n dX8_canHave_91 rfl rfl ?_
            refine aw_iconst (v := nI 1) dX8_canHave_92 (by decide) ?_
            refine aw_iaddN dX8_canHave_93 ?_
            refine aw_callV dX8_canHave_94 kX8_164 (m_goesOn w4 hok hpm (by omega)) (by first | assumption | rfl) rfl rfl rfl (Nat.le_of_ble_eq_true rfl) (Nat.le_of_ble_eq_true rfl) ?_
            rintro _ h5 ⟨rfl, w5, f5⟩
            dsimp only [Option.toList, List.cons_append, List.nil_append, Nat.reduceAdd]
            refine aw_iload_n dX8_canHave_97 rfl rfl ?_
            refine aw_iconst (v := nI 1) dX8_canHave_98 (by decide) ?_
            refine aw_aload_n dX8_canHave_99 rfl rfl ?_
            refine aw_iload_n dX8_canHave_100 rfl rfl ?_
            refine aw_callVF dX8_canHave_101 kX8_158 (m_whoseNow w5 hS (PM_rmF hS hLs hpm (t + 1)) hrn) (by first | assumption | rfl) rfl rfl rfl (Nat.le_of_ble_eq_true rfl) (Nat.le_of_ble_eq_true rfl) ?_
            dsimp only [Option.toList, List.cons_append, List.nil_append, Nat.reduceAdd]
            refine aw_ishl dX8_canHave_104 ?_
            refine aw_ior dX8_canHave_105 ?_
            refine aw_istore_n dX8_canHave_106 rfl (Nat.le_of_ble_eq_true rfl) rfl ?_
            dsimp only [List.set]
            refine aw_iincN (v := 1) dX8_canHave_107 rfl rfl ?_
            dsimp only [List.set]
            refine aw_goto (tgt := 46) dX8_canHave_110 (by decide) ?_
            have g5 := ((hg.trans f3).trans f4).trans f5
            have rr9 := ih (c + 1) h5 (by omega) g5
            have q1' : isP (sn (xS X)) c := q1
            have e : cvS (xS X) (xC X) r (t + 1) (c + 1) = cvS (xS X) (xC X) r (t + 1) c ||| (nI 1 <<< (nI (own (rmF (xS X) (xC X).2.1 (cL (sn (xS X)) (xC X)) (xC X).1 (ap (xC X).2.2 c) (t + 1)) r (sn (xS X)) 0) &&& 31)) := by
              show (if isP (sn (xS X)) c then _ else _) = _
              rw [if_pos q1']
            rw [e] at rr9
            exact rr9
          · rw [if_neg q1]
            have q1' : ¬ isP (sn (xS X)) c := q1
            have e : cvS (xS X) (xC X) r (t + 1) (c + 1) = cvS (xS X) (xC X) r (t + 1) c := by
              show (if isP (sn (xS X)) c then _ else _) = _
              rw [if_neg q1']
            refine aw_if_eqN (tgt := 107) dX8_canHave_62 (by decide) (by omega) (fun _ => ?_) (fun q => absurd q (by omega))
            refine aw_iincN (v := 1) dX8_canHave_107 rfl rfl ?_
            dsimp only [List.set]
            refine aw_goto (tgt := 46) dX8_canHave_110 (by decide) ?_
            rw [← e]
            exact ih (c + 1) hh (by omega) hg
      refine aw_aload_n dX8_canHave_0 rfl rfl ?_
      refine aw_iload_n dX8_canHave_1 rfl rfl ?_
      refine aw_callVF dX8_canHave_2 kX8_151 (m_oneS hr hv ei) (by first | assumption | rfl) rfl rfl rfl (Nat.le_of_ble_eq_true rfl) (Nat.le_of_ble_eq_true rfl) ?_
      dsimp only [Option.toList, List.cons_append, List.nil_append, Nat.reduceAdd]
      refine aw_if_eqN (tgt := 18) dX8_canHave_5 (by decide) (by omega) (fun q => absurd q (by omega)) (fun _ => ?_)
      refine aw_iload_n dX8_canHave_8 rfl rfl ?_
      refine aw_iconst (v := nI 0) dX8_canHave_9 (by decide) ?_
      refine aw_bipush (v := nI 120) dX8_canHave_10 (by decide) ?_
      refine aw_callSF dX8_canHave_12 kX8_76 (m_iS et) rfl rfl rfl (Nat.le_of_ble_eq_true rfl) (Nat.le_of_ble_eq_true rfl) ?_
      dsimp only [Option.toList, List.cons_append, List.nil_append, Nat.reduceAdd]
      refine aw_if_neN (tgt := 20) dX8_canHave_15 (by decide) (by omega) (fun _ => ?_) (fun q => absurd q (by omega))
      refine aw_aload_n dX8_canHave_20 rfl rfl ?_
      refine aw_aload_n dX8_canHave_21 rfl rfl ?_
      refine aw_getR dX8_canHave_22 fX8_16 (by first | assumption | rfl) (by rfl) ?_
      refine aw_callV dX8_canHave_25 kX8_154 (m_fromX hr hv) (by first | assumption | rfl) rfl rfl rfl (Nat.le_of_ble_eq_true rfl) (Nat.le_of_ble_eq_true rfl) ?_
      rintro _ h2 ⟨rfl, w2, f2⟩
      dsimp only [Option.toList, List.cons_append, List.nil_append, Nat.reduceAdd]
      refine aw_aload_n dX8_canHave_28 rfl rfl ?_
      refine aw_iload_n dX8_canHave_29 rfl rfl ?_
      refine aw_iconst (v := nI 1) dX8_canHave_30 (by decide) ?_
      refine aw_iaddN dX8_canHave_31 ?_
      refine aw_callV dX8_canHave_32 kX8_164 (m_goesOn w2 hok hv.2.1.2.1 (by omega)) (by first | assumption | rfl) rfl rfl rfl (Nat.le_of_ble_eq_true rfl) (Nat.le_of_ble_eq_true rfl) ?_
      rintro _ h3 ⟨rfl, w3, f3⟩
      dsimp only [Option.toList, List.cons_append, List.nil_append, Nat.reduceAdd]
      refine aw_iconst (v := nI 1) dX8_canHave_35 (by decide) ?_
      refine aw_aload_n dX8_canHave_36 rfl rfl ?_
      refine aw_iload_n dX8_canHave_37 rfl rfl ?_
      refine aw_callVF dX8_canHave_38 kX8_158 (m_whoseNow w3 hS (rmX_pm hv (t + 1)) hrn) (by first | assumption | rfl) rfl rfl rfl (Nat.le_of_ble_eq_true rfl) (Nat.le_of_ble_eq_true rfl) ?_
      dsimp only [Option.toList, List.cons_append, List.nil_append, Nat.reduceAdd]
      refine aw_ishl dX8_canHave_41 ?_
      refine aw_istore_n dX8_canHave_42 rfl (Nat.le_of_ble_eq_true rfl) rfl ?_
      dsimp only [List.set]
      refine aw_iconst (v := nI 0) dX8_canHave_43 (by decide) ?_
      refine aw_istore dX8_canHave_44 (Nat.le_of_ble_eq_true rfl) rfl ?_
      dsimp only [List.set]
      exact loop 64 0 h3 (by omega) (f2.trans f3)
theorem y_round {d : Nat} {h : Hp} {X : XS} (hr : RM h X) (hv : VX X) : RT mX8_round (d + 6) [.ref 67] h (QM h X (a_round X)) := by
  have hn := hv.n
  have hc1 := hv.2.1.1
  have hok := cL_ok hv.1 hv.2.1
  have loop : ∀ u k hh, k + u = 5 → 1 ≤ k → NS hh (xS X) (xC X).2.1 (cL (xn X) (xC X)) ((xC X).1 + 240 * (k - 1)) (rmX X (240 * (k - 1))) → F81 h hh → AW mX8_round (d + 6) 10 [some (.ref 67), some (.int (nI k)), none, none] [] hh (QM h X (nI (rdS X u k))) := by
    intro u
    induction u with
    | zero =>
      intro k hh hk h1 hw1 hf
      refine aw_iload_n dX8_round_10 rfl rfl ?_
      refine aw_iconst (v := nI 4) dX8_round_11 (by decide) ?_
      refine aw_icmp_gtN (tgt := 85) dX8_round_12 (by decide) (by omega) (by omega) (fun _ => ?_) (fun q => absurd q (by omega))
      refine aw_bipush (v := nI 4294967292) dX8_round_85 (by decide) ?_
      refine aw_iret dX8_round_87 rfl (by first | rfl | exact (pk_charN (by omega)).1 | decide) ?_
      exact QM.fr hr hf
    | succ u ih =>
      intro k hh hk h1 hw1 hf
      have hpm := rmX_pm hv (240 * (k - 1))
      refine aw_iload_n dX8_round_10 rfl rfl ?_
      refine aw_iconst (v := nI 4) dX8_round_11 (by decide) ?_
      refine aw_icmp_gtN (tgt := 85) dX8_round_12 (by decide) (by omega) (by omega) (fun q => absurd q (by omega)) (fun _ => ?_)
      refine aw_aload_n dX8_round_15 rfl rfl ?_
      refine aw_sipush (v := nI 240) dX8_round_16 (by decide) ?_
      refine aw_callV dX8_round_19 kX8_164 (m_goesOn hw1 hok hpm (by omega)) (by first | assumption | rfl) rfl rfl rfl (Nat.le_of_ble_eq_true rfl) (Nat.le_of_ble_eq_true rfl) ?_
      rintro _ h2 ⟨rfl, w2, f2⟩
      dsimp only [Option.toList, List.cons_append, List.nil_append, Nat.reduceAdd]
      refine aw_iconst (v := nI 1) dX8_round_22 (by decide) ?_
      refine aw_istore_n dX8_round_23 rfl (Nat.le_of_ble_eq_true rfl) rfl ?_
      dsimp only [List.set]
      refine aw_iconst (v := nI 0) dX8_round_24 (by decide) ?_
      refine aw_istore_n dX8_round_25 rfl (Nat.le_of_ble_eq_true rfl) rfl ?_
      dsimp only [List.set]
      have ew : rmF (xS X) (xC X).2.1 (cL (xn X) (xC X)) ((xC X).1 + 240 * (k - 1)) (rmX X (240 * (k - 1))) 240 = rmX X (240 * k) := by
        have e := rmF_add (S := xS X) (b := (xC X).2.1) (L := cL (xn X) (xC X)) (dd := (xC X).1) (f := (xC X).2.2) (g := 240 * (k - 1)) 240
        rw [show 240 * (k - 1) + 240 = 240 * k by omega] at e
        exact e
      have ed : (xC X).1 + 240 * (k - 1) + 240 = (xC X).1 + 240 * (k + 1 - 1) := by omega
      rw [ew, ed] at w2
      have f3 := hf.trans f2
      have e80 : ∀ i, i < xn X → h2 80 (1 + i) = rmX X (240 * k) i := fun i hi => (w2.2.2 i hi).1
      have e70 : ∀ i, i < xn X → h2 70 (1 + i) = (xC X).2.2 i := fun i hi => by
        have q := ((hr.fr f3).2.1.2 i hi).1
        rw [Nat.zero_add] at q
        exact q
      have hpk := rmX_pm hv (240 * k)
      have e67 : h2 67 0 = xn X := w2.1.1
      have inner : ∀ v j s, j + v = xn X → (s = 1 ∧ (∀ i, i < j → rmX X (240 * k) i = (xC X).2.2 i)) ∨ (s = 0 ∧ ¬ ∀ i, i < xn X → rmX X (240 * k) i = (xC X).2.2 i) → AW mX8_round (d + 6) 26 [some (.ref 67), some (.int (nI k)), some (.int (nI s)), some (.int (nI j))] [] h2 (QM h X (nI (rdS X (u + 1) k))) := by
        intro v
        induction v with
        | zero =>
          intro j s hj hs
          have ej : j = xn X := by omega
          subst ej
          refine aw_iload_n dX8_round_26 rfl rfl ?_
          refine aw_aload_n dX8_round_27 rfl rfl ?_
          refine aw_getI dX8_round_28 fX8_73 (by first | assumption | rfl) (by rfl) ?_
          rw [e67]
          rcases hs with ⟨rfl, hall⟩ | ⟨rfl, hno⟩
          · have e : rdS X (u + 1) k = 240 * k := by rw [rdS, if_pos hall]
            rw [e]
            refine aw_icmp_geN (tgt := 69) dX8_round_31 (by decide) (by omega) (by omega) (fun _ => ?_) (fun q => absurd q (by omega))
            refine aw_iload_n dX8_round_69 rfl rfl ?_
            refine aw_if_eqN (tgt := 79) dX8_round_70 (by decide) (by omega) (fun q => absurd q (by omega)) (fun _ => ?_)
            refine aw_sipush (v := nI 240) dX8_round_73 (by decide) ?_
            refine aw_iload_n dX8_round_76 rfl rfl ?_
            refine aw_imulN dX8_round_77 ?_
            refine aw_iret dX8_round_78 rfl (by first | rfl | exact (pk_charN (by omega)).1 | decide) ?_
            exact QM.fr hr f3
          · have e : rdS X (u + 1) k = rdS X u (k + 1) := by rw [rdS, if_neg hno]
            rw [e]
            refine aw_icmp_geN (tgt := 69) dX8_round_31 (by decide) (by omega) (by omega) (fun _ => ?_) (fun q => absurd q (by omega))
            refine aw_iload_n dX8_round_69 rfl rfl ?_
            refine aw_if_eqN (tgt := 79) dX8_round_70 (by decide) (by omega) (fun _ => ?_) (fun q => absurd q (by omega))
            refine aw_iincN (v := 1) dX8_round_79 rfl rfl ?_
            dsimp only [List.set]
            refine aw_goto (tgt := 10) dX8_round_82 (by decide) ?_
            refine aw_forget 2 ?_
            refine aw_forget 3 ?_
            dsimp only [List.set]
            exact ih (k + 1) h2 (by omega) (by omega) w2 f3
        | succ v ihv =>
          intro j s hj hs
          have hj8 : j < xn X := by omega
          have a1 := hpk.1 j hj8
          have a2 := hv.2.1.2.1.1 j hj8
          refine aw_iload_n dX8_round_26 rfl rfl ?_
          refine aw_aload_n dX8_round_27 rfl rfl ?_
          refine aw_getI dX8_round_28 fX8_73 (by first | assumption | rfl) (by rfl) ?_
          rw [e67]
          rcases hs with ⟨rfl, hall⟩ | ⟨rfl, hno⟩
          · refine aw_icmp_geN (tgt := 69) dX8_round_31 (by decide) (by omega) (by omega) (fun q => absurd q (by omega)) (fun _ => ?_)
            refine aw_iload_n dX8_round_34 rfl rfl ?_
            refine aw_if_eqN (tgt := 61) dX8_round_35 (by decide) (by omega) (fun q => absurd q (by omega)) (fun _ => ?_)
            refine aw_aload_n dX8_round_38 rfl rfl ?_
            refine aw_getR dX8_round_39 fX8_46 (by first | assumption | rfl) (by rfl) ?_
            refine aw_iconst (v := nI 1) dX8_round_42 (by decide) ?_
            refine aw_iload_n dX8_round_43 rfl rfl ?_
            refine aw_iaddN dX8_round_44 ?_
            refine aw_iaload dX8_round_45 (by first | assumption | rfl) (by omega) (by omega) ?_
            refine aw_aload_n dX8_round_46 rfl rfl ?_
            refine aw_getR dX8_round_47 fX8_16 (by first | assumption | rfl) (by rfl) ?_
            refine aw_iconst (v := nI 1) dX8_round_50 (by decide) ?_
            refine aw_iload_n dX8_round_51 rfl rfl ?_
            refine aw_iaddN dX8_round_52 ?_
            refine aw_iaload dX8_round_53 (by first | assumption | rfl) (by omega) (by omega) ?_
            rw [e80 j hj8, e70 j hj8]
            refine aw_icmp_neN (tgt := 61) dX8_round_54 (by decide) (by omega) (by omega) (fun c54 => ?_) (fun c54 => ?_)
            · refine aw_iconst (v := nI 0) dX8_round_61 (by decide) ?_
              refine aw_istore_n dX8_round_62 rfl (Nat.le_of_ble_eq_true rfl) rfl ?_
              dsimp only [List.set]
              refine aw_iincN (v := 1) dX8_round_63 rfl rfl ?_
              dsimp only [List.set]
              refine aw_goto (tgt := 26) dX8_round_66 (by decide) ?_
              exact ihv (j + 1) 0 (by omega) (Or.inr ⟨rfl, fun z => c54 (z j hj8)⟩)
            · refine aw_iconst (v := nI 1) dX8_round_57 (by decide) ?_
              refine aw_goto (tgt := 62) dX8_round_58 (by decide) ?_
              refine aw_istore_n dX8_round_62 rfl (Nat.le_of_ble_eq_true rfl) rfl ?_
              dsimp only [List.set]
              refine aw_iincN (v := 1) dX8_round_63 rfl rfl ?_
              dsimp only [List.set]
              refine aw_goto (tgt := 26) dX8_round_66 (by decide) ?_
              refine ihv (j + 1) 1 (by omega) (Or.inl ⟨rfl, fun i hi => ?_⟩)
              rcases Nat.lt_succ_iff_lt_or_eq.mp hi with q | q
              · exact hall i q
              · subst q; omega
          · refine aw_icmp_geN (tgt := 69) dX8_round_31 (by decide) (by omega) (by omega) (fun q => absurd q (by omega)) (fun _ => ?_)
            refine aw_iload_n dX8_round_34 rfl rfl ?_
            refine aw_if_eqN (tgt := 61) dX8_round_35 (by decide) (by omega) (fun _ => ?_) (fun q => absurd q (by omega))
            refine aw_iconst (v := nI 0) dX8_round_61 (by decide) ?_
            refine aw_istore_n dX8_round_62 rfl (Nat.le_of_ble_eq_true rfl) rfl ?_
            dsimp only [List.set]
            refine aw_iincN (v := 1) dX8_round_63 rfl rfl ?_
            dsimp only [List.set]
            refine aw_goto (tgt := 26) dX8_round_66 (by decide) ?_
            exact ihv (j + 1) 0 (by omega) (Or.inr ⟨rfl, hno⟩)
      exact inner (xn X) 0 1 (by omega) (Or.inl ⟨rfl, fun i hi => by omega⟩)
  change AW mX8_round _ 0 [some (.ref 67), none, none, none] [] h _
  refine aw_aload_n dX8_round_0 rfl rfl ?_
  refine aw_aload_n dX8_round_1 rfl rfl ?_
  refine aw_getR dX8_round_2 fX8_16 (by first | assumption | rfl) (by rfl) ?_
  refine aw_callV dX8_round_5 kX8_154 (m_fromX hr hv) (by first | assumption | rfl) rfl rfl rfl (Nat.le_of_ble_eq_true rfl) (Nat.le_of_ble_eq_true rfl) ?_
  rintro _ h2 ⟨rfl, w2, f2⟩
  dsimp only [Option.toList, List.cons_append, List.nil_append, Nat.reduceAdd]
  refine aw_iconst (v := nI 1) dX8_round_8 (by decide) ?_
  refine aw_istore_n dX8_round_9 rfl (Nat.le_of_ble_eq_true rfl) rfl ?_
  dsimp only [List.set]
  exact loop 4 1 h2 (by omega) (by omega) w2 f2
theorem y_loses {d : Nat} {h : Hp} {X : XS} {w : Int32} (hr : RM h X) (hv : VX X) : RT mX8_loses (d + 6) [.ref 67, .int w] h (QM h X (a_loses X w)) := by
  have hn := hv.n
  have hc1 := hv.2.1.1
  have hok := cL_ok hv.1 hv.2.1
  unfold a_loses
  change AW mX8_loses _ 0 [some (.ref 67), some (.int w), none, none, none, none, none] [] h _
  cases ew : ix w 0 1 with
  | none =>
    refine aw_iload_n dX8_loses_0 rfl rfl ?_
    refine aw_iconst (v := nI 0) dX8_loses_1 (by decide) ?_
    refine aw_iconst (v := nI 1) dX8_loses_2 (by decide) ?_
    refine aw_callSF dX8_loses_3 kX8_76 (m_iN ew) rfl rfl rfl (Nat.le_of_ble_eq_true rfl) (Nat.le_of_ble_eq_true rfl) ?_
    dsimp only [Option.toList, List.cons_append, List.nil_append, Nat.reduceAdd]
    refine aw_if_neN (tgt := 11) dX8_loses_6 (by decide) (by omega) (fun q => absurd q (by omega)) (fun _ => ?_)
    refine aw_iconst (v := nI 4294967295) dX8_loses_9 (by decide) ?_
    refine aw_iret dX8_loses_10 rfl (by first | rfl | exact (pk_charN (by omega)).1 | decide) ?_
    exact QM.same hr
  | some w =>
    obtain ⟨rfl, hw1, hw2⟩ := ix_s (by omega) (by omega) ew
    dsimp only
    obtain ⟨V, hV⟩ : ∃ V, V = (fun i => vSun (xS X) (xC X) i 60 (xC X).2.2) := ⟨_, rfl⟩
    have eV : ∀ i, vSun (xS X) (xC X) i 60 (xC X).2.2 = V i := fun i => by rw [hV]
    rw [← hV, eV]
    have vlt : ∀ i, i < xn X → V i ≤ 540 := fun i hi => by
      have := sunF_lt (b := (xC X).2.1) (dd := (xC X).1) hv.1 (fun q hq => (hok.2 q hq).2) hv.2.1.2.1 hi 60
      rw [hV]
      exact this
    -- one sum
    have one : ∀ i hh who least, i < xn X → F81 h hh → (∀ h2, F81 h h2 → AW mX8_loses (d + 6) 47 [some (.ref 67), some (.int (nI w)), some (.int (nI who)), some (.int (nI least)), some (.int (nI i)), some (.int (nI (V i))), none] [] h2 (QM h X (nI (if w = 0 then loS V (xn X - 1) else V (loS V (xn X - 1)))))) → AW mX8_loses (d + 6) 20 [some (.ref 67), some (.int (nI w)), some (.int (nI who)), some (.int (nI least)), some (.int (nI i)), none, none] [] hh (QM h X (nI (if w = 0 then loS V (xn X - 1) else V (loS V (xn X - 1))))) := by
      intro i hh who least hi hg kk
      have r2 := hr.fr hg
      have e67 : hh 67 0 = xn X := r2.1.1
      refine aw_iload dX8_loses_20 rfl ?_
      refine aw_aload_n dX8_loses_22 rfl rfl ?_
      refine aw_getI dX8_loses_23 fX8_73 (by first | assumption | rfl) (by rfl) ?_
      rw [e67]
      refine aw_icmp_geN (tgt := 94) dX8_loses_26 (by decide) (by omega) (by omega) (fun q => absurd q (by omega)) (fun _ => ?_)
      refine aw_aload_n dX8_loses_29 rfl rfl ?_
      refine aw_aload_n dX8_loses_30 rfl rfl ?_
      refine aw_getR dX8_loses_31 fX8_16 (by first | assumption | rfl) (by rfl) ?_
      refine aw_callV dX8_loses_34 kX8_154 (m_fromX r2 hv) (by first | assumption | rfl) rfl rfl rfl (Nat.le_of_ble_eq_true rfl) (Nat.le_of_ble_eq_true rfl) ?_
      rintro _ h3 ⟨rfl, w3, f3⟩
      dsimp only [Option.toList, List.cons_append, List.nil_append, Nat.reduceAdd]
      refine aw_aload_n dX8_loses_37 rfl rfl ?_
      refine aw_iload dX8_loses_38 rfl ?_
      refine aw_bipush (v := nI 60) dX8_loses_40 (by decide) ?_
      refine aw_callV dX8_loses_42 kX8_167 (m_sunOn w3 hok hv.2.1.2.1 hi (by omega)) (by first | assumption | rfl) rfl rfl rfl (Nat.le_of_ble_eq_true rfl) (Nat.le_of_ble_eq_true rfl) ?_
      rintro _ h4 ⟨rfl, w4, f4⟩
      dsimp only [Option.toList, List.cons_append, List.nil_append, Nat.reduceAdd]
      rw [show sunF (xS X) (xC X).2.1 (cL (xn X) (xC X)) (xC X).1 (xC X).2.2 i 60 = V i by rw [hV]; rfl]
      refine aw_istore dX8_loses_45 (Nat.le_of_ble_eq_true rfl) rfl ?_
      dsimp only [List.set]
      exact kk h4 ((hg.trans f3).trans f4)
    have loop : ∀ u k hh, k + u = xn X - 1 → F81 h hh → AW mX8_loses (d + 6) 20 [some (.ref 67), some (.int (nI w)), some (.int (nI (loS V k))), some (.int (nI (V (loS V k)))), some (.int (nI (k + 1))), none, none] [] hh (QM h X (nI (if w = 0 then loS V (xn X - 1) else V (loS V (xn X - 1))))) := by
      intro u
      induction u with
      | zero =>
        intro k hh hk hg
        have ek : k = xn X - 1 := by omega
        subst ek
        have e67 : hh 67 0 = xn X := (hr.fr hg).1.1
        refine aw_iload dX8_loses_20 rfl ?_
        refine aw_aload_n dX8_loses_22 rfl rfl ?_
        refine aw_getI dX8_loses_23 fX8_73 (by first | assumption | rfl) (by rfl) ?_
        rw [e67]
        refine aw_icmp_geN (tgt := 94) dX8_loses_26 (by decide) (by omega) (by omega) (fun _ => ?_) (fun q => absurd q (by omega))
        refine aw_iload_n dX8_loses_94 rfl rfl ?_
        rcases (show w = 0 ∨ w = 1 by omega) with rfl | rfl
        · refine aw_if_neN (tgt := 102) dX8_loses_95 (by decide) (by omega) (fun q => absurd q (by omega)) (fun _ => ?_)
          refine aw_iload_n dX8_loses_98 rfl rfl ?_
          refine aw_goto (tgt := 103) dX8_loses_99 (by decide) ?_
          refine aw_iret dX8_loses_103 rfl (by first | rfl | exact (pk_charN (by omega)).1 | decide) ?_
          exact QM.fr hr hg
        · refine aw_if_neN (tgt := 102) dX8_loses_95 (by decide) (by omega) (fun _ => ?_) (fun q => absurd q (by omega))
          refine aw_iload_n dX8_loses_102 rfl rfl ?_
          refine aw_iret dX8_loses_103 rfl (by first | rfl | exact (pk_charN (by omega)).1 | decide) ?_
          exact QM.fr hr hg
      | succ u ih =>
        intro k hh hk hg
        have hl := loS_le V k
        have v1 := vlt (k + 1) (by omega)
        have v2 := vlt (loS V k) (by omega)
        refine one (k + 1) hh _ _ (by omega) hg (fun h2 g2 => ?_)
        refine aw_iload_n dX8_loses_47 rfl rfl ?_
        refine aw_if_ltN (tgt := 57) dX8_loses_48 (by decide) (by omega) (fun q => absurd q (by omega)) (fun _ => ?_)
        refine aw_iload dX8_loses_51 rfl ?_
        refine aw_iload_n dX8_loses_53 rfl rfl ?_
        refine aw_icmp_geN (tgt := 61) dX8_loses_54 (by decide) (by omega) (by omega) (fun c54 => ?_) (fun c54 => ?_)
        · have e : loS V (k + 1) = loS V k := by rw [loS, if_neg (by omega)]
          refine aw_iconst (v := nI 0) dX8_loses_61 (by decide) ?_
          refine aw_istore dX8_loses_62 (Nat.le_of_ble_eq_true rfl) rfl ?_
          dsimp only [List.set]
          refine aw_iload dX8_loses_64 rfl ?_
          refine aw_if_eqN (tgt := 74) dX8_loses_66 (by decide) (by omega) (fun _ => ?_) (fun q => absurd q (by omega))
          refine aw_iload_n dX8_loses_74 rfl rfl ?_
          refine aw_istore_n dX8_loses_75 rfl (Nat.le_of_ble_eq_true rfl) rfl ?_
          dsimp only [List.set]
          refine aw_iload dX8_loses_76 rfl ?_
          refine aw_if_eqN (tgt := 86) dX8_loses_78 (by decide) (by omega) (fun _ => ?_) (fun q => absurd q (by omega))
          refine aw_iload_n dX8_loses_86 rfl rfl ?_
          refine aw_istore_n dX8_loses_87 rfl (Nat.le_of_ble_eq_true rfl) rfl ?_
          dsimp only [List.set]
          refine aw_iincN (v := 1) dX8_loses_88 rfl rfl ?_
          dsimp only [List.set]
          refine aw_goto (tgt := 20) dX8_loses_91 (by decide) ?_
          refine aw_forget 5 ?_
          refine aw_forget 6 ?_
          dsimp only [List.set]
          have r := ih (k + 1) h2 (by omega) g2
          rw [e] at r
          exact r
        · have e : loS V (k + 1) = k + 1 := by rw [loS, if_pos (by omega)]
          refine aw_iconst (v := nI 1) dX8_loses_57 (by decide) ?_
          refine aw_goto (tgt := 62) dX8_loses_58 (by decide) ?_
          refine aw_istore dX8_loses_62 (Nat.le_of_ble_eq_true rfl) rfl ?_
          dsimp only [List.set]
          refine aw_iload dX8_loses_64 rfl ?_
          refine aw_if_eqN (tgt := 74) dX8_loses_66 (by decide) (by omega) (fun q => absurd q (by omega)) (fun _ => ?_)
          refine aw_iload dX8_loses_69 rfl ?_
          refine aw_goto (tgt := 75) dX8_loses_71 (by decide) ?_
          refine aw_istore_n dX8_loses_75 rfl (Nat.le_of_ble_eq_true rfl) rfl ?_
          dsimp only [List.set]
          refine aw_iload dX8_loses_76 rfl ?_
          refine aw_if_eqN (tgt := 86) dX8_loses_78 (by decide) (by omega) (fun q => absurd q (by omega)) (fun _ => ?_)
          refine aw_iload dX8_loses_81 rfl ?_
          refine aw_goto (tgt := 87) dX8_loses_83 (by decide) ?_
          refine aw_istore_n dX8_loses_87 rfl (Nat.le_of_ble_eq_true rfl) rfl ?_
          dsimp only [List.set]
          refine aw_iincN (v := 1) dX8_loses_88 rfl rfl ?_
          dsimp only [List.set]
          refine aw_goto (tgt := 20) dX8_loses_91 (by decide) ?_
          refine aw_forget 5 ?_
          refine aw_forget 6 ?_
          dsimp only [List.set]
          have r := ih (k + 1) h2 (by omega) g2
          rw [e] at r
          exact r
    refine aw_iload_n dX8_loses_0 rfl rfl ?_
    refine aw_iconst (v := nI 0) dX8_loses_1 (by decide) ?_
    refine aw_iconst (v := nI 1) dX8_loses_2 (by decide) ?_
    refine aw_callSF dX8_loses_3 kX8_76 (m_iS ew) rfl rfl rfl (Nat.le_of_ble_eq_true rfl) (Nat.le_of_ble_eq_true rfl) ?_
    dsimp only [Option.toList, List.cons_append, List.nil_append, Nat.reduceAdd]
    refine aw_if_neN (tgt := 11) dX8_loses_6 (by decide) (by omega) (fun _ => ?_) (fun q => absurd q (by omega))
    refine aw_bipush (v := nI 4294967292) dX8_loses_11 (by decide) ?_
    refine aw_istore_n dX8_loses_13 rfl (Nat.le_of_ble_eq_true rfl) rfl ?_
    dsimp only [List.set]
    refine aw_bipush (v := nI 4294967292) dX8_loses_14 (by decide) ?_
    refine aw_istore_n dX8_loses_16 rfl (Nat.le_of_ble_eq_true rfl) rfl ?_
    dsimp only [List.set]
    refine aw_iconst (v := nI 0) dX8_loses_17 (by decide) ?_
    refine aw_istore dX8_loses_18 (Nat.le_of_ble_eq_true rfl) rfl ?_
    dsimp only [List.set]
    refine one 0 h _ _ (by omega) (fun o _ _ => rfl) (fun h2 g2 => ?_)
    refine aw_iload_n dX8_loses_47 rfl rfl ?_
    refine aw_if_lt (tgt := 57) dX8_loses_48 (by decide) (fun _ => ?_) (fun q => absurd (by decide) q)
    refine aw_iconst (v := nI 1) dX8_loses_57 (by decide) ?_
    refine aw_goto (tgt := 62) dX8_loses_58 (by decide) ?_
    refine aw_istore dX8_loses_62 (Nat.le_of_ble_eq_true rfl) rfl ?_
    dsimp only [List.set]
    refine aw_iload dX8_loses_64 rfl ?_
    refine aw_if_eqN (tgt := 74) dX8_loses_66 (by decide) (by omega) (fun q => absurd q (by omega)) (fun _ => ?_)
    refine aw_iload dX8_loses_69 rfl ?_
    refine aw_goto (tgt := 75) dX8_loses_71 (by decide) ?_
    refine aw_istore_n dX8_loses_75 rfl (Nat.le_of_ble_eq_true rfl) rfl ?_
    dsimp only [List.set]
    refine aw_iload dX8_loses_76 rfl ?_
    refine aw_if_eqN (tgt := 86) dX8_loses_78 (by decide) (by omega) (fun q => absurd q (by omega)) (fun _ => ?_)
    refine aw_iload dX8_loses_81 rfl ?_
    refine aw_goto (tgt := 87) dX8_loses_83 (by decide) ?_
    refine aw_istore_n dX8_loses_87 rfl (Nat.le_of_ble_eq_true rfl) rfl ?_
    dsimp only [List.set]
    refine aw_iincN (v := 1) dX8_loses_88 rfl rfl ?_
    dsimp only [List.set]
    refine aw_goto (tgt := 20) dX8_loses_91 (by decide) ?_
    refine aw_forget 5 ?_
    refine aw_forget 6 ?_
    dsimp only [List.set]
    exact loop (xn X - 1) 0 h2 (by omega) g2
theorem y_next {d : Nat} {h : Hp} {X : XS} {w : Int32} (hr : RM h X) (hv : VX X) : RT mX8_next (d + 6) [.ref 67, .int w] h (QM h X (a_next X w)) := by
  have hn := hv.n
  have hc1 := hv.2.1.1
  have hok := cL_ok hv.1 hv.2.1
  unfold a_next
  change AW mX8_next _ 0 [some (.ref 67), some (.int w), none, none, none, none, none, none] [] h _
  cases ew : ix w 0 1 with
  | none =>
    refine aw_iload_n dX8_next_0 rfl rfl ?_
    refine aw_iconst (v := nI 0) dX8_next_1 (by decide) ?_
    refine aw_iconst (v := nI 1) dX8_next_2 (by decide) ?_
    refine aw_callSF dX8_next_3 kX8_76 (m_iN ew) rfl rfl rfl (Nat.le_of_ble_eq_true rfl) (Nat.le_of_ble_eq_true rfl) ?_
    dsimp only [Option.toList, List.cons_append, List.nil_append, Nat.reduceAdd]
    refine aw_if_neN (tgt := 11) dX8_next_6 (by decide) (by omega) (fun q => absurd q (by omega)) (fun _ => ?_)
    refine aw_iconst (v := nI 4294967295) dX8_next_9 (by decide) ?_
    refine aw_iret dX8_next_10 rfl (by first | rfl | exact (pk_charN (by omega)).1 | decide) ?_
    exact QM.same hr
  | some w =>
    obtain ⟨rfl, hw1, hw2⟩ := ix_s (by omega) (by omega) ew
    dsimp only
    refine aw_iload_n dX8_next_0 rfl rfl ?_
    refine aw_iconst (v := nI 0) dX8_next_1 (by decide) ?_
    refine aw_iconst (v := nI 1) dX8_next_2 (by decide) ?_
    refine aw_callSF dX8_next_3 kX8_76 (m_iS ew) rfl rfl rfl (Nat.le_of_ble_eq_true rfl) (Nat.le_of_ble_eq_true rfl) ?_
    dsimp only [Option.toList, List.cons_append, List.nil_append, Nat.reduceAdd]
    refine aw_if_neN (tgt := 11) dX8_next_6 (by decide) (by omega) (fun _ => ?_) (fun q => absurd q (by omega))
    refine aw_aload_n dX8_next_11 rfl rfl ?_
    refine aw_aload_n dX8_next_12 rfl rfl ?_
    refine aw_getR dX8_next_13 fX8_16 (by first | assumption | rfl) (by rfl) ?_
    refine aw_callV dX8_next_16 kX8_154 (m_fromX hr hv) (by first | assumption | rfl) rfl rfl rfl (Nat.le_of_ble_eq_true rfl) (Nat.le_of_ble_eq_true rfl) ?_
    rintro _ h2 ⟨rfl, w2, f2⟩
    dsimp only [Option.toList, List.cons_append, List.nil_append, Nat.reduceAdd]
    refine aw_bipush (v := nI 4294967292) dX8_next_19 (by decide) ?_
    refine aw_istore_n dX8_next_21 rfl (Nat.le_of_ble_eq_true rfl) rfl ?_
    dsimp only [List.set]
    refine aw_bipush (v := nI 4294967292) dX8_next_22 (by decide) ?_
    refine aw_istore_n dX8_next_24 rfl (Nat.le_of_ble_eq_true rfl) rfl ?_
    dsimp only [List.set]
    refine aw_iconst (v := nI 0) dX8_next_25 (by decide) ?_
    refine aw_istore dX8_next_26 (Nat.le_of_ble_eq_true rfl) rfl ?_
    dsimp only [List.set]
    have r2 := hr.fr f2
    have e67 : h2 67 0 = xn X := w2.1.1
    have e81 : ∀ p, p < xn X → h2 81 p = cL (xn X) (xC X) p := fun p hp => (w2.2.2 p hp).2.2
    have hL : ∀ p, p < xn X → cL (xn X) (xC X) p < xn X := fun p hp => (hok.2 p hp).2
    have e70 : h2 70 0 = (xC X).1 := r2.2.1.1
    have e79 : ∀ i, i < xn X → h2 70 (9 + i) = (xC X).2.1 i := fun i hi => by
      have q := (r2.2.1.2 i hi).2
      rw [Nat.zero_add] at q
      exact q
    have hb : ∀ i, i < xn X → (xC X).2.1 i < 60 := hv.2.1.2.2
    have nlt : ∀ p, nxV X p < 60 := fun p => Nat.mod_lt _ (by decide)
    have one : ∀ p who s, p < xn X → AW mX8_next (d + 6) 74 [some (.ref 67), some (.int (nI w)), some (.int (nI who)), some (.int (nI s)), some (.int (nI p)), some (.int (nI (cL (xn X) (xC X) p))), some (.int (nI (nxV X p))), none] [] h2 (QM h X (nI (if w = 0 then cL (xn X) (xC X) (loS (nxV X) (xn X - 1)) else nxV X (loS (nxV X) (xn X - 1))))) → AW mX8_next (d + 6) 28 [some (.ref 67), some (.int (nI w)), some (.int (nI who)), some (.int (nI s)), some (.int (nI p)), none, none, none] [] h2 (QM h X (nI (if w = 0 then cL (xn X) (xC X) (loS (nxV X) (xn X - 1)) else nxV X (loS (nxV X) (xn X - 1))))) := by
      intro p who s hp kk
      have hLp := hL p hp
      have hbp := hb _ hLp
      refine aw_iload dX8_next_28 rfl ?_
      refine aw_aload_n dX8_next_30 rfl rfl ?_
      refine aw_getI dX8_next_31 fX8_73 (by first | assumption | rfl) (by rfl) ?_
      rw [e67]
      refine aw_icmp_geN (tgt := 121) dX8_next_34 (by decide) (by omega) (by omega) (fun q => absurd q (by omega)) (fun _ => ?_)
      refine aw_aload_n dX8_next_37 rfl rfl ?_
      refine aw_getR dX8_next_38 fX8_49 (by first | assumption | rfl) (by rfl) ?_
      refine aw_iload dX8_next_41 rfl ?_
      refine aw_iaload dX8_next_43 (by first | assumption | rfl) (by omega) (by omega) ?_
      rw [e81 p hp]
      refine aw_istore dX8_next_44 (Nat.le_of_ble_eq_true rfl) rfl ?_
      dsimp only [List.set]
      refine aw_aload_n dX8_next_46 rfl rfl ?_
      refine aw_getR dX8_next_47 fX8_16 (by first | assumption | rfl) (by rfl) ?_
      refine aw_bipush (v := nI 9) dX8_next_50 (by decide) ?_
      refine aw_iload dX8_next_52 rfl ?_
      refine aw_iaddN dX8_next_54 ?_
      refine aw_iaload dX8_next_55 (by first | assumption | rfl) (by omega) (by omega) ?_
      rw [e79 _ hLp]
      refine aw_bipush (v := nI 60) dX8_next_56 (by decide) ?_
      refine aw_iaddN dX8_next_58 ?_
      refine aw_aload_n dX8_next_59 rfl rfl ?_
      refine aw_getR dX8_next_60 fX8_16 (by first | assumption | rfl) (by rfl) ?_
      refine aw_iconst (v := nI 0) dX8_next_63 (by decide) ?_
      refine aw_iaload dX8_next_64 (by first | assumption | rfl) (by omega) (by omega) ?_
      rw [e70]
      refine aw_bipush (v := nI 60) dX8_next_65 (by decide) ?_
      refine aw_iremN dX8_next_67 (by omega) (by omega) (by omega) ?_
      refine aw_isubN dX8_next_68 (by omega) ?_
      refine aw_bipush (v := nI 60) dX8_next_69 (by decide) ?_
      refine aw_iremN dX8_next_71 (by omega) (by omega) (by omega) ?_
      rw [show ((xC X).2.1 (cL (xn X) (xC X) p) + 60 - (xC X).1 % 60) % 60 = nxV X p from rfl]
      refine aw_istore dX8_next_72 (Nat.le_of_ble_eq_true rfl) rfl ?_
      dsimp only [List.set]
      exact kk
    have loop : ∀ u k, k + u = xn X - 1 → AW mX8_next (d + 6) 28 [some (.ref 67), some (.int (nI w)), some (.int (nI (cL (xn X) (xC X) (loS (nxV X) k)))), some (.int (nI (nxV X (loS (nxV X) k)))), some (.int (nI (k + 1))), none, none, none] [] h2 (QM h X (nI (if w = 0 then cL (xn X) (xC X) (loS (nxV X) (xn X - 1)) else nxV X (loS (nxV X) (xn X - 1))))) := by
      intro u
      induction u with
      | zero =>
        intro k hk
        have ek : k = xn X - 1 := by omega
        subst ek
        refine aw_iload dX8_next_28 rfl ?_
        refine aw_aload_n dX8_next_30 rfl rfl ?_
        refine aw_getI dX8_next_31 fX8_73 (by first | assumption | rfl) (by rfl) ?_
        rw [e67]
        refine aw_icmp_geN (tgt := 121) dX8_next_34 (by decide) (by omega) (by omega) (fun _ => ?_) (fun q => absurd q (by omega))
        refine aw_iload_n dX8_next_121 rfl rfl ?_
        rcases (show w = 0 ∨ w = 1 by omega) with rfl | rfl
        · refine aw_if_neN (tgt := 129) dX8_next_122 (by decide) (by omega) (fun q => absurd q (by omega)) (fun _ => ?_)
          refine aw_iload_n dX8_next_125 rfl rfl ?_
          refine aw_goto (tgt := 130) dX8_next_126 (by decide) ?_
          refine aw_iret dX8_next_130 rfl (by first | rfl | exact (pk_charN (by omega)).1 | decide) ?_
          exact QM.fr hr f2
        · refine aw_if_neN (tgt := 129) dX8_next_122 (by decide) (by omega) (fun _ => ?_) (fun q => absurd q (by omega))
          refine aw_iload_n dX8_next_129 rfl rfl ?_
          refine aw_iret dX8_next_130 rfl (by first | rfl | exact (pk_charN (by omega)).1 | decide) ?_
          exact QM.fr hr f2
      | succ u ih =>
        intro k hk
        have hl := loS_le (nxV X) k
        have v1 := nlt (k + 1)
        have v2 := nlt (loS (nxV X) k)
        have hLl := hL (loS (nxV X) k) (by omega)
        refine one (k + 1) _ _ (by omega) ?_
        refine aw_iload_n dX8_next_74 rfl rfl ?_
        refine aw_if_ltN (tgt := 84) dX8_next_75 (by decide) (by omega) (fun q => absurd q (by omega)) (fun _ => ?_)
        refine aw_iload dX8_next_78 rfl ?_
        refine aw_iload_n dX8_next_80 rfl rfl ?_
        refine aw_icmp_geN (tgt := 88) dX8_next_81 (by decide) (by omega) (by omega) (fun c81 => ?_) (fun c81 => ?_)
        · have e : loS (nxV X) (k + 1) = loS (nxV X) k := by rw [loS, if_neg (by omega)]
          refine aw_iconst (v := nI 0) dX8_next_88 (by decide) ?_
          refine aw_istore dX8_next_89 (Nat.le_of_ble_eq_true rfl) rfl ?_
          dsimp only [List.set]
          refine aw_iload dX8_next_91 rfl ?_
          refine aw_if_eqN (tgt := 101) dX8_next_93 (by decide) (by omega) (fun _ => ?_) (fun q => absurd q (by omega))
          refine aw_iload_n dX8_next_101 rfl rfl ?_
          refine aw_istore_n dX8_next_102 rfl (Nat.le_of_ble_eq_true rfl) rfl ?_
          dsimp only [List.set]
          refine aw_iload dX8_next_103 rfl ?_
          refine aw_if_eqN (tgt := 113) dX8_next_105 (by decide) (by omega) (fun _ => ?_) (fun q => absurd q (by omega))
          refine aw_iload_n dX8_next_113 rfl rfl ?_
          refine aw_istore_n dX8_next_114 rfl (Nat.le_of_ble_eq_true rfl) rfl ?_
          dsimp only [List.set]
          refine aw_iincN (v := 1) dX8_next_115 rfl rfl ?_
          dsimp only [List.set]
          refine aw_goto (tgt := 28) dX8_next_118 (by decide) ?_
          refine aw_forget 5 ?_
          refine aw_forget 6 ?_
          refine aw_forget 7 ?_
          dsimp only [List.set]
          have r := ih (k + 1) (by omega)
          rw [e] at r
          exact r
        · have e : loS (nxV X) (k + 1) = k + 1 := by rw [loS, if_pos (by omega)]
          refine aw_iconst (v := nI 1) dX8_next_84 (by decide) ?_
          refine aw_goto (tgt := 89) dX8_next_85 (by decide) ?_
          refine aw_istore dX8_next_89 (Nat.le_of_ble_eq_true rfl) rfl ?_
          dsimp only [List.set]
          refine aw_iload dX8_next_91 rfl ?_
          refine aw_if_eqN (tgt := 101) dX8_next_93 (by decide) (by omega) (fun q => absurd q (by omega)) (fun _ => ?_)
          refine aw_iload dX8_next_96 rfl ?_
          refine aw_goto (tgt := 102) dX8_next_98 (by decide) ?_
          refine aw_istore_n dX8_next_102 rfl (Nat.le_of_ble_eq_true rfl) rfl ?_
          dsimp only [List.set]
          refine aw_iload dX8_next_103 rfl ?_
          refine aw_if_eqN (tgt := 113) dX8_next_105 (by decide) (by omega) (fun q => absurd q (by omega)) (fun _ => ?_)
          refine aw_iload dX8_next_108 rfl ?_
          refine aw_goto (tgt := 114) dX8_next_110 (by decide) ?_
          refine aw_istore_n dX8_next_114 rfl (Nat.le_of_ble_eq_true rfl) rfl ?_
          dsimp only [List.set]
          refine aw_iincN (v := 1) dX8_next_115 rfl rfl ?_
          dsimp only [List.set]
          refine aw_goto (tgt := 28) dX8_next_118 (by decide) ?_
          refine aw_forget 5 ?_
          refine aw_forget 6 ?_
          refine aw_forget 7 ?_
          dsimp only [List.set]
          have r := ih (k + 1) (by omega)
          rw [e] at r
          exact r
    refine one 0 _ _ (by omega) ?_
    refine aw_iload_n dX8_next_74 rfl rfl ?_
    refine aw_if_lt (tgt := 84) dX8_next_75 (by decide) (fun _ => ?_) (fun q => absurd (by decide) q)
    refine aw_iconst (v := nI 1) dX8_next_84 (by decide) ?_
    refine aw_goto (tgt := 89) dX8_next_85 (by decide) ?_
    refine aw_istore dX8_next_89 (Nat.le_of_ble_eq_true rfl) rfl ?_
    dsimp only [List.set]
    refine aw_iload dX8_next_91 rfl ?_
    refine aw_if_eqN (tgt := 101) dX8_next_93 (by decide) (by omega) (fun q => absurd q (by omega)) (fun _ => ?_)
    refine aw_iload dX8_next_96 rfl ?_
    refine aw_goto (tgt := 102) dX8_next_98 (by decide) ?_
    refine aw_istore_n dX8_next_102 rfl (Nat.le_of_ble_eq_true rfl) rfl ?_
    dsimp only [List.set]
    refine aw_iload dX8_next_103 rfl ?_
    refine aw_if_eqN (tgt := 113) dX8_next_105 (by decide) (by omega) (fun q => absurd q (by omega)) (fun _ => ?_)
    refine aw_iload dX8_next_108 rfl ?_
    refine aw_goto (tgt := 114) dX8_next_110 (by decide) ?_
    refine aw_istore_n dX8_next_114 rfl (Nat.le_of_ble_eq_true rfl) rfl ?_
    dsimp only [List.set]
    refine aw_iincN (v := 1) dX8_next_115 rfl rfl ?_
    dsimp only [List.set]
    refine aw_goto (tgt := 28) dX8_next_118 (by decide) ?_
    refine aw_forget 5 ?_
    refine aw_forget 6 ?_
    refine aw_forget 7 ?_
    dsimp only [List.set]
    exact loop (xn X - 1) 0 (by omega)
theorem y_year {d : Nat} {h : Hp} {X : XS} {z m w : Int32} (hr : RM h X) (hv : VX X) : RT mX8_year (d + 6) [.ref 67, .int z, .int m, .int w] h (QM h X (a_year X z m w)) := by
  have hn := hv.n
  have hS := hv.1
  have hc1 := hv.2.1.1
  have hok := cL_ok hv.1 hv.2.1
  have e1 : (7919 : Int64) = lN 7919 := rfl
  have e2 : (6151 : Int64) = lN 6151 := rfl
  have e3 : (1 : Int64) = lN 1 := rfl
  have e4 : (65521 : Int64) = lN 65521 := rfl
  have e5 : (2 : Int64) = lN 2 := rfl
  unfold a_year
  change AW mX8_year _ 0 [some (.ref 67), some (.int z), some (.int m), some (.int w), none, none, none, none, none] [] h _
  cases ez : ix z 0 9999 with
  | none =>
    refine aw_iload_n dX8_year_0 rfl rfl ?_
    refine aw_iconst (v := nI 0) dX8_year_1 (by decide) ?_
    refine aw_sipush (v := nI 9999) dX8_year_2 (by decide) ?_
    refine aw_callSF dX8_year_5 kX8_76 (m_iN ez) rfl rfl rfl (Nat.le_of_ble_eq_true rfl) (Nat.le_of_ble_eq_true rfl) ?_
    dsimp only [Option.toList, List.cons_append, List.nil_append, Nat.reduceAdd]
    refine aw_if_eqN (tgt := 30) dX8_year_8 (by decide) (by omega) (fun _ => ?_) (fun q => absurd q (by omega))
    refine aw_iconst (v := nI 4294967295) dX8_year_30 (by decide) ?_
    refine aw_iret dX8_year_31 rfl (by first | rfl | exact (pk_charN (by omega)).1 | decide) ?_
    exact QM.same hr
  | some z =>
    obtain ⟨rfl, hz1, hz2⟩ := ix_s (by omega) (by omega) ez
    dsimp only
    cases em : ix m 1 120 with
    | none =>
      refine aw_iload_n dX8_year_0 rfl rfl ?_
      refine aw_iconst (v := nI 0) dX8_year_1 (by decide) ?_
      refine aw_sipush (v := nI 9999) dX8_year_2 (by decide) ?_
      refine aw_callSF dX8_year_5 kX8_76 (m_iS ez) rfl rfl rfl (Nat.le_of_ble_eq_true rfl) (Nat.le_of_ble_eq_true rfl) ?_
      dsimp only [Option.toList, List.cons_append, List.nil_append, Nat.reduceAdd]
      refine aw_if_eqN (tgt := 30) dX8_year_8 (by decide) (by omega) (fun q => absurd q (by omega)) (fun _ => ?_)
      refine aw_iload_n dX8_year_11 rfl rfl ?_
      refine aw_iconst (v := nI 1) dX8_year_12 (by decide) ?_
      refine aw_bipush (v := nI 120) dX8_year_13 (by decide) ?_
      refine aw_callSF dX8_year_15 kX8_76 (m_iN em) rfl rfl rfl (Nat.le_of_ble_eq_true rfl) (Nat.le_of_ble_eq_true rfl) ?_
      dsimp only [Option.toList, List.cons_append, List.nil_append, Nat.reduceAdd]
      refine aw_if_eqN (tgt := 30) dX8_year_18 (by decide) (by omega) (fun _ => ?_) (fun q => absurd q (by omega))
      refine aw_iconst (v := nI 4294967295) dX8_year_30 (by decide) ?_
      refine aw_iret dX8_year_31 rfl (by first | rfl | exact (pk_charN (by omega)).1 | decide) ?_
      exact QM.same hr
    | some m =>
      obtain ⟨rfl, hm1, hm2⟩ := ix_s (by omega) (by omega) em
      dsimp only
      cases ew : ix w 0 1 with
      | none =>
        refine aw_iload_n dX8_year_0 rfl rfl ?_
        refine aw_iconst (v := nI 0) dX8_year_1 (by decide) ?_
        refine aw_sipush (v := nI 9999) dX8_year_2 (by decide) ?_
        refine aw_callSF dX8_year_5 kX8_76 (m_iS ez) rfl rfl rfl (Nat.le_of_ble_eq_true rfl) (Nat.le_of_ble_eq_true rfl) ?_
        dsimp only [Option.toList, List.cons_append, List.nil_append, Nat.reduceAdd]
        refine aw_if_eqN (tgt := 30) dX8_year_8 (by decide) (by omega) (fun q => absurd q (by omega)) (fun _ => ?_)
        refine aw_iload_n dX8_year_11 rfl rfl ?_
        refine aw_iconst (v := nI 1) dX8_year_12 (by decide) ?_
        refine aw_bipush (v := nI 120) dX8_year_13 (by decide) ?_
        refine aw_callSF dX8_year_15 kX8_76 (m_iS em) rfl rfl rfl (Nat.le_of_ble_eq_true rfl) (Nat.le_of_ble_eq_true rfl) ?_
        dsimp only [Option.toList, List.cons_append, List.nil_append, Nat.reduceAdd]
        refine aw_if_eqN (tgt := 30) dX8_year_18 (by decide) (by omega) (fun q => absurd q (by omega)) (fun _ => ?_)
        refine aw_iload_n dX8_year_21 rfl rfl ?_
        refine aw_iconst (v := nI 0) dX8_year_22 (by decide) ?_
        refine aw_iconst (v := nI 1) dX8_year_23 (by decide) ?_
        refine aw_callSF dX8_year_24 kX8_76 (m_iN ew) rfl rfl rfl (Nat.le_of_ble_eq_true rfl) (Nat.le_of_ble_eq_true rfl) ?_
        dsimp only [Option.toList, List.cons_append, List.nil_append, Nat.reduceAdd]
        refine aw_if_neN (tgt := 32) dX8_year_27 (by decide) (by omega) (fun q => absurd q (by omega)) (fun _ => ?_)
        refine aw_iconst (v := nI 4294967295) dX8_year_30 (by decide) ?_
        refine aw_iret dX8_year_31 rfl (by first | rfl | exact (pk_charN (by omega)).1 | decide) ?_
        exact QM.same hr
      | some w =>
        obtain ⟨rfl, hw1, hw2⟩ := ix_s (by omega) (by omega) ew
        dsimp only
        have loop : ∀ u k hh, k + u = m → NS hh (xS X) (xC X).2.1 (cL (xn X) (xC X)) ((xC X).1 + k) (yrF (xS X) (xC X) z k) → F81 h hh → AW mX8_year (d + 6) 46 [some (.ref 67), some (.int (nI z)), some (.int (nI m)), some (.int (nI w)), some (.int (nI (yrC (xS X) (xC X) z k))), some (.int (nI k)), none, none, none] [] hh (QM h X (nI (if w = 0 then yrC (xS X) (xC X) z m else own (yrF (xS X) (xC X) z m) 0 (xn X) 0))) := by
          intro u
          induction u with
          | zero =>
            intro k hh hk w3 hg
            have ek : k = m := by omega
            subst ek
            refine aw_iload dX8_year_46 rfl ?_
            refine aw_iload_n dX8_year_48 rfl rfl ?_
            refine aw_icmp_geN (tgt := 138) dX8_year_49 (by decide) (by omega) (by omega) (fun _ => ?_) (fun q => absurd q (by omega))
            refine aw_iload_n dX8_year_138 rfl rfl ?_
            rcases (show w = 0 ∨ w = 1 by omega) with rfl | rfl
            · refine aw_if_neN (tgt := 147) dX8_year_139 (by decide) (by omega) (fun q => absurd q (by omega)) (fun _ => ?_)
              refine aw_iload dX8_year_142 rfl ?_
              refine aw_goto (tgt := 152) dX8_year_144 (by decide) ?_
              refine aw_iret dX8_year_152 rfl (by first | rfl | exact (pk_charN (by omega)).1 | decide) ?_
              exact QM.fr hr hg
            · refine aw_if_neN (tgt := 147) dX8_year_139 (by decide) (by omega) (fun _ => ?_) (fun q => absurd q (by omega))
              refine aw_aload_n dX8_year_147 rfl rfl ?_
              refine aw_iconst (v := nI 0) dX8_year_148 (by decide) ?_
              refine aw_callVF dX8_year_149 kX8_158 (m_whoseNow w3 hS (PM_yrF (z := z) hv.1 hv.2.1 k) (show 0 < xn X by omega)) (by first | assumption | rfl) rfl rfl rfl (Nat.le_of_ble_eq_true rfl) (Nat.le_of_ble_eq_true rfl) ?_
              dsimp only [Option.toList, List.cons_append, List.nil_append, Nat.reduceAdd]
              refine aw_iret dX8_year_152 rfl (by first | rfl | exact (pk_charN (by omega)).1 | decide) ?_
              exact QM.fr hr hg
          | succ u ih =>
            intro k hh hk w3 hg
            have hx : 7919 * z + 6151 * k + 1 < 2 ^ 27 := by omega
            have hxx : (7919 * z + 6151 * k + 1) * (7919 * z + 6151 * k + 1) < 2 ^ 63 := by
              have := Nat.mul_lt_mul'' hx hx
              omega
            have hdr : drw z k < 2 ^ 30 := by
              have : (7919 * z + 6151 * k + 1) * (7919 * z + 6151 * k + 1) % 65521 < 65521 := Nat.mod_lt _ (by decide)
              unfold drw
              omega
            have hpy := PM_yrF (z := z) hv.1 hv.2.1 k
            have e67 : hh 67 0 = xn X := w3.1.1
            have m1 : drw z k % xn X < xn X := Nat.mod_lt _ (by omega)
            have m2 : drw z k / 8 % xn X < xn X := Nat.mod_lt _ (by omega)
            have tail : ∀ h5, NS h5 (xS X) (xC X).2.1 (cL (xn X) (xC X)) ((xC X).1 + k) (ysw (xn X) (drw z k) (yrF (xS X) (xC X) z k)) → F81 h h5 → AW mX8_year (d + 6) 120 [some (.ref 67), some (.int (nI z)), some (.int (nI m)), some (.int (nI w)), some (.int (nI (yrC (xS X) (xC X) z k))), some (.int (nI k)), none, none, none] [] h5 (QM h X (nI (if w = 0 then yrC (xS X) (xC X) z m else own (yrF (xS X) (xC X) z m) 0 (xn X) 0))) := by
              intro h5 w5 g5
              refine aw_iload dX8_year_120 rfl ?_
              refine aw_aload_n dX8_year_122 rfl rfl ?_
              refine aw_callV dX8_year_123 kX8_145 (m_goes w5 hok (PM_ysw hpy hS.1) (by omega)) (by first | assumption | rfl) rfl rfl rfl (Nat.le_of_ble_eq_true rfl) (Nat.le_of_ble_eq_true rfl) ?_
              rintro _ h6 ⟨rfl, w6, f6⟩
              dsimp only [Option.toList, List.cons_append, List.nil_append, Nat.reduceAdd]
              refine aw_callSF dX8_year_126 kX8_148 (m_bits (cb256 hS)) rfl rfl rfl (Nat.le_of_ble_eq_true rfl) (Nat.le_of_ble_eq_true rfl) ?_
              dsimp only [Option.toList, List.cons_append, List.nil_append, Nat.reduceAdd]
              rw [pc8_cb _ hS.2.1]
              refine aw_iaddN dX8_year_129 ?_
              refine aw_istore dX8_year_130 (Nat.le_of_ble_eq_true rfl) rfl ?_
              dsimp only [List.set]
              refine aw_iincN (v := 1) dX8_year_132 rfl rfl ?_
              dsimp only [List.set]
              refine aw_goto (tgt := 46) dX8_year_135 (by decide) ?_
              exact ih (k + 1) h6 (by omega) w6 (g5.trans f6)
            refine aw_iload dX8_year_46 rfl ?_
            refine aw_iload_n dX8_year_48 rfl rfl ?_
            refine aw_icmp_geN (tgt := 138) dX8_year_49 (by decide) (by omega) (by omega) (fun q => absurd q (by omega)) (fun _ => ?_)
            refine aw_ldc2 dX8_year_52 qX8_194 ?_
            refine aw_iload_n dX8_year_55 rfl rfl ?_
            refine aw_i2l dX8_year_56 ?_
            refine aw_lmul dX8_year_57 ?_
            refine aw_ldc2 dX8_year_58 qX8_196 ?_
            refine aw_iload dX8_year_61 rfl ?_
            refine aw_i2l dX8_year_63 ?_
            refine aw_lmul dX8_year_64 ?_
            refine aw_ladd dX8_year_65 ?_
            refine aw_lconst (v := 1) dX8_year_66 (by decide) ?_
            refine aw_ladd dX8_year_67 ?_
            rw [e1, e2, e3, nI_l (by omega), nI_l (by omega), lN_mul, lN_mul, lN_add, lN_add]
            refine aw_lstore dX8_year_68 (Nat.le_of_ble_eq_true rfl) rfl ?_
            dsimp only [List.set]
            refine aw_lload dX8_year_70 rfl ?_
            refine aw_lload dX8_year_72 rfl ?_
            refine aw_lmul dX8_year_74 ?_
            refine aw_ldc2 dX8_year_75 qX8_198 ?_
            rw [lN_mul, e4]
            refine aw_lrem dX8_year_78 (by decide) ?_
            rw [pk_lRem hxx (by decide) (by decide)]
            refine aw_ldc2 dX8_year_79 qX8_200 ?_
            refine aw_ldiv dX8_year_82 (by decide) ?_
            rw [e5, pk_lDiv (by omega) (by decide) (by decide)]
            refine aw_l2i dX8_year_83 ?_
            rw [lN_i, show (7919 * z + 6151 * k + 1) * (7919 * z + 6151 * k + 1) % 65521 / 2 = drw z k from rfl]
            refine aw_istore dX8_year_84 (Nat.le_of_ble_eq_true rfl) rfl ?_
            dsimp only [List.set]
            refine aw_iload dX8_year_86 rfl ?_
            refine aw_bipush (v := nI 64) dX8_year_88 (by decide) ?_
            refine aw_idivN dX8_year_90 (by omega) (by omega) (by omega) ?_
            refine aw_iconst (v := nI 5) dX8_year_91 (by decide) ?_
            refine aw_iremN dX8_year_92 (by omega) (by omega) (by omega) ?_
            refine aw_if_neN (tgt := 120) dX8_year_93 (by decide) (by omega) (fun c93 => ?_) (fun c93 => ?_)
            · have e : ysw (xn X) (drw z k) (yrF (xS X) (xC X) z k) = yrF (xS X) (xC X) z k := by unfold ysw; rw [if_neg (by omega)]
              refine aw_forget 6 ?_
              refine aw_forget 7 ?_
              refine aw_forget 8 ?_
              dsimp only [List.set]
              exact tail hh (by rw [e]; exact w3) hg
            · have e : ysw (xn X) (drw z k) (yrF (xS X) (xC X) z k) = swp (yrF (xS X) (xC X) z k) (drw z k % xn X) (drw z k / 8 % xn X) := by unfold ysw; rw [if_pos (by omega)]
              refine aw_aload_n dX8_year_96 rfl rfl ?_
              refine aw_getR dX8_year_97 fX8_46 (by first | assumption | rfl) (by rfl) ?_
              refine aw_iload dX8_year_100 rfl ?_
              refine aw_aload_n dX8_year_102 rfl rfl ?_
              refine aw_getI dX8_year_103 fX8_73 (by first | assumption | rfl) (by rfl) ?_
              rw [e67]
              refine aw_iremN dX8_year_106 (by omega) (by omega) (by omega) ?_
              refine aw_iload dX8_year_107 rfl ?_
              refine aw_bipush (v := nI 8) dX8_year_109 (by decide) ?_
              refine aw_idivN dX8_year_111 (by omega) (by omega) (by omega) ?_
              refine aw_aload_n dX8_year_112 rfl rfl ?_
              refine aw_getI dX8_year_113 fX8_73 (by first | assumption | rfl) (by rfl) ?_
              rw [e67]
              refine aw_iremN dX8_year_116 (by omega) (by omega) (by omega) ?_
              refine aw_callSF dX8_year_117 kX8_133 (m_swapped (by first | assumption | rfl) (by omega) (by omega) (by decide)) rfl rfl rfl (Nat.le_of_ble_eq_true rfl) (Nat.le_of_ble_eq_true rfl) ?_
              dsimp only [Option.toList, List.cons_append, List.nil_append, Nat.reduceAdd]
              obtain ⟨w4, f4⟩ := w3.swap hS m1 m2
              refine aw_forget 6 ?_
              refine aw_forget 7 ?_
              refine aw_forget 8 ?_
              dsimp only [List.set]
              exact tail _ (by rw [e]; exact w4) (hg.trans f4)
        refine aw_iload_n dX8_year_0 rfl rfl ?_
        refine aw_iconst (v := nI 0) dX8_year_1 (by decide) ?_
        refine aw_sipush (v := nI 9999) dX8_year_2 (by decide) ?_
        refine aw_callSF dX8_year_5 kX8_76 (m_iS ez) rfl rfl rfl (Nat.le_of_ble_eq_true rfl) (Nat.le_of_ble_eq_true rfl) ?_
        dsimp only [Option.toList, List.cons_append, List.nil_append, Nat.reduceAdd]
        refine aw_if_eqN (tgt := 30) dX8_year_8 (by decide) (by omega) (fun q => absurd q (by omega)) (fun _ => ?_)
        refine aw_iload_n dX8_year_11 rfl rfl ?_
        refine aw_iconst (v := nI 1) dX8_year_12 (by decide) ?_
        refine aw_bipush (v := nI 120) dX8_year_13 (by decide) ?_
        refine aw_callSF dX8_year_15 kX8_76 (m_iS em) rfl rfl rfl (Nat.le_of_ble_eq_true rfl) (Nat.le_of_ble_eq_true rfl) ?_
        dsimp only [Option.toList, List.cons_append, List.nil_append, Nat.reduceAdd]
        refine aw_if_eqN (tgt := 30) dX8_year_18 (by decide) (by omega) (fun q => absurd q (by omega)) (fun _ => ?_)
        refine aw_iload_n dX8_year_21 rfl rfl ?_
        refine aw_iconst (v := nI 0) dX8_year_22 (by decide) ?_
        refine aw_iconst (v := nI 1) dX8_year_23 (by decide) ?_
        refine aw_callSF dX8_year_24 kX8_76 (m_iS ew) rfl rfl rfl (Nat.le_of_ble_eq_true rfl) (Nat.le_of_ble_eq_true rfl) ?_
        dsimp only [Option.toList, List.cons_append, List.nil_append, Nat.reduceAdd]
        refine aw_if_neN (tgt := 32) dX8_year_27 (by decide) (by omega) (fun _ => ?_) (fun q => absurd q (by omega))
        refine aw_aload_n dX8_year_32 rfl rfl ?_
        refine aw_aload_n dX8_year_33 rfl rfl ?_
        refine aw_getR dX8_year_34 fX8_16 (by first | assumption | rfl) (by rfl) ?_
        refine aw_callV dX8_year_37 kX8_154 (m_fromX hr hv) (by first | assumption | rfl) rfl rfl rfl (Nat.le_of_ble_eq_true rfl) (Nat.le_of_ble_eq_true rfl) ?_
        rintro _ h2 ⟨rfl, w2, f2⟩
        dsimp only [Option.toList, List.cons_append, List.nil_append, Nat.reduceAdd]
        refine aw_iconst (v := nI 0) dX8_year_40 (by decide) ?_
        refine aw_istore dX8_year_41 (Nat.le_of_ble_eq_true rfl) rfl ?_
        dsimp only [List.set]
        refine aw_iconst (v := nI 0) dX8_year_43 (by decide) ?_
        refine aw_istore dX8_year_44 (Nat.le_of_ble_eq_true rfl) rfl ?_
        dsimp only [List.set]
        exact loop m 0 h2 (by omega) w2 f2
