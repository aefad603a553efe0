/-! the reference: what would be -/
theorem m_isPair {d p n : Nat} {h : Hp} (hp : p < 64) (hn : n ≤ 8) : RT mX8_isPair d [.int (nI p), .int (nI n)] h (fun v h' => v = some (.int (nI (if isP n p then 1 else 0))) ∧ h' = h) := by
  change AW mX8_isPair _ 0 [some (.int (nI p)), some (.int (nI n))] [] h _
  refine aw_iload_n dX8_isPair_0 rfl rfl ?_
  refine aw_bipush (v := nI 8) dX8_isPair_1 (by decide) ?_
  refine aw_idivN dX8_isPair_3 (by omega) (by omega) (by omega) ?_
  refine aw_iload_n dX8_isPair_4 rfl rfl ?_
  refine aw_bipush (v := nI 8) dX8_isPair_5 (by decide) ?_
  refine aw_iremN dX8_isPair_7 (by omega) (by omega) (by omega) ?_
  refine aw_icmp_geN (tgt := 23) dX8_isPair_8 (by decide) (by omega) (by omega) (fun c8 => ?_) (fun c8 => ?_)
  · rw [if_neg (by omega)]
    refine aw_iconst (v := nI 0) dX8_isPair_23 (by decide) ?_
    refine aw_iret dX8_isPair_24 rfl (by first | rfl | exact (pk_charN (by omega)).1 | decide) ?_
    exact ⟨rfl, rfl⟩
  · refine aw_iload_n dX8_isPair_11 rfl rfl ?_
    refine aw_bipush (v := nI 8) dX8_isPair_12 (by decide) ?_
    refine aw_iremN dX8_isPair_14 (by omega) (by omega) (by omega) ?_
    refine aw_iload_n dX8_isPair_15 rfl rfl ?_
    refine aw_icmp_geN (tgt := 23) dX8_isPair_16 (by decide) (by omega) (by omega) (fun c16 => ?_) (fun c16 => ?_)
    · rw [if_neg (by omega)]
      refine aw_iconst (v := nI 0) dX8_isPair_23 (by decide) ?_
      refine aw_iret dX8_isPair_24 rfl (by first | rfl | exact (pk_charN (by omega)).1 | decide) ?_
      exact ⟨rfl, rfl⟩
    · rw [if_pos (by omega)]
      refine aw_iconst (v := nI 1) dX8_isPair_19 (by decide) ?_
      refine aw_goto (tgt := 24) dX8_isPair_20 (by decide) ?_
      refine aw_iret dX8_isPair_24 rfl (by first | rfl | exact (pk_charN (by omega)).1 | decide) ?_
      exact ⟨rfl, rfl⟩
/-- what the tries may change -/
def FG (h h' : Hp) : Prop := (∀ o, o ≠ 67 → o ≠ 80 → o ≠ 81 → h' o = h o) ∧ ∀ k, k < 22 → h' 67 k = h 67 k
theorem FG.trans {h h1 h2 : Hp} (a : FG h h1) (b : FG h1 h2) : FG h h2 := ⟨fun o p q r => (b.1 o p q r).trans (a.1 o p q r), fun k hk => (b.2 k hk).trans (a.2 k hk)⟩
theorem FG.of {h h1 : Hp} (a : F81 h h1) : FG h h1 := ⟨fun o _ q r => a o q r, fun k _ => by rw [a 67 (by decide) (by decide)]⟩
theorem RM.fg {h h' : Hp} {X : XS} (hr : RM h X) (hf : FG h h') : RM h' X := hr.gen (fun o h1 h2 => hf.1 o (by omega) (by omega) (by omega)) (fun k hk => hf.2 k (by omega))
theorem QM.fg {h h' : Hp} {X : XS} {a : Int32} (hr : RM h X) (hf : FG h h') : QM h X a (some (.int a)) h' := ⟨rfl, hr.fg hf, fun o ho => hf.1 o (by omega) (by omega) (by omega)⟩
def okO (n p : Nat) : Prop := p = 4294967292 ∨ (p < 64 ∧ isP n p)
def apO (f : Nat → Nat) (p : Nat) : Nat → Nat := if p = 4294967292 then f else ap f p
theorem apO_n (f : Nat → Nat) : apO f 4294967292 = f := by unfold apO; rw [if_pos rfl]
theorem apO_p {f : Nat → Nat} {p : Nat} (hp : p < 64) : apO f p = ap f p := by unfold apO; rw [if_neg (by omega)]
theorem PM_apO {n p : Nat} {f : Nat → Nat} (hf : PM n f) (hp : okO n p) : PM n (apO f p) := by
  rcases hp with rfl | ⟨h1, h2⟩
  · rw [apO_n]; exact hf
  · rw [apO_p h1]; exact PM_ap hf (by omega)
theorem neg_cmp {v : Nat} (hv : v < 2 ^ 31) : ¬ nI v ≤ nI 4294967295 := by
  rw [Int32.le_iff_toInt_le, nI_toInt hv]
  have : (nI 4294967295).toInt = -1 := by decide
  omega
def MS (h : Hp) (a : bT) : Prop := h 67 24 = a.1 ∧ h 67 22 = a.2.1 ∧ h 67 23 = a.2.2
theorem m_tries {d i m one two : Nat} {h : Hp} {X : XS} {a : bT} (hr : RM h X) (hv : VX X) (hi : i < xn X) (hm : m ≤ 60) (h1 : okO (xn X) one) (h2 : okO (xn X) two) (ha : MS h a) (hlt : a.1 ≤ 540 ∨ a.1 = 4294967295) :
    RT mX8_triesSwaps (d + 4) [.ref 67, .int (nI i), .int (nI m), .int (nI one), .int (nI two)] h (fun v h' => v = none ∧ MS h' (if a.1 = 4294967295 then (vSun (xS X) (xC X) i m (apO (apO (xC X).2.2 one) two), one, two) else bU a (vSun (xS X) (xC X) i m (apO (apO (xC X).2.2 one) two)) one two) ∧ FG h h') := by
  have hn := hv.n
  have hS := hv.1
  have hok := cL_ok hv.1 hv.2.1
  have hc1 := hv.2.1.1
  have hLs : ∀ q, q < xn X → cL (xn X) (xC X) q < xn X := fun q hq => (hok.2 q hq).2
  have p1 := PM_apO hv.2.1.2.1 h1
  have p2 := PM_apO p1 h2
  have hvl : vSun (xS X) (xC X) i m (apO (apO (xC X).2.2 one) two) ≤ 540 := by
    have := sunF_lt (b := (xC X).2.1) (dd := (xC X).1) hS hLs p2 hi m
    unfold vSun
    have e : cL (sn (xS X)) (xC X) = cL (xn X) (xC X) := rfl
    rw [e]
    omega
  have fin : ∀ hh, NS hh (xS X) (xC X).2.1 (cL (xn X) (xC X)) (xC X).1 (apO (apO (xC X).2.2 one) two) → F81 h hh → AW mX8_triesSwaps (d + 4) 49 [some (.ref 67), some (.int (nI i)), some (.int (nI m)), some (.int (nI one)), some (.int (nI two)), none] [] hh (fun v h' => v = none ∧ MS h' (if a.1 = 4294967295 then (vSun (xS X) (xC X) i m (apO (apO (xC X).2.2 one) two), one, two) else bU a (vSun (xS X) (xC X) i m (apO (apO (xC X).2.2 one) two)) one two) ∧ FG h h') := by
    intro hh w3 f3
    refine aw_aload_n dX8_triesSwaps_49 rfl rfl ?_
    refine aw_iload_n dX8_triesSwaps_50 rfl rfl ?_
    refine aw_iload_n dX8_triesSwaps_51 rfl rfl ?_
    refine aw_callV dX8_triesSwaps_52 kX8_167 (m_sunOn w3 hok p2 hi (by omega)) (by first | assumption | rfl) rfl rfl rfl (Nat.le_of_ble_eq_true rfl) (Nat.le_of_ble_eq_true rfl) ?_
    rintro _ h4 ⟨rfl, w4, f4⟩
    dsimp only [Option.toList, List.cons_append, List.nil_append, Nat.reduceAdd]
    refine aw_istore dX8_triesSwaps_55 (Nat.le_of_ble_eq_true rfl) rfl ?_
    dsimp only [List.set]
    refine aw_iload dX8_triesSwaps_57 rfl ?_
    refine aw_aload_n dX8_triesSwaps_59 rfl rfl ?_
    refine aw_getI dX8_triesSwaps_60 fX8_173 (by first | assumption | rfl) (by rfl) ?_
    rw [show sunF (xS X) (xC X).2.1 (cL (xn X) (xC X)) (xC X).1 (apO (apO (xC X).2.2 one) two) i m = vSun (xS X) (xC X) i m (apO (apO (xC X).2.2 one) two) from rfl]
    generalize vSun (xS X) (xC X) i m (apO (apO (xC X).2.2 one) two) = v at hvl ⊢
    have f34 := f3.trans f4
    have e67 : h4 67 = h 67 := f34 67 (by decide) (by decide)
    have a4 : MS h4 a := by unfold MS; rw [e67]; exact ha
    rw [a4.1]
    have yes : ∀ A, A = (v, one, two) → AW mX8_triesSwaps (d + 4) 66 [some (.ref 67), some (.int (nI i)), some (.int (nI m)), some (.int (nI one)), some (.int (nI two)), some (.int (nI v))] [] h4 (fun v h' => v = none ∧ MS h' A ∧ FG h h') := by
      rintro A rfl
      refine aw_aload_n dX8_triesSwaps_66 rfl rfl ?_
      refine aw_iload dX8_triesSwaps_67 rfl ?_
      refine aw_putfield dX8_triesSwaps_69 gX8_173 (by first | assumption | rfl) (by rfl) ?_
      refine aw_aload_n dX8_triesSwaps_72 rfl rfl ?_
      refine aw_iload_n dX8_triesSwaps_73 rfl rfl ?_
      refine aw_putfield dX8_triesSwaps_74 gX8_176 (by first | assumption | rfl) (by rfl) ?_
      refine aw_aload_n dX8_triesSwaps_77 rfl rfl ?_
      refine aw_iload dX8_triesSwaps_78 rfl ?_
      refine aw_putfield dX8_triesSwaps_80 gX8_179 (by first | assumption | rfl) (by rfl) ?_
      refine aw_vret dX8_triesSwaps_83 rfl ?_
      refine ⟨rfl, ⟨?_, ?_, ?_⟩, (FG.of f34).trans ⟨fun o p _ _ => by rw [hw_ne p, hw_ne p, hw_ne p], fun k hk => by rw [hw_at, if_neg (by omega), hw_at, if_neg (by omega), hw_at, if_neg (by omega)]⟩⟩
      · rw [hw_at, if_neg (by decide), hw_at, if_neg (by decide), hw_at, if_pos rfl]
      · rw [hw_at, if_neg (by decide), hw_at, if_pos rfl]
      · rw [hw_at, if_pos rfl]
    by_cases hz : a.1 = 4294967295
    · rw [if_pos hz, hz]
      refine aw_icmp_le (tgt := 83) dX8_triesSwaps_63 (by decide) (fun q => absurd q (neg_cmp (by omega))) (fun _ => ?_)
      exact yes _ rfl
    · rw [if_neg hz]
      refine aw_icmp_leN (tgt := 83) dX8_triesSwaps_63 (by decide) (by omega) (by omega) (fun c63 => ?_) (fun c63 => ?_)
      · have e : bU a v one two = a := by unfold bU; rw [if_neg (by omega)]
        rw [e]
        refine aw_vret dX8_triesSwaps_83 rfl ?_
        exact ⟨rfl, a4, FG.of f34⟩
      · exact yes _ (by unfold bU; rw [if_pos (by omega)])
  have mid : ∀ hh, NS hh (xS X) (xC X).2.1 (cL (xn X) (xC X)) (xC X).1 (apO (xC X).2.2 one) → F81 h hh → AW mX8_triesSwaps (d + 4) 27 [some (.ref 67), some (.int (nI i)), some (.int (nI m)), some (.int (nI one)), some (.int (nI two)), none] [] hh (fun v h' => v = none ∧ MS h' (if a.1 = 4294967295 then (vSun (xS X) (xC X) i m (apO (apO (xC X).2.2 one) two), one, two) else bU a (vSun (xS X) (xC X) i m (apO (apO (xC X).2.2 one) two)) one two) ∧ FG h h') := by
    intro hh w3 f3
    rcases id h2 with e2 | ⟨q1, q2⟩
    · subst e2
      rw [apO_n] at fin ⊢
      refine aw_iload dX8_triesSwaps_27 rfl ?_
      refine aw_if_lt (tgt := 49) dX8_triesSwaps_29 (by decide) (fun _ => ?_) (fun q => absurd (by decide) q)
      exact fin hh w3 f3
    · obtain ⟨w4, f4⟩ := w3.swap hS (i := two / 8) (j := two % 8) (show two / 8 < xn X by omega) (show two % 8 < xn X by omega)
      refine aw_iload dX8_triesSwaps_27 rfl ?_
      refine aw_if_ltN (tgt := 49) dX8_triesSwaps_29 (by decide) (by omega) (fun q => absurd q (by omega)) (fun _ => ?_)
      refine aw_aload_n dX8_triesSwaps_32 rfl rfl ?_
      refine aw_getR dX8_triesSwaps_33 fX8_46 (by first | assumption | rfl) (by rfl) ?_
      refine aw_iload dX8_triesSwaps_36 rfl ?_
      refine aw_bipush (v := nI 8) dX8_triesSwaps_38 (by decide) ?_
      refine aw_idivN dX8_triesSwaps_40 (by omega) (by omega) (by omega) ?_
      refine aw_iload dX8_triesSwaps_41 rfl ?_
      refine aw_bipush (v := nI 8) dX8_triesSwaps_43 (by decide) ?_
      refine aw_iremN dX8_triesSwaps_45 (by omega) (by omega) (by omega) ?_
      refine aw_callSF dX8_triesSwaps_46 kX8_133 (m_swapped (by first | assumption | rfl) (by omega) (by omega) (by decide)) rfl rfl rfl (Nat.le_of_ble_eq_true rfl) (Nat.le_of_ble_eq_true rfl) ?_
      dsimp only [Option.toList, List.cons_append, List.nil_append, Nat.reduceAdd]
      have e : apO (apO (xC X).2.2 one) two = swp (apO (xC X).2.2 one) (two / 8) (two % 8) := apO_p q1
      rw [← e] at w4
      exact fin _ w4 (f3.trans f4)
  change AW mX8_triesSwaps _ 0 [some (.ref 67), some (.int (nI i)), some (.int (nI m)), some (.int (nI one)), some (.int (nI two)), none] [] h _
  refine aw_aload_n dX8_triesSwaps_0 rfl rfl ?_
  refine aw_aload_n dX8_triesSwaps_1 rfl rfl ?_
  refine aw_getR dX8_triesSwaps_2 fX8_16 (by first | assumption | rfl) (by rfl) ?_
  refine aw_callV dX8_triesSwaps_5 kX8_154 (m_fromX hr hv) (by first | assumption | rfl) rfl rfl rfl (Nat.le_of_ble_eq_true rfl) (Nat.le_of_ble_eq_true rfl) ?_
  rintro _ h2 ⟨rfl, w2, f2⟩
  dsimp only [Option.toList, List.cons_append, List.nil_append, Nat.reduceAdd]
  rcases id h1 with e1 | ⟨q1, q2⟩
  · subst e1
    rw [apO_n] at mid ⊢
    refine aw_iload_n dX8_triesSwaps_8 rfl rfl ?_
    refine aw_if_lt (tgt := 27) dX8_triesSwaps_9 (by decide) (fun _ => ?_) (fun q => absurd (by decide) q)
    exact mid h2 w2 f2
  · obtain ⟨w4, f4⟩ := w2.swap hS (i := one / 8) (j := one % 8) (show one / 8 < xn X by omega) (show one % 8 < xn X by omega)
    refine aw_iload_n dX8_triesSwaps_8 rfl rfl ?_
    refine aw_if_ltN (tgt := 27) dX8_triesSwaps_9 (by decide) (by omega) (fun q => absurd q (by omega)) (fun _ => ?_)
    refine aw_aload_n dX8_triesSwaps_12 rfl rfl ?_
    refine aw_getR dX8_triesSwaps_13 fX8_46 (by first | assumption | rfl) (by rfl) ?_
    refine aw_iload_n dX8_triesSwaps_16 rfl rfl ?_
    refine aw_bipush (v := nI 8) dX8_triesSwaps_17 (by decide) ?_
    refine aw_idivN dX8_triesSwaps_19 (by omega) (by omega) (by omega) ?_
    refine aw_iload_n dX8_triesSwaps_20 rfl rfl ?_
    refine aw_bipush (v := nI 8) dX8_triesSwaps_21 (by decide) ?_
    refine aw_iremN dX8_triesSwaps_23 (by omega) (by omega) (by omega) ?_
    refine aw_callSF dX8_triesSwaps_24 kX8_133 (m_swapped (by first | assumption | rfl) (by omega) (by omega) (by decide)) rfl rfl rfl (Nat.le_of_ble_eq_true rfl) (Nat.le_of_ble_eq_true rfl) ?_
    dsimp only [Option.toList, List.cons_append, List.nil_append, Nat.reduceAdd]
    have e : apO (xC X).2.2 one = swp (xC X).2.2 (one / 8) (one % 8) := apO_p q1
    rw [← e] at w4
    exact mid _ w4 (f2.trans f4)
theorem y_swaps {d : Nat} {h : Hp} {X : XS} {i m k : Int32} (hr : RM h X) (hv : VX X) : RT mX8_swaps (d + 6) [.ref 67, .int i, .int m, .int k] h (QM h X (a_swaps X i m k)) := by
  have hn := hv.n
  unfold a_swaps
  change AW mX8_swaps _ 0 [some (.ref 67), some (.int i), some (.int m), some (.int k), none] [] h _
  cases ei : ix i 0 (xn X - 1) with
  | none =>
    refine aw_aload_n dX8_swaps_0 rfl rfl ?_
    refine aw_iload_n dX8_swaps_1 rfl rfl ?_
    refine aw_callVF dX8_swaps_2 kX8_151 (m_oneN hr hv ei) (by first | assumption | rfl) rfl rfl rfl (Nat.le_of_ble_eq_true rfl) (Nat.le_of_ble_eq_true rfl) ?_
    dsimp only [Option.toList, List.cons_append, List.nil_append, Nat.reduceAdd]
    refine aw_if_eqN (tgt := 27) dX8_swaps_5 (by decide) (by omega) (fun _ => ?_) (fun q => absurd q (by omega))
    refine aw_iconst (v := nI 4294967295) dX8_swaps_27 (by decide) ?_
    refine aw_iret dX8_swaps_28 rfl (by first | rfl | exact (pk_charN (by omega)).1 | decide) ?_
    exact QM.same hr
  | some i =>
    obtain ⟨rfl, hi1, hi2⟩ := ix_s (by omega) (by omega) ei
    dsimp only
    cases em : ix m 1 60 with
    | none =>
      refine aw_aload_n dX8_swaps_0 rfl rfl ?_
      refine aw_iload_n dX8_swaps_1 rfl rfl ?_
      refine aw_callVF dX8_swaps_2 kX8_151 (m_oneS hr hv ei) (by first | assumption | rfl) rfl rfl rfl (Nat.le_of_ble_eq_true rfl) (Nat.le_of_ble_eq_true rfl) ?_
      dsimp only [Option.toList, List.cons_append, List.nil_append, Nat.reduceAdd]
      refine aw_if_eqN (tgt := 27) dX8_swaps_5 (by decide) (by omega) (fun q => absurd q (by omega)) (fun _ => ?_)
      refine aw_iload_n dX8_swaps_8 rfl rfl ?_
      refine aw_iconst (v := nI 1) dX8_swaps_9 (by decide) ?_
      refine aw_bipush (v := nI 60) dX8_swaps_10 (by decide) ?_
      refine aw_callSF dX8_swaps_12 kX8_76 (m_iN em) rfl rfl rfl (Nat.le_of_ble_eq_true rfl) (Nat.le_of_ble_eq_true rfl) ?_
      dsimp only [Option.toList, List.cons_append, List.nil_append, Nat.reduceAdd]
      refine aw_if_eqN (tgt := 27) dX8_swaps_15 (by decide) (by omega) (fun _ => ?_) (fun q => absurd q (by omega))
      refine aw_iconst (v := nI 4294967295) dX8_swaps_27 (by decide) ?_
      refine aw_iret dX8_swaps_28 rfl (by first | rfl | exact (pk_charN (by omega)).1 | decide) ?_
      exact QM.same hr
    | some m =>
      obtain ⟨rfl, hm1, hm2⟩ := ix_s (by omega) (by omega) em
      dsimp only
      cases ek : ix k 0 2 with
      | none =>
        refine aw_aload_n dX8_swaps_0 rfl rfl ?_
        refine aw_iload_n dX8_swaps_1 rfl rfl ?_
        refine aw_callVF dX8_swaps_2 kX8_151 (m_oneS hr hv ei) (by first | assumption | rfl) rfl rfl rfl (Nat.le_of_ble_eq_true rfl) (Nat.le_of_ble_eq_true rfl) ?_
        dsimp only [Option.toList, List.cons_append, List.nil_append, Nat.reduceAdd]
        refine aw_if_eqN (tgt := 27) dX8_swaps_5 (by decide) (by omega) (fun q => absurd q (by omega)) (fun _ => ?_)
        refine aw_iload_n dX8_swaps_8 rfl rfl ?_
        refine aw_iconst (v := nI 1) dX8_swaps_9 (by decide) ?_
        refine aw_bipush (v := nI 60) dX8_swaps_10 (by decide) ?_
        refine aw_callSF dX8_swaps_12 kX8_76 (m_iS em) rfl rfl rfl (Nat.le_of_ble_eq_true rfl) (Nat.le_of_ble_eq_true rfl) ?_
        dsimp only [Option.toList, List.cons_append, List.nil_append, Nat.reduceAdd]
        refine aw_if_eqN (tgt := 27) dX8_swaps_15 (by decide) (by omega) (fun q => absurd q (by omega)) (fun _ => ?_)
        refine aw_iload_n dX8_swaps_18 rfl rfl ?_
        refine aw_iconst (v := nI 0) dX8_swaps_19 (by decide) ?_
        refine aw_iconst (v := nI 2) dX8_swaps_20 (by decide) ?_
        refine aw_callSF dX8_swaps_21 kX8_76 (m_iN ek) rfl rfl rfl (Nat.le_of_ble_eq_true rfl) (Nat.le_of_ble_eq_true rfl) ?_
        dsimp only [Option.toList, List.cons_append, List.nil_append, Nat.reduceAdd]
        refine aw_if_neN (tgt := 29) dX8_swaps_24 (by decide) (by omega) (fun q => absurd q (by omega)) (fun _ => ?_)
        refine aw_iconst (v := nI 4294967295) dX8_swaps_27 (by decide) ?_
        refine aw_iret dX8_swaps_28 rfl (by first | rfl | exact (pk_charN (by omega)).1 | decide) ?_
        exact QM.same hr
      | some k =>
        obtain ⟨rfl, hk1, hk2⟩ := ix_s (by omega) (by omega) ek
        dsimp only
        have hin : i < xn X := by omega
        have hS := hv.1
        have hok := cL_ok hv.1 hv.2.1
        have hLs : ∀ q, q < xn X → cL (xn X) (xC X) q < xn X := fun q hq => (hok.2 q hq).2
        obtain ⟨V, hV⟩ : ∃ V, V = vSun (xS X) (xC X) i m := ⟨_, rfl⟩
        obtain ⟨f, hf0⟩ : ∃ f, f = (xC X).2.2 := ⟨_, rfl⟩
        rw [← hV, ← hf0, ← dbA_eq hn.2 4096 (Nat.le_refl _)]
        have vlt : ∀ g, PM (xn X) g → V g ≤ 540 := fun g hg => by
          have := sunF_lt (b := (xC X).2.1) (dd := (xC X).1) hS hLs hg hin m
          rw [hV]
          unfold vSun
          have e : cL (sn (xS X)) (xC X) = cL (xn X) (xC X) := rfl
          rw [e]
          omega
        have hpf : PM (xn X) f := by rw [hf0]; exact hv.2.1.2.1
        have sgB : ∀ k, (sgS (xn X) V f k).1 ≤ 540 := by
          intro k
          induction k with
          | zero => exact vlt f hpf
          | succ k ih =>
            unfold sgS
            split
            · have := vlt (ap f k) (PM_ap hpf (by omega))
              unfold bU
              split
              · exact this
              · exact ih
            · exact ih
        have dbB : ∀ k, (dbA (xn X) V f k).1 ≤ 540 := by
          intro k
          induction k with
          | zero => exact sgB 64
          | succ k ih =>
            unfold dbA
            split
            · rename_i hz
              have := vlt (ap (ap f (k / 64)) (k % 64)) (PM_ap (PM_ap hpf (by omega)) (by omega))
              unfold bU
              split
              · exact this
              · exact ih
            · exact ih
        have loop2 : ∀ u c hh, c + u = 4096 → MS hh (dbA (xn X) V f c) → FG h hh → AW mX8_swaps (d + 6) 85 [some (.ref 67), some (.int (nI i)), some (.int (nI m)), some (.int (nI k)), some (.int (nI c))] [] hh (QM h X (nI (if k = 0 then (dbA (xn X) V f 4096).1 else if k = 1 then (dbA (xn X) V f 4096).2.1 else (dbA (xn X) V f 4096).2.2))) := by
          intro u
          induction u with
          | zero =>
            intro c hh hc hms hg
            have ec : c = 4096 := by omega
            subst ec
            generalize dbA (xn X) V f 4096 = D9 at hms ⊢
            refine aw_iload dX8_swaps_85 rfl ?_
            refine aw_sipush (v := nI 4096) dX8_swaps_87 (by decide) ?_
            refine aw_icmp_geN (tgt := 145) dX8_swaps_90 (by decide) (by omega) (by omega) (fun _ => ?_) (fun q => absurd q (by omega))
            refine aw_iload_n dX8_swaps_145 rfl rfl ?_
            rcases (show k = 0 ∨ k = 1 ∨ k = 2 by omega) with rfl | rfl | rfl
            · rw [if_pos rfl]
              refine aw_if_neN (tgt := 156) dX8_swaps_146 (by decide) (by omega) (fun q => absurd q (by omega)) (fun _ => ?_)
              refine aw_aload_n dX8_swaps_149 rfl rfl ?_
              refine aw_getI dX8_swaps_150 fX8_173 (by first | assumption | rfl) (by rfl) ?_
              refine aw_goto (tgt := 172) dX8_swaps_153 (by decide) ?_
              rw [hms.1]
              refine aw_iret dX8_swaps_172 rfl (by first | rfl | exact (pk_charN (by omega)).1 | decide) ?_
              exact QM.fg hr hg
            · rw [if_neg (by decide), if_pos rfl]
              refine aw_if_neN (tgt := 156) dX8_swaps_146 (by decide) (by omega) (fun _ => ?_) (fun q => absurd q (by omega))
              refine aw_iload_n dX8_swaps_156 rfl rfl ?_
              refine aw_iconst (v := nI 1) dX8_swaps_157 (by decide) ?_
              refine aw_icmp_neN (tgt := 168) dX8_swaps_158 (by decide) (by omega) (by omega) (fun q => absurd q (by omega)) (fun _ => ?_)
              refine aw_aload_n dX8_swaps_161 rfl rfl ?_
              refine aw_getI dX8_swaps_162 fX8_176 (by first | assumption | rfl) (by rfl) ?_
              refine aw_goto (tgt := 172) dX8_swaps_165 (by decide) ?_
              rw [hms.2.1]
              refine aw_iret dX8_swaps_172 rfl (by first | rfl | exact (pk_charN (by omega)).1 | decide) ?_
              exact QM.fg hr hg
            · rw [if_neg (by decide), if_neg (by decide)]
              refine aw_if_neN (tgt := 156) dX8_swaps_146 (by decide) (by omega) (fun _ => ?_) (fun q => absurd q (by omega))
              refine aw_iload_n dX8_swaps_156 rfl rfl ?_
              refine aw_iconst (v := nI 1) dX8_swaps_157 (by decide) ?_
              refine aw_icmp_neN (tgt := 168) dX8_swaps_158 (by decide) (by omega) (by omega) (fun _ => ?_) (fun q => absurd q (by omega))
              refine aw_aload_n dX8_swaps_168 rfl rfl ?_
              refine aw_getI dX8_swaps_169 fX8_179 (by first | assumption | rfl) (by rfl) ?_
              rw [hms.2.2]
              refine aw_iret dX8_swaps_172 rfl (by first | rfl | exact (pk_charN (by omega)).1 | decide) ?_
              exact QM.fg hr hg
          | succ u ih =>
            intro c hh hc hms hg
            have r2 := hr.fg hg
            have e67 : hh 67 0 = xn X := r2.1.1
            have hdb := dbB c
            refine aw_iload dX8_swaps_85 rfl ?_
            refine aw_sipush (v := nI 4096) dX8_swaps_87 (by decide) ?_
            refine aw_icmp_geN (tgt := 145) dX8_swaps_90 (by decide) (by omega) (by omega) (fun q => absurd q (by omega)) (fun _ => ?_)
            refine aw_iload dX8_swaps_93 rfl ?_
            refine aw_bipush (v := nI 64) dX8_swaps_95 (by decide) ?_
            refine aw_idivN dX8_swaps_97 (by omega) (by omega) (by omega) ?_
            refine aw_aload_n dX8_swaps_98 rfl rfl ?_
            refine aw_getI dX8_swaps_99 fX8_73 (by first | assumption | rfl) (by rfl) ?_
            rw [e67]
            refine aw_callSF dX8_swaps_102 kX8_186 (m_isPair (by omega) (by omega)) rfl rfl rfl (Nat.le_of_ble_eq_true rfl) (Nat.le_of_ble_eq_true rfl) ?_
            dsimp only [Option.toList, List.cons_append, List.nil_append, Nat.reduceAdd]
            by_cases q1 : isP (xn X) (c / 64)
            · rw [if_pos q1]
              refine aw_if_eqN (tgt := 139) dX8_swaps_105 (by decide) (by omega) (fun q => absurd q (by omega)) (fun _ => ?_)
              refine aw_iload dX8_swaps_108 rfl ?_
              refine aw_bipush (v := nI 64) dX8_swaps_110 (by decide) ?_
              refine aw_iremN dX8_swaps_112 (by omega) (by omega) (by omega) ?_
              refine aw_aload_n dX8_swaps_113 rfl rfl ?_
              refine aw_getI dX8_swaps_114 fX8_73 (by first | assumption | rfl) (by rfl) ?_
              rw [e67]
              refine aw_callSF dX8_swaps_117 kX8_186 (m_isPair (by omega) (by omega)) rfl rfl rfl (Nat.le_of_ble_eq_true rfl) (Nat.le_of_ble_eq_true rfl) ?_
              dsimp only [Option.toList, List.cons_append, List.nil_append, Nat.reduceAdd]
              by_cases q2 : isP (xn X) (c % 64)
              · rw [if_pos q2]
                refine aw_if_eqN (tgt := 139) dX8_swaps_120 (by decide) (by omega) (fun q => absurd q (by omega)) (fun _ => ?_)
                refine aw_aload_n dX8_swaps_123 rfl rfl ?_
                refine aw_iload_n dX8_swaps_124 rfl rfl ?_
                refine aw_iload_n dX8_swaps_125 rfl rfl ?_
                refine aw_iload dX8_swaps_126 rfl ?_
                refine aw_bipush (v := nI 64) dX8_swaps_128 (by decide) ?_
                refine aw_idivN dX8_swaps_130 (by omega) (by omega) (by omega) ?_
                refine aw_iload dX8_swaps_131 rfl ?_
                refine aw_bipush (v := nI 64) dX8_swaps_133 (by decide) ?_
                refine aw_iremN dX8_swaps_135 (by omega) (by omega) (by omega) ?_
                refine aw_callV dX8_swaps_136 kX8_182 (m_tries r2 hv hin hm2 (Or.inr ⟨by omega, q1⟩) (Or.inr ⟨by omega, q2⟩) hms (Or.inl hdb)) (by first | assumption | rfl) rfl rfl rfl (Nat.le_of_ble_eq_true rfl) (Nat.le_of_ble_eq_true rfl) ?_
                rintro _ h3 ⟨rfl, ms3, g3⟩
                dsimp only [Option.toList, List.cons_append, List.nil_append, Nat.reduceAdd]
                refine aw_iincN (v := 1) dX8_swaps_139 rfl rfl ?_
                dsimp only [List.set]
                refine aw_goto (tgt := 85) dX8_swaps_142 (by decide) ?_
                have e : dbA (xn X) V f (c + 1) = bU (dbA (xn X) V f c) (V (ap (ap f (c / 64)) (c % 64))) (c / 64) (c % 64) := by rw [dbA, if_pos ⟨q1, q2⟩]
                rw [if_neg (by omega), apO_p (by omega), apO_p (by omega), ← hV, ← hf0, ← e] at ms3
                exact ih (c + 1) h3 (by omega) ms3 (hg.trans g3)
              · rw [if_neg q2]
                have e : dbA (xn X) V f (c + 1) = dbA (xn X) V f c := by rw [dbA, if_neg (fun z => q2 z.2)]
                refine aw_if_eqN (tgt := 139) dX8_swaps_120 (by decide) (by omega) (fun _ => ?_) (fun q => absurd q (by omega))
                refine aw_iincN (v := 1) dX8_swaps_139 rfl rfl ?_
                dsimp only [List.set]
                refine aw_goto (tgt := 85) dX8_swaps_142 (by decide) ?_
                exact ih (c + 1) hh (by omega) (by rw [e]; exact hms) hg
            · rw [if_neg q1]
              have e : dbA (xn X) V f (c + 1) = dbA (xn X) V f c := by rw [dbA, if_neg (fun z => q1 z.1)]
              refine aw_if_eqN (tgt := 139) dX8_swaps_105 (by decide) (by omega) (fun _ => ?_) (fun q => absurd q (by omega))
              refine aw_iincN (v := 1) dX8_swaps_139 rfl rfl ?_
              dsimp only [List.set]
              refine aw_goto (tgt := 85) dX8_swaps_142 (by decide) ?_
              exact ih (c + 1) hh (by omega) (by rw [e]; exact hms) hg
        have loop1 : ∀ u c hh, c + u = 64 → MS hh (sgS (xn X) V f c) → FG h hh → AW mX8_swaps (d + 6) 47 [some (.ref 67), some (.int (nI i)), some (.int (nI m)), some (.int (nI k)), some (.int (nI c))] [] hh (QM h X (nI (if k = 0 then (dbA (xn X) V f 4096).1 else if k = 1 then (dbA (xn X) V f 4096).2.1 else (dbA (xn X) V f 4096).2.2))) := by
          intro u
          induction u with
          | zero =>
            intro c hh hc hms hg
            have ec : c = 64 := by omega
            subst ec
            refine aw_iload dX8_swaps_47 rfl ?_
            refine aw_bipush (v := nI 64) dX8_swaps_49 (by decide) ?_
            refine aw_icmp_geN (tgt := 82) dX8_swaps_51 (by decide) (by omega) (by omega) (fun _ => ?_) (fun q => absurd q (by omega))
            refine aw_iconst (v := nI 0) dX8_swaps_82 (by decide) ?_
            refine aw_istore dX8_swaps_83 (Nat.le_of_ble_eq_true rfl) rfl ?_
            dsimp only [List.set]
            exact loop2 4096 0 hh (by omega) hms hg
          | succ u ih =>
            intro c hh hc hms hg
            have r2 := hr.fg hg
            have e67 : hh 67 0 = xn X := r2.1.1
            have hdb := sgB c
            refine aw_iload dX8_swaps_47 rfl ?_
            refine aw_bipush (v := nI 64) dX8_swaps_49 (by decide) ?_
            refine aw_icmp_geN (tgt := 82) dX8_swaps_51 (by decide) (by omega) (by omega) (fun q => absurd q (by omega)) (fun _ => ?_)
            refine aw_iload dX8_swaps_54 rfl ?_
            refine aw_aload_n dX8_swaps_56 rfl rfl ?_
            refine aw_getI dX8_swaps_57 fX8_73 (by first | assumption | rfl) (by rfl) ?_
            rw [e67]
            refine aw_callSF dX8_swaps_60 kX8_186 (m_isPair (by omega) (by omega)) rfl rfl rfl (Nat.le_of_ble_eq_true rfl) (Nat.le_of_ble_eq_true rfl) ?_
            dsimp only [Option.toList, List.cons_append, List.nil_append, Nat.reduceAdd]
            by_cases q1 : isP (xn X) c
            · rw [if_pos q1]
              refine aw_if_eqN (tgt := 76) dX8_swaps_63 (by decide) (by omega) (fun q => absurd q (by omega)) (fun _ => ?_)
              refine aw_aload_n dX8_swaps_66 rfl rfl ?_
              refine aw_iload_n dX8_swaps_67 rfl rfl ?_
              refine aw_iload_n dX8_swaps_68 rfl rfl ?_
              refine aw_iload dX8_swaps_69 rfl ?_
              refine aw_bipush (v := nI 4294967292) dX8_swaps_71 (by decide) ?_
              refine aw_callV dX8_swaps_73 kX8_182 (m_tries r2 hv hin hm2 (Or.inr ⟨by omega, q1⟩) (Or.inl rfl) hms (Or.inl hdb)) (by first | assumption | rfl) rfl rfl rfl (Nat.le_of_ble_eq_true rfl) (Nat.le_of_ble_eq_true rfl) ?_
              rintro _ h3 ⟨rfl, ms3, g3⟩
              dsimp only [Option.toList, List.cons_append, List.nil_append, Nat.reduceAdd]
              refine aw_iincN (v := 1) dX8_swaps_76 rfl rfl ?_
              dsimp only [List.set]
              refine aw_goto (tgt := 47) dX8_swaps_79 (by decide) ?_
              have e : sgS (xn X) V f (c + 1) = bU (sgS (xn X) V f c) (V (ap f c)) c 4294967292 := by rw [sgS, if_pos q1]
              rw [if_neg (by omega), apO_n, apO_p (by omega), ← hV, ← hf0, ← e] at ms3
              exact ih (c + 1) h3 (by omega) ms3 (hg.trans g3)
            · rw [if_neg q1]
              have e : sgS (xn X) V f (c + 1) = sgS (xn X) V f c := by rw [sgS, if_neg q1]
              refine aw_if_eqN (tgt := 76) dX8_swaps_63 (by decide) (by omega) (fun _ => ?_) (fun q => absurd q (by omega))
              refine aw_iincN (v := 1) dX8_swaps_76 rfl rfl ?_
              dsimp only [List.set]
              refine aw_goto (tgt := 47) dX8_swaps_79 (by decide) ?_
              exact ih (c + 1) hh (by omega) (by rw [e]; exact hms) hg
        refine aw_aload_n dX8_swaps_0 rfl rfl ?_
        refine aw_iload_n dX8_swaps_1 rfl rfl ?_
        refine aw_callVF dX8_swaps_2 kX8_151 (m_oneS hr hv ei) (by first | assumption | rfl) rfl rfl rfl (Nat.le_of_ble_eq_true rfl) (Nat.le_of_ble_eq_true rfl) ?_
        dsimp only [Option.toList, List.cons_append, List.nil_append, Nat.reduceAdd]
        refine aw_if_eqN (tgt := 27) dX8_swaps_5 (by decide) (by omega) (fun q => absurd q (by omega)) (fun _ => ?_)
        refine aw_iload_n dX8_swaps_8 rfl rfl ?_
        refine aw_iconst (v := nI 1) dX8_swaps_9 (by decide) ?_
        refine aw_bipush (v := nI 60) dX8_swaps_10 (by decide) ?_
        refine aw_callSF dX8_swaps_12 kX8_76 (m_iS em) rfl rfl rfl (Nat.le_of_ble_eq_true rfl) (Nat.le_of_ble_eq_true rfl) ?_
        dsimp only [Option.toList, List.cons_append, List.nil_append, Nat.reduceAdd]
        refine aw_if_eqN (tgt := 27) dX8_swaps_15 (by decide) (by omega) (fun q => absurd q (by omega)) (fun _ => ?_)
        refine aw_iload_n dX8_swaps_18 rfl rfl ?_
        refine aw_iconst (v := nI 0) dX8_swaps_19 (by decide) ?_
        refine aw_iconst (v := nI 2) dX8_swaps_20 (by decide) ?_
        refine aw_callSF dX8_swaps_21 kX8_76 (m_iS ek) rfl rfl rfl (Nat.le_of_ble_eq_true rfl) (Nat.le_of_ble_eq_true rfl) ?_
        dsimp only [Option.toList, List.cons_append, List.nil_append, Nat.reduceAdd]
        refine aw_if_neN (tgt := 29) dX8_swaps_24 (by decide) (by omega) (fun _ => ?_) (fun q => absurd q (by omega))
        refine aw_aload_n dX8_swaps_29 rfl rfl ?_
        refine aw_iconst (v := nI 4294967295) dX8_swaps_30 (by decide) ?_
        refine aw_putfield dX8_swaps_31 gX8_173 (by first | assumption | rfl) (by rfl) ?_
        have g1 : FG h (hw h 67 24 4294967295) := ⟨fun o p _ _ => hw_ne p, fun k hk => by rw [hw_at, if_neg (by omega)]⟩
        have ms1 : MS (hw h 67 24 4294967295) (4294967295, hw h 67 24 4294967295 67 22, hw h 67 24 4294967295 67 23) := ⟨by rw [hw_at, if_pos rfl], rfl, rfl⟩
        refine aw_aload_n dX8_swaps_34 rfl rfl ?_
        refine aw_iload_n dX8_swaps_35 rfl rfl ?_
        refine aw_iload_n dX8_swaps_36 rfl rfl ?_
        refine aw_bipush (v := nI 4294967292) dX8_swaps_37 (by decide) ?_
        refine aw_bipush (v := nI 4294967292) dX8_swaps_39 (by decide) ?_
        refine aw_callV dX8_swaps_41 kX8_182 (m_tries (hr.fg g1) hv hin hm2 (Or.inl rfl) (Or.inl rfl) ms1 (Or.inr rfl)) (by first | assumption | rfl) rfl rfl rfl (Nat.le_of_ble_eq_true rfl) (Nat.le_of_ble_eq_true rfl) ?_
        rintro _ h3 ⟨rfl, ms3, g3⟩
        dsimp only [Option.toList, List.cons_append, List.nil_append, Nat.reduceAdd]
        refine aw_iconst (v := nI 0) dX8_swaps_44 (by decide) ?_
        refine aw_istore dX8_swaps_45 (Nat.le_of_ble_eq_true rfl) rfl ?_
        dsimp only [List.set]
        rw [if_pos rfl, apO_n, apO_n, ← hV, ← hf0] at ms3
        exact loop1 64 0 h3 (by omega) ms3 (g1.trans g3)
theorem y_warm {d : Nat} {h : Hp} {X : XS} {m w : Int32} (hr : RM h X) (hv : VX X) : RT mX8_warm (d + 6) [.ref 67, .int m, .int w] h (QM h X (a_warm X m w)) := by
  have hn := hv.n
  have hS := hv.1
  have hok := cL_ok hv.1 hv.2.1
  have hc1 := hv.2.1.1
  unfold a_warm
  change AW mX8_warm _ 0 [some (.ref 67), some (.int m), some (.int w), none, none, none, none] [] h _
  cases em : ix m 1 60 with
  | none =>
    refine aw_iload_n dX8_warm_0 rfl rfl ?_
    refine aw_iconst (v := nI 1) dX8_warm_1 (by decide) ?_
    refine aw_bipush (v := nI 60) dX8_warm_2 (by decide) ?_
    refine aw_callSF dX8_warm_4 kX8_76 (m_iN em) rfl rfl rfl (Nat.le_of_ble_eq_true rfl) (Nat.le_of_ble_eq_true rfl) ?_
    dsimp only [Option.toList, List.cons_append, List.nil_append, Nat.reduceAdd]
    refine aw_if_eqN (tgt := 19) dX8_warm_7 (by decide) (by omega) (fun _ => ?_) (fun q => absurd q (by omega))
    refine aw_iconst (v := nI 4294967295) dX8_warm_19 (by decide) ?_
    refine aw_iret dX8_warm_20 rfl (by first | rfl | exact (pk_charN (by omega)).1 | decide) ?_
    exact QM.same hr
  | some m =>
    obtain ⟨rfl, hm1, hm2⟩ := ix_s (by omega) (by omega) em
    dsimp only
    cases ek : ix w 0 1 with
    | none =>
      refine aw_iload_n dX8_warm_0 rfl rfl ?_
      refine aw_iconst (v := nI 1) dX8_warm_1 (by decide) ?_
      refine aw_bipush (v := nI 60) dX8_warm_2 (by decide) ?_
      refine aw_callSF dX8_warm_4 kX8_76 (m_iS em) rfl rfl rfl (Nat.le_of_ble_eq_true rfl) (Nat.le_of_ble_eq_true rfl) ?_
      dsimp only [Option.toList, List.cons_append, List.nil_append, Nat.reduceAdd]
      refine aw_if_eqN (tgt := 19) dX8_warm_7 (by decide) (by omega) (fun q => absurd q (by omega)) (fun _ => ?_)
      refine aw_iload_n dX8_warm_10 rfl rfl ?_
      refine aw_iconst (v := nI 0) dX8_warm_11 (by decide) ?_
      refine aw_iconst (v := nI 1) dX8_warm_12 (by decide) ?_
      refine aw_callSF dX8_warm_13 kX8_76 (m_iN ek) rfl rfl rfl (Nat.le_of_ble_eq_true rfl) (Nat.le_of_ble_eq_true rfl) ?_
      dsimp only [Option.toList, List.cons_append, List.nil_append, Nat.reduceAdd]
      refine aw_if_neN (tgt := 21) dX8_warm_16 (by decide) (by omega) (fun q => absurd q (by omega)) (fun _ => ?_)
      refine aw_iconst (v := nI 4294967295) dX8_warm_19 (by decide) ?_
      refine aw_iret dX8_warm_20 rfl (by first | rfl | exact (pk_charN (by omega)).1 | decide) ?_
      exact QM.same hr
    | some k =>
      obtain ⟨rfl, hk1, hk2⟩ := ix_s (by omega) (by omega) ek
      dsimp only
      obtain ⟨V, hV⟩ : ∃ V, V = vCold (xS X) (xC X) m := ⟨_, rfl⟩
      rw [← hV]
      have vlt : ∀ g, V g ≤ 480 := fun g => by
        have := coldF_lt (b := (xC X).2.1) (L := cL (xn X) (xC X)) (dd := (xC X).1) (f := g) hS m
        rw [hV]
        unfold vCold
        have e : cL (sn (xS X)) (xC X) = cL (xn X) (xC X) := rfl
        rw [e]
        omega
      have wlt : ∀ k, (wrS (xn X) V (xC X).2.2 k).1 ≤ 480 := by
        intro k
        induction k with
        | zero => exact vlt _
        | succ k ih =>
          unfold wrS
          split
          · split
            · exact vlt _
            · exact ih
          · exact ih
      have loop : ∀ u c hh, c + u = 64 → F81 h hh → AW mX8_warm (d + 6) 42 [some (.ref 67), some (.int (nI m)), some (.int (nI k)), some (.int (nI (wrS (xn X) V (xC X).2.2 c).1)), some (.int (nI (wrS (xn X) V (xC X).2.2 c).2)), some (.int (nI c)), none] [] hh (QM h X (nI (if k = 0 then (wrS (xn X) V (xC X).2.2 64).1 else (wrS (xn X) V (xC X).2.2 64).2))) := by
        intro u
        induction u with
        | zero =>
          intro c hh hc hg
          have ec : c = 64 := by omega
          subst ec
          refine aw_iload dX8_warm_42 rfl ?_
          refine aw_bipush (v := nI 64) dX8_warm_44 (by decide) ?_
          refine aw_icmp_geN (tgt := 127) dX8_warm_46 (by decide) (by omega) (by omega) (fun _ => ?_) (fun q => absurd q (by omega))
          refine aw_iload_n dX8_warm_127 rfl rfl ?_
          rcases (show k = 0 ∨ k = 1 by omega) with rfl | rfl
          · refine aw_if_neN (tgt := 135) dX8_warm_128 (by decide) (by omega) (fun q => absurd q (by omega)) (fun _ => ?_)
            refine aw_iload_n dX8_warm_131 rfl rfl ?_
            refine aw_goto (tgt := 137) dX8_warm_132 (by decide) ?_
            refine aw_iret dX8_warm_137 rfl (by first | rfl | exact (pk_charN (by omega)).1 | decide) ?_
            exact QM.fr hr hg
          · refine aw_if_neN (tgt := 135) dX8_warm_128 (by decide) (by omega) (fun _ => ?_) (fun q => absurd q (by omega))
            refine aw_iload dX8_warm_135 rfl ?_
            refine aw_iret dX8_warm_137 rfl (by first | rfl | exact (pk_charN (by omega)).1 | decide) ?_
            exact QM.fr hr hg
        | succ u ih =>
          intro c hh hc hg
          have r2 := hr.fr hg
          have e67 : hh 67 0 = xn X := r2.1.1
          have hwl := wlt c
          refine aw_iload dX8_warm_42 rfl ?_
          refine aw_bipush (v := nI 64) dX8_warm_44 (by decide) ?_
          refine aw_icmp_geN (tgt := 127) dX8_warm_46 (by decide) (by omega) (by omega) (fun q => absurd q (by omega)) (fun _ => ?_)
          refine aw_iload dX8_warm_49 rfl ?_
          refine aw_aload_n dX8_warm_51 rfl rfl ?_
          refine aw_getI dX8_warm_52 fX8_73 (by first | assumption | rfl) (by rfl) ?_
          rw [e67]
          refine aw_callSF dX8_warm_55 kX8_186 (m_isPair (by omega) (by omega)) rfl rfl rfl (Nat.le_of_ble_eq_true rfl) (Nat.le_of_ble_eq_true rfl) ?_
          dsimp only [Option.toList, List.cons_append, List.nil_append, Nat.reduceAdd]
          by_cases q1 : isP (xn X) c
          · rw [if_pos q1]
            have hvl := vlt (ap (xC X).2.2 c)
            refine aw_if_eqN (tgt := 121) dX8_warm_58 (by decide) (by omega) (fun q => absurd q (by omega)) (fun _ => ?_)
            refine aw_aload_n dX8_warm_61 rfl rfl ?_
            refine aw_aload_n dX8_warm_62 rfl rfl ?_
            refine aw_getR dX8_warm_63 fX8_16 (by first | assumption | rfl) (by rfl) ?_
            refine aw_callV dX8_warm_66 kX8_154 (m_fromX r2 hv) (by first | assumption | rfl) rfl rfl rfl (Nat.le_of_ble_eq_true rfl) (Nat.le_of_ble_eq_true rfl) ?_
            rintro _ h3 ⟨rfl, w3, f3⟩
            dsimp only [Option.toList, List.cons_append, List.nil_append, Nat.reduceAdd]
            refine aw_aload_n dX8_warm_69 rfl rfl ?_
            refine aw_getR dX8_warm_70 fX8_46 (by first | assumption | rfl) (by rfl) ?_
            refine aw_iload dX8_warm_73 rfl ?_
            refine aw_bipush (v := nI 8) dX8_warm_75 (by decide) ?_
            refine aw_idivN dX8_warm_77 (by omega) (by omega) (by omega) ?_
            refine aw_iload dX8_warm_78 rfl ?_
            refine aw_bipush (v := nI 8) dX8_warm_80 (by decide) ?_
            refine aw_iremN dX8_warm_82 (by omega) (by omega) (by omega) ?_
            refine aw_callSF dX8_warm_83 kX8_133 (m_swapped (by first | assumption | rfl) (by omega) (by omega) (by decide)) rfl rfl rfl (Nat.le_of_ble_eq_true rfl) (Nat.le_of_ble_eq_true rfl) ?_
            dsimp only [Option.toList, List.cons_append, List.nil_append, Nat.reduceAdd]
            obtain ⟨w4, f4⟩ := w3.swap hS (i := c / 8) (j := c % 8) (show c / 8 < xn X by omega) (show c % 8 < xn X by omega)
            refine aw_aload_n dX8_warm_86 rfl rfl ?_
            refine aw_iload_n dX8_warm_87 rfl rfl ?_
            refine aw_callV dX8_warm_88 kX8_170 (m_wantOn w4 hok (PM_ap hv.2.1.2.1 (show c / 8 < xn X ∧ c % 8 < xn X by omega)) (by omega)) (by first | assumption | rfl) rfl rfl rfl (Nat.le_of_ble_eq_true rfl) (Nat.le_of_ble_eq_true rfl) ?_
            rintro _ h5 ⟨rfl, w5, f5⟩
            dsimp only [Option.toList, List.cons_append, List.nil_append, Nat.reduceAdd]
            have g5 := ((hg.trans f3).trans f4).trans f5
            rw [show coldF (xS X) (xC X).2.1 (cL (xn X) (xC X)) (xC X).1 (swp (xC X).2.2 (c / 8) (c % 8)) m = V (ap (xC X).2.2 c) by rw [hV]; rfl]
            refine aw_istore dX8_warm_91 (Nat.le_of_ble_eq_true rfl) rfl ?_
            dsimp only [List.set]
            refine aw_iload dX8_warm_93 rfl ?_
            refine aw_iload_n dX8_warm_95 rfl rfl ?_
            refine aw_icmp_geN (tgt := 104) dX8_warm_96 (by decide) (by omega) (by omega) (fun c96 => ?_) (fun c96 => ?_)
            · have e : wrS (xn X) V (xC X).2.2 (c + 1) = wrS (xn X) V (xC X).2.2 c := by rw [wrS, if_pos q1, if_neg (by omega)]
              refine aw_iload dX8_warm_104 rfl ?_
              refine aw_istore dX8_warm_106 (Nat.le_of_ble_eq_true rfl) rfl ?_
              dsimp only [List.set]
              refine aw_iload dX8_warm_108 rfl ?_
              refine aw_iload_n dX8_warm_110 rfl rfl ?_
              refine aw_icmp_geN (tgt := 119) dX8_warm_111 (by decide) (by omega) (by omega) (fun _ => ?_) (fun q => absurd q (by omega))
              refine aw_iload_n dX8_warm_119 rfl rfl ?_
              refine aw_istore_n dX8_warm_120 rfl (Nat.le_of_ble_eq_true rfl) rfl ?_
              dsimp only [List.set]
              refine aw_iincN (v := 1) dX8_warm_121 rfl rfl ?_
              dsimp only [List.set]
              refine aw_goto (tgt := 42) dX8_warm_124 (by decide) ?_
              refine aw_forget 6 ?_
              dsimp only [List.set]
              rw [← e]
              exact ih (c + 1) h5 (by omega) g5
            · have e : wrS (xn X) V (xC X).2.2 (c + 1) = (V (ap (xC X).2.2 c), c) := by rw [wrS, if_pos q1, if_pos (by omega)]
              refine aw_iload dX8_warm_99 rfl ?_
              refine aw_goto (tgt := 106) dX8_warm_101 (by decide) ?_
              refine aw_istore dX8_warm_106 (Nat.le_of_ble_eq_true rfl) rfl ?_
              dsimp only [List.set]
              refine aw_iload dX8_warm_108 rfl ?_
              refine aw_iload_n dX8_warm_110 rfl rfl ?_
              refine aw_icmp_geN (tgt := 119) dX8_warm_111 (by decide) (by omega) (by omega) (fun q => absurd q (by omega)) (fun _ => ?_)
              refine aw_iload dX8_warm_114 rfl ?_
              refine aw_goto (tgt := 120) dX8_warm_116 (by decide) ?_
              refine aw_istore_n dX8_warm_120 rfl (Nat.le_of_ble_eq_true rfl) rfl ?_
              dsimp only [List.set]
              refine aw_iincN (v := 1) dX8_warm_121 rfl rfl ?_
              dsimp only [List.set]
              refine aw_goto (tgt := 42) dX8_warm_124 (by decide) ?_
              refine aw_forget 6 ?_
              dsimp only [List.set]
              have r := ih (c + 1) h5 (by omega) g5
              rw [e] at r
              exact r
          · rw [if_neg q1]
            have e : wrS (xn X) V (xC X).2.2 (c + 1) = wrS (xn X) V (xC X).2.2 c := by rw [wrS, if_neg q1]
            refine aw_if_eqN (tgt := 121) dX8_warm_58 (by decide) (by omega) (fun _ => ?_) (fun q => absurd q (by omega))
            refine aw_iincN (v := 1) dX8_warm_121 rfl rfl ?_
            dsimp only [List.set]
            refine aw_goto (tgt := 42) dX8_warm_124 (by decide) ?_
            rw [← e]
            exact ih (c + 1) hh (by omega) hg
      refine aw_iload_n dX8_warm_0 rfl rfl ?_
      refine aw_iconst (v := nI 1) dX8_warm_1 (by decide) ?_
      refine aw_bipush (v := nI 60) dX8_warm_2 (by decide) ?_
      refine aw_callSF dX8_warm_4 kX8_76 (m_iS em) rfl rfl rfl (Nat.le_of_ble_eq_true rfl) (Nat.le_of_ble_eq_true rfl) ?_
      dsimp only [Option.toList, List.cons_append, List.nil_append, Nat.reduceAdd]
      refine aw_if_eqN (tgt := 19) dX8_warm_7 (by decide) (by omega) (fun q => absurd q (by omega)) (fun _ => ?_)
      refine aw_iload_n dX8_warm_10 rfl rfl ?_
      refine aw_iconst (v := nI 0) dX8_warm_11 (by decide) ?_
      refine aw_iconst (v := nI 1) dX8_warm_12 (by decide) ?_
      refine aw_callSF dX8_warm_13 kX8_76 (m_iS ek) rfl rfl rfl (Nat.le_of_ble_eq_true rfl) (Nat.le_of_ble_eq_true rfl) ?_
      dsimp only [Option.toList, List.cons_append, List.nil_append, Nat.reduceAdd]
      refine aw_if_neN (tgt := 21) dX8_warm_16 (by decide) (by omega) (fun _ => ?_) (fun q => absurd q (by omega))
      refine aw_aload_n dX8_warm_21 rfl rfl ?_
      refine aw_aload_n dX8_warm_22 rfl rfl ?_
      refine aw_getR dX8_warm_23 fX8_16 (by first | assumption | rfl) (by rfl) ?_
      refine aw_callV dX8_warm_26 kX8_154 (m_fromX hr hv) (by first | assumption | rfl) rfl rfl rfl (Nat.le_of_ble_eq_true rfl) (Nat.le_of_ble_eq_true rfl) ?_
      rintro _ h2 ⟨rfl, w2, f2⟩
      dsimp only [Option.toList, List.cons_append, List.nil_append, Nat.reduceAdd]
      refine aw_aload_n dX8_warm_29 rfl rfl ?_
      refine aw_iload_n dX8_warm_30 rfl rfl ?_
      refine aw_callV dX8_warm_31 kX8_170 (m_wantOn w2 hok hv.2.1.2.1 (by omega)) (by first | assumption | rfl) rfl rfl rfl (Nat.le_of_ble_eq_true rfl) (Nat.le_of_ble_eq_true rfl) ?_
      rintro _ h3 ⟨rfl, w3, f3⟩
      dsimp only [Option.toList, List.cons_append, List.nil_append, Nat.reduceAdd]
      refine aw_istore_n dX8_warm_34 rfl (Nat.le_of_ble_eq_true rfl) rfl ?_
      dsimp only [List.set]
      refine aw_bipush (v := nI 4294967292) dX8_warm_35 (by decide) ?_
      refine aw_istore dX8_warm_37 (Nat.le_of_ble_eq_true rfl) rfl ?_
      dsimp only [List.set]
      refine aw_iconst (v := nI 0) dX8_warm_39 (by decide) ?_
      refine aw_istore dX8_warm_40 (Nat.le_of_ble_eq_true rfl) rfl ?_
      dsimp only [List.set]
      rw [show coldF (xS X) (xC X).2.1 (cL (xn X) (xC X)) (xC X).1 (xC X).2.2 m = V (xC X).2.2 by rw [hV]; rfl]
      exact loop 64 0 h3 (by omega) (f2.trans f3)
