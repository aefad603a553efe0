/-! Walk: begin, beginWith, readings -/
theorem hcp_ne {h : Hp} {a b n o : Nat} (hne : o ≠ b) : hcp h a b n o = h o := by
  funext j
  simp [hcp, hne]
theorem hcp_at {h : Hp} {a b n j : Nat} (hj : j < n) : hcp h a b n b j = h a j := by
  simp [hcp, hj]
theorem hcs_0 {h : Hp} {p o : Nat} : hcs h p o o 2 = h p 2 := by
  unfold hcs
  rw [hcp_ne (by omega), hcp_ne (by omega), hw_at, if_pos rfl]
theorem hcs_1 {h : Hp} {p o j : Nat} (hne : p + 2 < o ∨ o + 2 < p) (hj : j < 8) : hcs h p o (o + 1) j = h (p + 1) j := by
  unfold hcs
  rw [hcp_ne (by omega), hcp_at hj, hw_ne (by omega)]
theorem hcs_2 {h : Hp} {p o j : Nat} (hne : p + 2 < o ∨ o + 2 < p) (hj : j < 8) : hcs h p o (o + 2) j = h (p + 2) j := by
  unfold hcs
  rw [hcp_at hj, hcp_ne (by omega), hw_ne (by omega)]
theorem hcs_ne {h : Hp} {p o a : Nat} (h0 : a ≠ o) (h1 : a ≠ o + 1) (h2 : a ≠ o + 2) : hcs h p o a = h a := by
  unfold hcs
  rw [hcp_ne h2, hcp_ne h1, hw_ne h0]
/-- standing o holds day dd, birthdays b, rooms f -/
def SV (h : Hp) (n o dd : Nat) (b f : Nat → Nat) : Prop := h o 2 = dd ∧ ∀ i, i < n → h (o + 1) i = f i ∧ h (o + 2) i = b i
theorem c_W_begin {d o dd : Nat} {h : Hp} {S : Hs} {b f : Nat → Nat} (hx : HX h S) (hS : HsOk S) (hv : SV h (sn S) o dd b f) (hb : ∀ i, i < sn S → b i < 60) (ho : SD o) (ho2 : o + 2 < 60) :
    RT mX6_begin (d + 3) [.ref 60, .ref o] h (fun v h' => v = none ∧ WS h' S b (lsB (sn S) b) dd f (fun _ => 0) 0 ∧ FW6 h h') := by
  have h38 := hS.2.1
  change AW mX6_begin _ 0 [some (.ref 60), some (.ref o)] [] h _
  refine aw_aload_n dX6_begin_0 rfl rfl ?_
  refine aw_getR dX6_begin_1 fX6_12 (by first | assumption | rfl) (by rfl) ?_
  refine aw_aload_n dX6_begin_4 rfl rfl ?_
  refine aw_callVF dX6_begin_5 kX6_29 (c_S_copyFrom (by first | assumption | exact ⟨rfl, rfl, rfl⟩) (by first | assumption | exact ⟨rfl, rfl, rfl⟩) (by omega)) (by first | assumption | rfl) rfl rfl rfl (Nat.le_of_ble_eq_true rfl) (Nat.le_of_ble_eq_true rfl) ?_
  dsimp only [Option.toList, List.cons_append, List.nil_append, Nat.reduceAdd]
  refine aw_aload_n dX6_begin_8 rfl rfl ?_
  have f1 : FW6 h (hcs h o 61) := fun q hq => hcs_ne (by omega) (by omega) (by omega)
  have hx1 : HX (hcs h o 61) S := hx.fr f1
  have hb1 : ∀ i, i < sn S → hcs h o 61 63 i = b i ∧ b i < 60 := fun i hi => ⟨by rw [hcs_2 (by omega) (by omega)]; exact (hv.2 i hi).2, hb i hi⟩
  refine aw_callV dX6_begin_9 kX6_33 (c_W_makeList (dd := dd) hx1 hS hb1) (by first | assumption | rfl) rfl rfl rfl (Nat.le_of_ble_eq_true rfl) (Nat.le_of_ble_eq_true rfl) ?_
  rintro _ h2 ⟨rfl, hl2, hf2⟩
  dsimp only [Option.toList, List.cons_append, List.nil_append, Nat.reduceAdd]
  refine aw_aload_n dX6_begin_12 rfl rfl ?_
  refine aw_callV dX6_begin_13 kX6_36 (c_W_clearCounts) (by first | assumption | rfl) rfl rfl rfl (Nat.le_of_ble_eq_true rfl) (Nat.le_of_ble_eq_true rfl) ?_
  rintro _ h3 ⟨rfl, hc3, hs3, hf3⟩
  dsimp only [Option.toList, List.cons_append, List.nil_append, Nat.reduceAdd]
  refine aw_vret dX6_begin_16 rfl ?_
  have f3 : FW6 (hcs h o 61) h3 := fun q hq => by rw [hf3 q (by omega) (by omega), hf2 q (by omega)]
  refine ⟨rfl, ⟨hx1.fr f3, ?_, hc3, fun i hi => ⟨?_, ?_, ?_, hs3 i (by omega)⟩⟩, f1.trans f3⟩
  · rw [hf3 61 (by decide) (by decide), hf2 61 (by decide), hcs_0]; exact hv.1
  · rw [hf3 62 (by decide) (by decide), hf2 62 (by decide), hcs_1 (by omega) (by omega)]; exact (hv.2 i hi).1
  · rw [hf3 63 (by decide) (by decide), hf2 63 (by decide)]; exact (hb1 i hi).1
  · rw [hf3 64 (by decide) (by decide)]; exact hl2 i hi
theorem c_W_beginWith {d o dd i0 x : Nat} {h : Hp} {S : Hs} {b f : Nat → Nat} (hx : HX h S) (hS : HsOk S) (hv : SV h (sn S) o dd b f) (hb : ∀ i, i < sn S → b i < 60) (hi0 : i0 < sn S) (hx0 : x < 60) (ho : SD o) (ho2 : o + 2 < 60) :
    RT mX6_beginWith (d + 3) [.ref 60, .ref o, .int (nI i0), .int (nI x)] h (fun v h' => v = none ∧ WS h' S (fun i => if i = i0 then x else b i) (lsB (sn S) (fun i => if i = i0 then x else b i)) dd f (fun _ => 0) 0 ∧ FW6 h h') := by
  have h38 := hS.2.1
  change AW mX6_beginWith _ 0 [some (.ref 60), some (.ref o), some (.int (nI i0)), some (.int (nI x))] [] h _
  refine aw_aload_n dX6_beginWith_0 rfl rfl ?_
  refine aw_getR dX6_beginWith_1 fX6_12 (by first | assumption | rfl) (by rfl) ?_
  refine aw_aload_n dX6_beginWith_4 rfl rfl ?_
  refine aw_callVF dX6_beginWith_5 kX6_29 (c_S_copyFrom (by first | assumption | exact ⟨rfl, rfl, rfl⟩) (by first | assumption | exact ⟨rfl, rfl, rfl⟩) (by omega)) (by first | assumption | rfl) rfl rfl rfl (Nat.le_of_ble_eq_true rfl) (Nat.le_of_ble_eq_true rfl) ?_
  dsimp only [Option.toList, List.cons_append, List.nil_append, Nat.reduceAdd]
  refine aw_aload_n dX6_beginWith_8 rfl rfl ?_
  refine aw_getR dX6_beginWith_9 fX6_12 (by first | assumption | rfl) (by rfl) ?_
  refine aw_iload_n dX6_beginWith_12 rfl rfl ?_
  refine aw_iload_n dX6_beginWith_13 rfl rfl ?_
  refine aw_callVF dX6_beginWith_14 kX6_39 (c_S_setBirthday (by first | assumption | exact ⟨rfl, rfl, rfl⟩) (by omega)) (by first | assumption | rfl) rfl rfl rfl (Nat.le_of_ble_eq_true rfl) (Nat.le_of_ble_eq_true rfl) ?_
  dsimp only [Option.toList, List.cons_append, List.nil_append, Nat.reduceAdd]
  refine aw_aload_n dX6_beginWith_17 rfl rfl ?_
  have f1 : FW6 h (hw (hcs h o 61) 63 i0 x) := fun q hq => by rw [hw_ne (by omega)]; exact hcs_ne (by omega) (by omega) (by omega)
  have hx1 : HX (hw (hcs h o 61) 63 i0 x) S := hx.fr f1
  have hb1 : ∀ i, i < sn S → hw (hcs h o 61) 63 i0 x 63 i = (if i = i0 then x else b i) ∧ (if i = i0 then x else b i) < 60 := fun i hi => by
    rw [hw_at]
    by_cases z : i = i0
    · rw [if_pos z, if_pos z]; exact ⟨rfl, hx0⟩
    · rw [if_neg z, if_neg z, hcs_2 (by omega) (by omega)]; exact ⟨(hv.2 i hi).2, hb i hi⟩
  refine aw_callV dX6_beginWith_18 kX6_33 (c_W_makeList (dd := dd) hx1 hS hb1) (by first | assumption | rfl) rfl rfl rfl (Nat.le_of_ble_eq_true rfl) (Nat.le_of_ble_eq_true rfl) ?_
  rintro _ h2 ⟨rfl, hl2, hf2⟩
  dsimp only [Option.toList, List.cons_append, List.nil_append, Nat.reduceAdd]
  refine aw_aload_n dX6_beginWith_21 rfl rfl ?_
  refine aw_callV dX6_beginWith_22 kX6_36 (c_W_clearCounts) (by first | assumption | rfl) rfl rfl rfl (Nat.le_of_ble_eq_true rfl) (Nat.le_of_ble_eq_true rfl) ?_
  rintro _ h3 ⟨rfl, hc3, hs3, hf3⟩
  dsimp only [Option.toList, List.cons_append, List.nil_append, Nat.reduceAdd]
  refine aw_vret dX6_beginWith_25 rfl ?_
  have f3 : FW6 (hw (hcs h o 61) 63 i0 x) h3 := fun q hq => by rw [hf3 q (by omega) (by omega), hf2 q (by omega)]
  refine ⟨rfl, ⟨hx1.fr f3, ?_, hc3, fun i hi => ⟨?_, ?_, ?_, hs3 i (by omega)⟩⟩, f1.trans f3⟩
  · rw [hf3 61 (by decide) (by decide), hf2 61 (by decide), hw_ne (by decide), hcs_0]; exact hv.1
  · rw [hf3 62 (by decide) (by decide), hf2 62 (by decide), hw_ne (by decide), hcs_1 (by omega) (by omega)]; exact (hv.2 i hi).1
  · rw [hf3 63 (by decide) (by decide), hf2 63 (by decide)]; exact (hb1 i hi).1
  · rw [hf3 64 (by decide) (by decide)]; exact hl2 i hi
theorem WO_ls {S : Hs} {b : Nat → Nat} (hS : HsOk S) (hb : ∀ i, i < sn S → b i < 60) : WO S b (lsB (sn S) b) := ⟨hS, fun i hi => ⟨hb i hi, (lsB_ok i hi).1⟩⟩
theorem c_W_standing {d : Nat} {h : Hp} : RT mX6_standing d [.ref 60] h (fun v h' => v = some (.ref 61) ∧ h' = h) := by
  change AW mX6_standing _ 0 [some (.ref 60)] [] h _
  refine aw_aload_n dX6_standing_0 rfl rfl ?_
  refine aw_getR dX6_standing_1 fX6_12 (by first | assumption | rfl) (by rfl) ?_
  refine aw_aret dX6_standing_4 rfl (by first | exact Or.inl ⟨_, rfl⟩ | exact Or.inr ⟨_, rfl⟩) (by first | exact Or.inr ⟨_, rfl⟩ | exact Or.inl rfl) ?_
  exact ⟨rfl, rfl⟩
theorem c_W_listed {d p : Nat} {h : Hp} (hp : p < 8) : RT mX6_listed (d + 1) [.ref 60, .int (nI p)] h (fun v h' => v = some (.int (nI (h 64 p))) ∧ h' = h) := by
  change AW mX6_listed _ 0 [some (.ref 60), some (.int (nI p))] [] h _
  refine aw_aload_n dX6_listed_0 rfl rfl ?_
  refine aw_getR dX6_listed_1 fX6_18 (by first | assumption | rfl) (by rfl) ?_
  refine aw_iload_n dX6_listed_4 rfl rfl ?_
  refine aw_callSF dX6_listed_5 kX6_43 (c_at (by first | assumption | rfl) (by omega) (by decide)) rfl rfl rfl (Nat.le_of_ble_eq_true rfl) (Nat.le_of_ble_eq_true rfl) ?_
  dsimp only [Option.toList, List.cons_append, List.nil_append, Nat.reduceAdd]
  refine aw_iret dX6_listed_8 rfl (by first | rfl | exact (pk_charN (by omega)).1 | decide) ?_
  exact ⟨rfl, rfl⟩
theorem c_W_sunTogether {d i : Nat} {h : Hp} (hi : i < 8) : RT mX6_sunTogether (d + 1) [.ref 60, .int (nI i)] h (fun v h' => v = some (.int (nI (h 65 i))) ∧ h' = h) := by
  change AW mX6_sunTogether _ 0 [some (.ref 60), some (.int (nI i))] [] h _
  refine aw_aload_n dX6_sunTogether_0 rfl rfl ?_
  refine aw_getR dX6_sunTogether_1 fX6_22 (by first | assumption | rfl) (by rfl) ?_
  refine aw_iload_n dX6_sunTogether_4 rfl rfl ?_
  refine aw_callSF dX6_sunTogether_5 kX6_43 (c_at (by first | assumption | rfl) (by omega) (by decide)) rfl rfl rfl (Nat.le_of_ble_eq_true rfl) (Nat.le_of_ble_eq_true rfl) ?_
  dsimp only [Option.toList, List.cons_append, List.nil_append, Nat.reduceAdd]
  refine aw_iret dX6_sunTogether_8 rfl (by first | rfl | exact (pk_charN (by omega)).1 | decide) ?_
  exact ⟨rfl, rfl⟩
theorem c_W_coldTogether {d : Nat} {h : Hp} : RT mX6_coldTogether d [.ref 60] h (fun v h' => v = some (.int (nI (h 60 4))) ∧ h' = h) := by
  change AW mX6_coldTogether _ 0 [some (.ref 60)] [] h _
  refine aw_aload_n dX6_coldTogether_0 rfl rfl ?_
  refine aw_getI dX6_coldTogether_1 fX6_53 (by first | assumption | rfl) (by rfl) ?_
  refine aw_iret dX6_coldTogether_4 rfl (by first | rfl | exact (pk_charN (by omega)).1 | decide) ?_
  exact ⟨rfl, rfl⟩
theorem c_W_placeOf {d i dd c : Nat} {h : Hp} {S : Hs} {b f s : Nat → Nat} (hws : WS h S b (lsB (sn S) b) dd f s c) (hok : WO S b (lsB (sn S) b)) (hi : i < sn S) :
    RT mX6_placeOf (d + 1) [.ref 60, .int (nI i)] h (fun v h' => v = some (.int (nI (rkc b i (sn S)))) ∧ h' = h) := by
  obtain ⟨⟨e1, e2, e3⟩, e4, e5, e6⟩ := id hws
  have h38 := hok.1.2.1
  have hrk : rkc b i (sn S) < sn S ∧ lsB (sn S) b (rkc b i (sn S)) = i := by
    refine ⟨?_, lsB_of hi rfl⟩
    have : ∀ m, i < m → rkc b i m < m := by
      intro m
      induction m with
      | zero => intro q; omega
      | succ m im =>
        intro q
        rw [rkc_s]
        by_cases z : i = m
        · subst z
          rw [if_neg (by omega)]
          have := rk_le b i i
          omega
        · have := im (by omega)
          split <;> omega
    exact this _ hi
  have loop : ∀ u p, p + u = rkc b i (sn S) → AW mX6_placeOf (d + 1) 2 [some (.ref 60), some (.int (nI i)), some (.int (nI p))] [] h (fun v h' => v = some (.int (nI (rkc b i (sn S)))) ∧ h' = h) := by
    intro u
    induction u with
    | zero =>
      intro p hp
      have ep : p = rkc b i (sn S) := by omega
      have e64 := (e6 p (by omega)).2.2.1
      rw [ep, hrk.2, ← ep] at e64
      refine aw_iload_n dX6_placeOf_2 rfl rfl ?_
      refine aw_aload_n dX6_placeOf_3 rfl rfl ?_
      refine aw_getR dX6_placeOf_4 fX6_25 (by first | assumption | rfl) (by rfl) ?_
      refine aw_callVF dX6_placeOf_7 kX6_47 (c_P_cousins) (by first | assumption | rfl) rfl rfl rfl (Nat.le_of_ble_eq_true rfl) (Nat.le_of_ble_eq_true rfl) ?_
      dsimp only [Option.toList, List.cons_append, List.nil_append, Nat.reduceAdd]
      rw [e1]
      refine aw_icmp_geN (tgt := 33) dX6_placeOf_10 (by decide) (by omega) (by omega) (fun q => absurd q (by omega)) (fun _ => ?_)
      refine aw_aload_n dX6_placeOf_13 rfl rfl ?_
      refine aw_getR dX6_placeOf_14 fX6_18 (by first | assumption | rfl) (by rfl) ?_
      refine aw_iload_n dX6_placeOf_17 rfl rfl ?_
      refine aw_callSF dX6_placeOf_18 kX6_43 (c_at (by first | assumption | rfl) (by omega) (by decide)) rfl rfl rfl (Nat.le_of_ble_eq_true rfl) (Nat.le_of_ble_eq_true rfl) ?_
      dsimp only [Option.toList, List.cons_append, List.nil_append, Nat.reduceAdd]
      rw [e64]
      refine aw_iload_n dX6_placeOf_21 rfl rfl ?_
      refine aw_icmp_neN (tgt := 27) dX6_placeOf_22 (by decide) (by omega) (by omega) (fun q => absurd q (by omega)) (fun _ => ?_)
      refine aw_iload_n dX6_placeOf_25 rfl rfl ?_
      refine aw_iret dX6_placeOf_26 rfl (by first | rfl | exact (pk_charN (by omega)).1 | decide) ?_
      rw [ep]
      exact ⟨rfl, rfl⟩
    | succ u ih =>
      intro p hp
      have e64 := (e6 p (by omega)).2.2.1
      have hl := lsB_ok (b := b) p (show p < sn S by omega)
      have hne : lsB (sn S) b p ≠ i := fun z => by
        rw [z] at hl
        omega
      refine aw_iload_n dX6_placeOf_2 rfl rfl ?_
      refine aw_aload_n dX6_placeOf_3 rfl rfl ?_
      refine aw_getR dX6_placeOf_4 fX6_25 (by first | assumption | rfl) (by rfl) ?_
      refine aw_callVF dX6_placeOf_7 kX6_47 (c_P_cousins) (by first | assumption | rfl) rfl rfl rfl (Nat.le_of_ble_eq_true rfl) (Nat.le_of_ble_eq_true rfl) ?_
      dsimp only [Option.toList, List.cons_append, List.nil_append, Nat.reduceAdd]
      rw [e1]
      refine aw_icmp_geN (tgt := 33) dX6_placeOf_10 (by decide) (by omega) (by omega) (fun q => absurd q (by omega)) (fun _ => ?_)
      refine aw_aload_n dX6_placeOf_13 rfl rfl ?_
      refine aw_getR dX6_placeOf_14 fX6_18 (by first | assumption | rfl) (by rfl) ?_
      refine aw_iload_n dX6_placeOf_17 rfl rfl ?_
      refine aw_callSF dX6_placeOf_18 kX6_43 (c_at (by first | assumption | rfl) (by omega) (by decide)) rfl rfl rfl (Nat.le_of_ble_eq_true rfl) (Nat.le_of_ble_eq_true rfl) ?_
      dsimp only [Option.toList, List.cons_append, List.nil_append, Nat.reduceAdd]
      rw [e64]
      refine aw_iload_n dX6_placeOf_21 rfl rfl ?_
      refine aw_icmp_neN (tgt := 27) dX6_placeOf_22 (by decide) (by omega) (by omega) (fun _ => ?_) (fun q => absurd q (by omega))
      refine aw_iincN (v := 1) dX6_placeOf_27 rfl rfl ?_
      dsimp only [List.set]
      refine aw_goto (tgt := 2) dX6_placeOf_30 (by decide) ?_
      exact ih (p + 1) (by omega)
  change AW mX6_placeOf _ 0 [some (.ref 60), some (.int (nI i)), none] [] h _
  refine aw_iconst (v := nI 0) dX6_placeOf_0 (by decide) ?_
  refine aw_istore_n dX6_placeOf_1 rfl (Nat.le_of_ble_eq_true rfl) rfl ?_
  dsimp only [List.set]
  exact loop (rkc b i (sn S)) 0 (by omega)
/-- who is cold, as bits -/
def cbN (S : Hs) (day : Nat) (f : Nat → Nat) : Nat → Nat
  | 0 => 0
  | m + 1 => cbN S day f m + if sunR S day (f m) < sW S m then 2 ^ m else 0
theorem cbN_lt {S : Hs} {day : Nat} {f : Nat → Nat} : ∀ m, cbN S day f m < 2 ^ m := by
  intro m
  induction m with
  | zero => simp [cbN]
  | succ m ih =>
    show cbN S day f m + _ < _
    rw [Nat.pow_succ]
    split <;> omega
theorem or_bit : ∀ k, k < 8 → ∀ c, c < 256 → c < 2 ^ k → nI c ||| (nI 1 <<< (nI k &&& 31)) = nI (c + 2 ^ k) := by decide +kernel
theorem c_W_coldBits {d dd c : Nat} {h : Hp} {S : Hs} {b L f s : Nat → Nat} (hws : WS h S b L dd f s c) (hok : WO S b L) (hpm : PM (sn S) f) (hdd : dd < 2 ^ 30) :
    RT mX6_coldBits (d + 2) [.ref 60] h (fun v h' => v = some (.int (nI (cbN S dd f (sn S)))) ∧ h' = h) := by
  obtain ⟨⟨e1, e2, e3⟩, e4, e5, e6⟩ := id hws
  have h38 := hok.1.2.1
  have loop : ∀ u k, k + u = sn S → AW mX6_coldBits (d + 2) 4 [some (.ref 60), some (.int (nI (cbN S dd f k))), some (.int (nI k))] [] h (fun v h' => v = some (.int (nI (cbN S dd f (sn S)))) ∧ h' = h) := by
    intro u
    induction u with
    | zero =>
      intro k hk
      have ek : k = sn S := by omega
      subst ek
      refine aw_iload_n dX6_coldBits_4 rfl rfl ?_
      refine aw_aload_n dX6_coldBits_5 rfl rfl ?_
      refine aw_getR dX6_coldBits_6 fX6_25 (by first | assumption | rfl) (by rfl) ?_
      refine aw_callVF dX6_coldBits_9 kX6_47 (c_P_cousins) (by first | assumption | rfl) rfl rfl rfl (Nat.le_of_ble_eq_true rfl) (Nat.le_of_ble_eq_true rfl) ?_
      dsimp only [Option.toList, List.cons_append, List.nil_append, Nat.reduceAdd]
      rw [e1]
      refine aw_icmp_geN (tgt := 43) dX6_coldBits_12 (by decide) (by omega) (by omega) (fun _ => ?_) (fun q => absurd q (by omega))
      refine aw_iload_n dX6_coldBits_43 rfl rfl ?_
      refine aw_iret dX6_coldBits_44 rfl (by first | rfl | exact (pk_charN (by omega)).1 | decide) ?_
      exact ⟨rfl, rfl⟩
    | succ u ih =>
      intro k hk
      have hk8 : k < sn S := by omega
      have hs1 := sunR_le hok.1 (day := dd) (hpm.1 _ hk8)
      have e7 := (e3 k hk8).2.1
      have hW9 := (hok.1.2.2 k hk8).2.1
      have hlt := cbN_lt (S := S) (day := dd) (f := f) k
      have hp8 : 2 ^ k ≤ 2 ^ 8 := Nat.pow_le_pow_right (by decide) (by omega)
      refine aw_iload_n dX6_coldBits_4 rfl rfl ?_
      refine aw_aload_n dX6_coldBits_5 rfl rfl ?_
      refine aw_getR dX6_coldBits_6 fX6_25 (by first | assumption | rfl) (by rfl) ?_
      refine aw_callVF dX6_coldBits_9 kX6_47 (c_P_cousins) (by first | assumption | rfl) rfl rfl rfl (Nat.le_of_ble_eq_true rfl) (Nat.le_of_ble_eq_true rfl) ?_
      dsimp only [Option.toList, List.cons_append, List.nil_append, Nat.reduceAdd]
      rw [e1]
      refine aw_icmp_geN (tgt := 43) dX6_coldBits_12 (by decide) (by omega) (by omega) (fun q => absurd q (by omega)) (fun _ => ?_)
      refine aw_aload_n dX6_coldBits_15 rfl rfl ?_
      refine aw_iload_n dX6_coldBits_16 rfl rfl ?_
      refine aw_callVF dX6_coldBits_17 kX6_57 (c_W_sunNow hws hok hpm hk8 hdd) (by first | assumption | rfl) rfl rfl rfl (Nat.le_of_ble_eq_true rfl) (Nat.le_of_ble_eq_true rfl) ?_
      dsimp only [Option.toList, List.cons_append, List.nil_append, Nat.reduceAdd]
      refine aw_aload_n dX6_coldBits_20 rfl rfl ?_
      refine aw_getR dX6_coldBits_21 fX6_25 (by first | assumption | rfl) (by rfl) ?_
      refine aw_iload_n dX6_coldBits_24 rfl rfl ?_
      refine aw_callVF dX6_coldBits_25 kX6_61 (c_P_wantOf (by omega)) (by first | assumption | rfl) rfl rfl rfl (Nat.le_of_ble_eq_true rfl) (Nat.le_of_ble_eq_true rfl) ?_
      dsimp only [Option.toList, List.cons_append, List.nil_append, Nat.reduceAdd]
      rw [e7]
      refine aw_icmp_geN (tgt := 37) dX6_coldBits_28 (by decide) (by omega) (by omega) (fun c28 => ?_) (fun c28 => ?_)
      · refine aw_iincN (v := 1) dX6_coldBits_37 rfl rfl ?_
        dsimp only [List.set]
        refine aw_goto (tgt := 4) dX6_coldBits_40 (by decide) ?_
        have ez : cbN S dd f (k + 1) = cbN S dd f k := by
          show cbN S dd f k + (if _ then _ else 0) = _
          rw [if_neg (by omega)]; rfl
        rw [← ez]
        exact ih (k + 1) (by omega)
      · refine aw_iload_n dX6_coldBits_31 rfl rfl ?_
        refine aw_iconst (v := nI 1) dX6_coldBits_32 (by decide) ?_
        refine aw_iload_n dX6_coldBits_33 rfl rfl ?_
        refine aw_ishl dX6_coldBits_34 ?_
        refine aw_ior dX6_coldBits_35 ?_
        rw [or_bit k (by omega) _ (by omega) hlt]
        refine aw_istore_n dX6_coldBits_36 rfl (Nat.le_of_ble_eq_true rfl) rfl ?_
        dsimp only [List.set]
        refine aw_iincN (v := 1) dX6_coldBits_37 rfl rfl ?_
        dsimp only [List.set]
        refine aw_goto (tgt := 4) dX6_coldBits_40 (by decide) ?_
        have ez : cbN S dd f (k + 1) = cbN S dd f k + 2 ^ k := by
          show cbN S dd f k + (if _ then _ else 0) = _
          rw [if_pos (by omega)]
        rw [← ez]
        exact ih (k + 1) (by omega)
  change AW mX6_coldBits _ 0 [some (.ref 60), none, none] [] h _
  refine aw_iconst (v := nI 0) dX6_coldBits_0 (by decide) ?_
  refine aw_istore_n dX6_coldBits_1 rfl (Nat.le_of_ble_eq_true rfl) rfl ?_
  dsimp only [List.set]
  refine aw_iconst (v := nI 0) dX6_coldBits_2 (by decide) ?_
  refine aw_istore_n dX6_coldBits_3 rfl (Nat.le_of_ble_eq_true rfl) rfl ?_
  dsimp only [List.set]
  exact loop (sn S) 0 (by omega)
theorem c_W_goBehind {d t dd c : Nat} {h : Hp} {S : Hs} {b L f s : Nat → Nat} (hws : WS h S b L dd f s c) (hok : WO S b L) (hpm : PM (sn S) f) (hdd : dd + t < 2 ^ 30) :
    RT mX6_goBehind (d + 5) [.ref 60, .int (nI t)] h (fun v h' => v = none ∧ WS h' S b L (dd + t) (rmF S b L dd f (t + 1)) (fun i => s i + sunF S b L dd f i t) (c + coldF S b L dd f t) ∧ FW6 h h') := by
  have hLs : ∀ q, q < sn S → L q < sn S := fun q hq => (hok.2 q hq).2
  have hpg := PM_rmF (b := b) (day0 := dd) hok.1 hLs hpm t
  change AW mX6_goBehind _ 0 [some (.ref 60), some (.int (nI t))] [] h _
  refine aw_aload_n dX6_goBehind_0 rfl rfl ?_
  refine aw_iload_n dX6_goBehind_1 rfl rfl ?_
  refine aw_callV dX6_goBehind_2 kX6_83 (c_W_go hws hok hpm hdd) (by first | assumption | rfl) rfl rfl rfl (Nat.le_of_ble_eq_true rfl) (Nat.le_of_ble_eq_true rfl) ?_
  rintro _ h2 ⟨rfl, hw2, hf2⟩
  dsimp only [Option.toList, List.cons_append, List.nil_append, Nat.reduceAdd]
  refine aw_aload_n dX6_goBehind_5 rfl rfl ?_
  refine aw_callV dX6_goBehind_6 kX6_64 (c_W_changeRooms hw2 hok hpg (by omega)) (by first | assumption | rfl) rfl rfl rfl (Nat.le_of_ble_eq_true rfl) (Nat.le_of_ble_eq_true rfl) ?_
  rintro _ h3 ⟨rfl, hw3, hf3⟩
  dsimp only [Option.toList, List.cons_append, List.nil_append, Nat.reduceAdd]
  refine aw_vret dX6_goBehind_9 rfl ?_
  exact ⟨rfl, hw3, hf2.trans hf3⟩
