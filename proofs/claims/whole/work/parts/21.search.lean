/-! Search: object 66 (best at 2, first pair at 3, second pair at 4) -/
abbrev isP (n p : Nat) : Prop := p / 8 < p % 8 ∧ p % 8 < n
def ap (f : Nat → Nat) (p : Nat) : Nat → Nat := swp f (p / 8) (p % 8)
theorem ap_0 (f : Nat → Nat) : ap f 0 = f := by
  funext k
  unfold ap swp
  by_cases q : k = 0
  · subst q; rfl
  · show (if k = 0 then f 0 else if k = 0 then f 0 else f k) = f k
    rw [if_neg q, if_neg q]
/-- the best till now: as much, first pair, second pair -/
abbrev bT : Type := Nat × Nat × Nat
def bU (a : bT) (v x y : Nat) : bT := if a.1 < v then (v, x, y) else a
def FQ (h h' : Hp) : Prop := ∀ o, o < 60 ∨ 66 < o → h' o = h o
theorem FQ.trans {h h1 h2 : Hp} (a : FQ h h1) (b : FQ h1 h2) : FQ h h2 := fun o ho => (b o ho).trans (a o ho)
theorem FQ.of {h h1 : Hp} (a : FW6 h h1) : FQ h h1 := fun o ho => a o (by omega)
theorem HX.fq {h h' : Hp} {S : Hs} (hh : HX h S) (hf : FQ h h') : HX h' S := by
  unfold HX
  rw [hf 4 (by omega), hf 5 (by omega), hf 7 (by omega), hf 8 (by omega), hf 9 (by omega)]
  exact hh
theorem SVt.fq {h h' : Hp} {n o : Nat} {c : Sv} (hv : SVt h n o c) (hf : FQ h h') (ho : o + 2 < 60) : SVt h' n o c := hv.fr (hf _ (by omega)) (hf _ (by omega)) (hf _ (by omega))
/-- a standing that can be -/
def SvOk (n : Nat) (c : Sv) : Prop := c.1 ≤ 9999 ∧ PM n c.2.2 ∧ ∀ i, i < n → c.2.1 i < 60
def cL (n : Nat) (c : Sv) : Nat → Nat := lsB n c.2.1
theorem c_Q_isPair {d p : Nat} {h : Hp} {S : Hs} (hx : HX h S) (hS : HsOk S) (hp : p < 64) : RT mX2_isPair (d + 1) [.ref 66, .int (nI p)] h (fun v h' => v = some (.int (nI (if isP (sn S) p then 1 else 0))) ∧ h' = h) := by
  have e1 := hx.1
  have h38 := hS.2.1
  change AW mX2_isPair _ 0 [some (.ref 66), some (.int (nI p))] [] h _
  refine aw_iload_n dX2_isPair_0 rfl rfl ?_
  refine aw_bipush (v := nI 8) dX2_isPair_1 (by decide) ?_
  refine aw_idivN dX2_isPair_3 (by omega) (by omega) (by omega) ?_
  refine aw_iload_n dX2_isPair_4 rfl rfl ?_
  refine aw_bipush (v := nI 8) dX2_isPair_5 (by decide) ?_
  refine aw_iremN dX2_isPair_7 (by omega) (by omega) (by omega) ?_
  refine aw_icmp_geN (tgt := 29) dX2_isPair_8 (by decide) (by omega) (by omega) (fun c8 => ?_) (fun c8 => ?_)
  · rw [if_neg (by omega)]
    refine aw_iconst (v := nI 0) dX2_isPair_29 (by decide) ?_
    refine aw_iret dX2_isPair_30 rfl (by first | rfl | exact (pk_charN (by omega)).1 | decide) ?_
    exact ⟨rfl, rfl⟩
  · refine aw_iload_n dX2_isPair_11 rfl rfl ?_
    refine aw_bipush (v := nI 8) dX2_isPair_12 (by decide) ?_
    refine aw_iremN dX2_isPair_14 (by omega) (by omega) (by omega) ?_
    refine aw_aload_n dX2_isPair_15 rfl rfl ?_
    refine aw_getR dX2_isPair_16 fX2_9 (by first | assumption | rfl) (by rfl) ?_
    refine aw_callVF dX2_isPair_19 kX2_59 (c_P_cousins) (by first | assumption | rfl) rfl rfl rfl (Nat.le_of_ble_eq_true rfl) (Nat.le_of_ble_eq_true rfl) ?_
    dsimp only [Option.toList, List.cons_append, List.nil_append, Nat.reduceAdd]
    rw [e1]
    refine aw_icmp_geN (tgt := 29) dX2_isPair_22 (by decide) (by omega) (by omega) (fun c22 => ?_) (fun c22 => ?_)
    · rw [if_neg (by omega)]
      refine aw_iconst (v := nI 0) dX2_isPair_29 (by decide) ?_
      refine aw_iret dX2_isPair_30 rfl (by first | rfl | exact (pk_charN (by omega)).1 | decide) ?_
      exact ⟨rfl, rfl⟩
    · rw [if_pos (by omega)]
      refine aw_iconst (v := nI 1) dX2_isPair_25 (by decide) ?_
      refine aw_goto (tgt := 30) dX2_isPair_26 (by decide) ?_
      refine aw_iret dX2_isPair_30 rfl (by first | rfl | exact (pk_charN (by omega)).1 | decide) ?_
      exact ⟨rfl, rfl⟩
/-- which pairs a try by codes one, two stands for -/
def fpO (one two : Nat) : Nat := if one = 0 then (if two = 0 then 4294967292 else two) else one
def spO (one two : Nat) : Nat := if one = 0 then 4294967292 else two
theorem c_Q_take {d m one two : Nat} {h : Hp} (h1 : one < 64) (h2 : two < 64) : RT mX2_take d [.ref 66, .int (nI m), .int (nI one), .int (nI two)] h (fun v h' => v = none ∧ h' = hw (hw (hw h 66 2 m) 66 3 (fpO one two)) 66 4 (spO one two)) := by
  change AW mX2_take _ 0 [some (.ref 66), some (.int (nI m)), some (.int (nI one)), some (.int (nI two))] [] h _
  refine aw_aload_n dX2_take_0 rfl rfl ?_
  refine aw_iload_n dX2_take_1 rfl rfl ?_
  refine aw_putfield dX2_take_2 gX2_19 (by first | assumption | rfl) (by rfl) ?_
  refine aw_aload_n dX2_take_5 rfl rfl ?_
  refine aw_iload_n dX2_take_6 rfl rfl ?_
  refine aw_if_eqN (tgt := 14) dX2_take_7 (by decide) (by omega) (fun c7 => ?_) (fun c7 => ?_)
  · have e1 : spO one two = 4294967292 := by unfold spO; rw [if_pos c7]
    refine aw_iload_n dX2_take_14 rfl rfl ?_
    refine aw_if_eqN (tgt := 22) dX2_take_15 (by decide) (by omega) (fun c15 => ?_) (fun c15 => ?_)
    · have e2 : fpO one two = 4294967292 := by unfold fpO; rw [if_pos c7, if_pos c15]
      rw [e1, e2]
      refine aw_bipush (v := nI 4294967292) dX2_take_22 (by decide) ?_
      refine aw_putfield dX2_take_24 gX2_23 (by first | assumption | rfl) (by rfl) ?_
      refine aw_aload_n dX2_take_27 rfl rfl ?_
      refine aw_iload_n dX2_take_28 rfl rfl ?_
      refine aw_if_eqN (tgt := 36) dX2_take_29 (by decide) (by omega) (fun _ => ?_) (fun q => absurd q (by omega))
      refine aw_bipush (v := nI 4294967292) dX2_take_36 (by decide) ?_
      refine aw_putfield dX2_take_38 gX2_26 (by first | assumption | rfl) (by rfl) ?_
      refine aw_vret dX2_take_41 rfl ?_
      exact ⟨rfl, rfl⟩
    · have e2 : fpO one two = two := by unfold fpO; rw [if_pos c7, if_neg c15]
      rw [e1, e2]
      refine aw_iload_n dX2_take_18 rfl rfl ?_
      refine aw_goto (tgt := 24) dX2_take_19 (by decide) ?_
      refine aw_putfield dX2_take_24 gX2_23 (by first | assumption | rfl) (by rfl) ?_
      refine aw_aload_n dX2_take_27 rfl rfl ?_
      refine aw_iload_n dX2_take_28 rfl rfl ?_
      refine aw_if_eqN (tgt := 36) dX2_take_29 (by decide) (by omega) (fun _ => ?_) (fun q => absurd q (by omega))
      refine aw_bipush (v := nI 4294967292) dX2_take_36 (by decide) ?_
      refine aw_putfield dX2_take_38 gX2_26 (by first | assumption | rfl) (by rfl) ?_
      refine aw_vret dX2_take_41 rfl ?_
      exact ⟨rfl, rfl⟩
  · have e1 : spO one two = two := by unfold spO; rw [if_neg c7]
    have e2 : fpO one two = one := by unfold fpO; rw [if_neg c7]
    rw [e1, e2]
    refine aw_iload_n dX2_take_10 rfl rfl ?_
    refine aw_goto (tgt := 24) dX2_take_11 (by decide) ?_
    refine aw_putfield dX2_take_24 gX2_23 (by first | assumption | rfl) (by rfl) ?_
    refine aw_aload_n dX2_take_27 rfl rfl ?_
    refine aw_iload_n dX2_take_28 rfl rfl ?_
    refine aw_if_eqN (tgt := 36) dX2_take_29 (by decide) (by omega) (fun q => absurd q (by omega)) (fun _ => ?_)
    refine aw_iload_n dX2_take_32 rfl rfl ?_
    refine aw_goto (tgt := 38) dX2_take_33 (by decide) ?_
    refine aw_putfield dX2_take_38 gX2_26 (by first | assumption | rfl) (by rfl) ?_
    refine aw_vret dX2_take_41 rfl ?_
    exact ⟨rfl, rfl⟩
theorem c_Q_best {d : Nat} {h : Hp} : RT mX2_best d [.ref 66] h (fun v h' => v = some (.int (nI (h 66 2))) ∧ h' = h) := by
  change AW mX2_best _ 0 [some (.ref 66)] [] h _
  refine aw_aload_n dX2_best_0 rfl rfl ?_
  refine aw_getI dX2_best_1 fX2_19 (by first | assumption | rfl) (by rfl) ?_
  refine aw_iret dX2_best_4 rfl (by first | rfl | exact (pk_charN (by omega)).1 | decide) ?_
  exact ⟨rfl, rfl⟩
theorem c_Q_firstPair {d : Nat} {h : Hp} : RT mX2_firstPair d [.ref 66] h (fun v h' => v = some (.int (nI (h 66 3))) ∧ h' = h) := by
  change AW mX2_firstPair _ 0 [some (.ref 66)] [] h _
  refine aw_aload_n dX2_firstPair_0 rfl rfl ?_
  refine aw_getI dX2_firstPair_1 fX2_23 (by first | assumption | rfl) (by rfl) ?_
  refine aw_iret dX2_firstPair_4 rfl (by first | rfl | exact (pk_charN (by omega)).1 | decide) ?_
  exact ⟨rfl, rfl⟩
theorem c_Q_secondPair {d : Nat} {h : Hp} : RT mX2_secondPair d [.ref 66] h (fun v h' => v = some (.int (nI (h 66 4))) ∧ h' = h) := by
  change AW mX2_secondPair _ 0 [some (.ref 66)] [] h _
  refine aw_aload_n dX2_secondPair_0 rfl rfl ?_
  refine aw_getI dX2_secondPair_1 fX2_26 (by first | assumption | rfl) (by rfl) ?_
  refine aw_iret dX2_secondPair_4 rfl (by first | rfl | exact (pk_charN (by omega)).1 | decide) ?_
  exact ⟨rfl, rfl⟩
theorem WS.swap {h : Hp} {S : Hs} {b L f s : Nat → Nat} {dd c i j : Nat} (hws : WS h S b L dd f s c) (hi : i < sn S) (hj : j < sn S) : WS (hx2 h 62 i j) S b L dd (swp f i j) s c ∧ FW6 h (hx2 h 62 i j) := by
  obtain ⟨x1, x2, x3, x4⟩ := hws
  have hf : FW6 h (hx2 h 62 i j) := fun o ho => hx2_ne (by omega)
  refine ⟨⟨x1.fr hf, by rw [hx2_ne (by decide)]; exact x2, by rw [hx2_ne (by decide)]; exact x3, fun k hk => ?_⟩, hf⟩
  rw [hx2_ne (a := 63) (by decide), hx2_ne (a := 64) (by decide), hx2_ne (a := 65) (by decide)]
  refine ⟨?_, (x4 k hk).2⟩
  rw [hx2_at]
  unfold swp
  rw [(x4 i hi).1, (x4 j hj).1, (x4 k hk).1]
theorem c_Q_beginBy {d one two : Nat} {h : Hp} {S : Hs} {c : Sv} (hx : HX h S) (hS : HsOk S) (hv : SVt h (sn S) 16 c) (hc : SvOk (sn S) c) (h1 : one / 8 < sn S ∧ one % 8 < sn S) (h2 : two / 8 < sn S ∧ two % 8 < sn S) (h3 : one < 64) (h4 : two < 64) :
    RT mX2_beginBy (d + 4) [.ref 66, .ref 16, .int (nI one), .int (nI two)] h (fun v h' => v = none ∧ WS h' S c.2.1 (cL (sn S) c) c.1 (ap (ap c.2.2 one) two) (fun _ => 0) 0 ∧ FW6 h h') := by
  have h38 := hS.2.1
  change AW mX2_beginBy _ 0 [some (.ref 66), some (.ref 16), some (.int (nI one)), some (.int (nI two))] [] h _
  refine aw_aload_n dX2_beginBy_0 rfl rfl ?_
  refine aw_getR dX2_beginBy_1 fX2_15 (by first | assumption | rfl) (by rfl) ?_
  refine aw_aload_n dX2_beginBy_4 rfl rfl ?_
  refine aw_callV dX2_beginBy_5 kX2_70 (c_W_begin hx hS hv hc.2.2 ⟨rfl, rfl, rfl⟩ (by decide)) (by first | assumption | rfl) rfl rfl rfl (Nat.le_of_ble_eq_true rfl) (Nat.le_of_ble_eq_true rfl) ?_
  rintro _ h5 ⟨rfl, w5, f5⟩
  dsimp only [Option.toList, List.cons_append, List.nil_append, Nat.reduceAdd]
  refine aw_aload_n dX2_beginBy_8 rfl rfl ?_
  refine aw_getR dX2_beginBy_9 fX2_15 (by first | assumption | rfl) (by rfl) ?_
  refine aw_callVF dX2_beginBy_12 kX2_55 (c_W_standing) (by first | assumption | rfl) rfl rfl rfl (Nat.le_of_ble_eq_true rfl) (Nat.le_of_ble_eq_true rfl) ?_
  dsimp only [Option.toList, List.cons_append, List.nil_append, Nat.reduceAdd]
  refine aw_iload_n dX2_beginBy_15 rfl rfl ?_
  refine aw_bipush (v := nI 8) dX2_beginBy_16 (by decide) ?_
  refine aw_idivN dX2_beginBy_18 (by omega) (by omega) (by omega) ?_
  refine aw_iload_n dX2_beginBy_19 rfl rfl ?_
  refine aw_bipush (v := nI 8) dX2_beginBy_20 (by decide) ?_
  refine aw_iremN dX2_beginBy_22 (by omega) (by omega) (by omega) ?_
  refine aw_callVF dX2_beginBy_23 kX2_74 (c_S_exchange (by first | assumption | exact ⟨rfl, rfl, rfl⟩) (by omega) (by omega)) (by first | assumption | rfl) rfl rfl rfl (Nat.le_of_ble_eq_true rfl) (Nat.le_of_ble_eq_true rfl) ?_
  dsimp only [Option.toList, List.cons_append, List.nil_append, Nat.reduceAdd]
  refine aw_aload_n dX2_beginBy_26 rfl rfl ?_
  refine aw_getR dX2_beginBy_27 fX2_15 (by first | assumption | rfl) (by rfl) ?_
  refine aw_callVF dX2_beginBy_30 kX2_55 (c_W_standing) (by first | assumption | rfl) rfl rfl rfl (Nat.le_of_ble_eq_true rfl) (Nat.le_of_ble_eq_true rfl) ?_
  dsimp only [Option.toList, List.cons_append, List.nil_append, Nat.reduceAdd]
  refine aw_iload_n dX2_beginBy_33 rfl rfl ?_
  refine aw_bipush (v := nI 8) dX2_beginBy_34 (by decide) ?_
  refine aw_idivN dX2_beginBy_36 (by omega) (by omega) (by omega) ?_
  refine aw_iload_n dX2_beginBy_37 rfl rfl ?_
  refine aw_bipush (v := nI 8) dX2_beginBy_38 (by decide) ?_
  refine aw_iremN dX2_beginBy_40 (by omega) (by omega) (by omega) ?_
  refine aw_callVF dX2_beginBy_41 kX2_74 (c_S_exchange (by first | assumption | exact ⟨rfl, rfl, rfl⟩) (by omega) (by omega)) (by first | assumption | rfl) rfl rfl rfl (Nat.le_of_ble_eq_true rfl) (Nat.le_of_ble_eq_true rfl) ?_
  dsimp only [Option.toList, List.cons_append, List.nil_append, Nat.reduceAdd]
  obtain ⟨w6, f6⟩ := w5.swap h1.1 h1.2
  obtain ⟨w7, f7⟩ := w6.swap h2.1 h2.2
  refine aw_vret dX2_beginBy_44 rfl ?_
  exact ⟨rfl, w7, (f5.trans f6).trans f7⟩
theorem PM_ap {n p : Nat} {f : Nat → Nat} (hf : PM n f) (hp : p / 8 < n ∧ p % 8 < n) : PM n (ap f p) := PM_swp hf hp.1 hp.2
/-- sun of i on m days, with rooms g now -/
def vSun (S : Hs) (c : Sv) (i m : Nat) (g : Nat → Nat) : Nat := sunF S c.2.1 (cL (sn S) c) c.1 g i m
def vCold (S : Hs) (c : Sv) (m : Nat) (g : Nat → Nat) : Nat := coldF S c.2.1 (cL (sn S) c) c.1 g m
theorem sunF_lt {S : Hs} {b L : Nat → Nat} {dd i : Nat} {f : Nat → Nat} (hS : HsOk S) (hL : ∀ q, q < sn S → L q < sn S) (hf : PM (sn S) f) (hi : i < sn S) : ∀ m, sunF S b L dd f i m ≤ 9 * m := by
  intro m
  induction m with
  | zero => exact Nat.le_refl _
  | succ m ih =>
    show sunF S b L dd f i m + _ ≤ _
    have := sunR_le hS (day := dd + m) ((PM_rmF (b := b) (day0 := dd) hS hL hf (m + 1)).1 i hi)
    omega
theorem coldN_le {S : Hs} {day : Nat} {f : Nat → Nat} : ∀ m, coldN S day f m ≤ m := by
  intro m
  induction m with
  | zero => exact Nat.le_refl _
  | succ m ih =>
    show coldN S day f m + _ ≤ _
    split <;> omega
theorem coldF_lt {S : Hs} {b L : Nat → Nat} {dd : Nat} {f : Nat → Nat} (hS : HsOk S) : ∀ m, coldF S b L dd f m ≤ 8 * m := by
  intro m
  induction m with
  | zero => exact Nat.le_refl _
  | succ m ih =>
    show coldF S b L dd f m + _ ≤ _
    have := coldN_le (S := S) (day := dd + m) (f := rmF S b L dd f (m + 1)) (sn S)
    have := hS.2.1
    omega
theorem cL_ok {S : Hs} {c : Sv} (hS : HsOk S) (hc : SvOk (sn S) c) : WO S c.2.1 (cL (sn S) c) := WO_ls hS hc.2.2
/-- the search so far: a triple in the fields -/
def QS (h : Hp) (a : bT) : Prop := h 66 2 = a.1 ∧ h 66 3 = a.2.1 ∧ h 66 4 = a.2.2
theorem QS.took {h : Hp} {m x y : Nat} : QS (hw (hw (hw h 66 2 m) 66 3 x) 66 4 y) (m, x, y) := by
  refine ⟨?_, ?_, ?_⟩
  · rw [hw_at, if_neg (by decide), hw_at, if_neg (by decide), hw_at, if_pos rfl]
  · rw [hw_at, if_neg (by decide), hw_at, if_pos rfl]
  · rw [hw_at, if_pos rfl]
theorem FQ.took {h : Hp} {m x y : Nat} : FQ h (hw (hw (hw h 66 2 m) 66 3 x) 66 4 y) := fun o ho => by rw [hw_ne (by omega), hw_ne (by omega), hw_ne (by omega)]
theorem QS.fw {h h' : Hp} {a : bT} (hq : QS h a) (hf : FW6 h h') : QS h' a := by
  unfold QS
  rw [hf 66 (by decide)]
  exact hq
/-! THE FOLDS -/
def sgS (n : Nat) (V : (Nat → Nat) → Nat) (f : Nat → Nat) : Nat → bT
  | 0 => (V f, 4294967292, 4294967292)
  | k + 1 => if isP n k then bU (sgS n V f k) (V (ap f k)) k 4294967292 else sgS n V f k
/-- pairs of pairs, rising ones alone -/
def dbR (n : Nat) (V : (Nat → Nat) → Nat) (f : Nat → Nat) : Nat → bT
  | 0 => sgS n V f 64
  | k + 1 => if isP n (k / 64) ∧ isP n (k % 64) ∧ k / 64 < k % 64 then bU (dbR n V f k) (V (ap (ap f (k / 64)) (k % 64))) (k / 64) (k % 64) else dbR n V f k
/-- pairs of pairs, all -/
def dbA (n : Nat) (V : (Nat → Nat) → Nat) (f : Nat → Nat) : Nat → bT
  | 0 => sgS n V f 64
  | k + 1 => if isP n (k / 64) ∧ isP n (k % 64) then bU (dbA n V f k) (V (ap (ap f (k / 64)) (k % 64))) (k / 64) (k % 64) else dbA n V f k
theorem bU_ge (a : bT) (v x y : Nat) : a.1 ≤ (bU a v x y).1 ∧ v ≤ (bU a v x y).1 := by
  unfold bU
  split
  · dsimp only; omega
  · omega
theorem sgS_mono {n : Nat} {V : (Nat → Nat) → Nat} {f : Nat → Nat} : ∀ k, V f ≤ (sgS n V f k).1 ∧ ∀ j, j < k → isP n j → V (ap f j) ≤ (sgS n V f k).1 := by
  intro k
  induction k with
  | zero => exact ⟨Nat.le_refl _, fun j hj => by omega⟩
  | succ k ih =>
    unfold sgS
    by_cases q : isP n k
    · rw [if_pos q]
      have g := bU_ge (sgS n V f k) (V (ap f k)) k 4294967292
      refine ⟨by omega, fun j hj hp => ?_⟩
      rcases Nat.lt_succ_iff_lt_or_eq.mp hj with z | z
      · have := ih.2 j z hp; omega
      · subst z; exact g.2
    · rw [if_neg q]
      refine ⟨ih.1, fun j hj hp => ?_⟩
      rcases Nat.lt_succ_iff_lt_or_eq.mp hj with z | z
      · exact ih.2 j z hp
      · subst z; exact absurd hp q
theorem dbR_mono {n : Nat} {V : (Nat → Nat) → Nat} {f : Nat → Nat} : ∀ k, V f ≤ (dbR n V f k).1 ∧ ∀ j, j < k → isP n (j / 64) → isP n (j % 64) → j / 64 < j % 64 → V (ap (ap f (j / 64)) (j % 64)) ≤ (dbR n V f k).1 := by
  intro k
  induction k with
  | zero => exact ⟨(sgS_mono 64).1, fun j hj => by omega⟩
  | succ k ih =>
    unfold dbR
    by_cases q : isP n (k / 64) ∧ isP n (k % 64) ∧ k / 64 < k % 64
    · rw [if_pos q]
      have g := bU_ge (dbR n V f k) (V (ap (ap f (k / 64)) (k % 64))) (k / 64) (k % 64)
      refine ⟨by omega, fun j hj hp hp2 hlt => ?_⟩
      rcases Nat.lt_succ_iff_lt_or_eq.mp hj with z | z
      · have := ih.2 j z hp hp2 hlt; omega
      · subst z; exact g.2
    · rw [if_neg q]
      refine ⟨ih.1, fun j hj hp hp2 hlt => ?_⟩
      rcases Nat.lt_succ_iff_lt_or_eq.mp hj with z | z
      · exact ih.2 j z hp hp2 hlt
      · subst z; exact absurd ⟨hp, hp2, hlt⟩ q
def tau (p k : Nat) : Nat := if k = p % 8 then p / 8 else if k = p / 8 then p % 8 else k
theorem ap_tau (f : Nat → Nat) (p k : Nat) : ap f p k = f (tau p k) := by
  unfold ap swp tau
  split
  · rfl
  · split <;> rfl
/-- for two swaps, the second's pair below the first's: two with the lower pair ahead that do the same -/
def pqO (one two : Nat) : Nat × Nat :=
  if one / 8 = two / 8 then (two, 8 * (two % 8) + one % 8)
  else if one / 8 = two % 8 then (two, 8 * (two / 8) + one % 8)
  else if one % 8 = two % 8 then (8 * (two / 8) + one / 8, one)
  else (two, one)
def pqC (one two : Nat) : Bool := !(decide (isP 8 one) && decide (isP 8 two)) || (decide (isP 8 (pqO one two).1) && decide (isP 8 (pqO one two).2) && decide ((pqO one two).1 < (pqO one two).2) && decide ((pqO one two).1 < one) && decide ((pqO one two).2 < 64) && decide ((pqO one two).1 % 8 ≤ one % 8 ∨ (pqO one two).1 % 8 ≤ two % 8) && decide ((pqO one two).2 % 8 ≤ one % 8 ∨ (pqO one two).2 % 8 ≤ two % 8) && ((List.range 8).all fun k => decide (tau one (tau two k) = tau (pqO one two).1 (tau (pqO one two).2 k))))
theorem pqC_all : ∀ one, one < 64 → ∀ two, two < one → pqC one two = true := by decide +kernel
theorem pq_tab (one : Nat) (h1 : one < 64) (two : Nat) (h2 : two < one) (h3 : isP 8 one) (h4 : isP 8 two) : isP 8 (pqO one two).1 ∧ isP 8 (pqO one two).2 ∧ (pqO one two).1 < (pqO one two).2 ∧ (pqO one two).1 < one ∧ (pqO one two).2 < 64 ∧ ((pqO one two).1 % 8 ≤ one % 8 ∨ (pqO one two).1 % 8 ≤ two % 8) ∧ ((pqO one two).2 % 8 ≤ one % 8 ∨ (pqO one two).2 % 8 ≤ two % 8) ∧ ∀ k, k < 8 → tau one (tau two k) = tau (pqO one two).1 (tau (pqO one two).2 k) := by
  have h5 := pqC_all one h1 two h2
  unfold pqC at h5
  rw [decide_eq_true h3, decide_eq_true h4] at h5
  simp only [Bool.and_true, Bool.not_true, Bool.false_or, Bool.and_eq_true] at h5
  obtain ⟨⟨⟨⟨⟨⟨⟨a1, a2⟩, a3⟩, a4⟩, a5⟩, a6⟩, a7⟩, a8⟩ := h5
  exact ⟨of_decide_eq_true a1, of_decide_eq_true a2, of_decide_eq_true a3, of_decide_eq_true a4, of_decide_eq_true a5, of_decide_eq_true a6, of_decide_eq_true a7, fun k hk => of_decide_eq_true (List.all_eq_true.mp a8 k (List.mem_range.mpr hk))⟩
theorem tau_id {p k : Nat} (hk : 8 ≤ k) (hp : p < 64) : tau p k = k := by
  unfold tau
  rw [if_neg (by omega), if_neg (by omega)]
theorem tau_tau {p : Nat} (k : Nat) (hp : isP 8 p) : tau p (tau p k) = k := by
  unfold tau
  by_cases q1 : k = p % 8
  · rw [if_pos q1, if_neg (by omega), if_pos rfl]; exact q1.symm
  · by_cases q2 : k = p / 8
    · rw [if_neg q1, if_pos q2, if_pos rfl]; exact q2.symm
    · rw [if_neg q1, if_neg q2, if_neg q1, if_neg q2]
theorem dbA_eq {n : Nat} {V : (Nat → Nat) → Nat} {f : Nat → Nat} (hn : n ≤ 8) : ∀ k, k ≤ 4096 → dbA n V f k = dbR n V f k := by
  intro k
  induction k with
  | zero => intro _; rfl
  | succ k ih =>
    intro hk
    unfold dbA dbR
    rw [ih (by omega)]
    by_cases q : isP n (k / 64) ∧ isP n (k % 64)
    · rw [if_pos q]
      by_cases q2 : k / 64 < k % 64
      · rw [if_pos ⟨q.1, q.2, q2⟩]
      · rw [if_neg (fun z => q2 z.2.2)]
        have hle : V (ap (ap f (k / 64)) (k % 64)) ≤ (dbR n V f k).1 := by
          by_cases q3 : k / 64 = k % 64
          · have e : ap (ap f (k / 64)) (k % 64) = f := by
              funext j
              rw [ap_tau, ap_tau, q3, tau_tau j ⟨q.2.1, by omega⟩]
            rw [e]
            exact (dbR_mono k).1
          · obtain ⟨t1, t2, t3, t4, t5, t6, t7, t8⟩ := pq_tab (k / 64) (by omega) (k % 64) (by omega) ⟨q.1.1, by omega⟩ ⟨q.2.1, by omega⟩
            generalize (pqO (k / 64) (k % 64)).1 = p1 at *
            generalize (pqO (k / 64) (k % 64)).2 = p2 at *
            have e : ap (ap f (k / 64)) (k % 64) = ap (ap f p1) p2 := by
              funext j
              rw [ap_tau, ap_tau, ap_tau, ap_tau]
              by_cases hj : j < 8
              · rw [t8 j hj]
              · rw [tau_id (p := k % 64) (by omega) (by omega), tau_id (p := k / 64) (by omega) (by omega), tau_id (p := p2) (by omega) t5, tau_id (p := p1) (by omega) (by omega)]
            rw [e]
            have := (dbR_mono (n := n) (V := V) (f := f) k).2 (64 * p1 + p2) (by omega)
            rw [show (64 * p1 + p2) / 64 = p1 by omega, show (64 * p1 + p2) % 64 = p2 by omega] at this
            exact this ⟨t1.1, by omega⟩ ⟨t2.1, by omega⟩ t3
        unfold bU
        rw [if_neg (by omega)]
    · rw [if_neg q, if_neg (fun z => q ⟨z.1, z.2.1⟩)]
