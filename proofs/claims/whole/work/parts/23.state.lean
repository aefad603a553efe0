/-! THE STATE: house, birthdays at first, the standing now, what can be undone, what is kept, what was seen, the text -/
abbrev XS : Type := Hs × (Nat → Nat) × Sv × (Nat × (Nat → Sv)) × (Nat × (Nat → Sv)) × (Nat × (Nat → Zt)) × (Nat × (Nat → Nat))
def xS (X : XS) : Hs := X.1
def x0 (X : XS) : Nat → Nat := X.2.1
def xC (X : XS) : Sv := X.2.2.1
def xU (X : XS) : Nat × (Nat → Sv) := X.2.2.2.1
def xV (X : XS) : Nat × (Nat → Sv) := X.2.2.2.2.1
def xZ (X : XS) : Nat × (Nat → Zt) := X.2.2.2.2.2.1
def xT (X : XS) : Nat × (Nat → Nat) := X.2.2.2.2.2.2
def xn (X : XS) : Nat := sn (xS X)
def fiC (X : XS) : Sv := (0, x0 X, fun i => i)
/-- the state with another standing, other piles, other sightings, another text -/
def setC (X : XS) (c : Sv) : XS := (xS X, x0 X, c, xU X, xV X, xZ X, xT X)
def setU (X : XS) (u : Nat × (Nat → Sv)) : XS := (xS X, x0 X, xC X, u, xV X, xZ X, xT X)
def setV (X : XS) (v : Nat × (Nat → Sv)) : XS := (xS X, x0 X, xC X, xU X, v, xZ X, xT X)
def setZ (X : XS) (z : Nat × (Nat → Zt)) : XS := (xS X, x0 X, xC X, xU X, xV X, z, xT X)
def setT (X : XS) (t : Nat × (Nat → Nat)) : XS := (xS X, x0 X, xC X, xU X, xV X, xZ X, t)
def zOk (n : Nat) (z : Zt) : Prop := z.1 < n ∧ z.2.1 < n ∧ z.2.2 ≤ 120
def VX (X : XS) : Prop := HsOk (xS X) ∧ SvOk (xn X) (xC X) ∧ SvOk (xn X) (fiC X) ∧ ((xU X).1 ≤ 8 ∧ ∀ k, k < (xU X).1 → SvOk (xn X) ((xU X).2 k)) ∧ ((xV X).1 ≤ 2 ∧ ∀ k, k < (xV X).1 → SvOk (xn X) ((xV X).2 k)) ∧ ((xZ X).1 ≤ 8 ∧ ∀ k, k < (xZ X).1 → zOk (xn X) ((xZ X).2 k)) ∧ TOk (xT X).2 (xT X).1
/-- the class's objects hold the state -/
def RX (h : Hp) (X : XS) : Prop := HX h (xS X) ∧ SVt h (xn X) 16 (xC X) ∧ SVt h (xn X) 19 (fiC X) ∧ (h 22 1 = (xU X).1 ∧ ∀ k, k < (xU X).1 → SVt h (xn X) (22 + 2 + 3 * k) ((xU X).2 k)) ∧ (h 48 1 = (xV X).1 ∧ ∀ k, k < (xV X).1 → SVt h (xn X) (48 + 2 + 3 * k) ((xV X).2 k)) ∧ (∃ zs, ZX h (xZ X).1 zs ∧ ZO (xZ X).1 zs (xZ X).2) ∧ (h 1 2 = (xT X).1 ∧ ∀ k, k < (xT X).1 → h 2 k = (xT X).2 k)
def FX (h h' : Hp) : Prop := ∀ o, 67 ≤ o → h' o = h o
theorem FX.trans {h h1 h2 : Hp} (a : FX h h1) (b : FX h1 h2) : FX h h2 := fun o ho => (b o ho).trans (a o ho)
theorem FQ.fx {h h1 : Hp} (a : FQ h h1) : FX h h1 := fun o ho => a o (by omega)
theorem RX.gen {h h' : Hp} {X : XS} (hr : RX h X) (hv : VX X) (h1 : HX h' (xS X)) (hf : ∀ o, (16 ≤ o ∧ o < 60) ∨ o = 2 → h' o = h o) (ht : h' 1 2 = h 1 2) : RX h' X := by
  obtain ⟨r1, r2, r3, ⟨r4, r5⟩, ⟨r6, r7⟩, ⟨zs, r8, r9⟩, r10, r11⟩ := hr
  have hu := hv.2.2.2.1.1
  have hw1 := hv.2.2.2.2.1.1
  refine ⟨h1, r2.fr (hf _ (by omega)) (hf _ (by omega)) (hf _ (by omega)), r3.fr (hf _ (by omega)) (hf _ (by omega)) (hf _ (by omega)), ⟨by rw [hf 22 (by omega)]; exact r4, fun k hk => (r5 k hk).fr (hf _ (by omega)) (hf _ (by omega)) (hf _ (by omega))⟩, ⟨by rw [hf 48 (by omega)]; exact r6, fun k hk => (r7 k hk).fr (hf _ (by omega)) (hf _ (by omega)) (hf _ (by omega))⟩, ⟨zs, ?_, r9⟩, by rw [ht]; exact r10, fun k hk => by rw [hf 2 (by omega)]; exact r11 k hk⟩
  unfold ZX
  rw [hf 56 (by omega), hf 57 (by omega), hf 58 (by omega), hf 59 (by omega)]
  exact r8
theorem RX.fq {h h' : Hp} {X : XS} (hr : RX h X) (hv : VX X) (hf : FQ h h') : RX h' X := hr.gen hv (hr.1.fq hf) (fun o ho => hf o (by omega)) (by rw [hf 1 (by omega)])
/-- a number between its bounds, as a Nat -/
def ix (x : Int32) (lo hi : Nat) : Option Nat := if nI lo ≤ x ∧ x ≤ nI hi then some x.toNatClampNeg else none
theorem ix_s {x : Int32} {lo hi j : Nat} (hl : lo < 2 ^ 31) (hh : hi < 2 ^ 31) (e : ix x lo hi = some j) : x = nI j ∧ lo ≤ j ∧ j ≤ hi := by
  unfold ix at e
  split at e
  · rename_i q
    have hx : ¬ x < 0 := fun z => by
      have q1 := q.1
      rw [Int32.le_iff_toInt_le, nI_toInt hl] at q1
      rw [Int32.lt_iff_toInt_lt] at z
      have : (0 : Int32).toInt = 0 := rfl
      omega
    obtain ⟨k, hk, rfl⟩ := nI_of hx
    rw [nI_clamp hk] at e
    have e := Option.some.inj e
    subst e
    exact ⟨rfl, (nI_leI hl hk).mp q.1, (nI_leI hk hh).mp q.2⟩
  · cases e
theorem ix_n {x : Int32} {lo hi : Nat} (e : ix x lo hi = none) : ¬ (nI lo ≤ x ∧ x ≤ nI hi) := by
  intro q
  unfold ix at e
  rw [if_pos q] at e
  cases e
theorem c_wiS {d lo hi j : Nat} {x : Int32} {h : Hp} (e : ix x lo hi = some j) : RT mX7_within d [.int x, .int (nI lo), .int (nI hi)] h (fun v h' => v = some (.int (nI 1)) ∧ h' = h) := by
  refine c_withinT ?_
  unfold ix at e
  split at e
  · assumption
  · cases e
theorem c_wiN {d lo hi : Nat} {x : Int32} {h : Hp} (e : ix x lo hi = none) : RT mX7_within d [.int x, .int (nI lo), .int (nI hi)] h (fun v h' => v = some (.int (nI 0)) ∧ h' = h) := c_withinF (ix_n e)
theorem c_isCS {d j : Nat} {i : Int32} {h : Hp} {X : XS} (hr : RX h X) (hv : VX X) (e : ix i 0 (xn X - 1) = some j) : RT mX7_isCousin (d + 1) [.ref 0, .int i] h (fun v h' => v = some (.int (nI 1)) ∧ h' = h) := by
  have e1 : h 4 5 = xn X := hr.1.1
  have h37 : 1 ≤ xn X := hv.1.1
  change AW mX7_isCousin _ 0 [some (.ref 0), some (.int i)] [] h _
  refine aw_iload_n dX7_isCousin_0 rfl rfl ?_
  refine aw_iconst (v := nI 0) dX7_isCousin_1 (by decide) ?_
  refine aw_aload_n dX7_isCousin_2 rfl rfl ?_
  refine aw_getR dX7_isCousin_3 fX7_19 (by first | assumption | rfl) (by rfl) ?_
  refine aw_callVF dX7_isCousin_6 kX7_113 (c_P_cousins) (by first | assumption | rfl) rfl rfl rfl (Nat.le_of_ble_eq_true rfl) (Nat.le_of_ble_eq_true rfl) ?_
  dsimp only [Option.toList, List.cons_append, List.nil_append, Nat.reduceAdd]
  rw [e1]
  refine aw_iconst (v := nI 1) dX7_isCousin_9 (by decide) ?_
  refine aw_isubN dX7_isCousin_10 (by omega) ?_
  refine aw_callSF dX7_isCousin_11 kX7_99 (c_wiS e) rfl rfl rfl (Nat.le_of_ble_eq_true rfl) (Nat.le_of_ble_eq_true rfl) ?_
  dsimp only [Option.toList, List.cons_append, List.nil_append, Nat.reduceAdd]
  refine aw_iret dX7_isCousin_14 rfl (by first | rfl | exact (pk_charN (by omega)).1 | decide) ?_
  exact ⟨rfl, rfl⟩
theorem c_isCN {d : Nat} {i : Int32} {h : Hp} {X : XS} (hr : RX h X) (hv : VX X) (e : ix i 0 (xn X - 1) = none) : RT mX7_isCousin (d + 1) [.ref 0, .int i] h (fun v h' => v = some (.int (nI 0)) ∧ h' = h) := by
  have e1 : h 4 5 = xn X := hr.1.1
  have h37 : 1 ≤ xn X := hv.1.1
  change AW mX7_isCousin _ 0 [some (.ref 0), some (.int i)] [] h _
  refine aw_iload_n dX7_isCousin_0 rfl rfl ?_
  refine aw_iconst (v := nI 0) dX7_isCousin_1 (by decide) ?_
  refine aw_aload_n dX7_isCousin_2 rfl rfl ?_
  refine aw_getR dX7_isCousin_3 fX7_19 (by first | assumption | rfl) (by rfl) ?_
  refine aw_callVF dX7_isCousin_6 kX7_113 (c_P_cousins) (by first | assumption | rfl) rfl rfl rfl (Nat.le_of_ble_eq_true rfl) (Nat.le_of_ble_eq_true rfl) ?_
  dsimp only [Option.toList, List.cons_append, List.nil_append, Nat.reduceAdd]
  rw [e1]
  refine aw_iconst (v := nI 1) dX7_isCousin_9 (by decide) ?_
  refine aw_isubN dX7_isCousin_10 (by omega) ?_
  refine aw_callSF dX7_isCousin_11 kX7_99 (c_wiN e) rfl rfl rfl (Nat.le_of_ble_eq_true rfl) (Nat.le_of_ble_eq_true rfl) ?_
  dsimp only [Option.toList, List.cons_append, List.nil_append, Nat.reduceAdd]
  refine aw_iret dX7_isCousin_14 rfl (by first | rfl | exact (pk_charN (by omega)).1 | decide) ?_
  exact ⟨rfl, rfl⟩
theorem c_isRS {d j : Nat} {i : Int32} {h : Hp} {X : XS} (hr : RX h X) (hv : VX X) (e : ix i 0 (xn X - 1) = some j) : RT mX7_isRoom (d + 1) [.ref 0, .int i] h (fun v h' => v = some (.int (nI 1)) ∧ h' = h) := by
  have e1 : h 4 6 = xn X := hr.1.2.1
  have h37 : 1 ≤ xn X := hv.1.1
  change AW mX7_isRoom _ 0 [some (.ref 0), some (.int i)] [] h _
  refine aw_iload_n dX7_isRoom_0 rfl rfl ?_
  refine aw_iconst (v := nI 0) dX7_isRoom_1 (by decide) ?_
  refine aw_aload_n dX7_isRoom_2 rfl rfl ?_
  refine aw_getR dX7_isRoom_3 fX7_19 (by first | assumption | rfl) (by rfl) ?_
  refine aw_callVF dX7_isRoom_6 kX7_261 (c_P_rooms) (by first | assumption | rfl) rfl rfl rfl (Nat.le_of_ble_eq_true rfl) (Nat.le_of_ble_eq_true rfl) ?_
  dsimp only [Option.toList, List.cons_append, List.nil_append, Nat.reduceAdd]
  rw [e1]
  refine aw_iconst (v := nI 1) dX7_isRoom_9 (by decide) ?_
  refine aw_isubN dX7_isRoom_10 (by omega) ?_
  refine aw_callSF dX7_isRoom_11 kX7_99 (c_wiS e) rfl rfl rfl (Nat.le_of_ble_eq_true rfl) (Nat.le_of_ble_eq_true rfl) ?_
  dsimp only [Option.toList, List.cons_append, List.nil_append, Nat.reduceAdd]
  refine aw_iret dX7_isRoom_14 rfl (by first | rfl | exact (pk_charN (by omega)).1 | decide) ?_
  exact ⟨rfl, rfl⟩
theorem c_isRN {d : Nat} {i : Int32} {h : Hp} {X : XS} (hr : RX h X) (hv : VX X) (e : ix i 0 (xn X - 1) = none) : RT mX7_isRoom (d + 1) [.ref 0, .int i] h (fun v h' => v = some (.int (nI 0)) ∧ h' = h) := by
  have e1 : h 4 6 = xn X := hr.1.2.1
  have h37 : 1 ≤ xn X := hv.1.1
  change AW mX7_isRoom _ 0 [some (.ref 0), some (.int i)] [] h _
  refine aw_iload_n dX7_isRoom_0 rfl rfl ?_
  refine aw_iconst (v := nI 0) dX7_isRoom_1 (by decide) ?_
  refine aw_aload_n dX7_isRoom_2 rfl rfl ?_
  refine aw_getR dX7_isRoom_3 fX7_19 (by first | assumption | rfl) (by rfl) ?_
  refine aw_callVF dX7_isRoom_6 kX7_261 (c_P_rooms) (by first | assumption | rfl) rfl rfl rfl (Nat.le_of_ble_eq_true rfl) (Nat.le_of_ble_eq_true rfl) ?_
  dsimp only [Option.toList, List.cons_append, List.nil_append, Nat.reduceAdd]
  rw [e1]
  refine aw_iconst (v := nI 1) dX7_isRoom_9 (by decide) ?_
  refine aw_isubN dX7_isRoom_10 (by omega) ?_
  refine aw_callSF dX7_isRoom_11 kX7_99 (c_wiN e) rfl rfl rfl (Nat.le_of_ble_eq_true rfl) (Nat.le_of_ble_eq_true rfl) ?_
  dsimp only [Option.toList, List.cons_append, List.nil_append, Nat.reduceAdd]
  refine aw_iret dX7_isRoom_14 rfl (by first | rfl | exact (pk_charN (by omega)).1 | decide) ?_
  exact ⟨rfl, rfl⟩
/-- a call's end: the answer, the state, the reference untouched -/
def QX (h : Hp) (X : XS) (a : Int32) : Option Value → Hp → Prop := fun v h' => v = some (.int a) ∧ RX h' X ∧ FX h h'
abbrev aBAD : Int32 := nI 4294967295
abbrev aNO : Int32 := nI 4294967294
abbrev aFULL : Int32 := nI 4294967293
abbrev aNONE : Int32 := nI 4294967292
/-- rooms behind t days from now -/
def rmX (X : XS) (t : Nat) : Nat → Nat := rmF (xS X) (xC X).2.1 (cL (xn X) (xC X)) (xC X).1 (xC X).2.2 t
theorem QX.same {h : Hp} {X : XS} {a : Int32} (hr : RX h X) : QX h X a (some (.int a)) h := ⟨rfl, hr, fun o _ => rfl⟩
theorem QX.fq {h h' : Hp} {X : XS} {a : Int32} (hr : RX h X) (hv : VX X) (hf : FQ h h') : QX h X a (some (.int a)) h' := ⟨rfl, hr.fq hv hf, hf.fx⟩
theorem VX.n {X : XS} (hv : VX X) : 1 ≤ xn X ∧ xn X ≤ 8 := ⟨hv.1.1, hv.1.2.1⟩
theorem c_Xbegin {d : Nat} {h : Hp} {X : XS} (hr : RX h X) (hv : VX X) : RT mX6_begin (d + 3) [.ref 60, .ref 16] h (fun v h' => v = none ∧ WS h' (xS X) (xC X).2.1 (cL (xn X) (xC X)) (xC X).1 (xC X).2.2 (fun _ => 0) 0 ∧ FW6 h h') := c_W_begin hr.1 hv.1 hr.2.1 hv.2.1.2.2 ⟨rfl, rfl, rfl⟩ (by decide)
/-! who has what -/
noncomputable def a_has (X : XS) (i t : Int32) : Int32 := match ix i 0 (xn X - 1) with
  | none => aBAD
  | some i => match ix t 0 120 with
    | none => aBAD
    | some t => nI (rmX X (t + 1) i)
theorem x_has {d : Nat} {h : Hp} {X : XS} {i t : Int32} (hr : RX h X) (hv : VX X) : RT mX7_has (d + 6) [.ref 0, .int i, .int t] h (QX h X (a_has X i t)) := by
  have hn := hv.n
  unfold a_has
  change AW mX7_has _ 0 [some (.ref 0), some (.int i), some (.int t)] [] h _
  cases ei : ix i 0 (xn X - 1) with
  | none =>
    refine aw_aload_n dX7_has_0 rfl rfl ?_
    refine aw_iload_n dX7_has_1 rfl rfl ?_
    refine aw_callVF dX7_has_2 kX7_116 (c_isCN hr hv ei) (by first | assumption | rfl) rfl rfl rfl (Nat.le_of_ble_eq_true rfl) (Nat.le_of_ble_eq_true rfl) ?_
    dsimp only [Option.toList, List.cons_append, List.nil_append, Nat.reduceAdd]
    refine aw_if_eqN (tgt := 18) dX7_has_5 (by decide) (by omega) (fun _ => ?_) (fun q => absurd q (by omega))
    refine aw_iconst (v := nI 4294967295) dX7_has_18 (by decide) ?_
    refine aw_iret dX7_has_19 rfl (by first | rfl | exact (pk_charN (by omega)).1 | decide) ?_
    exact QX.same hr
  | some i =>
    obtain ⟨rfl, hi1, hi2⟩ := ix_s (by omega) (by omega) ei
    dsimp only
    cases et : ix t 0 120 with
    | none =>
      refine aw_aload_n dX7_has_0 rfl rfl ?_
      refine aw_iload_n dX7_has_1 rfl rfl ?_
      refine aw_callVF dX7_has_2 kX7_116 (c_isCS hr hv ei) (by first | assumption | rfl) rfl rfl rfl (Nat.le_of_ble_eq_true rfl) (Nat.le_of_ble_eq_true rfl) ?_
      dsimp only [Option.toList, List.cons_append, List.nil_append, Nat.reduceAdd]
      refine aw_if_eqN (tgt := 18) dX7_has_5 (by decide) (by omega) (fun q => absurd q (by omega)) (fun _ => ?_)
      refine aw_iload_n dX7_has_8 rfl rfl ?_
      refine aw_iconst (v := nI 0) dX7_has_9 (by decide) ?_
      refine aw_bipush (v := nI 120) dX7_has_10 (by decide) ?_
      refine aw_callSF dX7_has_12 kX7_99 (c_wiN et) rfl rfl rfl (Nat.le_of_ble_eq_true rfl) (Nat.le_of_ble_eq_true rfl) ?_
      dsimp only [Option.toList, List.cons_append, List.nil_append, Nat.reduceAdd]
      refine aw_if_neN (tgt := 20) dX7_has_15 (by decide) (by omega) (fun q => absurd q (by omega)) (fun _ => ?_)
      refine aw_iconst (v := nI 4294967295) dX7_has_18 (by decide) ?_
      refine aw_iret dX7_has_19 rfl (by first | rfl | exact (pk_charN (by omega)).1 | decide) ?_
      exact QX.same hr
    | some t =>
      obtain ⟨rfl, ht1, ht2⟩ := ix_s (by omega) (by omega) et
      have hc1 := hv.2.1.1
      refine aw_aload_n dX7_has_0 rfl rfl ?_
      refine aw_iload_n dX7_has_1 rfl rfl ?_
      refine aw_callVF dX7_has_2 kX7_116 (c_isCS hr hv ei) (by first | assumption | rfl) rfl rfl rfl (Nat.le_of_ble_eq_true rfl) (Nat.le_of_ble_eq_true rfl) ?_
      dsimp only [Option.toList, List.cons_append, List.nil_append, Nat.reduceAdd]
      refine aw_if_eqN (tgt := 18) dX7_has_5 (by decide) (by omega) (fun q => absurd q (by omega)) (fun _ => ?_)
      refine aw_iload_n dX7_has_8 rfl rfl ?_
      refine aw_iconst (v := nI 0) dX7_has_9 (by decide) ?_
      refine aw_bipush (v := nI 120) dX7_has_10 (by decide) ?_
      refine aw_callSF dX7_has_12 kX7_99 (c_wiS et) rfl rfl rfl (Nat.le_of_ble_eq_true rfl) (Nat.le_of_ble_eq_true rfl) ?_
      dsimp only [Option.toList, List.cons_append, List.nil_append, Nat.reduceAdd]
      refine aw_if_neN (tgt := 20) dX7_has_15 (by decide) (by omega) (fun _ => ?_) (fun q => absurd q (by omega))
      refine aw_aload_n dX7_has_20 rfl rfl ?_
      refine aw_getR dX7_has_21 fX7_60 (by first | assumption | rfl) (by rfl) ?_
      refine aw_aload_n dX7_has_24 rfl rfl ?_
      refine aw_getR dX7_has_25 fX7_29 (by first | assumption | rfl) (by rfl) ?_
      refine aw_callV dX7_has_28 kX7_133 (c_Xbegin hr hv) (by first | assumption | rfl) rfl rfl rfl (Nat.le_of_ble_eq_true rfl) (Nat.le_of_ble_eq_true rfl) ?_
      rintro _ h2 ⟨rfl, w2, f2⟩
      dsimp only [Option.toList, List.cons_append, List.nil_append, Nat.reduceAdd]
      refine aw_aload_n dX7_has_31 rfl rfl ?_
      refine aw_getR dX7_has_32 fX7_60 (by first | assumption | rfl) (by rfl) ?_
      refine aw_iload_n dX7_has_35 rfl rfl ?_
      refine aw_iconst (v := nI 1) dX7_has_36 (by decide) ?_
      refine aw_iaddN dX7_has_37 ?_
      refine aw_callV dX7_has_38 kX7_159 (c_W_go w2 (cL_ok hv.1 hv.2.1) hv.2.1.2.1 (by omega)) (by first | assumption | rfl) rfl rfl rfl (Nat.le_of_ble_eq_true rfl) (Nat.le_of_ble_eq_true rfl) ?_
      rintro _ h3 ⟨rfl, w3, f3⟩
      dsimp only [Option.toList, List.cons_append, List.nil_append, Nat.reduceAdd]
      refine aw_aload_n dX7_has_41 rfl rfl ?_
      refine aw_getR dX7_has_42 fX7_60 (by first | assumption | rfl) (by rfl) ?_
      refine aw_callVF dX7_has_45 kX7_162 (c_W_standing) (by first | assumption | rfl) rfl rfl rfl (Nat.le_of_ble_eq_true rfl) (Nat.le_of_ble_eq_true rfl) ?_
      dsimp only [Option.toList, List.cons_append, List.nil_append, Nat.reduceAdd]
      refine aw_iload_n dX7_has_48 rfl rfl ?_
      refine aw_callVF dX7_has_49 kX7_130 (c_S_roomOf (by first | assumption | exact ⟨rfl, rfl, rfl⟩) (by omega)) (by first | assumption | rfl) rfl rfl rfl (Nat.le_of_ble_eq_true rfl) (Nat.le_of_ble_eq_true rfl) ?_
      dsimp only [Option.toList, List.cons_append, List.nil_append, Nat.reduceAdd]
      rw [(w3.2.2.2 i (show i < xn X by omega)).1]
      refine aw_iret dX7_has_52 rfl (by first | rfl | exact (pk_charN (by omega)).1 | decide) ?_
      exact QX.fq hr hv (FQ.of (f2.trans f3))
noncomputable def a_whose (X : XS) (r t : Int32) : Int32 := match ix r 0 (xn X - 1) with
  | none => aBAD
  | some r => match ix t 0 120 with
    | none => aBAD
    | some t => nI (own (rmX X (t + 1)) r (xn X) 0)
theorem rmX_pm {X : XS} (hv : VX X) (t : Nat) : PM (xn X) (rmX X t) := PM_rmF hv.1 (fun q hq => ((cL_ok hv.1 hv.2.1).2 q hq).2) hv.2.1.2.1 t
theorem x_whose {d : Nat} {h : Hp} {X : XS} {r t : Int32} (hr : RX h X) (hv : VX X) : RT mX7_whose (d + 6) [.ref 0, .int r, .int t] h (QX h X (a_whose X r t)) := by
  have hn := hv.n
  unfold a_whose
  change AW mX7_whose _ 0 [some (.ref 0), some (.int r), some (.int t)] [] h _
  cases ei : ix r 0 (xn X - 1) with
  | none =>
    refine aw_aload_n dX7_whose_0 rfl rfl ?_
    refine aw_iload_n dX7_whose_1 rfl rfl ?_
    refine aw_callVF dX7_whose_2 kX7_140 (c_isRN hr hv ei) (by first | assumption | rfl) rfl rfl rfl (Nat.le_of_ble_eq_true rfl) (Nat.le_of_ble_eq_true rfl) ?_
    dsimp only [Option.toList, List.cons_append, List.nil_append, Nat.reduceAdd]
    refine aw_if_eqN (tgt := 18) dX7_whose_5 (by decide) (by omega) (fun _ => ?_) (fun q => absurd q (by omega))
    refine aw_iconst (v := nI 4294967295) dX7_whose_18 (by decide) ?_
    refine aw_iret dX7_whose_19 rfl (by first | rfl | exact (pk_charN (by omega)).1 | decide) ?_
    exact QX.same hr
  | some r =>
    obtain ⟨rfl, hi1, hi2⟩ := ix_s (by omega) (by omega) ei
    dsimp only
    cases et : ix t 0 120 with
    | none =>
      refine aw_aload_n dX7_whose_0 rfl rfl ?_
      refine aw_iload_n dX7_whose_1 rfl rfl ?_
      refine aw_callVF dX7_whose_2 kX7_140 (c_isRS hr hv ei) (by first | assumption | rfl) rfl rfl rfl (Nat.le_of_ble_eq_true rfl) (Nat.le_of_ble_eq_true rfl) ?_
      dsimp only [Option.toList, List.cons_append, List.nil_append, Nat.reduceAdd]
      refine aw_if_eqN (tgt := 18) dX7_whose_5 (by decide) (by omega) (fun q => absurd q (by omega)) (fun _ => ?_)
      refine aw_iload_n dX7_whose_8 rfl rfl ?_
      refine aw_iconst (v := nI 0) dX7_whose_9 (by decide) ?_
      refine aw_bipush (v := nI 120) dX7_whose_10 (by decide) ?_
      refine aw_callSF dX7_whose_12 kX7_99 (c_wiN et) rfl rfl rfl (Nat.le_of_ble_eq_true rfl) (Nat.le_of_ble_eq_true rfl) ?_
      dsimp only [Option.toList, List.cons_append, List.nil_append, Nat.reduceAdd]
      refine aw_if_neN (tgt := 20) dX7_whose_15 (by decide) (by omega) (fun q => absurd q (by omega)) (fun _ => ?_)
      refine aw_iconst (v := nI 4294967295) dX7_whose_18 (by decide) ?_
      refine aw_iret dX7_whose_19 rfl (by first | rfl | exact (pk_charN (by omega)).1 | decide) ?_
      exact QX.same hr
    | some t =>
      obtain ⟨rfl, ht1, ht2⟩ := ix_s (by omega) (by omega) et
      have hc1 := hv.2.1.1
      have hpm := rmX_pm hv (t + 1)
      refine aw_aload_n dX7_whose_0 rfl rfl ?_
      refine aw_iload_n dX7_whose_1 rfl rfl ?_
      refine aw_callVF dX7_whose_2 kX7_140 (c_isRS hr hv ei) (by first | assumption | rfl) rfl rfl rfl (Nat.le_of_ble_eq_true rfl) (Nat.le_of_ble_eq_true rfl) ?_
      dsimp only [Option.toList, List.cons_append, List.nil_append, Nat.reduceAdd]
      refine aw_if_eqN (tgt := 18) dX7_whose_5 (by decide) (by omega) (fun q => absurd q (by omega)) (fun _ => ?_)
      refine aw_iload_n dX7_whose_8 rfl rfl ?_
      refine aw_iconst (v := nI 0) dX7_whose_9 (by decide) ?_
      refine aw_bipush (v := nI 120) dX7_whose_10 (by decide) ?_
      refine aw_callSF dX7_whose_12 kX7_99 (c_wiS et) rfl rfl rfl (Nat.le_of_ble_eq_true rfl) (Nat.le_of_ble_eq_true rfl) ?_
      dsimp only [Option.toList, List.cons_append, List.nil_append, Nat.reduceAdd]
      refine aw_if_neN (tgt := 20) dX7_whose_15 (by decide) (by omega) (fun _ => ?_) (fun q => absurd q (by omega))
      refine aw_aload_n dX7_whose_20 rfl rfl ?_
      refine aw_getR dX7_whose_21 fX7_60 (by first | assumption | rfl) (by rfl) ?_
      refine aw_aload_n dX7_whose_24 rfl rfl ?_
      refine aw_getR dX7_whose_25 fX7_29 (by first | assumption | rfl) (by rfl) ?_
      refine aw_callV dX7_whose_28 kX7_133 (c_Xbegin hr hv) (by first | assumption | rfl) rfl rfl rfl (Nat.le_of_ble_eq_true rfl) (Nat.le_of_ble_eq_true rfl) ?_
      rintro _ h2 ⟨rfl, w2, f2⟩
      dsimp only [Option.toList, List.cons_append, List.nil_append, Nat.reduceAdd]
      refine aw_aload_n dX7_whose_31 rfl rfl ?_
      refine aw_getR dX7_whose_32 fX7_60 (by first | assumption | rfl) (by rfl) ?_
      refine aw_iload_n dX7_whose_35 rfl rfl ?_
      refine aw_iconst (v := nI 1) dX7_whose_36 (by decide) ?_
      refine aw_iaddN dX7_whose_37 ?_
      refine aw_callV dX7_whose_38 kX7_159 (c_W_go w2 (cL_ok hv.1 hv.2.1) hv.2.1.2.1 (by omega)) (by first | assumption | rfl) rfl rfl rfl (Nat.le_of_ble_eq_true rfl) (Nat.le_of_ble_eq_true rfl) ?_
      rintro _ h3 ⟨rfl, w3, f3⟩
      dsimp only [Option.toList, List.cons_append, List.nil_append, Nat.reduceAdd]
      refine aw_aload_n dX7_whose_41 rfl rfl ?_
      refine aw_getR dX7_whose_42 fX7_60 (by first | assumption | rfl) (by rfl) ?_
      refine aw_callVF dX7_whose_45 kX7_162 (c_W_standing) (by first | assumption | rfl) rfl rfl rfl (Nat.le_of_ble_eq_true rfl) (Nat.le_of_ble_eq_true rfl) ?_
      dsimp only [Option.toList, List.cons_append, List.nil_append, Nat.reduceAdd]
      refine aw_iload_n dX7_whose_48 rfl rfl ?_
      refine aw_aload_n dX7_whose_49 rfl rfl ?_
      refine aw_getR dX7_whose_50 fX7_19 (by first | assumption | rfl) (by rfl) ?_
      refine aw_callVF dX7_whose_53 kX7_113 (c_P_cousins) (by first | assumption | rfl) rfl rfl rfl (Nat.le_of_ble_eq_true rfl) (Nat.le_of_ble_eq_true rfl) ?_
      dsimp only [Option.toList, List.cons_append, List.nil_append, Nat.reduceAdd]
      have e62 : ∀ i, i < xn X → h3 62 i = rmX X (t + 1) i := fun i hi => (w3.2.2.2 i hi).1
      rw [w3.1.1]
      refine aw_callVF dX7_whose_56 kX7_149 (c_S_ownerOf ⟨rfl, rfl, rfl⟩ hn.2 (by omega) (fun i hi => by rw [e62 i hi]; have := hpm.1 i hi; omega)) (by first | assumption | rfl) rfl rfl rfl (Nat.le_of_ble_eq_true rfl) (Nat.le_of_ble_eq_true rfl) ?_
      dsimp only [Option.toList, List.cons_append, List.nil_append, Nat.reduceAdd]
      have eo : own (h3 62) r (xn X) 0 = own (rmX X (t + 1)) r (xn X) 0 := own_congr (xn X) 0 (fun i _ hi => e62 i (by omega))
      rw [eo]
      refine aw_iret dX7_whose_59 rfl (by first | rfl | exact (pk_charN (by omega)).1 | decide) ?_
      exact QX.fq hr hv (FQ.of (f2.trans f3))
noncomputable def a_sun (X : XS) (i t : Int32) : Int32 := match ix i 0 (xn X - 1) with
  | none => aBAD
  | some i => match ix t 1 120 with
    | none => aBAD
    | some t => nI (vSun (xS X) (xC X) i t (xC X).2.2)
theorem x_sun {d : Nat} {h : Hp} {X : XS} {i t : Int32} (hr : RX h X) (hv : VX X) : RT mX7_sun (d + 6) [.ref 0, .int i, .int t] h (QX h X (a_sun X i t)) := by
  have hn := hv.n
  unfold a_sun
  change AW mX7_sun _ 0 [some (.ref 0), some (.int i), some (.int t)] [] h _
  cases ei : ix i 0 (xn X - 1) with
  | none =>
    refine aw_aload_n dX7_sun_0 rfl rfl ?_
    refine aw_iload_n dX7_sun_1 rfl rfl ?_
    refine aw_callVF dX7_sun_2 kX7_116 (c_isCN hr hv ei) (by first | assumption | rfl) rfl rfl rfl (Nat.le_of_ble_eq_true rfl) (Nat.le_of_ble_eq_true rfl) ?_
    dsimp only [Option.toList, List.cons_append, List.nil_append, Nat.reduceAdd]
    refine aw_if_eqN (tgt := 18) dX7_sun_5 (by decide) (by omega) (fun _ => ?_) (fun q => absurd q (by omega))
    refine aw_iconst (v := nI 4294967295) dX7_sun_18 (by decide) ?_
    refine aw_iret dX7_sun_19 rfl (by first | rfl | exact (pk_charN (by omega)).1 | decide) ?_
    exact QX.same hr
  | some i =>
    obtain ⟨rfl, hi1, hi2⟩ := ix_s (by omega) (by omega) ei
    dsimp only
    cases et : ix t 1 120 with
    | none =>
      refine aw_aload_n dX7_sun_0 rfl rfl ?_
      refine aw_iload_n dX7_sun_1 rfl rfl ?_
      refine aw_callVF dX7_sun_2 kX7_116 (c_isCS hr hv ei) (by first | assumption | rfl) rfl rfl rfl (Nat.le_of_ble_eq_true rfl) (Nat.le_of_ble_eq_true rfl) ?_
      dsimp only [Option.toList, List.cons_append, List.nil_append, Nat.reduceAdd]
      refine aw_if_eqN (tgt := 18) dX7_sun_5 (by decide) (by omega) (fun q => absurd q (by omega)) (fun _ => ?_)
      refine aw_iload_n dX7_sun_8 rfl rfl ?_
      refine aw_iconst (v := nI 1) dX7_sun_9 (by decide) ?_
      refine aw_bipush (v := nI 120) dX7_sun_10 (by decide) ?_
      refine aw_callSF dX7_sun_12 kX7_99 (c_wiN et) rfl rfl rfl (Nat.le_of_ble_eq_true rfl) (Nat.le_of_ble_eq_true rfl) ?_
      dsimp only [Option.toList, List.cons_append, List.nil_append, Nat.reduceAdd]
      refine aw_if_neN (tgt := 20) dX7_sun_15 (by decide) (by omega) (fun q => absurd q (by omega)) (fun _ => ?_)
      refine aw_iconst (v := nI 4294967295) dX7_sun_18 (by decide) ?_
      refine aw_iret dX7_sun_19 rfl (by first | rfl | exact (pk_charN (by omega)).1 | decide) ?_
      exact QX.same hr
    | some t =>
      obtain ⟨rfl, ht1, ht2⟩ := ix_s (by omega) (by omega) et
      have hc1 := hv.2.1.1
      refine aw_aload_n dX7_sun_0 rfl rfl ?_
      refine aw_iload_n dX7_sun_1 rfl rfl ?_
      refine aw_callVF dX7_sun_2 kX7_116 (c_isCS hr hv ei) (by first | assumption | rfl) rfl rfl rfl (Nat.le_of_ble_eq_true rfl) (Nat.le_of_ble_eq_true rfl) ?_
      dsimp only [Option.toList, List.cons_append, List.nil_append, Nat.reduceAdd]
      refine aw_if_eqN (tgt := 18) dX7_sun_5 (by decide) (by omega) (fun q => absurd q (by omega)) (fun _ => ?_)
      refine aw_iload_n dX7_sun_8 rfl rfl ?_
      refine aw_iconst (v := nI 1) dX7_sun_9 (by decide) ?_
      refine aw_bipush (v := nI 120) dX7_sun_10 (by decide) ?_
      refine aw_callSF dX7_sun_12 kX7_99 (c_wiS et) rfl rfl rfl (Nat.le_of_ble_eq_true rfl) (Nat.le_of_ble_eq_true rfl) ?_
      dsimp only [Option.toList, List.cons_append, List.nil_append, Nat.reduceAdd]
      refine aw_if_neN (tgt := 20) dX7_sun_15 (by decide) (by omega) (fun _ => ?_) (fun q => absurd q (by omega))
      refine aw_aload_n dX7_sun_20 rfl rfl ?_
      refine aw_getR dX7_sun_21 fX7_60 (by first | assumption | rfl) (by rfl) ?_
      refine aw_aload_n dX7_sun_24 rfl rfl ?_
      refine aw_getR dX7_sun_25 fX7_29 (by first | assumption | rfl) (by rfl) ?_
      refine aw_callV dX7_sun_28 kX7_133 (c_Xbegin hr hv) (by first | assumption | rfl) rfl rfl rfl (Nat.le_of_ble_eq_true rfl) (Nat.le_of_ble_eq_true rfl) ?_
      rintro _ h2 ⟨rfl, w2, f2⟩
      dsimp only [Option.toList, List.cons_append, List.nil_append, Nat.reduceAdd]
      refine aw_aload_n dX7_sun_31 rfl rfl ?_
      refine aw_getR dX7_sun_32 fX7_60 (by first | assumption | rfl) (by rfl) ?_
      refine aw_iload_n dX7_sun_35 rfl rfl ?_
      refine aw_callV dX7_sun_36 kX7_159 (c_W_go w2 (cL_ok hv.1 hv.2.1) hv.2.1.2.1 (by omega)) (by first | assumption | rfl) rfl rfl rfl (Nat.le_of_ble_eq_true rfl) (Nat.le_of_ble_eq_true rfl) ?_
      rintro _ h3 ⟨rfl, w3, f3⟩
      dsimp only [Option.toList, List.cons_append, List.nil_append, Nat.reduceAdd]
      refine aw_aload_n dX7_sun_39 rfl rfl ?_
      refine aw_getR dX7_sun_40 fX7_60 (by first | assumption | rfl) (by rfl) ?_
      refine aw_iload_n dX7_sun_43 rfl rfl ?_
      refine aw_callVF dX7_sun_44 kX7_181 (c_W_sunTogether (by omega)) (by first | assumption | rfl) rfl rfl rfl (Nat.le_of_ble_eq_true rfl) (Nat.le_of_ble_eq_true rfl) ?_
      dsimp only [Option.toList, List.cons_append, List.nil_append, Nat.reduceAdd]
      have e65 : h3 65 i = vSun (xS X) (xC X) i t (xC X).2.2 := by
        have z := (w3.2.2.2 i (show i < xn X by omega)).2.2.2
        dsimp only at z
        rw [z, Nat.zero_add]
        rfl
      rw [e65]
      refine aw_iret dX7_sun_47 rfl (by first | rfl | exact (pk_charN (by omega)).1 | decide) ?_
      exact QX.fq hr hv (FQ.of (f2.trans f3))
noncomputable def a_cold (X : XS) (t : Int32) : Int32 := match ix t 0 120 with
  | none => aBAD
  | some t => nI (cbN (xS X) ((xC X).1 + t) (rmX X (t + 1)) (xn X))
theorem x_cold {d : Nat} {h : Hp} {X : XS} {t : Int32} (hr : RX h X) (hv : VX X) : RT mX7_cold (d + 6) [.ref 0, .int t] h (QX h X (a_cold X t)) := by
  have hn := hv.n
  unfold a_cold
  change AW mX7_cold _ 0 [some (.ref 0), some (.int t)] [] h _
  cases et : ix t 0 120 with
  | none =>
    refine aw_iload_n dX7_cold_0 rfl rfl ?_
    refine aw_iconst (v := nI 0) dX7_cold_1 (by decide) ?_
    refine aw_bipush (v := nI 120) dX7_cold_2 (by decide) ?_
    refine aw_callSF dX7_cold_4 kX7_99 (c_wiN et) rfl rfl rfl (Nat.le_of_ble_eq_true rfl) (Nat.le_of_ble_eq_true rfl) ?_
    dsimp only [Option.toList, List.cons_append, List.nil_append, Nat.reduceAdd]
    refine aw_if_neN (tgt := 12) dX7_cold_7 (by decide) (by omega) (fun q => absurd q (by omega)) (fun _ => ?_)
    refine aw_iconst (v := nI 4294967295) dX7_cold_10 (by decide) ?_
    refine aw_iret dX7_cold_11 rfl (by first | rfl | exact (pk_charN (by omega)).1 | decide) ?_
    exact QX.same hr
  | some t =>
    obtain ⟨rfl, ht1, ht2⟩ := ix_s (by omega) (by omega) et
    have hc1 := hv.2.1.1
    refine aw_iload_n dX7_cold_0 rfl rfl ?_
    refine aw_iconst (v := nI 0) dX7_cold_1 (by decide) ?_
    refine aw_bipush (v := nI 120) dX7_cold_2 (by decide) ?_
    refine aw_callSF dX7_cold_4 kX7_99 (c_wiS et) rfl rfl rfl (Nat.le_of_ble_eq_true rfl) (Nat.le_of_ble_eq_true rfl) ?_
    dsimp only [Option.toList, List.cons_append, List.nil_append, Nat.reduceAdd]
    refine aw_if_neN (tgt := 12) dX7_cold_7 (by decide) (by omega) (fun _ => ?_) (fun q => absurd q (by omega))
    refine aw_aload_n dX7_cold_12 rfl rfl ?_
    refine aw_getR dX7_cold_13 fX7_60 (by first | assumption | rfl) (by rfl) ?_
    refine aw_aload_n dX7_cold_16 rfl rfl ?_
    refine aw_getR dX7_cold_17 fX7_29 (by first | assumption | rfl) (by rfl) ?_
    refine aw_callV dX7_cold_20 kX7_133 (c_Xbegin hr hv) (by first | assumption | rfl) rfl rfl rfl (Nat.le_of_ble_eq_true rfl) (Nat.le_of_ble_eq_true rfl) ?_
    rintro _ h2 ⟨rfl, w2, f2⟩
    dsimp only [Option.toList, List.cons_append, List.nil_append, Nat.reduceAdd]
    refine aw_aload_n dX7_cold_23 rfl rfl ?_
    refine aw_getR dX7_cold_24 fX7_60 (by first | assumption | rfl) (by rfl) ?_
    refine aw_iload_n dX7_cold_27 rfl rfl ?_
    refine aw_callV dX7_cold_28 kX7_184 (c_W_goBehind w2 (cL_ok hv.1 hv.2.1) hv.2.1.2.1 (by omega)) (by first | assumption | rfl) rfl rfl rfl (Nat.le_of_ble_eq_true rfl) (Nat.le_of_ble_eq_true rfl) ?_
    rintro _ h3 ⟨rfl, w3, f3⟩
    dsimp only [Option.toList, List.cons_append, List.nil_append, Nat.reduceAdd]
    refine aw_aload_n dX7_cold_31 rfl rfl ?_
    refine aw_getR dX7_cold_32 fX7_60 (by first | assumption | rfl) (by rfl) ?_
    refine aw_callVF dX7_cold_35 kX7_187 (c_W_coldBits w3 (cL_ok hv.1 hv.2.1) (rmX_pm hv (t + 1)) (by omega)) (by first | assumption | rfl) rfl rfl rfl (Nat.le_of_ble_eq_true rfl) (Nat.le_of_ble_eq_true rfl) ?_
    dsimp only [Option.toList, List.cons_append, List.nil_append, Nat.reduceAdd]
    refine aw_iret dX7_cold_38 rfl (by first | rfl | exact (pk_charN (by omega)).1 | decide) ?_
    exact QX.fq hr hv (FQ.of (f2.trans f3))
noncomputable def a_want (X : XS) (t : Int32) : Int32 := match ix t 1 120 with
  | none => aBAD
  | some t => nI (vCold (xS X) (xC X) t (xC X).2.2)
theorem x_want {d : Nat} {h : Hp} {X : XS} {t : Int32} (hr : RX h X) (hv : VX X) : RT mX7_want (d + 6) [.ref 0, .int t] h (QX h X (a_want X t)) := by
  have hn := hv.n
  unfold a_want
  change AW mX7_want _ 0 [some (.ref 0), some (.int t)] [] h _
  cases et : ix t 1 120 with
  | none =>
    refine aw_iload_n dX7_want_0 rfl rfl ?_
    refine aw_iconst (v := nI 1) dX7_want_1 (by decide) ?_
    refine aw_bipush (v := nI 120) dX7_want_2 (by decide) ?_
    refine aw_callSF dX7_want_4 kX7_99 (c_wiN et) rfl rfl rfl (Nat.le_of_ble_eq_true rfl) (Nat.le_of_ble_eq_true rfl) ?_
    dsimp only [Option.toList, List.cons_append, List.nil_append, Nat.reduceAdd]
    refine aw_if_neN (tgt := 12) dX7_want_7 (by decide) (by omega) (fun q => absurd q (by omega)) (fun _ => ?_)
    refine aw_iconst (v := nI 4294967295) dX7_want_10 (by decide) ?_
    refine aw_iret dX7_want_11 rfl (by first | rfl | exact (pk_charN (by omega)).1 | decide) ?_
    exact QX.same hr
  | some t =>
    obtain ⟨rfl, ht1, ht2⟩ := ix_s (by omega) (by omega) et
    have hc1 := hv.2.1.1
    refine aw_iload_n dX7_want_0 rfl rfl ?_
    refine aw_iconst (v := nI 1) dX7_want_1 (by decide) ?_
    refine aw_bipush (v := nI 120) dX7_want_2 (by decide) ?_
    refine aw_callSF dX7_want_4 kX7_99 (c_wiS et) rfl rfl rfl (Nat.le_of_ble_eq_true rfl) (Nat.le_of_ble_eq_true rfl) ?_
    dsimp only [Option.toList, List.cons_append, List.nil_append, Nat.reduceAdd]
    refine aw_if_neN (tgt := 12) dX7_want_7 (by decide) (by omega) (fun _ => ?_) (fun q => absurd q (by omega))
    refine aw_aload_n dX7_want_12 rfl rfl ?_
    refine aw_getR dX7_want_13 fX7_60 (by first | assumption | rfl) (by rfl) ?_
    refine aw_aload_n dX7_want_16 rfl rfl ?_
    refine aw_getR dX7_want_17 fX7_29 (by first | assumption | rfl) (by rfl) ?_
    refine aw_callV dX7_want_20 kX7_133 (c_Xbegin hr hv) (by first | assumption | rfl) rfl rfl rfl (Nat.le_of_ble_eq_true rfl) (Nat.le_of_ble_eq_true rfl) ?_
    rintro _ h2 ⟨rfl, w2, f2⟩
    dsimp only [Option.toList, List.cons_append, List.nil_append, Nat.reduceAdd]
    refine aw_aload_n dX7_want_23 rfl rfl ?_
    refine aw_getR dX7_want_24 fX7_60 (by first | assumption | rfl) (by rfl) ?_
    refine aw_iload_n dX7_want_27 rfl rfl ?_
    refine aw_callV dX7_want_28 kX7_159 (c_W_go w2 (cL_ok hv.1 hv.2.1) hv.2.1.2.1 (by omega)) (by first | assumption | rfl) rfl rfl rfl (Nat.le_of_ble_eq_true rfl) (Nat.le_of_ble_eq_true rfl) ?_
    rintro _ h3 ⟨rfl, w3, f3⟩
    dsimp only [Option.toList, List.cons_append, List.nil_append, Nat.reduceAdd]
    refine aw_aload_n dX7_want_31 rfl rfl ?_
    refine aw_getR dX7_want_32 fX7_60 (by first | assumption | rfl) (by rfl) ?_
    refine aw_callVF dX7_want_35 kX7_190 (c_W_coldTogether) (by first | assumption | rfl) rfl rfl rfl (Nat.le_of_ble_eq_true rfl) (Nat.le_of_ble_eq_true rfl) ?_
    dsimp only [Option.toList, List.cons_append, List.nil_append, Nat.reduceAdd]
    rw [w3.2.2.1, Nat.zero_add]
    refine aw_iret dX7_want_38 rfl (by first | rfl | exact (pk_charN (by omega)).1 | decide) ?_
    exact QX.fq hr hv (FQ.of (f2.trans f3))
