/-! houses and acts -/
theorem c_T_isFull {d : Nat} {h : Hp} (hq : h 1 2 ≤ 200) : RT mX5_isFull d [.ref 1] h (fun v h' => v = some (.int (nI (if h 1 2 = 200 then 1 else 0))) ∧ h' = h) := by
  change AW mX5_isFull _ 0 [some (.ref 1)] [] h _
  refine aw_aload_n dX5_isFull_0 rfl rfl ?_
  refine aw_getI dX5_isFull_1 fX5_19 (by first | assumption | rfl) (by rfl) ?_
  refine aw_sipush (v := nI 200) dX5_isFull_4 (by decide) ?_
  refine aw_icmp_ltN (tgt := 14) dX5_isFull_7 (by decide) (by omega) (by omega) (fun c7 => ?_) (fun c7 => ?_)
  · rw [if_neg (by omega)]
    refine aw_iconst (v := nI 0) dX5_isFull_14 (by decide) ?_
    refine aw_iret dX5_isFull_15 rfl (by first | rfl | exact (pk_charN (by omega)).1 | decide) ?_
    exact ⟨rfl, rfl⟩
  · rw [if_pos (by omega)]
    refine aw_iconst (v := nI 1) dX5_isFull_10 (by decide) ?_
    refine aw_goto (tgt := 15) dX5_isFull_11 (by decide) ?_
    refine aw_iret dX5_isFull_15 rfl (by first | rfl | exact (pk_charN (by omega)).1 | decide) ?_
    exact ⟨rfl, rfl⟩
theorem c_T_size {d : Nat} {h : Hp} : RT mX5_size d [.ref 1] h (fun v h' => v = some (.int (nI (h 1 2))) ∧ h' = h) := by
  change AW mX5_size _ 0 [some (.ref 1)] [] h _
  refine aw_aload_n dX5_size_0 rfl rfl ?_
  refine aw_getI dX5_size_1 fX5_19 (by first | assumption | rfl) (by rfl) ?_
  refine aw_iret dX5_size_4 rfl (by first | rfl | exact (pk_charN (by omega)).1 | decide) ?_
  exact ⟨rfl, rfl⟩
theorem c_T_clear {d : Nat} {h : Hp} : RT mX5_clear d [.ref 1] h (fun v h' => v = none ∧ h' = hw h 1 2 0) := by
  change AW mX5_clear _ 0 [some (.ref 1)] [] h _
  refine aw_aload_n dX5_clear_0 rfl rfl ?_
  refine aw_iconst (v := nI 0) dX5_clear_1 (by decide) ?_
  refine aw_putfield dX5_clear_2 gX5_19 (by first | assumption | rfl) (by rfl) ?_
  refine aw_vret dX5_clear_5 rfl ?_
  exact ⟨rfl, rfl⟩
theorem c_T_add {d x : Nat} {h : Hp} (hq : h 1 2 < 200) (hx : x ≤ 126) : RT mX5_add d [.ref 1, .int (nI x)] h (fun v h' => v = none ∧ h' = hw (hw h 2 (h 1 2) x) 1 2 (h 1 2 + 1)) := by
  change AW mX5_add _ 0 [some (.ref 1), some (.int (nI x))] [] h _
  refine aw_aload_n dX5_add_0 rfl rfl ?_
  refine aw_getI dX5_add_1 fX5_19 (by first | assumption | rfl) (by rfl) ?_
  refine aw_if_ltN (tgt := 39) dX5_add_4 (by decide) (by omega) (fun q => absurd q (by omega)) (fun _ => ?_)
  refine aw_aload_n dX5_add_7 rfl rfl ?_
  refine aw_getI dX5_add_8 fX5_19 (by first | assumption | rfl) (by rfl) ?_
  refine aw_aload_n dX5_add_11 rfl rfl ?_
  refine aw_getR dX5_add_12 fX5_9 (by first | assumption | rfl) (by rfl) ?_
  refine aw_alenC dX5_add_15 (by first | assumption | rfl) ?_
  refine aw_icmp_geN (tgt := 39) dX5_add_16 (by decide) (by omega) (by omega) (fun q => absurd q (by omega)) (fun _ => ?_)
  refine aw_aload_n dX5_add_19 rfl rfl ?_
  refine aw_getR dX5_add_20 fX5_9 (by first | assumption | rfl) (by rfl) ?_
  refine aw_aload_n dX5_add_23 rfl rfl ?_
  refine aw_getI dX5_add_24 fX5_19 (by first | assumption | rfl) (by rfl) ?_
  refine aw_iload_n dX5_add_27 rfl rfl ?_
  refine aw_castore dX5_add_28 (by first | assumption | rfl) (by omega) (by omega) (by omega) ?_
  refine aw_aload_n dX5_add_29 rfl rfl ?_
  refine aw_dup dX5_add_30 rfl ?_
  refine aw_getI dX5_add_31 fX5_19 (by first | assumption | rfl) (by rfl) ?_
  refine aw_iconst (v := nI 1) dX5_add_34 (by decide) ?_
  refine aw_iaddN dX5_add_35 ?_
  rw [hw_ne (by decide)]
  refine aw_putfield dX5_add_36 gX5_19 (by first | assumption | rfl) (by rfl) ?_
  refine aw_vret dX5_add_39 rfl ?_
  exact ⟨rfl, rfl⟩
/-- the answer and the state behind a call -/
abbrev AX : Type := Int32 × XS
def QY (h : Hp) (r : AX) : Option Value → Hp → Prop := QX h r.2 r.1
noncomputable def a_write (X : XS) (x : Int32) : AX := match ix x 32 126 with
  | none => (aBAD, X)
  | some j => if (xT X).1 = 200 then (aFULL, X) else (nI ((xT X).1 + 1), setT X ((xT X).1 + 1, fu (xT X).2 (xT X).1 j))
theorem RX.text {h h' : Hp} {X : XS} {t : Nat × (Nat → Nat)} (hr : RX h X) (hf : ∀ o, o ≠ 1 → o ≠ 2 → h' o = h o) (h1 : h' 1 2 = t.1) (h2 : ∀ k, k < t.1 → h' 2 k = t.2 k) (hv : VX X) : RX h' (setT X t) := by
  obtain ⟨r1, r2, r3, ⟨r4, r5⟩, ⟨r6, r7⟩, ⟨zs, r8, r9⟩, r10, r11⟩ := hr
  have hu := hv.2.2.2.1.1
  have hw1 := hv.2.2.2.2.1.1
  refine ⟨?_, r2.fr (hf _ (by omega) (by omega)) (hf _ (by omega) (by omega)) (hf _ (by omega) (by omega)), r3.fr (hf _ (by omega) (by omega)) (hf _ (by omega) (by omega)) (hf _ (by omega) (by omega)), ⟨by rw [hf 22 (by omega) (by omega)]; exact r4, fun k hk => (r5 k hk).fr (hf _ (by omega) (by omega)) (hf _ (by omega) (by omega)) (hf _ (by omega) (by omega))⟩, ⟨by rw [hf 48 (by omega) (by omega)]; exact r6, fun k hk => (r7 k hk).fr (hf _ (by omega) (by omega)) (hf _ (by omega) (by omega)) (hf _ (by omega) (by omega))⟩, ⟨zs, ?_, r9⟩, h1, h2⟩
  · unfold HX
    rw [hf 4 (by omega) (by omega), hf 5 (by omega) (by omega), hf 7 (by omega) (by omega), hf 8 (by omega) (by omega), hf 9 (by omega) (by omega)]
    exact r1
  · unfold ZX
    rw [hf 56 (by omega) (by omega), hf 57 (by omega) (by omega), hf 58 (by omega) (by omega), hf 59 (by omega) (by omega)]
    exact r8
theorem x_write {d : Nat} {h : Hp} {X : XS} {x : Int32} (hr : RX h X) (hv : VX X) : RT mX7_write (d + 6) [.ref 0, .int x] h (QY h (a_write X x)) := by
  have hT := hv.2.2.2.2.2.2.1
  have e12 : h 1 2 = (xT X).1 := hr.2.2.2.2.2.2.1
  unfold a_write
  change AW mX7_write _ 0 [some (.ref 0), some (.int x)] [] h _
  cases ej : ix x 32 126 with
  | none =>
    refine aw_iload_n dX7_write_0 rfl rfl ?_
    refine aw_bipush (v := nI 32) dX7_write_1 (by decide) ?_
    refine aw_bipush (v := nI 126) dX7_write_3 (by decide) ?_
    refine aw_callSF dX7_write_5 kX7_99 (c_wiN ej) rfl rfl rfl (Nat.le_of_ble_eq_true rfl) (Nat.le_of_ble_eq_true rfl) ?_
    dsimp only [Option.toList, List.cons_append, List.nil_append, Nat.reduceAdd]
    refine aw_if_neN (tgt := 13) dX7_write_8 (by decide) (by omega) (fun q => absurd q (by omega)) (fun _ => ?_)
    refine aw_iconst (v := nI 4294967295) dX7_write_11 (by decide) ?_
    refine aw_iret dX7_write_12 rfl (by first | rfl | exact (pk_charN (by omega)).1 | decide) ?_
    exact QX.same hr
  | some j =>
    obtain ⟨rfl, hj1, hj2⟩ := ix_s (by omega) (by omega) ej
    dsimp only
    refine aw_iload_n dX7_write_0 rfl rfl ?_
    refine aw_bipush (v := nI 32) dX7_write_1 (by decide) ?_
    refine aw_bipush (v := nI 126) dX7_write_3 (by decide) ?_
    refine aw_callSF dX7_write_5 kX7_99 (c_wiS ej) rfl rfl rfl (Nat.le_of_ble_eq_true rfl) (Nat.le_of_ble_eq_true rfl) ?_
    dsimp only [Option.toList, List.cons_append, List.nil_append, Nat.reduceAdd]
    refine aw_if_neN (tgt := 13) dX7_write_8 (by decide) (by omega) (fun _ => ?_) (fun q => absurd q (by omega))
    refine aw_aload_n dX7_write_13 rfl rfl ?_
    refine aw_getR dX7_write_14 fX7_12 (by first | assumption | rfl) (by rfl) ?_
    refine aw_callVF dX7_write_17 kX7_103 (c_T_isFull (by omega)) (by first | assumption | rfl) rfl rfl rfl (Nat.le_of_ble_eq_true rfl) (Nat.le_of_ble_eq_true rfl) ?_
    dsimp only [Option.toList, List.cons_append, List.nil_append, Nat.reduceAdd]
    by_cases hq : (xT X).1 = 200
    · rw [if_pos (e12.trans hq), if_pos hq]
      refine aw_if_eqN (tgt := 26) dX7_write_20 (by decide) (by omega) (fun q => absurd q (by omega)) (fun _ => ?_)
      refine aw_bipush (v := nI 4294967293) dX7_write_23 (by decide) ?_
      refine aw_iret dX7_write_25 rfl (by first | rfl | exact (pk_charN (by omega)).1 | decide) ?_
      exact QX.same hr
    · rw [if_neg (fun z => hq (e12.symm.trans z)), if_neg hq]
      have ec : ((nI j).toUInt32 % 65536).toInt32 = nI j := by
        rw [pk_char, pk_tn (by omega)]
        congr 1
        omega
      refine aw_if_eqN (tgt := 26) dX7_write_20 (by decide) (by omega) (fun _ => ?_) (fun q => absurd q (by omega))
      refine aw_aload_n dX7_write_26 rfl rfl ?_
      refine aw_getR dX7_write_27 fX7_12 (by first | assumption | rfl) (by rfl) ?_
      refine aw_iload_n dX7_write_30 rfl rfl ?_
      refine aw_i2c (v := nI j) dX7_write_31 (by first | rfl | assumption) ?_
      refine aw_callVF dX7_write_32 kX7_85 (c_T_add (by omega) (by omega)) (by first | assumption | rfl) rfl rfl rfl (Nat.le_of_ble_eq_true rfl) (Nat.le_of_ble_eq_true rfl) ?_
      dsimp only [Option.toList, List.cons_append, List.nil_append, Nat.reduceAdd]
      refine aw_aload_n dX7_write_35 rfl rfl ?_
      refine aw_getR dX7_write_36 fX7_12 (by first | assumption | rfl) (by rfl) ?_
      refine aw_callVF dX7_write_39 kX7_107 (c_T_size) (by first | assumption | rfl) rfl rfl rfl (Nat.le_of_ble_eq_true rfl) (Nat.le_of_ble_eq_true rfl) ?_
      dsimp only [Option.toList, List.cons_append, List.nil_append, Nat.reduceAdd]
      have h12 : hw (hw h 2 (h 1 2) j) 1 2 (h 1 2 + 1) 1 2 = (xT X).1 + 1 := by rw [hw_at, if_pos rfl, e12]
      rw [h12]
      refine aw_iret dX7_write_42 rfl (by first | rfl | exact (pk_charN (by omega)).1 | decide) ?_
      refine ⟨rfl, hr.text (fun o h1 h2 => by rw [hw_ne h1, hw_ne h2]) h12 (fun k hk => ?_) hv, fun o ho => by rw [hw_ne (by omega), hw_ne (by omega)]⟩
      show _ = fu (xT X).2 (xT X).1 j k
      rw [hw_ne (by decide), hw_at, e12]
      unfold fu
      split
      · rfl
      · exact hr.2.2.2.2.2.2.2 k (by have hk : k < (xT X).1 + 1 := hk; omega)
def a_wipe (X : XS) : AX := (nI (xT X).1, setT X (0, (xT X).2))
theorem x_wipe {d : Nat} {h : Hp} {X : XS} (hr : RX h X) (hv : VX X) : RT mX7_wipe (d + 6) [.ref 0] h (QY h (a_wipe X)) := by
  have e12 : h 1 2 = (xT X).1 := hr.2.2.2.2.2.2.1
  change AW mX7_wipe _ 0 [some (.ref 0), none] [] h _
  refine aw_aload_n dX7_wipe_0 rfl rfl ?_
  refine aw_getR dX7_wipe_1 fX7_12 (by first | assumption | rfl) (by rfl) ?_
  refine aw_callVF dX7_wipe_4 kX7_107 (c_T_size) (by first | assumption | rfl) rfl rfl rfl (Nat.le_of_ble_eq_true rfl) (Nat.le_of_ble_eq_true rfl) ?_
  dsimp only [Option.toList, List.cons_append, List.nil_append, Nat.reduceAdd]
  rw [e12]
  refine aw_istore_n dX7_wipe_7 rfl (Nat.le_of_ble_eq_true rfl) rfl ?_
  dsimp only [List.set]
  refine aw_aload_n dX7_wipe_8 rfl rfl ?_
  refine aw_getR dX7_wipe_9 fX7_12 (by first | assumption | rfl) (by rfl) ?_
  refine aw_callVF dX7_wipe_12 kX7_96 (c_T_clear) (by first | assumption | rfl) rfl rfl rfl (Nat.le_of_ble_eq_true rfl) (Nat.le_of_ble_eq_true rfl) ?_
  dsimp only [Option.toList, List.cons_append, List.nil_append, Nat.reduceAdd]
  refine aw_iload_n dX7_wipe_15 rfl rfl ?_
  refine aw_iret dX7_wipe_16 rfl (by first | rfl | exact (pk_charN (by omega)).1 | decide) ?_
  exact ⟨rfl, hr.text (fun o h1 _ => hw_ne h1) (by rw [hw_at, if_pos rfl]) (fun k hk => by have hk : k < 0 := hk; omega) hv, fun o ho => hw_ne (by omega)⟩
theorem FTD.fx {h h' : Hp} (a : FTD h h') : FX h h' := fun o ho => a.2 o (by omega) (by omega) (by omega)
theorem RX.ftd {h h' : Hp} {X : XS} (hr : RX h X) (hv : VX X) (hf : FTD h h') : RX h' X := by
  refine hr.gen hv ?_ (fun o ho => hf.2 o (by omega) (by omega) (by omega)) hf.1
  unfold HX
  rw [hf.2 4 (by omega) (by omega) (by omega), hf.2 5 (by omega) (by omega) (by omega), hf.2 7 (by omega) (by omega) (by omega), hf.2 8 (by omega) (by omega) (by omega), hf.2 9 (by omega) (by omega) (by omega)]
  exact hr.1
noncomputable def xP (X : XS) : Nat ⊕ PS := psr (ltr (xT X).2 (xT X).1) (xT X).1 200 0 P00
noncomputable def a_fault (X : XS) : Int32 := match xP X with
  | .inl a => nI a
  | .inr _ => aNONE
theorem x_fault {d : Nat} {h : Hp} {X : XS} (hr : RX h X) (hv : VX X) : RT mX7_fault (d + 6) [.ref 0] h (QX h X (a_fault X)) := by
  have htx : TXS h (xT X).2 (xT X).1 (h 1 3) := ⟨hr.2.2.2.2.2.2.1, rfl, hr.2.2.2.2.2.2.2⟩
  change AW mX7_fault _ 0 [some (.ref 0)] [] h _
  refine aw_aload_n dX7_fault_0 rfl rfl ?_
  refine aw_getR dX7_fault_1 fX7_12 (by first | assumption | rfl) (by rfl) ?_
  refine aw_aload_n dX7_fault_4 rfl rfl ?_
  refine aw_getR dX7_fault_5 fX7_23 (by first | assumption | rfl) (by rfl) ?_
  refine aw_callV dX7_fault_8 kX7_89 (c_T_readInto htx hv.2.2.2.2.2.2) (by first | assumption | rfl) rfl rfl rfl (Nat.le_of_ble_eq_true rfl) (Nat.le_of_ble_eq_true rfl) ?_
  rintro v h2 ⟨f2, hq⟩
  dsimp only [Option.toList, List.cons_append, List.nil_append, Nat.reduceAdd]
  unfold a_fault
  rw [show psr (ltr (xT X).2 (xT X).1) (xT X).1 200 0 P00 = xP X from rfl] at hq
  cases hz : xP X with
  | inl a =>
    rw [hz] at hq
    dsimp only at hq ⊢
    subst hq
    refine aw_iret dX7_fault_11 rfl (by first | rfl | exact (pk_charN (by omega)).1 | decide) ?_
    exact ⟨rfl, hr.ftd hv f2, f2.fx⟩
  | inr P =>
    rw [hz] at hq
    dsimp only at hq ⊢
    obtain ⟨rfl, _⟩ := hq
    refine aw_iret dX7_fault_11 rfl (by first | rfl | exact (pk_charN (by omega)).1 | decide) ?_
    exact ⟨rfl, hr.ftd hv f2, f2.fx⟩
/-- the state behind laying a text that tells P -/
def layX (X : XS) (P : PS) : XS := ((pn P, pK P, pW P, pA P, pB P), pb P, (0, pb P, fun i => i), (0, (xU X).2), (0, (xV X).2), (0, (xZ X).2), xT X)
theorem PM_id (n : Nat) : PM n (fun i => i) := ⟨fun _ h => h, fun r h => ⟨r, h, rfl⟩⟩
theorem layX_ok {X : XS} {P : PS} (hv : VX X) (hP : PSOk P) (h1 : 1 ≤ pn P ∧ pm P = pn P) : VX (layX X P) := by
  obtain ⟨a1, a2, a3, a4⟩ := hP
  have hS : SvOk (pn P) (0, pb P, fun i => i) := ⟨Nat.zero_le _, PM_id _, fun i hi => by have := (a3 i hi).2.1; show pb P i < 60; omega⟩
  refine ⟨⟨h1.1, a1, fun i hi => ?_⟩, hS, hS, ⟨Nat.zero_le _, fun k hk => by have hk : k < 0 := hk; omega⟩, ⟨Nat.zero_le _, fun k hk => by have hk : k < 0 := hk; omega⟩, ⟨Nat.zero_le _, fun k hk => by have hk : k < 0 := hk; omega⟩, hv.2.2.2.2.2.2⟩
  have hi : i < pn P := hi
  have z1 := a3 i hi
  have z2 := a4 i (by omega)
  exact ⟨z1.1, z1.2.2, z2.1, z2.2⟩
theorem c_P_copyFrom {d : Nat} {h : Hp} : RT mX1_copyFrom (d + 1) [.ref 4, .ref 10] h (fun v h' => v = none ∧ h' = hcp (hcp (hcp (hcp (hcp (hw (hw h 4 5 (h 10 5)) 4 6 (h 10 6)) 11 5 8) 12 6 8) 13 7 8) 14 8 8) 15 9 8) := by
  change AW mX1_copyFrom _ 0 [some (.ref 4), some (.ref 10)] [] h _
  refine aw_aload_n dX1_copyFrom_0 rfl rfl ?_
  refine aw_aload_n dX1_copyFrom_1 rfl rfl ?_
  refine aw_getI dX1_copyFrom_2 fX1_27 (by first | assumption | rfl) (by rfl) ?_
  refine aw_putfield dX1_copyFrom_5 gX1_27 (by first | assumption | rfl) (by rfl) ?_
  refine aw_aload_n dX1_copyFrom_8 rfl rfl ?_
  refine aw_aload_n dX1_copyFrom_9 rfl rfl ?_
  refine aw_getI dX1_copyFrom_10 fX1_31 (by first | assumption | rfl) (by rfl) ?_
  rw [hw_ne (by decide)]
  refine aw_putfield dX1_copyFrom_13 gX1_31 (by first | assumption | rfl) (by rfl) ?_
  refine aw_aload_n dX1_copyFrom_16 rfl rfl ?_
  refine aw_getR dX1_copyFrom_17 fX1_9 (by first | assumption | rfl) (by rfl) ?_
  refine aw_aload_n dX1_copyFrom_20 rfl rfl ?_
  refine aw_getR dX1_copyFrom_21 fX1_9 (by first | assumption | rfl) (by rfl) ?_
  refine aw_callSF dX1_copyFrom_24 kX1_42 (c_copyRow (by first | assumption | rfl) (by first | assumption | rfl) (by first | assumption | decide) (by decide)) rfl rfl rfl (Nat.le_of_ble_eq_true rfl) (Nat.le_of_ble_eq_true rfl) ?_
  dsimp only [Option.toList, List.cons_append, List.nil_append, Nat.reduceAdd]
  refine aw_aload_n dX1_copyFrom_27 rfl rfl ?_
  refine aw_getR dX1_copyFrom_28 fX1_15 (by first | assumption | rfl) (by rfl) ?_
  refine aw_aload_n dX1_copyFrom_31 rfl rfl ?_
  refine aw_getR dX1_copyFrom_32 fX1_15 (by first | assumption | rfl) (by rfl) ?_
  refine aw_callSF dX1_copyFrom_35 kX1_42 (c_copyRow (by first | assumption | rfl) (by first | assumption | rfl) (by first | assumption | decide) (by decide)) rfl rfl rfl (Nat.le_of_ble_eq_true rfl) (Nat.le_of_ble_eq_true rfl) ?_
  dsimp only [Option.toList, List.cons_append, List.nil_append, Nat.reduceAdd]
  refine aw_aload_n dX1_copyFrom_38 rfl rfl ?_
  refine aw_getR dX1_copyFrom_39 fX1_18 (by first | assumption | rfl) (by rfl) ?_
  refine aw_aload_n dX1_copyFrom_42 rfl rfl ?_
  refine aw_getR dX1_copyFrom_43 fX1_18 (by first | assumption | rfl) (by rfl) ?_
  refine aw_callSF dX1_copyFrom_46 kX1_42 (c_copyRow (by first | assumption | rfl) (by first | assumption | rfl) (by first | assumption | decide) (by decide)) rfl rfl rfl (Nat.le_of_ble_eq_true rfl) (Nat.le_of_ble_eq_true rfl) ?_
  dsimp only [Option.toList, List.cons_append, List.nil_append, Nat.reduceAdd]
  refine aw_aload_n dX1_copyFrom_49 rfl rfl ?_
  refine aw_getR dX1_copyFrom_50 fX1_21 (by first | assumption | rfl) (by rfl) ?_
  refine aw_aload_n dX1_copyFrom_53 rfl rfl ?_
  refine aw_getR dX1_copyFrom_54 fX1_21 (by first | assumption | rfl) (by rfl) ?_
  refine aw_callSF dX1_copyFrom_57 kX1_42 (c_copyRow (by first | assumption | rfl) (by first | assumption | rfl) (by first | assumption | decide) (by decide)) rfl rfl rfl (Nat.le_of_ble_eq_true rfl) (Nat.le_of_ble_eq_true rfl) ?_
  dsimp only [Option.toList, List.cons_append, List.nil_append, Nat.reduceAdd]
  refine aw_aload_n dX1_copyFrom_60 rfl rfl ?_
  refine aw_getR dX1_copyFrom_61 fX1_24 (by first | assumption | rfl) (by rfl) ?_
  refine aw_aload_n dX1_copyFrom_64 rfl rfl ?_
  refine aw_getR dX1_copyFrom_65 fX1_24 (by first | assumption | rfl) (by rfl) ?_
  refine aw_callSF dX1_copyFrom_68 kX1_42 (c_copyRow (by first | assumption | rfl) (by first | assumption | rfl) (by first | assumption | decide) (by decide)) rfl rfl rfl (Nat.le_of_ble_eq_true rfl) (Nat.le_of_ble_eq_true rfl) ?_
  dsimp only [Option.toList, List.cons_append, List.nil_append, Nat.reduceAdd]
  refine aw_vret dX1_copyFrom_71 rfl ?_
  exact ⟨rfl, rfl⟩
theorem c_S_beginAs {d o : Nat} {h : Hp} (hs : SD o) (ho2 : 9 < o) : RT mX4_beginAs (d + 2) [.ref o, .ref 4] h (fun v h' => v = none ∧ h' o 2 = 0 ∧ (∀ j, j < 8 → h' (o + 1) j = j ∧ h' (o + 2) j = h 6 j) ∧ ∀ a, a ≠ o → a ≠ o + 1 → a ≠ o + 2 → h' a = h a) := by
  obtain ⟨l0, l1, l2⟩ := id hs
  have loop : ∀ u k hh, k + u = 8 → hh o 2 = 0 → (∀ j, j < k → hh (o + 1) j = j ∧ hh (o + 2) j = h 6 j) → (∀ a, a ≠ o → a ≠ o + 1 → a ≠ o + 2 → hh a = h a) → AW mX4_beginAs (d + 2) 7 [some (.ref o), some (.ref 4), some (.int (nI k))] [] hh (fun v h' => v = none ∧ h' o 2 = 0 ∧ (∀ j, j < 8 → h' (o + 1) j = j ∧ h' (o + 2) j = h 6 j) ∧ ∀ a, a ≠ o → a ≠ o + 1 → a ≠ o + 2 → h' a = h a) := by
    intro u
    induction u with
    | zero =>
      intro k hh hk g1 g2 g3
      have ek : k = 8 := by omega
      subst ek
      refine aw_iload_n dX4_beginAs_7 rfl rfl ?_
      refine aw_bipush (v := nI 8) dX4_beginAs_8 (by decide) ?_
      refine aw_icmp_geN (tgt := 41) dX4_beginAs_10 (by decide) (by omega) (by omega) (fun _ => ?_) (fun q => absurd q (by omega))
      refine aw_vret dX4_beginAs_41 rfl ?_
      exact ⟨rfl, g1, g2, g3⟩
    | succ u ih =>
      intro k hh hk g1 g2 g3
      refine aw_iload_n dX4_beginAs_7 rfl rfl ?_
      refine aw_bipush (v := nI 8) dX4_beginAs_8 (by decide) ?_
      refine aw_icmp_geN (tgt := 41) dX4_beginAs_10 (by decide) (by omega) (by omega) (fun q => absurd q (by omega)) (fun _ => ?_)
      refine aw_aload_n dX4_beginAs_13 rfl rfl ?_
      refine aw_getR dX4_beginAs_14 fX4_9 (by first | assumption | rfl) (by rfl) ?_
      refine aw_iload_n dX4_beginAs_17 rfl rfl ?_
      refine aw_iload_n dX4_beginAs_18 rfl rfl ?_
      refine aw_callSF dX4_beginAs_19 kX4_22 (c_put (by first | assumption | rfl) (by omega) (by decide)) rfl rfl rfl (Nat.le_of_ble_eq_true rfl) (Nat.le_of_ble_eq_true rfl) ?_
      dsimp only [Option.toList, List.cons_append, List.nil_append, Nat.reduceAdd]
      refine aw_aload_n dX4_beginAs_22 rfl rfl ?_
      refine aw_getR dX4_beginAs_23 fX4_15 (by first | assumption | rfl) (by rfl) ?_
      refine aw_iload_n dX4_beginAs_26 rfl rfl ?_
      refine aw_aload_n dX4_beginAs_27 rfl rfl ?_
      refine aw_iload_n dX4_beginAs_28 rfl rfl ?_
      refine aw_callVF dX4_beginAs_29 kX4_26 (c_P_birthdayAtFirst (by omega)) (by first | assumption | rfl) rfl rfl rfl (Nat.le_of_ble_eq_true rfl) (Nat.le_of_ble_eq_true rfl) ?_
      dsimp only [Option.toList, List.cons_append, List.nil_append, Nat.reduceAdd]
      rw [hw_ne (by omega), g3 6 (by omega) (by omega) (by omega)]
      refine aw_callSF dX4_beginAs_32 kX4_22 (c_put (by first | assumption | rfl) (by omega) (by decide)) rfl rfl rfl (Nat.le_of_ble_eq_true rfl) (Nat.le_of_ble_eq_true rfl) ?_
      dsimp only [Option.toList, List.cons_append, List.nil_append, Nat.reduceAdd]
      refine aw_iincN (v := 1) dX4_beginAs_35 rfl rfl ?_
      dsimp only [List.set]
      refine aw_goto (tgt := 7) dX4_beginAs_38 (by decide) ?_
      refine ih (k + 1) _ (by omega) (by rw [hw_ne (by omega), hw_ne (by omega)]; exact g1) (fun j hj => ⟨?_, ?_⟩) (fun a q1 q2 q3 => by rw [hw_ne q3, hw_ne q2]; exact g3 a q1 q2 q3)
      · rw [hw_ne (by omega), hw_at]
        split
        · omega
        · exact (g2 j (by omega)).1
      · rw [hw_at]
        split
        · rename_i z; rw [z]
        · rw [hw_ne (by omega)]; exact (g2 j (by omega)).2
  change AW mX4_beginAs _ 0 [some (.ref o), some (.ref 4), none] [] h _
  refine aw_aload_n dX4_beginAs_0 rfl rfl ?_
  refine aw_iconst (v := nI 0) dX4_beginAs_1 (by decide) ?_
  refine aw_putfield dX4_beginAs_2 gX4_18 (by first | assumption | rfl) (by rfl) ?_
  refine aw_iconst (v := nI 0) dX4_beginAs_5 (by decide) ?_
  refine aw_istore_n dX4_beginAs_6 rfl (Nat.le_of_ble_eq_true rfl) rfl ?_
  dsimp only [List.set]
  exact loop 8 0 _ (by omega) (by rw [hw_at, if_pos rfl]) (fun j hj => by omega) (fun a q1 _ _ => hw_ne q1)
theorem c_X_moveIn {d : Nat} {h : Hp} {X : XS} {P : PS} (hd0 : DR h P) (hP : PSOk P) (h1 : 1 ≤ pn P ∧ pm P = pn P) (ht : h 1 2 = (xT X).1 ∧ ∀ k, k < (xT X).1 → h 2 k = (xT X).2 k) : RT mX7_moveIn (d + 3) [.ref 0] h (fun v h' => v = none ∧ RX h' (layX X P) ∧ FX h h') := by
  obtain ⟨e1, e2, e3, e4⟩ := hd0
  obtain ⟨a1, a2, a3, a4⟩ := hP
  change AW mX7_moveIn _ 0 [some (.ref 0)] [] h _
  refine aw_aload_n dX7_moveIn_0 rfl rfl ?_
  refine aw_getR dX7_moveIn_1 fX7_19 (by first | assumption | rfl) (by rfl) ?_
  refine aw_aload_n dX7_moveIn_4 rfl rfl ?_
  refine aw_getR dX7_moveIn_5 fX7_23 (by first | assumption | rfl) (by rfl) ?_
  refine aw_callVF dX7_moveIn_8 kX7_256 (c_P_copyFrom) (by first | assumption | rfl) rfl rfl rfl (Nat.le_of_ble_eq_true rfl) (Nat.le_of_ble_eq_true rfl) ?_
  dsimp only [Option.toList, List.cons_append, List.nil_append, Nat.reduceAdd]
  refine aw_aload_n dX7_moveIn_11 rfl rfl ?_
  refine aw_getR dX7_moveIn_12 fX7_33 (by first | assumption | rfl) (by rfl) ?_
  refine aw_aload_n dX7_moveIn_15 rfl rfl ?_
  refine aw_getR dX7_moveIn_16 fX7_19 (by first | assumption | rfl) (by rfl) ?_
  obtain ⟨hh, hhe⟩ : ∃ hh, hh = hcp (hcp (hcp (hcp (hcp (hw (hw h 4 5 (h 10 5)) 4 6 (h 10 6)) 11 5 8) 12 6 8) 13 7 8) 14 8 8) 15 9 8 := ⟨_, rfl⟩
  rw [← hhe]
  have n1 : hh 4 5 = pn P := by
    rw [hhe, hcp_ne (by decide), hcp_ne (by decide), hcp_ne (by decide), hcp_ne (by decide), hcp_ne (by decide), hw_at, if_neg (by decide), hw_at, if_pos rfl]; exact e1
  have n2 : hh 4 6 = pn P := by
    rw [hhe, hcp_ne (by decide), hcp_ne (by decide), hcp_ne (by decide), hcp_ne (by decide), hcp_ne (by decide), hw_at, if_pos rfl, e2]; exact h1.2
  have n5 : ∀ i, i < 8 → hh 5 i = h 11 i := fun i hi => by
    rw [hhe, hcp_ne (by decide), hcp_ne (by decide), hcp_ne (by decide), hcp_ne (by decide), hcp_at hi, hw_ne (by decide), hw_ne (by decide)]
  have n6 : ∀ i, i < 8 → hh 6 i = h 12 i := fun i hi => by
    rw [hhe, hcp_ne (by decide), hcp_ne (by decide), hcp_ne (by decide), hcp_at hi, hcp_ne (by decide), hw_ne (by decide), hw_ne (by decide)]
  have n7 : ∀ i, i < 8 → hh 7 i = h 13 i := fun i hi => by
    rw [hhe, hcp_ne (by decide), hcp_ne (by decide), hcp_at hi, hcp_ne (by decide), hcp_ne (by decide), hw_ne (by decide), hw_ne (by decide)]
  have n8 : ∀ i, i < 8 → hh 8 i = h 14 i := fun i hi => by
    rw [hhe, hcp_ne (by decide), hcp_at hi, hcp_ne (by decide), hcp_ne (by decide), hcp_ne (by decide), hw_ne (by decide), hw_ne (by decide)]
  have n9 : ∀ i, i < 8 → hh 9 i = h 15 i := fun i hi => by
    rw [hhe, hcp_at hi, hcp_ne (by decide), hcp_ne (by decide), hcp_ne (by decide), hcp_ne (by decide), hw_ne (by decide), hw_ne (by decide)]
  have nf : ∀ o, o < 4 ∨ 9 < o → hh o = h o := fun o ho => by
    rw [hhe, hcp_ne (by omega), hcp_ne (by omega), hcp_ne (by omega), hcp_ne (by omega), hcp_ne (by omega), hw_ne (by omega), hw_ne (by omega)]
  refine aw_callV dX7_moveIn_19 kX7_258 (c_S_beginAs ⟨rfl, rfl, rfl⟩ (by decide)) (by first | assumption | rfl) rfl rfl rfl (Nat.le_of_ble_eq_true rfl) (Nat.le_of_ble_eq_true rfl) ?_
  rintro _ h2 ⟨rfl, b1, b2, b3⟩
  dsimp only [Option.toList, List.cons_append, List.nil_append, Nat.reduceAdd]
  refine aw_aload_n dX7_moveIn_22 rfl rfl ?_
  refine aw_getR dX7_moveIn_23 fX7_29 (by first | assumption | rfl) (by rfl) ?_
  refine aw_aload_n dX7_moveIn_26 rfl rfl ?_
  refine aw_getR dX7_moveIn_27 fX7_33 (by first | assumption | rfl) (by rfl) ?_
  refine aw_callVF dX7_moveIn_30 kX7_166 (c_S_copyFrom (by first | assumption | exact ⟨rfl, rfl, rfl⟩) (by first | assumption | exact ⟨rfl, rfl, rfl⟩) (by omega)) (by first | assumption | rfl) rfl rfl rfl (Nat.le_of_ble_eq_true rfl) (Nat.le_of_ble_eq_true rfl) ?_
  dsimp only [Option.toList, List.cons_append, List.nil_append, Nat.reduceAdd]
  refine aw_aload_n dX7_moveIn_33 rfl rfl ?_
  refine aw_getR dX7_moveIn_34 fX7_51 (by first | assumption | rfl) (by rfl) ?_
  refine aw_callVF dX7_moveIn_37 kX7_231 (c_Z_clear) (by first | assumption | rfl) rfl rfl rfl (Nat.le_of_ble_eq_true rfl) (Nat.le_of_ble_eq_true rfl) ?_
  dsimp only [Option.toList, List.cons_append, List.nil_append, Nat.reduceAdd]
  refine aw_aload_n dX7_moveIn_40 rfl rfl ?_
  refine aw_getR dX7_moveIn_41 fX7_41 (by first | assumption | rfl) (by rfl) ?_
  refine aw_callVF dX7_moveIn_44 kX7_255 (c_L_clear (n := 8) (Or.inl ⟨rfl, rfl⟩)) (by first | assumption | rfl) rfl rfl rfl (Nat.le_of_ble_eq_true rfl) (Nat.le_of_ble_eq_true rfl) ?_
  dsimp only [Option.toList, List.cons_append, List.nil_append, Nat.reduceAdd]
  refine aw_aload_n dX7_moveIn_47 rfl rfl ?_
  refine aw_getR dX7_moveIn_48 fX7_45 (by first | assumption | rfl) (by rfl) ?_
  refine aw_callVF dX7_moveIn_51 kX7_255 (c_L_clear (n := 2) (Or.inr ⟨rfl, rfl⟩)) (by first | assumption | rfl) rfl rfl rfl (Nat.le_of_ble_eq_true rfl) (Nat.le_of_ble_eq_true rfl) ?_
  dsimp only [Option.toList, List.cons_append, List.nil_append, Nat.reduceAdd]
  refine aw_vret dX7_moveIn_54 rfl ?_
  have g1 : ∀ o, o ≠ 16 → o ≠ 17 → o ≠ 18 → o ≠ 19 → o ≠ 20 → o ≠ 21 → o ≠ 22 → o ≠ 48 → o ≠ 56 → hw (hw (hw (hcs h2 19 16) 56 3 0) 22 1 0) 48 1 0 o = hh o := fun o q1 q2 q3 q4 q5 q6 q7 q8 q9 => by
    rw [hw_ne q8, hw_ne q7, hw_ne q9, hcs_ne q1 q2 q3, b3 o q4 q5 q6]
  have sv19 : SVt h2 (pn P) 19 (0, pb P, fun i => i) := ⟨b1, fun i hi => ⟨(b2 i (by omega)).1, by
    rw [(b2 i (by omega)).2, n6 i (by omega)]; exact (e3 i hi).2.1⟩⟩
  refine ⟨rfl, ⟨⟨?_, ?_, fun i hi => ?_⟩, ?_, ?_, ⟨?_, fun k hk => by have hk : k < 0 := hk; omega⟩, ⟨?_, fun k hk => by have hk : k < 0 := hk; omega⟩, ⟨fun _ => (0, 0, 0), ⟨?_, fun k hk => by have hk : k < 0 := hk; omega⟩, fun k hk => by have hk : k < 0 := hk; omega, fun k hk => by have hk : k < 0 := hk; omega, fun k hk => by have hk : k + 1 < 0 := hk; omega⟩, ?_, fun k hk => ?_⟩, fun o ho => ?_⟩
  · rw [g1 4 (by decide) (by decide) (by decide) (by decide) (by decide) (by decide) (by decide) (by decide) (by decide)]; exact n1
  · rw [g1 4 (by decide) (by decide) (by decide) (by decide) (by decide) (by decide) (by decide) (by decide) (by decide)]; exact n2
  · have hi : i < pn P := hi
    rw [g1 5 (by decide) (by decide) (by decide) (by decide) (by decide) (by decide) (by decide) (by decide) (by decide), g1 7 (by decide) (by decide) (by decide) (by decide) (by decide) (by decide) (by decide) (by decide) (by decide), g1 8 (by decide) (by decide) (by decide) (by decide) (by decide) (by decide) (by decide) (by decide) (by decide), g1 9 (by decide) (by decide) (by decide) (by decide) (by decide) (by decide) (by decide) (by decide) (by decide), n5 i (by omega), n7 i (by omega), n8 i (by omega), n9 i (by omega)]
    have z1 := e3 i hi
    have z2 := e4 i (by omega)
    exact ⟨z1.1, z1.2.2, z2.1, z2.2⟩
  · exact (((sv19.cp (o := 16) a1 (by omega)).fr (hw_ne (by decide)) (hw_ne (by decide)) (hw_ne (by decide))).fr (hw_ne (by decide)) (hw_ne (by decide)) (hw_ne (by decide))).fr (hw_ne (by decide)) (hw_ne (by decide)) (hw_ne (by decide))
  · refine sv19.fr ?_ ?_ ?_
    · rw [hw_ne (by decide), hw_ne (by decide), hw_ne (by decide), hcs_ne (by decide) (by decide) (by decide)]
    · rw [hw_ne (by decide), hw_ne (by decide), hw_ne (by decide), hcs_ne (by decide) (by decide) (by decide)]
    · rw [hw_ne (by decide), hw_ne (by decide), hw_ne (by decide), hcs_ne (by decide) (by decide) (by decide)]
  · rw [hw_ne (by decide), hw_at, if_pos rfl]; rfl
  · rw [hw_at, if_pos rfl]; rfl
  · rw [hw_ne (by decide), hw_ne (by decide), hw_at, if_pos rfl]; rfl
  · rw [g1 1 (by decide) (by decide) (by decide) (by decide) (by decide) (by decide) (by decide) (by decide) (by decide), nf 1 (by decide)]; exact ht.1
  · rw [g1 2 (by decide) (by decide) (by decide) (by decide) (by decide) (by decide) (by decide) (by decide) (by decide), nf 2 (by decide)]; exact ht.2 k hk
  · rw [g1 o (by omega) (by omega) (by omega) (by omega) (by omega) (by omega) (by omega) (by omega) (by omega), nf o (by omega)]
noncomputable def a_lay (X : XS) : AX := match xP X with
  | .inl _ => (aNO, X)
  | .inr P => if 1 ≤ pn P ∧ pm P = pn P then (nI (pn P), layX X P) else (aNO, X)
theorem ne_none {a : Nat} (ha : a < 2 ^ 31) : ¬ nI a = nI 4294967292 := by
  intro q
  have h1 := congrArg Int32.toInt q
  rw [nI_toInt ha] at h1
  have : (nI 4294967292).toInt = -4 := by decide
  omega
theorem psr_lt {l : Nat → Nat} {n : Nat} : ∀ t a P b, psr l n t a P = .inl b → b < n := by
  intro t
  induction t with
  | zero => intro a P b e; cases e
  | succ t ih =>
    intro a P b e
    unfold psr at e
    split at e
    · cases hz : itS l a P with
      | none => rw [hz] at e; cases e; assumption
      | some q => rw [hz] at e; exact ih _ _ _ e
    · cases e
theorem x_lay {d : Nat} {h : Hp} {X : XS} (hr : RX h X) (hv : VX X) : RT mX7_lay (d + 6) [.ref 0] h (QY h (a_lay X)) := by
  have htx : TXS h (xT X).2 (xT X).1 (h 1 3) := ⟨hr.2.2.2.2.2.2.1, rfl, hr.2.2.2.2.2.2.2⟩
  have hT := hv.2.2.2.2.2.2
  change AW mX7_lay _ 0 [some (.ref 0)] [] h _
  refine aw_aload_n dX7_lay_0 rfl rfl ?_
  refine aw_getR dX7_lay_1 fX7_12 (by first | assumption | rfl) (by rfl) ?_
  refine aw_aload_n dX7_lay_4 rfl rfl ?_
  refine aw_getR dX7_lay_5 fX7_23 (by first | assumption | rfl) (by rfl) ?_
  refine aw_callV dX7_lay_8 kX7_89 (c_T_readInto htx hT) (by first | assumption | rfl) rfl rfl rfl (Nat.le_of_ble_eq_true rfl) (Nat.le_of_ble_eq_true rfl) ?_
  rintro v h2 ⟨f2, hq⟩
  dsimp only [Option.toList, List.cons_append, List.nil_append, Nat.reduceAdd]
  unfold a_lay
  rw [show psr (ltr (xT X).2 (xT X).1) (xT X).1 200 0 P00 = xP X from rfl] at hq
  cases hz : xP X with
  | inl a =>
    rw [hz] at hq
    dsimp only at hq ⊢
    subst hq
    have ha : a < (xT X).1 := psr_lt _ _ _ _ hz
    have := hT.1
    refine aw_bipush (v := nI 4294967292) dX7_lay_11 (by decide) ?_
    refine aw_icmp_ne (tgt := 26) dX7_lay_13 (by decide) (fun _ => ?_) (fun q => absurd q (ne_none (by omega)))
    refine aw_bipush (v := nI 4294967294) dX7_lay_26 (by decide) ?_
    refine aw_iret dX7_lay_28 rfl (by first | rfl | exact (pk_charN (by omega)).1 | decide) ?_
    exact ⟨rfl, hr.ftd hv f2, f2.fx⟩
  | inr P =>
    rw [hz] at hq
    dsimp only at hq ⊢
    obtain ⟨rfl, hdr⟩ := hq
    have hP : PSOk P := psr_ok (ltr_lt hT) _ _ _ _ P00_ok hz
    refine aw_bipush (v := nI 4294967292) dX7_lay_11 (by decide) ?_
    refine aw_icmp_ne (tgt := 26) dX7_lay_13 (by decide) (fun q => absurd rfl q) (fun _ => ?_)
    refine aw_aload_n dX7_lay_16 rfl rfl ?_
    refine aw_getR dX7_lay_17 fX7_23 (by first | assumption | rfl) (by rfl) ?_
    refine aw_callVF dX7_lay_20 kX7_110 (c_P_canBeLaid hdr hP) (by first | assumption | rfl) rfl rfl rfl (Nat.le_of_ble_eq_true rfl) (Nat.le_of_ble_eq_true rfl) ?_
    dsimp only [Option.toList, List.cons_append, List.nil_append, Nat.reduceAdd]
    by_cases hq : 1 ≤ pn P ∧ pm P = pn P
    · rw [if_pos hq, if_pos hq]
      have ht2 : h2 1 2 = (xT X).1 ∧ ∀ k, k < (xT X).1 → h2 2 k = (xT X).2 k := ⟨f2.1.trans htx.1, fun k hk => by rw [f2.2 2 (by decide) (by decide) (by decide)]; exact htx.2.2 k hk⟩
      refine aw_if_neN (tgt := 29) dX7_lay_23 (by decide) (by omega) (fun _ => ?_) (fun q => absurd q (by omega))
      refine aw_aload_n dX7_lay_29 rfl rfl ?_
      refine aw_callV dX7_lay_30 kX7_93 (c_X_moveIn (X := X) hdr hP hq ht2) (by first | assumption | rfl) rfl rfl rfl (Nat.le_of_ble_eq_true rfl) (Nat.le_of_ble_eq_true rfl) ?_
      rintro _ h3 ⟨rfl, r3, f3⟩
      dsimp only [Option.toList, List.cons_append, List.nil_append, Nat.reduceAdd]
      refine aw_aload_n dX7_lay_33 rfl rfl ?_
      refine aw_getR dX7_lay_34 fX7_19 (by first | assumption | rfl) (by rfl) ?_
      refine aw_callVF dX7_lay_37 kX7_113 (c_P_cousins) (by first | assumption | rfl) rfl rfl rfl (Nat.le_of_ble_eq_true rfl) (Nat.le_of_ble_eq_true rfl) ?_
      dsimp only [Option.toList, List.cons_append, List.nil_append, Nat.reduceAdd]
      rw [show h3 4 5 = pn P from r3.1.1]
      refine aw_iret dX7_lay_40 rfl (by first | rfl | exact (pk_charN (by omega)).1 | decide) ?_
      exact ⟨rfl, r3, f2.fx.trans f3⟩
    · rw [if_neg hq, if_neg hq]
      refine aw_if_neN (tgt := 29) dX7_lay_23 (by decide) (by omega) (fun q => absurd q (by omega)) (fun _ => ?_)
      refine aw_bipush (v := nI 4294967294) dX7_lay_26 (by decide) ?_
      refine aw_iret dX7_lay_28 rfl (by first | rfl | exact (pk_charN (by omega)).1 | decide) ?_
      exact ⟨rfl, hr.ftd hv f2, f2.fx⟩
