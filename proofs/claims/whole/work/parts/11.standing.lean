/-! Standing: object o, rooms o + 1, birthdays o + 2 -/
def SD (o : Nat) : Prop := lay[o]? = some (oO 4 [some (o + 1), some (o + 2), none]) ∧ lay[o + 1]? = some (oI 8) ∧ lay[o + 2]? = some (oI 8)
theorem c_S_day {d o : Nat} {h : Hp} (hs : SD o) : RT mX4_day d [.ref o] h (fun v h' => v = some (.int (nI (h o 2))) ∧ h' = h) := by
  obtain ⟨ho, hr, hb⟩ := hs
  change AW mX4_day _ 0 [some (.ref o)] [] h _
  refine aw_aload_n dX4_day_0 rfl rfl ?_
  refine aw_getI dX4_day_1 fX4_18 (by first | assumption | rfl) (by rfl) ?_
  refine aw_iret dX4_day_4 rfl (by first | rfl | exact (pk_charN (by omega)).1 | decide) ?_
  exact ⟨rfl, rfl⟩
theorem c_S_addDays {d o n : Nat} {h : Hp} (hs : SD o) : RT mX4_addDays d [.ref o, .int (nI n)] h (fun v h' => v = none ∧ h' = hw h o 2 (h o 2 + n)) := by
  obtain ⟨ho, hr, hb⟩ := hs
  change AW mX4_addDays _ 0 [some (.ref o), some (.int (nI n))] [] h _
  refine aw_aload_n dX4_addDays_0 rfl rfl ?_
  refine aw_dup dX4_addDays_1 rfl ?_
  refine aw_getI dX4_addDays_2 fX4_18 (by first | assumption | rfl) (by rfl) ?_
  refine aw_iload_n dX4_addDays_5 rfl rfl ?_
  refine aw_iaddN dX4_addDays_6 ?_
  refine aw_putfield dX4_addDays_7 gX4_18 (by first | assumption | rfl) (by rfl) ?_
  refine aw_vret dX4_addDays_10 rfl ?_
  exact ⟨rfl, rfl⟩
theorem c_S_roomOf {d o i : Nat} {h : Hp} (hs : SD o) (hi : i < 8) : RT mX4_roomOf d [.ref o, .int (nI i)] h (fun v h' => v = some (.int (nI (h (o + 1) i))) ∧ h' = h) := by
  obtain ⟨ho, hr, hb⟩ := hs
  change AW mX4_roomOf _ 0 [some (.ref o), some (.int (nI i))] [] h _
  refine aw_iload_n dX4_roomOf_0 rfl rfl ?_
  refine aw_if_ltN (tgt := 22) dX4_roomOf_1 (by decide) (by omega) (fun q => absurd q (by omega)) (fun _ => ?_)
  refine aw_iload_n dX4_roomOf_4 rfl rfl ?_
  refine aw_aload_n dX4_roomOf_5 rfl rfl ?_
  refine aw_getR dX4_roomOf_6 fX4_9 (by first | assumption | rfl) (by rfl) ?_
  refine aw_alen dX4_roomOf_9 (by first | assumption | rfl) ?_
  refine aw_icmp_geN (tgt := 22) dX4_roomOf_10 (by decide) (by omega) (by omega) (fun q => absurd q (by omega)) (fun _ => ?_)
  refine aw_aload_n dX4_roomOf_13 rfl rfl ?_
  refine aw_getR dX4_roomOf_14 fX4_9 (by first | assumption | rfl) (by rfl) ?_
  refine aw_iload_n dX4_roomOf_17 rfl rfl ?_
  refine aw_iaload dX4_roomOf_18 (by first | assumption | rfl) (by omega) (by omega) ?_
  refine aw_goto (tgt := 23) dX4_roomOf_19 (by decide) ?_
  refine aw_iret dX4_roomOf_23 rfl (by first | rfl | exact (pk_charN (by omega)).1 | decide) ?_
  exact ⟨rfl, rfl⟩
theorem c_S_birthdayOf {d o i : Nat} {h : Hp} (hs : SD o) (hi : i < 8) : RT mX4_birthdayOf (d + 1) [.ref o, .int (nI i)] h (fun v h' => v = some (.int (nI (h (o + 2) i))) ∧ h' = h) := by
  obtain ⟨ho, hr, hb⟩ := hs
  change AW mX4_birthdayOf _ 0 [some (.ref o), some (.int (nI i))] [] h _
  refine aw_aload_n dX4_birthdayOf_0 rfl rfl ?_
  refine aw_getR dX4_birthdayOf_1 fX4_15 (by first | assumption | rfl) (by rfl) ?_
  refine aw_iload_n dX4_birthdayOf_4 rfl rfl ?_
  refine aw_callSF dX4_birthdayOf_5 kX4_36 (c_at (by first | assumption | rfl) (by omega) (by decide)) rfl rfl rfl (Nat.le_of_ble_eq_true rfl) (Nat.le_of_ble_eq_true rfl) ?_
  dsimp only [Option.toList, List.cons_append, List.nil_append, Nat.reduceAdd]
  refine aw_iret dX4_birthdayOf_8 rfl (by first | rfl | exact (pk_charN (by omega)).1 | decide) ?_
  exact ⟨rfl, rfl⟩
theorem c_S_setBirthday {d o i x : Nat} {h : Hp} (hs : SD o) (hi : i < 8) : RT mX4_setBirthday (d + 1) [.ref o, .int (nI i), .int (nI x)] h (fun v h' => v = none ∧ h' = hw h (o + 2) i x) := by
  obtain ⟨ho, hr, hb⟩ := hs
  change AW mX4_setBirthday _ 0 [some (.ref o), some (.int (nI i)), some (.int (nI x))] [] h _
  refine aw_aload_n dX4_setBirthday_0 rfl rfl ?_
  refine aw_getR dX4_setBirthday_1 fX4_15 (by first | assumption | rfl) (by rfl) ?_
  refine aw_iload_n dX4_setBirthday_4 rfl rfl ?_
  refine aw_iload_n dX4_setBirthday_5 rfl rfl ?_
  refine aw_callSF dX4_setBirthday_6 kX4_22 (c_put (by first | assumption | rfl) (by omega) (by decide)) rfl rfl rfl (Nat.le_of_ble_eq_true rfl) (Nat.le_of_ble_eq_true rfl) ?_
  dsimp only [Option.toList, List.cons_append, List.nil_append, Nat.reduceAdd]
  refine aw_vret dX4_setBirthday_9 rfl ?_
  exact ⟨rfl, rfl⟩
/-- two places of a row change their values -/
def hx2 (h : Hp) (a i j : Nat) : Hp := hw (hw h a i (h a j)) a j (h a i)
theorem c_S_exchange {d o i j : Nat} {h : Hp} (hs : SD o) (hi : i < 8) (hj : j < 8) : RT mX4_exchange (d + 1) [.ref o, .int (nI i), .int (nI j)] h (fun v h' => v = none ∧ h' = hx2 h (o + 1) i j) := by
  obtain ⟨ho, hr, hb⟩ := hs
  change AW mX4_exchange _ 0 [some (.ref o), some (.int (nI i)), some (.int (nI j)), none] [] h _
  refine aw_aload_n dX4_exchange_0 rfl rfl ?_
  refine aw_getR dX4_exchange_1 fX4_9 (by first | assumption | rfl) (by rfl) ?_
  refine aw_iload_n dX4_exchange_4 rfl rfl ?_
  refine aw_callSF dX4_exchange_5 kX4_36 (c_at (by first | assumption | rfl) (by omega) (by decide)) rfl rfl rfl (Nat.le_of_ble_eq_true rfl) (Nat.le_of_ble_eq_true rfl) ?_
  dsimp only [Option.toList, List.cons_append, List.nil_append, Nat.reduceAdd]
  refine aw_istore_n dX4_exchange_8 rfl (Nat.le_of_ble_eq_true rfl) rfl ?_
  dsimp only [List.set]
  refine aw_aload_n dX4_exchange_9 rfl rfl ?_
  refine aw_getR dX4_exchange_10 fX4_9 (by first | assumption | rfl) (by rfl) ?_
  refine aw_iload_n dX4_exchange_13 rfl rfl ?_
  refine aw_aload_n dX4_exchange_14 rfl rfl ?_
  refine aw_getR dX4_exchange_15 fX4_9 (by first | assumption | rfl) (by rfl) ?_
  refine aw_iload_n dX4_exchange_18 rfl rfl ?_
  refine aw_callSF dX4_exchange_19 kX4_36 (c_at (by first | assumption | rfl) (by omega) (by decide)) rfl rfl rfl (Nat.le_of_ble_eq_true rfl) (Nat.le_of_ble_eq_true rfl) ?_
  dsimp only [Option.toList, List.cons_append, List.nil_append, Nat.reduceAdd]
  refine aw_callSF dX4_exchange_22 kX4_22 (c_put (by first | assumption | rfl) (by omega) (by decide)) rfl rfl rfl (Nat.le_of_ble_eq_true rfl) (Nat.le_of_ble_eq_true rfl) ?_
  dsimp only [Option.toList, List.cons_append, List.nil_append, Nat.reduceAdd]
  refine aw_aload_n dX4_exchange_25 rfl rfl ?_
  refine aw_getR dX4_exchange_26 fX4_9 (by first | assumption | rfl) (by rfl) ?_
  refine aw_iload_n dX4_exchange_29 rfl rfl ?_
  refine aw_iload_n dX4_exchange_30 rfl rfl ?_
  refine aw_callSF dX4_exchange_31 kX4_22 (c_put (by first | assumption | rfl) (by omega) (by decide)) rfl rfl rfl (Nat.le_of_ble_eq_true rfl) (Nat.le_of_ble_eq_true rfl) ?_
  dsimp only [Option.toList, List.cons_append, List.nil_append, Nat.reduceAdd]
  refine aw_vret dX4_exchange_34 rfl ?_
  exact ⟨rfl, rfl⟩
/-- whose a room is: the first of n who has it, or -4 -/
def own (f : Nat → Nat) (r : Nat) : Nat → Nat → Nat
  | 0, _ => 4294967292
  | n + 1, k => if f k = r then k else own f r n (k + 1)
theorem c_S_ownerOf {d o r n : Nat} {h : Hp} (hs : SD o) (hn : n ≤ 8) (hr8 : r < 2 ^ 31) (hf : ∀ i, i < n → h (o + 1) i < 2 ^ 31) : RT mX4_ownerOf (d + 1) [.ref o, .int (nI r), .int (nI n)] h (fun v h' => v = some (.int (nI (own (h (o + 1)) r n 0))) ∧ h' = h) := by
  obtain ⟨ho, hr, hb⟩ := hs
  change AW mX4_ownerOf _ 0 [some (.ref o), some (.int (nI r)), some (.int (nI n)), none] [] h _
  refine aw_iconst (v := nI 0) dX4_ownerOf_0 (by decide) ?_
  refine aw_istore_n dX4_ownerOf_1 rfl (Nat.le_of_ble_eq_true rfl) rfl ?_
  dsimp only [List.set]
  have loop : ∀ f k, k + f = n → AW mX4_ownerOf (d + 1) 2 [some (.ref o), some (.int (nI r)), some (.int (nI n)), some (.int (nI k))] [] h (fun v h' => v = some (.int (nI (own (h (o + 1)) r f k))) ∧ h' = h) := by
    intro f
    induction f with
    | zero =>
      intro k hk
      refine aw_iload_n dX4_ownerOf_2 rfl rfl ?_
      refine aw_iload_n dX4_ownerOf_3 rfl rfl ?_
      refine aw_icmp_geN (tgt := 27) dX4_ownerOf_4 (by decide) (by omega) (by omega) (fun _ => ?_) (fun q => absurd q (by omega))
      refine aw_bipush (v := nI 4294967292) dX4_ownerOf_27 (by decide) ?_
      refine aw_iret dX4_ownerOf_29 rfl (by first | rfl | exact (pk_charN (by omega)).1 | decide) ?_
      exact ⟨rfl, rfl⟩
    | succ f ih =>
      intro k hk
      have hb1 := hf k (by omega)
      refine aw_iload_n dX4_ownerOf_2 rfl rfl ?_
      refine aw_iload_n dX4_ownerOf_3 rfl rfl ?_
      refine aw_icmp_geN (tgt := 27) dX4_ownerOf_4 (by decide) (by omega) (by omega) (fun q => absurd q (by omega)) (fun _ => ?_)
      refine aw_aload_n dX4_ownerOf_7 rfl rfl ?_
      refine aw_getR dX4_ownerOf_8 fX4_9 (by first | assumption | rfl) (by rfl) ?_
      refine aw_iload_n dX4_ownerOf_11 rfl rfl ?_
      refine aw_callSF dX4_ownerOf_12 kX4_36 (c_at (by first | assumption | rfl) (by omega) (by decide)) rfl rfl rfl (Nat.le_of_ble_eq_true rfl) (Nat.le_of_ble_eq_true rfl) ?_
      dsimp only [Option.toList, List.cons_append, List.nil_append, Nat.reduceAdd]
      refine aw_iload_n dX4_ownerOf_15 rfl rfl ?_
      refine aw_icmp_neN (tgt := 21) dX4_ownerOf_16 (by decide) (by omega) (by omega) (fun c16 => ?_) (fun c16 => ?_)
      · refine aw_iincN (v := 1) dX4_ownerOf_21 rfl rfl ?_
        dsimp only [List.set]
        refine aw_goto (tgt := 2) dX4_ownerOf_24 (by decide) ?_
        have e : own (h (o + 1)) r (f + 1) k = own (h (o + 1)) r f (k + 1) := by
          rw [own, if_neg (by omega)]
        rw [e]
        exact ih (k + 1) (by omega)
      · refine aw_iload_n dX4_ownerOf_19 rfl rfl ?_
        refine aw_iret dX4_ownerOf_20 rfl (by first | rfl | exact (pk_charN (by omega)).1 | decide) ?_
        have e : own (h (o + 1)) r (f + 1) k = k := by
          rw [own, if_pos (by omega)]
        rw [e]
        exact ⟨rfl, rfl⟩
  exact loop n 0 (by omega)
theorem c_S_hasRoomsOf {d o p n : Nat} {h : Hp} (hs : SD o) (hp : SD p) (hn : n ≤ 8) (hf : ∀ i, i < n → h (o + 1) i < 2 ^ 31 ∧ h (p + 1) i < 2 ^ 31) : RT mX4_hasRoomsOf (d + 1) [.ref o, .ref p, .int (nI n)] h (fun v h' => v = some (.int (nI (if ∀ i, i < n → h (o + 1) i = h (p + 1) i then 1 else 0))) ∧ h' = h) := by
  have ho := hs.1
  have hp1 := hp.1
  change AW mX4_hasRoomsOf _ 0 [some (.ref o), some (.ref p), some (.int (nI n)), none] [] h _
  refine aw_iconst (v := nI 0) dX4_hasRoomsOf_0 (by decide) ?_
  refine aw_istore_n dX4_hasRoomsOf_1 rfl (Nat.le_of_ble_eq_true rfl) rfl ?_
  dsimp only [List.set]
  have loop : ∀ f k, k + f = n → (∀ i, i < k → h (o + 1) i = h (p + 1) i) → AW mX4_hasRoomsOf (d + 1) 2 [some (.ref o), some (.ref p), some (.int (nI n)), some (.int (nI k))] [] h (fun v h' => v = some (.int (nI (if ∀ i, i < n → h (o + 1) i = h (p + 1) i then 1 else 0))) ∧ h' = h) := by
    intro f
    induction f with
    | zero =>
      intro k hk hall
      refine aw_iload_n dX4_hasRoomsOf_2 rfl rfl ?_
      refine aw_iload_n dX4_hasRoomsOf_3 rfl rfl ?_
      refine aw_icmp_geN (tgt := 28) dX4_hasRoomsOf_4 (by decide) (by omega) (by omega) (fun _ => ?_) (fun q => absurd q (by omega))
      refine aw_iconst (v := nI 1) dX4_hasRoomsOf_28 (by decide) ?_
      refine aw_iret dX4_hasRoomsOf_29 rfl (by first | rfl | exact (pk_charN (by omega)).1 | decide) ?_
      have e : k = n := by omega
      subst e
      rw [if_pos hall]
      exact ⟨rfl, rfl⟩
    | succ f ih =>
      intro k hk hall
      have hb1 := hf k (by omega)
      refine aw_iload_n dX4_hasRoomsOf_2 rfl rfl ?_
      refine aw_iload_n dX4_hasRoomsOf_3 rfl rfl ?_
      refine aw_icmp_geN (tgt := 28) dX4_hasRoomsOf_4 (by decide) (by omega) (by omega) (fun q => absurd q (by omega)) (fun _ => ?_)
      refine aw_aload_n dX4_hasRoomsOf_7 rfl rfl ?_
      refine aw_iload_n dX4_hasRoomsOf_8 rfl rfl ?_
      refine aw_callVF dX4_hasRoomsOf_9 kX4_40 (c_S_roomOf (by first | assumption | exact ⟨rfl, rfl, rfl⟩) (by omega)) (by first | assumption | rfl) rfl rfl rfl (Nat.le_of_ble_eq_true rfl) (Nat.le_of_ble_eq_true rfl) ?_
      dsimp only [Option.toList, List.cons_append, List.nil_append, Nat.reduceAdd]
      refine aw_aload_n dX4_hasRoomsOf_12 rfl rfl ?_
      refine aw_iload_n dX4_hasRoomsOf_13 rfl rfl ?_
      refine aw_callVF dX4_hasRoomsOf_14 kX4_40 (c_S_roomOf (by first | assumption | exact ⟨rfl, rfl, rfl⟩) (by omega)) (by first | assumption | rfl) rfl rfl rfl (Nat.le_of_ble_eq_true rfl) (Nat.le_of_ble_eq_true rfl) ?_
      dsimp only [Option.toList, List.cons_append, List.nil_append, Nat.reduceAdd]
      refine aw_icmp_eqN (tgt := 22) dX4_hasRoomsOf_17 (by decide) (by omega) (by omega) (fun c17 => ?_) (fun c17 => ?_)
      · refine aw_iincN (v := 1) dX4_hasRoomsOf_22 rfl rfl ?_
        dsimp only [List.set]
        refine aw_goto (tgt := 2) dX4_hasRoomsOf_25 (by decide) ?_
        exact ih (k + 1) (by omega) (fun i hi => by
          rcases Nat.lt_succ_iff_lt_or_eq.mp hi with q | q
          · exact hall i q
          · subst q; omega)
      · refine aw_iconst (v := nI 0) dX4_hasRoomsOf_20 (by decide) ?_
        refine aw_iret dX4_hasRoomsOf_21 rfl (by first | rfl | exact (pk_charN (by omega)).1 | decide) ?_
        rw [if_neg (fun q => c17 (q k (by omega)))]
        exact ⟨rfl, rfl⟩
  exact loop n 0 (by omega) (fun i hi => by omega)
theorem c_S_daysTo {d o i : Nat} {h : Hp} (hs : SD o) (hi : i < 8) (h1 : h (o + 2) i < 60) (h2 : h o 2 < 2 ^ 30) : RT mX4_daysToBirthdayOf (d + 2) [.ref o, .int (nI i)] h (fun v h' => v = some (.int (nI ((h (o + 2) i + 60 - h o 2 % 60) % 60))) ∧ h' = h) := by
  have ho := hs.1
  change AW mX4_daysToBirthdayOf _ 0 [some (.ref o), some (.int (nI i))] [] h _
  refine aw_aload_n dX4_daysToBirthdayOf_0 rfl rfl ?_
  refine aw_iload_n dX4_daysToBirthdayOf_1 rfl rfl ?_
  refine aw_callVF dX4_daysToBirthdayOf_2 kX4_43 (c_S_birthdayOf (by first | assumption | exact ⟨rfl, rfl, rfl⟩) (by omega)) (by first | assumption | rfl) rfl rfl rfl (Nat.le_of_ble_eq_true rfl) (Nat.le_of_ble_eq_true rfl) ?_
  dsimp only [Option.toList, List.cons_append, List.nil_append, Nat.reduceAdd]
  refine aw_aload_n dX4_daysToBirthdayOf_5 rfl rfl ?_
  refine aw_getI dX4_daysToBirthdayOf_6 fX4_18 (by first | assumption | rfl) (by rfl) ?_
  refine aw_isub dX4_daysToBirthdayOf_9 ?_
  refine aw_bipush (v := nI 60) dX4_daysToBirthdayOf_10 (by decide) ?_
  refine aw_callSF dX4_daysToBirthdayOf_12 kX4_46 (c_floorMod (by omega) (by omega)) rfl rfl rfl (Nat.le_of_ble_eq_true rfl) (Nat.le_of_ble_eq_true rfl) ?_
  dsimp only [Option.toList, List.cons_append, List.nil_append, Nat.reduceAdd]
  refine aw_iret dX4_daysToBirthdayOf_15 rfl (by first | rfl | exact (pk_charN (by omega)).1 | decide) ?_
  refine ⟨?_, rfl⟩
  congr 3
  rw [pk_sub_toInt (by omega) (by omega)]
  omega
/-- standing p copied to o -/
def hcs (h : Hp) (p o : Nat) : Hp := hcp (hcp (hw h o 2 (h p 2)) (p + 1) (o + 1) 8) (p + 2) (o + 2) 8
theorem c_S_copyFrom {d o p : Nat} {h : Hp} (hs : SD o) (hp : SD p) (hne : p + 2 < o ∨ o + 2 < p) : RT mX4_copyFrom (d + 1) [.ref o, .ref p] h (fun v h' => v = none ∧ h' = hcs h p o) := by
  obtain ⟨ho, hr, hb⟩ := hs
  obtain ⟨ho2, hr2, hb2⟩ := hp
  have n1 : p + 1 ≠ o + 1 := by omega
  have n2 : p + 2 ≠ o + 2 := by omega
  change AW mX4_copyFrom _ 0 [some (.ref o), some (.ref p)] [] h _
  refine aw_aload_n dX4_copyFrom_0 rfl rfl ?_
  refine aw_aload_n dX4_copyFrom_1 rfl rfl ?_
  refine aw_getI dX4_copyFrom_2 fX4_18 (by first | assumption | rfl) (by rfl) ?_
  refine aw_putfield dX4_copyFrom_5 gX4_18 (by first | assumption | rfl) (by rfl) ?_
  refine aw_aload_n dX4_copyFrom_8 rfl rfl ?_
  refine aw_getR dX4_copyFrom_9 fX4_9 (by first | assumption | rfl) (by rfl) ?_
  refine aw_aload_n dX4_copyFrom_12 rfl rfl ?_
  refine aw_getR dX4_copyFrom_13 fX4_9 (by first | assumption | rfl) (by rfl) ?_
  refine aw_callSF dX4_copyFrom_16 kX4_32 (c_copyRow (by first | assumption | rfl) (by first | assumption | rfl) (by first | assumption | decide) (by decide)) rfl rfl rfl (Nat.le_of_ble_eq_true rfl) (Nat.le_of_ble_eq_true rfl) ?_
  dsimp only [Option.toList, List.cons_append, List.nil_append, Nat.reduceAdd]
  refine aw_aload_n dX4_copyFrom_19 rfl rfl ?_
  refine aw_getR dX4_copyFrom_20 fX4_15 (by first | assumption | rfl) (by rfl) ?_
  refine aw_aload_n dX4_copyFrom_23 rfl rfl ?_
  refine aw_getR dX4_copyFrom_24 fX4_15 (by first | assumption | rfl) (by rfl) ?_
  refine aw_callSF dX4_copyFrom_27 kX4_32 (c_copyRow (by first | assumption | rfl) (by first | assumption | rfl) (by first | assumption | decide) (by decide)) rfl rfl rfl (Nat.le_of_ble_eq_true rfl) (Nat.le_of_ble_eq_true rfl) ?_
  dsimp only [Option.toList, List.cons_append, List.nil_append, Nat.reduceAdd]
  refine aw_vret dX4_copyFrom_30 rfl ?_
  exact ⟨rfl, rfl⟩
theorem SD8 (o : Nat) (hs : SD o) : True := trivial
