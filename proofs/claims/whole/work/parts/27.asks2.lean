/-! way, register, foundling, year -/
theorem own_hit {f : Nat → Nat} {r : Nat} : ∀ t k, (∃ i, k ≤ i ∧ i < k + t ∧ f i = r) → own f r t k < k + t ∧ f (own f r t k) = r := by
  intro t
  induction t with
  | zero => rintro k ⟨i, h1, h2, _⟩; omega
  | succ t ih =>
    rintro k ⟨i, h1, h2, h3⟩
    unfold own
    by_cases q : f k = r
    · rw [if_pos q]; exact ⟨by omega, q⟩
    · rw [if_neg q]
      have := ih (k + 1) ⟨i, by
        by_cases z : i = k
        · subst z; exact absurd h3 q
        · omega, by omega, h3⟩
      exact ⟨by omega, this.2⟩
theorem own_lt {n r : Nat} {f : Nat → Nat} (hf : PM n f) (hr : r < n) : own f r n 0 < n := by
  obtain ⟨i, h1, h2⟩ := hf.2 r hr
  have := (own_hit n 0 ⟨i, Nat.zero_le _, by omega, h2⟩).1
  omega
def wbS (X : XS) (a : Nat) : Nat → Nat
  | 0 => 0
  | k + 1 => wbS X a k + sW (xS X) (own (xC X).2.2 ((a + (k + 1)) % xn X) (xn X) 0)
theorem wb_toInt {r a n : Nat} (hr : r < n) (ha : a < n) (hn : n ≤ 8) : ((nI r - nI a).toInt % (n : Int)).toNat = (r + n - a) % n := by
  rw [pk_sub_toInt (by omega) (by omega)]
  rcases Nat.lt_or_ge r a with q | q
  · rw [show (r : Int) - a = ((r + n - a : Nat) : Int) - n by omega, Int.sub_emod_right, ← Int.natCast_emod]
    rfl
  · rw [show (r : Int) - a = ((r - a : Nat) : Int) by omega, show r + n - a = (r - a) + n by omega, Nat.add_mod_right, ← Int.natCast_emod]
    rfl
theorem md_toInt {x n : Nat} (hx : x < 2 ^ 30) (hn : 0 < n) : ((nI x).toInt % (n : Int)).toNat = x % n := by
  rw [nI_toInt (by omega), ← Int.natCast_emod]
  rfl
theorem c_wantsBetween {d a r : Nat} {h : Hp} {X : XS} (hr : RX h X) (hv : VX X) (ha : a < xn X) (hrn : r < xn X) : RT mX7_wantsBetween (d + 2) [.ref 0, .int (nI a), .int (nI r)] h (fun v h' => v = some (.int (nI (wbS X a ((r + xn X - a) % xn X - 1)))) ∧ h' = h) := by
  have hn := hv.n
  have e46 : h 4 6 = xn X := hr.1.2.1
  have e45 : h 4 5 = xn X := hr.1.1
  have e17 : ∀ i, i < xn X → h 17 i = (xC X).2.2 i := fun i hi => (hr.2.1.2 i hi).1
  have hpm := hv.2.1.2.1
  have hm : (r + xn X - a) % xn X < xn X := Nat.mod_lt _ (by omega)
  change AW mX7_wantsBetween _ 0 [some (.ref 0), some (.int (nI a)), some (.int (nI r)), none, none, none, none] [] h _
  refine aw_aload_n dX7_wantsBetween_0 rfl rfl ?_
  refine aw_getR dX7_wantsBetween_1 fX7_19 (by first | assumption | rfl) (by rfl) ?_
  refine aw_callVF dX7_wantsBetween_4 kX7_261 (c_P_rooms) (by first | assumption | rfl) rfl rfl rfl (Nat.le_of_ble_eq_true rfl) (Nat.le_of_ble_eq_true rfl) ?_
  dsimp only [Option.toList, List.cons_append, List.nil_append, Nat.reduceAdd]
  rw [e46]
  refine aw_istore_n dX7_wantsBetween_7 rfl (Nat.le_of_ble_eq_true rfl) rfl ?_
  dsimp only [List.set]
  refine aw_iload_n dX7_wantsBetween_8 rfl rfl ?_
  refine aw_iload_n dX7_wantsBetween_9 rfl rfl ?_
  refine aw_isub dX7_wantsBetween_10 ?_
  refine aw_iload_n dX7_wantsBetween_11 rfl rfl ?_
  refine aw_callSF dX7_wantsBetween_12 kX7_264 (c_wrapped (by omega) (by omega)) rfl rfl rfl (Nat.le_of_ble_eq_true rfl) (Nat.le_of_ble_eq_true rfl) ?_
  dsimp only [Option.toList, List.cons_append, List.nil_append, Nat.reduceAdd]
  rw [wb_toInt hrn ha hn.2]
  generalize hmm : (r + xn X - a) % xn X = m at hm
  rcases Nat.eq_zero_or_pos m with hz | hz
  · subst hz
    refine aw_iconst (v := nI 1) dX7_wantsBetween_15 (by decide) ?_
    refine aw_isub dX7_wantsBetween_16 ?_
    refine aw_istore dX7_wantsBetween_17 (Nat.le_of_ble_eq_true rfl) rfl ?_
    dsimp only [List.set]
    refine aw_iconst (v := nI 0) dX7_wantsBetween_19 (by decide) ?_
    refine aw_istore dX7_wantsBetween_20 (Nat.le_of_ble_eq_true rfl) rfl ?_
    dsimp only [List.set]
    refine aw_iconst (v := nI 1) dX7_wantsBetween_22 (by decide) ?_
    refine aw_istore dX7_wantsBetween_23 (Nat.le_of_ble_eq_true rfl) rfl ?_
    dsimp only [List.set]
    refine aw_iload dX7_wantsBetween_25 rfl ?_
    refine aw_iload dX7_wantsBetween_27 rfl ?_
    refine aw_icmp_gt (tgt := 79) dX7_wantsBetween_29 (by decide) (fun q => ?_) (fun q => absurd (by decide) q)
    refine aw_iload dX7_wantsBetween_79 rfl ?_
    refine aw_iret dX7_wantsBetween_81 rfl (by first | rfl | exact (pk_charN (by omega)).1 | decide) ?_
    exact ⟨rfl, rfl⟩
  · have loop : ∀ u k, k + u = m → 1 ≤ k → AW mX7_wantsBetween (d + 2) 25 [some (.ref 0), some (.int (nI a)), some (.int (nI r)), some (.int (nI (xn X))), some (.int (nI (m - 1))), some (.int (nI (wbS X a (k - 1)))), some (.int (nI k))] [] h (fun v h' => v = some (.int (nI (wbS X a (m - 1)))) ∧ h' = h) := by
      intro u
      induction u with
      | zero =>
        intro k hk h1
        have ek : k = m := by omega
        subst ek
        refine aw_iload dX7_wantsBetween_25 rfl ?_
        refine aw_iload dX7_wantsBetween_27 rfl ?_
        refine aw_icmp_gtN (tgt := 79) dX7_wantsBetween_29 (by decide) (by omega) (by omega) (fun _ => ?_) (fun q => absurd q (by omega))
        refine aw_iload dX7_wantsBetween_79 rfl ?_
        refine aw_iret dX7_wantsBetween_81 rfl (by first | rfl | exact (pk_charN (by omega)).1 | decide) ?_
        exact ⟨rfl, rfl⟩
      | succ u ih =>
        intro k hk h1
        have hmod : (a + k) % xn X < xn X := Nat.mod_lt _ (by omega)
        have ho := own_lt hpm hmod
        have ew := (hr.1.2.2 _ ho).2.1
        refine aw_iload dX7_wantsBetween_25 rfl ?_
        refine aw_iload dX7_wantsBetween_27 rfl ?_
        refine aw_icmp_gtN (tgt := 79) dX7_wantsBetween_29 (by decide) (by omega) (by omega) (fun q => absurd q (by omega)) (fun _ => ?_)
        refine aw_iload dX7_wantsBetween_32 rfl ?_
        refine aw_bipush (v := nI 8) dX7_wantsBetween_34 (by decide) ?_
        refine aw_icmp_geN (tgt := 79) dX7_wantsBetween_36 (by decide) (by omega) (by omega) (fun q => absurd q (by omega)) (fun _ => ?_)
        refine aw_iload dX7_wantsBetween_39 rfl ?_
        refine aw_aload_n dX7_wantsBetween_41 rfl rfl ?_
        refine aw_getR dX7_wantsBetween_42 fX7_19 (by first | assumption | rfl) (by rfl) ?_
        refine aw_aload_n dX7_wantsBetween_45 rfl rfl ?_
        refine aw_getR dX7_wantsBetween_46 fX7_29 (by first | assumption | rfl) (by rfl) ?_
        refine aw_iload_n dX7_wantsBetween_49 rfl rfl ?_
        refine aw_iload dX7_wantsBetween_50 rfl ?_
        refine aw_iaddN dX7_wantsBetween_52 ?_
        refine aw_iload_n dX7_wantsBetween_53 rfl rfl ?_
        refine aw_callSF dX7_wantsBetween_54 kX7_264 (c_wrapped (by omega) (by omega)) rfl rfl rfl (Nat.le_of_ble_eq_true rfl) (Nat.le_of_ble_eq_true rfl) ?_
        dsimp only [Option.toList, List.cons_append, List.nil_append, Nat.reduceAdd]
        rw [md_toInt (by omega) (by omega)]
        refine aw_aload_n dX7_wantsBetween_57 rfl rfl ?_
        refine aw_getR dX7_wantsBetween_58 fX7_19 (by first | assumption | rfl) (by rfl) ?_
        refine aw_callVF dX7_wantsBetween_61 kX7_113 (c_P_cousins) (by first | assumption | rfl) rfl rfl rfl (Nat.le_of_ble_eq_true rfl) (Nat.le_of_ble_eq_true rfl) ?_
        dsimp only [Option.toList, List.cons_append, List.nil_append, Nat.reduceAdd]
        rw [e45]
        refine aw_callVF dX7_wantsBetween_64 kX7_149 (c_S_ownerOf ⟨rfl, rfl, rfl⟩ hn.2 (by omega) (fun i hi => by show h 17 i < _; rw [e17 i hi]; have := hpm.1 i hi; omega)) (by first | assumption | rfl) rfl rfl rfl (Nat.le_of_ble_eq_true rfl) (Nat.le_of_ble_eq_true rfl) ?_
        dsimp only [Option.toList, List.cons_append, List.nil_append, Nat.reduceAdd]
        rw [own_congr (xn X) 0 (fun i _ hi => e17 i (by omega))]
        refine aw_callVF dX7_wantsBetween_67 kX7_127 (c_P_wantOf (by omega)) (by first | assumption | rfl) rfl rfl rfl (Nat.le_of_ble_eq_true rfl) (Nat.le_of_ble_eq_true rfl) ?_
        dsimp only [Option.toList, List.cons_append, List.nil_append, Nat.reduceAdd]
        rw [ew]
        refine aw_iaddN dX7_wantsBetween_70 ?_
        refine aw_istore dX7_wantsBetween_71 (Nat.le_of_ble_eq_true rfl) rfl ?_
        dsimp only [List.set]
        refine aw_iincN (v := 1) dX7_wantsBetween_73 rfl rfl ?_
        dsimp only [List.set]
        refine aw_goto (tgt := 25) dX7_wantsBetween_76 (by decide) ?_
        have e : wbS X a (k - 1) + sW (xS X) (own (xC X).2.2 ((a + k) % xn X) (xn X) 0) = wbS X a (k + 1 - 1) := by
          obtain ⟨k2, rfl⟩ : ∃ k2, k = k2 + 1 := ⟨k - 1, by omega⟩
          rfl
        rw [e]
        exact ih (k + 1) (by omega) (by omega)
    refine aw_iconst (v := nI 1) dX7_wantsBetween_15 (by decide) ?_
    refine aw_isubN dX7_wantsBetween_16 (by omega) ?_
    refine aw_istore dX7_wantsBetween_17 (Nat.le_of_ble_eq_true rfl) rfl ?_
    dsimp only [List.set]
    refine aw_iconst (v := nI 0) dX7_wantsBetween_19 (by decide) ?_
    refine aw_istore dX7_wantsBetween_20 (Nat.le_of_ble_eq_true rfl) rfl ?_
    dsimp only [List.set]
    refine aw_iconst (v := nI 1) dX7_wantsBetween_22 (by decide) ?_
    refine aw_istore dX7_wantsBetween_23 (Nat.le_of_ble_eq_true rfl) rfl ?_
    dsimp only [List.set]
    exact loop (m - 1) 1 (by omega) (by omega)
def wyU (X : XS) (a r : Nat) : Nat := wbS X a ((r + xn X - a) % xn X - 1)
theorem wbS_lt {X : XS} (hv : VX X) (a : Nat) : ∀ k, wbS X a k ≤ 9 * k := by
  intro k
  induction k with
  | zero => exact Nat.le_refl _
  | succ k ih =>
    show wbS X a k + _ ≤ _
    have hn := hv.n
    have hwk : sW (xS X) (own (xC X).2.2 ((a + (k + 1)) % xn X) (xn X) 0) ≤ 9 := (hv.1.2.2 _ (own_lt hv.2.1.2.1 (r := (a + (k + 1)) % xn X) (Nat.mod_lt _ (show xn X > 0 by omega)))).2.1
    omega
theorem wyU_lt {X : XS} (hv : VX X) {a r : Nat} : wyU X a r ≤ 72 := by
  have hn := hv.n
  have h1 := wbS_lt hv a ((r + xn X - a) % xn X - 1)
  have h2 : (r + xn X - a) % xn X < xn X := Nat.mod_lt _ (by omega)
  unfold wyU
  omega
noncomputable def a_way (X : XS) (i r w : Int32) : Int32 := match ix i 0 (xn X - 1) with
  | none => aBAD
  | some i => match ix r 0 (xn X - 1) with
    | none => aBAD
    | some r => match ix w 0 1 with
      | none => aBAD
      | some w => nI (if w = 0 then min (wyU X ((xC X).2.2 i) r) (wyU X r ((xC X).2.2 i)) else if wyU X r ((xC X).2.2 i) < wyU X ((xC X).2.2 i) r then 1 else 0)
theorem x_way {d : Nat} {h : Hp} {X : XS} {i r w : Int32} (hr : RX h X) (hv : VX X) : RT mX7_way (d + 6) [.ref 0, .int i, .int r, .int w] h (QX h X (a_way X i r w)) := by
  have hn := hv.n
  unfold a_way
  change AW mX7_way _ 0 [some (.ref 0), some (.int i), some (.int r), some (.int w), none, none] [] h _
  cases ei : ix i 0 (xn X - 1) with
  | none =>
    refine aw_aload_n dX7_way_0 rfl rfl ?_
    refine aw_iload_n dX7_way_1 rfl rfl ?_
    refine aw_callVF dX7_way_2 kX7_116 (c_isCN hr hv ei) (by first | assumption | rfl) rfl rfl rfl (Nat.le_of_ble_eq_true rfl) (Nat.le_of_ble_eq_true rfl) ?_
    dsimp only [Option.toList, List.cons_append, List.nil_append, Nat.reduceAdd]
    refine aw_if_eqN (tgt := 25) dX7_way_5 (by decide) (by omega) (fun _ => ?_) (fun q => absurd q (by omega))
    refine aw_iconst (v := nI 4294967295) dX7_way_25 (by decide) ?_
    refine aw_iret dX7_way_26 rfl (by first | rfl | exact (pk_charN (by omega)).1 | decide) ?_
    exact QX.same hr
  | some i =>
    obtain ⟨rfl, hi1, hi2⟩ := ix_s (by omega) (by omega) ei
    dsimp only
    cases er : ix r 0 (xn X - 1) with
    | none =>
      refine aw_aload_n dX7_way_0 rfl rfl ?_
      refine aw_iload_n dX7_way_1 rfl rfl ?_
      refine aw_callVF dX7_way_2 kX7_116 (c_isCS hr hv ei) (by first | assumption | rfl) rfl rfl rfl (Nat.le_of_ble_eq_true rfl) (Nat.le_of_ble_eq_true rfl) ?_
      dsimp only [Option.toList, List.cons_append, List.nil_append, Nat.reduceAdd]
      refine aw_if_eqN (tgt := 25) dX7_way_5 (by decide) (by omega) (fun q => absurd q (by omega)) (fun _ => ?_)
      refine aw_aload_n dX7_way_8 rfl rfl ?_
      refine aw_iload_n dX7_way_9 rfl rfl ?_
      refine aw_callVF dX7_way_10 kX7_140 (c_isRN hr hv er) (by first | assumption | rfl) rfl rfl rfl (Nat.le_of_ble_eq_true rfl) (Nat.le_of_ble_eq_true rfl) ?_
      dsimp only [Option.toList, List.cons_append, List.nil_append, Nat.reduceAdd]
      refine aw_if_eqN (tgt := 25) dX7_way_13 (by decide) (by omega) (fun _ => ?_) (fun q => absurd q (by omega))
      refine aw_iconst (v := nI 4294967295) dX7_way_25 (by decide) ?_
      refine aw_iret dX7_way_26 rfl (by first | rfl | exact (pk_charN (by omega)).1 | decide) ?_
      exact QX.same hr
    | some r =>
      obtain ⟨rfl, hr1, hr2⟩ := ix_s (by omega) (by omega) er
      dsimp only
      cases ew : ix w 0 1 with
      | none =>
        refine aw_aload_n dX7_way_0 rfl rfl ?_
        refine aw_iload_n dX7_way_1 rfl rfl ?_
        refine aw_callVF dX7_way_2 kX7_116 (c_isCS hr hv ei) (by first | assumption | rfl) rfl rfl rfl (Nat.le_of_ble_eq_true rfl) (Nat.le_of_ble_eq_true rfl) ?_
        dsimp only [Option.toList, List.cons_append, List.nil_append, Nat.reduceAdd]
        refine aw_if_eqN (tgt := 25) dX7_way_5 (by decide) (by omega) (fun q => absurd q (by omega)) (fun _ => ?_)
        refine aw_aload_n dX7_way_8 rfl rfl ?_
        refine aw_iload_n dX7_way_9 rfl rfl ?_
        refine aw_callVF dX7_way_10 kX7_140 (c_isRS hr hv er) (by first | assumption | rfl) rfl rfl rfl (Nat.le_of_ble_eq_true rfl) (Nat.le_of_ble_eq_true rfl) ?_
        dsimp only [Option.toList, List.cons_append, List.nil_append, Nat.reduceAdd]
        refine aw_if_eqN (tgt := 25) dX7_way_13 (by decide) (by omega) (fun q => absurd q (by omega)) (fun _ => ?_)
        refine aw_iload_n dX7_way_16 rfl rfl ?_
        refine aw_iconst (v := nI 0) dX7_way_17 (by decide) ?_
        refine aw_iconst (v := nI 1) dX7_way_18 (by decide) ?_
        refine aw_callSF dX7_way_19 kX7_99 (c_wiN ew) rfl rfl rfl (Nat.le_of_ble_eq_true rfl) (Nat.le_of_ble_eq_true rfl) ?_
        dsimp only [Option.toList, List.cons_append, List.nil_append, Nat.reduceAdd]
        refine aw_if_neN (tgt := 27) dX7_way_22 (by decide) (by omega) (fun q => absurd q (by omega)) (fun _ => ?_)
        refine aw_iconst (v := nI 4294967295) dX7_way_25 (by decide) ?_
        refine aw_iret dX7_way_26 rfl (by first | rfl | exact (pk_charN (by omega)).1 | decide) ?_
        exact QX.same hr
      | some w =>
        obtain ⟨rfl, hw1, hw2⟩ := ix_s (by omega) (by omega) ew
        dsimp only
        have hin : i < xn X := by omega
        have e17 : h 17 i = (xC X).2.2 i := (hr.2.1.2 i hin).1
        have hfi := hv.2.1.2.1.1 i hin
        refine aw_aload_n dX7_way_0 rfl rfl ?_
        refine aw_iload_n dX7_way_1 rfl rfl ?_
        refine aw_callVF dX7_way_2 kX7_116 (c_isCS hr hv ei) (by first | assumption | rfl) rfl rfl rfl (Nat.le_of_ble_eq_true rfl) (Nat.le_of_ble_eq_true rfl) ?_
        dsimp only [Option.toList, List.cons_append, List.nil_append, Nat.reduceAdd]
        refine aw_if_eqN (tgt := 25) dX7_way_5 (by decide) (by omega) (fun q => absurd q (by omega)) (fun _ => ?_)
        refine aw_aload_n dX7_way_8 rfl rfl ?_
        refine aw_iload_n dX7_way_9 rfl rfl ?_
        refine aw_callVF dX7_way_10 kX7_140 (c_isRS hr hv er) (by first | assumption | rfl) rfl rfl rfl (Nat.le_of_ble_eq_true rfl) (Nat.le_of_ble_eq_true rfl) ?_
        dsimp only [Option.toList, List.cons_append, List.nil_append, Nat.reduceAdd]
        refine aw_if_eqN (tgt := 25) dX7_way_13 (by decide) (by omega) (fun q => absurd q (by omega)) (fun _ => ?_)
        refine aw_iload_n dX7_way_16 rfl rfl ?_
        refine aw_iconst (v := nI 0) dX7_way_17 (by decide) ?_
        refine aw_iconst (v := nI 1) dX7_way_18 (by decide) ?_
        refine aw_callSF dX7_way_19 kX7_99 (c_wiS ew) rfl rfl rfl (Nat.le_of_ble_eq_true rfl) (Nat.le_of_ble_eq_true rfl) ?_
        dsimp only [Option.toList, List.cons_append, List.nil_append, Nat.reduceAdd]
        refine aw_if_neN (tgt := 27) dX7_way_22 (by decide) (by omega) (fun _ => ?_) (fun q => absurd q (by omega))
        refine aw_aload_n dX7_way_27 rfl rfl ?_
        refine aw_aload_n dX7_way_28 rfl rfl ?_
        refine aw_getR dX7_way_29 fX7_29 (by first | assumption | rfl) (by rfl) ?_
        refine aw_iload_n dX7_way_32 rfl rfl ?_
        refine aw_callVF dX7_way_33 kX7_130 (c_S_roomOf (by first | assumption | exact ⟨rfl, rfl, rfl⟩) (by omega)) (by first | assumption | rfl) rfl rfl rfl (Nat.le_of_ble_eq_true rfl) (Nat.le_of_ble_eq_true rfl) ?_
        dsimp only [Option.toList, List.cons_append, List.nil_append, Nat.reduceAdd]
        rw [e17]
        refine aw_iload_n dX7_way_36 rfl rfl ?_
        refine aw_callVF dX7_way_37 kX7_218 (c_wantsBetween hr hv hfi (by omega)) (by first | assumption | rfl) rfl rfl rfl (Nat.le_of_ble_eq_true rfl) (Nat.le_of_ble_eq_true rfl) ?_
        dsimp only [Option.toList, List.cons_append, List.nil_append, Nat.reduceAdd]
        refine aw_istore dX7_way_40 (Nat.le_of_ble_eq_true rfl) rfl ?_
        dsimp only [List.set]
        refine aw_aload_n dX7_way_42 rfl rfl ?_
        refine aw_iload_n dX7_way_43 rfl rfl ?_
        refine aw_aload_n dX7_way_44 rfl rfl ?_
        refine aw_getR dX7_way_45 fX7_29 (by first | assumption | rfl) (by rfl) ?_
        refine aw_iload_n dX7_way_48 rfl rfl ?_
        refine aw_callVF dX7_way_49 kX7_130 (c_S_roomOf (by first | assumption | exact ⟨rfl, rfl, rfl⟩) (by omega)) (by first | assumption | rfl) rfl rfl rfl (Nat.le_of_ble_eq_true rfl) (Nat.le_of_ble_eq_true rfl) ?_
        dsimp only [Option.toList, List.cons_append, List.nil_append, Nat.reduceAdd]
        rw [e17]
        refine aw_callVF dX7_way_52 kX7_218 (c_wantsBetween hr hv (by omega) hfi) (by first | assumption | rfl) rfl rfl rfl (Nat.le_of_ble_eq_true rfl) (Nat.le_of_ble_eq_true rfl) ?_
        dsimp only [Option.toList, List.cons_append, List.nil_append, Nat.reduceAdd]
        refine aw_istore dX7_way_55 (Nat.le_of_ble_eq_true rfl) rfl ?_
        dsimp only [List.set]
        refine aw_iload_n dX7_way_57 rfl rfl ?_
        rw [show wbS X ((xC X).2.2 i) ((r + xn X - (xC X).2.2 i) % xn X - 1) = wyU X ((xC X).2.2 i) r from rfl, show wbS X r (((xC X).2.2 i + xn X - r) % xn X - 1) = wyU X r ((xC X).2.2 i) from rfl]
        have u1 := wyU_lt hv (a := (xC X).2.2 i) (r := r)
        have u2 := wyU_lt hv (a := r) (r := (xC X).2.2 i)
        rcases (show w = 0 ∨ w = 1 by omega) with rfl | rfl
        · refine aw_if_neN (tgt := 69) dX7_way_58 (by decide) (by omega) (fun q => absurd q (by omega)) (fun _ => ?_)
          refine aw_iload dX7_way_61 rfl ?_
          refine aw_iload dX7_way_63 rfl ?_
          refine aw_mminN dX7_way_65 kX7_221 (by omega) (by omega) (Nat.le_of_ble_eq_true rfl) ?_
          refine aw_iret dX7_way_68 rfl (by first | rfl | exact (pk_charN (by omega)).1 | decide) ?_
          exact QX.same hr
        · rw [if_neg (by decide)]
          refine aw_if_neN (tgt := 69) dX7_way_58 (by decide) (by omega) (fun _ => ?_) (fun q => absurd q (by omega))
          refine aw_iload dX7_way_69 rfl ?_
          refine aw_iload dX7_way_71 rfl ?_
          refine aw_icmp_geN (tgt := 80) dX7_way_73 (by decide) (by omega) (by omega) (fun c73 => ?_) (fun c73 => ?_)
          · rw [if_neg (by omega)]
            refine aw_iconst (v := nI 0) dX7_way_80 (by decide) ?_
            refine aw_iret dX7_way_81 rfl (by first | rfl | exact (pk_charN (by omega)).1 | decide) ?_
            exact QX.same hr
          · rw [if_pos (by omega)]
            refine aw_iconst (v := nI 1) dX7_way_76 (by decide) ?_
            refine aw_goto (tgt := 81) dX7_way_77 (by decide) ?_
            refine aw_iret dX7_way_81 rfl (by first | rfl | exact (pk_charN (by omega)).1 | decide) ?_
            exact QX.same hr
/-- birthday x would do for cousin i -/
abbrev fitP (X : XS) (i x : Nat) : Prop := ∀ k, k < (xZ X).1 → rmF (xS X) (fu (x0 X) i x) (lsB (xn X) (fu (x0 X) i x)) 0 (fun j => j) (((xZ X).2 k).2.2 + 1) ((xZ X).2 k).1 = ((xZ X).2 k).2.1
def rgS (X : XS) (i : Nat) : Nat → Nat × Nat
  | 0 => (0, 4294967292)
  | x + 1 => if fitP X i x then ((rgS X i x).1 + 1, if (rgS X i x).2 = 4294967292 then x else (rgS X i x).2) else rgS X i x
noncomputable def a_register (X : XS) (i w : Int32) : Int32 := match ix i 0 (xn X - 1) with
  | none => aBAD
  | some i => match ix w 0 1 with
    | none => aBAD
    | some w => nI (if w = 0 then (rgS X i 60).1 else (rgS X i 60).2)
theorem rgS_sm {X : XS} {i : Nat} : ∀ x, (rgS X i x).1 ≤ x ∧ ((rgS X i x).2 = 4294967292 ∨ (rgS X i x).2 < x) := by
  intro x
  induction x with
  | zero => exact ⟨Nat.le_refl _, Or.inl rfl⟩
  | succ x ih =>
    unfold rgS
    split
    · refine ⟨by dsimp only; omega, ?_⟩
      dsimp only
      split
      · exact Or.inr (by omega)
      · exact Or.inr (by omega)
    · exact ⟨by omega, by omega⟩
theorem fitP_iff {X : XS} {i x : Nat} {zs : Nat → Zt} (hz : ZO (xZ X).1 zs (xZ X).2) : allS (xS X) (fu (x0 X) i x) (lsB (xn X) (fu (x0 X) i x)) (fun j => j) (xZ X).1 zs ↔ fitP X i x := by
  constructor
  · intro q k hk
    obtain ⟨j, hj, e⟩ := hz.2.1 k hk
    rw [← e]
    exact q j hj
  · intro q k hk
    obtain ⟨j, hj, e⟩ := hz.1 k hk
    rw [← e]
    exact q j hj
theorem x_register {d : Nat} {h : Hp} {X : XS} {i w : Int32} (hr : RX h X) (hv : VX X) : RT mX7_register (d + 7) [.ref 0, .int i, .int w] h (QX h X (a_register X i w)) := by
  have hn := hv.n
  obtain ⟨zs, z1, z2⟩ := hr.2.2.2.2.2.1
  have hz8 := hv.2.2.2.2.2.1
  have hzo : ∀ k, k < (xZ X).1 → (zs k).1 < xn X ∧ (zs k).2.1 < xn X ∧ (zs k).2.2 ≤ 120 := fun k hk => by
    obtain ⟨j, hj, e⟩ := z2.1 k hk
    rw [← e]
    exact hz8.2 j hj
  unfold a_register
  change AW mX7_register _ 0 [some (.ref 0), some (.int i), some (.int w), none, none, none] [] h _
  cases ei : ix i 0 (xn X - 1) with
  | none =>
    refine aw_aload_n dX7_register_0 rfl rfl ?_
    refine aw_iload_n dX7_register_1 rfl rfl ?_
    refine aw_callVF dX7_register_2 kX7_116 (c_isCN hr hv ei) (by first | assumption | rfl) rfl rfl rfl (Nat.le_of_ble_eq_true rfl) (Nat.le_of_ble_eq_true rfl) ?_
    dsimp only [Option.toList, List.cons_append, List.nil_append, Nat.reduceAdd]
    refine aw_if_eqN (tgt := 17) dX7_register_5 (by decide) (by omega) (fun _ => ?_) (fun q => absurd q (by omega))
    refine aw_iconst (v := nI 4294967295) dX7_register_17 (by decide) ?_
    refine aw_iret dX7_register_18 rfl (by first | rfl | exact (pk_charN (by omega)).1 | decide) ?_
    exact QX.same hr
  | some i =>
    obtain ⟨rfl, hi1, hi2⟩ := ix_s (by omega) (by omega) ei
    dsimp only
    cases ew : ix w 0 1 with
    | none =>
      refine aw_aload_n dX7_register_0 rfl rfl ?_
      refine aw_iload_n dX7_register_1 rfl rfl ?_
      refine aw_callVF dX7_register_2 kX7_116 (c_isCS hr hv ei) (by first | assumption | rfl) rfl rfl rfl (Nat.le_of_ble_eq_true rfl) (Nat.le_of_ble_eq_true rfl) ?_
      dsimp only [Option.toList, List.cons_append, List.nil_append, Nat.reduceAdd]
      refine aw_if_eqN (tgt := 17) dX7_register_5 (by decide) (by omega) (fun q => absurd q (by omega)) (fun _ => ?_)
      refine aw_iload_n dX7_register_8 rfl rfl ?_
      refine aw_iconst (v := nI 0) dX7_register_9 (by decide) ?_
      refine aw_iconst (v := nI 1) dX7_register_10 (by decide) ?_
      refine aw_callSF dX7_register_11 kX7_99 (c_wiN ew) rfl rfl rfl (Nat.le_of_ble_eq_true rfl) (Nat.le_of_ble_eq_true rfl) ?_
      dsimp only [Option.toList, List.cons_append, List.nil_append, Nat.reduceAdd]
      refine aw_if_neN (tgt := 19) dX7_register_14 (by decide) (by omega) (fun q => absurd q (by omega)) (fun _ => ?_)
      refine aw_iconst (v := nI 4294967295) dX7_register_17 (by decide) ?_
      refine aw_iret dX7_register_18 rfl (by first | rfl | exact (pk_charN (by omega)).1 | decide) ?_
      exact QX.same hr
    | some w =>
      obtain ⟨rfl, hw1, hw2⟩ := ix_s (by omega) (by omega) ew
      dsimp only
      have hin : i < xn X := by omega
      have loop : ∀ u x hh, x + u = 60 → FQ h hh → AW mX7_register (d + 7) 28 [some (.ref 0), some (.int (nI i)), some (.int (nI w)), some (.int (nI (rgS X i x).1)), some (.int (nI (rgS X i x).2)), some (.int (nI x))] [] hh (QX h X (nI (if w = 0 then (rgS X i 60).1 else (rgS X i 60).2))) := by
        intro u
        induction u with
        | zero =>
          intro x hh hx hf
          have ex : x = 60 := by omega
          subst ex
          refine aw_iload dX7_register_28 rfl ?_
          refine aw_bipush (v := nI 59) dX7_register_30 (by decide) ?_
          refine aw_icmp_gtN (tgt := 88) dX7_register_32 (by decide) (by omega) (by omega) (fun _ => ?_) (fun q => absurd q (by omega))
          refine aw_iload_n dX7_register_88 rfl rfl ?_
          rcases (show w = 0 ∨ w = 1 by omega) with rfl | rfl
          · rw [if_pos rfl]
            refine aw_if_neN (tgt := 96) dX7_register_89 (by decide) (by omega) (fun q => absurd q (by omega)) (fun _ => ?_)
            refine aw_iload_n dX7_register_92 rfl rfl ?_
            refine aw_goto (tgt := 98) dX7_register_93 (by decide) ?_
            refine aw_iret dX7_register_98 rfl (by first | rfl | exact (pk_charN (by omega)).1 | decide) ?_
            exact QX.fq hr hv hf
          · rw [if_neg (by decide)]
            refine aw_if_neN (tgt := 96) dX7_register_89 (by decide) (by omega) (fun _ => ?_) (fun q => absurd q (by omega))
            refine aw_iload dX7_register_96 rfl ?_
            refine aw_iret dX7_register_98 rfl (by first | rfl | exact (pk_charN (by omega)).1 | decide) ?_
            exact QX.fq hr hv hf
        | succ u ih =>
          intro x hh hx hf
          have hr1 := hr.fq hv hf
          have hb1 : ∀ k, k < xn X → fu (x0 X) i x k < 60 := fun k hk => by
            unfold fu
            split
            · omega
            · exact hv.2.2.1.2.2 k hk
          refine aw_iload dX7_register_28 rfl ?_
          refine aw_bipush (v := nI 59) dX7_register_30 (by decide) ?_
          refine aw_icmp_gtN (tgt := 88) dX7_register_32 (by decide) (by omega) (by omega) (fun q => absurd q (by omega)) (fun _ => ?_)
          refine aw_aload_n dX7_register_35 rfl rfl ?_
          refine aw_getR dX7_register_36 fX7_60 (by first | assumption | rfl) (by rfl) ?_
          refine aw_aload_n dX7_register_39 rfl rfl ?_
          refine aw_getR dX7_register_40 fX7_33 (by first | assumption | rfl) (by rfl) ?_
          refine aw_iload_n dX7_register_43 rfl rfl ?_
          refine aw_iload dX7_register_44 rfl ?_
          refine aw_callV dX7_register_46 kX7_232 (c_W_beginWith hr1.1 hv.1 hr1.2.2.1 hv.2.2.1.2.2 hin (by omega) ⟨rfl, rfl, rfl⟩ (by decide)) (by first | assumption | rfl) rfl rfl rfl (Nat.le_of_ble_eq_true rfl) (Nat.le_of_ble_eq_true rfl) ?_
          rintro _ h2 ⟨rfl, w2, f2⟩
          dsimp only [Option.toList, List.cons_append, List.nil_append, Nat.reduceAdd]
          refine aw_aload_n dX7_register_49 rfl rfl ?_
          refine aw_getR dX7_register_50 fX7_51 (by first | assumption | rfl) (by rfl) ?_
          refine aw_aload_n dX7_register_53 rfl rfl ?_
          refine aw_getR dX7_register_54 fX7_60 (by first | assumption | rfl) (by rfl) ?_
          have zx2 : ZX h2 (xZ X).1 zs := by
            have f3 : ∀ o, o < 60 → h2 o = h o := fun o ho => by rw [f2 o (by omega), hf o (by omega)]
            unfold ZX
            rw [f3 56 (by omega), f3 57 (by omega), f3 58 (by omega), f3 59 (by omega)]
            exact z1
          have w2' : WS h2 (xS X) (fu (x0 X) i x) (lsB (xn X) (fu (x0 X) i x)) 0 (fun j => j) (fun _ => 0) 0 := w2
          refine aw_callV dX7_register_57 kX7_235 (c_Z_allHoldOn w2' (WO_ls hv.1 hb1) (PM_id _) zx2 hz8.1 hzo z2.2.2) (by first | assumption | rfl) rfl rfl rfl (Nat.le_of_ble_eq_true rfl) (Nat.le_of_ble_eq_true rfl) ?_
          rintro v h3 ⟨hq, f3⟩
          dsimp only [Option.toList, List.cons_append, List.nil_append, Nat.reduceAdd]
          have f4 : FQ h h3 := hf.trans (FQ.of (f2.trans f3))
          have hsm := rgS_sm (X := X) (i := i) x
          rcases hq with ⟨q1, rfl⟩ | ⟨q1, rfl⟩
          · have hfit := (fitP_iff z2).mp q1
            have e : rgS X i (x + 1) = ((rgS X i x).1 + 1, if (rgS X i x).2 = 4294967292 then x else (rgS X i x).2) := by rw [rgS, if_pos hfit]
            have ihx := ih (x + 1) h3 (by omega) f4
            rw [e] at ihx
            dsimp only at ihx
            by_cases hz : (rgS X i x).2 = 4294967292
            · rw [if_pos hz] at ihx
              rw [hz]
              refine aw_if_eqN (tgt := 82) dX7_register_60 (by decide) (by omega) (fun q => absurd q (by omega)) (fun _ => ?_)
              refine aw_iincN (v := 1) dX7_register_63 rfl rfl ?_
              dsimp only [List.set]
              refine aw_iload dX7_register_66 rfl ?_
              refine aw_bipush (v := nI 4294967292) dX7_register_68 (by decide) ?_
              refine aw_icmp_ne (tgt := 78) dX7_register_70 (by decide) (fun q => absurd rfl q) (fun _ => ?_)
              refine aw_iload dX7_register_73 rfl ?_
              refine aw_goto (tgt := 80) dX7_register_75 (by decide) ?_
              refine aw_istore dX7_register_80 (Nat.le_of_ble_eq_true rfl) rfl ?_
              dsimp only [List.set]
              refine aw_iincN (v := 1) dX7_register_82 rfl rfl ?_
              dsimp only [List.set]
              refine aw_goto (tgt := 28) dX7_register_85 (by decide) ?_
              exact ihx
            · rw [if_neg hz] at ihx
              refine aw_if_eqN (tgt := 82) dX7_register_60 (by decide) (by omega) (fun q => absurd q (by omega)) (fun _ => ?_)
              refine aw_iincN (v := 1) dX7_register_63 rfl rfl ?_
              dsimp only [List.set]
              refine aw_iload dX7_register_66 rfl ?_
              refine aw_bipush (v := nI 4294967292) dX7_register_68 (by decide) ?_
              refine aw_icmp_ne (tgt := 78) dX7_register_70 (by decide) (fun _ => ?_) (fun q => absurd q (ne_none (by omega)))
              refine aw_iload dX7_register_78 rfl ?_
              refine aw_istore dX7_register_80 (Nat.le_of_ble_eq_true rfl) rfl ?_
              dsimp only [List.set]
              refine aw_iincN (v := 1) dX7_register_82 rfl rfl ?_
              dsimp only [List.set]
              refine aw_goto (tgt := 28) dX7_register_85 (by decide) ?_
              exact ihx
          · have hfit : ¬ fitP X i x := fun z => q1 ((fitP_iff z2).mpr z)
            have e : rgS X i (x + 1) = rgS X i x := by rw [rgS, if_neg hfit]
            have ihx := ih (x + 1) h3 (by omega) f4
            rw [e] at ihx
            refine aw_if_eqN (tgt := 82) dX7_register_60 (by decide) (by omega) (fun _ => ?_) (fun q => absurd q (by omega))
            refine aw_iincN (v := 1) dX7_register_82 rfl rfl ?_
            dsimp only [List.set]
            refine aw_goto (tgt := 28) dX7_register_85 (by decide) ?_
            exact ihx
      refine aw_aload_n dX7_register_0 rfl rfl ?_
      refine aw_iload_n dX7_register_1 rfl rfl ?_
      refine aw_callVF dX7_register_2 kX7_116 (c_isCS hr hv ei) (by first | assumption | rfl) rfl rfl rfl (Nat.le_of_ble_eq_true rfl) (Nat.le_of_ble_eq_true rfl) ?_
      dsimp only [Option.toList, List.cons_append, List.nil_append, Nat.reduceAdd]
      refine aw_if_eqN (tgt := 17) dX7_register_5 (by decide) (by omega) (fun q => absurd q (by omega)) (fun _ => ?_)
      refine aw_iload_n dX7_register_8 rfl rfl ?_
      refine aw_iconst (v := nI 0) dX7_register_9 (by decide) ?_
      refine aw_iconst (v := nI 1) dX7_register_10 (by decide) ?_
      refine aw_callSF dX7_register_11 kX7_99 (c_wiS ew) rfl rfl rfl (Nat.le_of_ble_eq_true rfl) (Nat.le_of_ble_eq_true rfl) ?_
      dsimp only [Option.toList, List.cons_append, List.nil_append, Nat.reduceAdd]
      refine aw_if_neN (tgt := 19) dX7_register_14 (by decide) (by omega) (fun _ => ?_) (fun q => absurd q (by omega))
      refine aw_iconst (v := nI 0) dX7_register_19 (by decide) ?_
      refine aw_istore_n dX7_register_20 rfl (Nat.le_of_ble_eq_true rfl) rfl ?_
      dsimp only [List.set]
      refine aw_bipush (v := nI 4294967292) dX7_register_21 (by decide) ?_
      refine aw_istore dX7_register_23 (Nat.le_of_ble_eq_true rfl) rfl ?_
      dsimp only [List.set]
      refine aw_iconst (v := nI 0) dX7_register_25 (by decide) ?_
      refine aw_istore dX7_register_26 (Nat.le_of_ble_eq_true rfl) rfl ?_
      dsimp only [List.set]
      exact loop 60 0 h (by omega) (fun o _ => rfl)
def fnS (X : XS) (i r t : Nat) : Nat → Nat
  | 0 => 0
  | x + 1 => fnS X i r t x + if rmF (xS X) (fu (xC X).2.1 i x) (lsB (xn X) (fu (xC X).2.1 i x)) (xC X).1 (xC X).2.2 t i = r then 1 else 0
theorem fnS_le {X : XS} {i r t : Nat} : ∀ x, fnS X i r t x ≤ x := by
  intro x
  induction x with
  | zero => exact Nat.le_refl _
  | succ x ih =>
    show fnS X i r t x + _ ≤ _
    split <;> omega
theorem c_commonDivisor {d y : Nat} {h : Hp} (hy : y ≤ 60) : RT mX7_commonDivisor (d + 1) [.int (nI 60), .int (nI y)] h (fun v h' => v = some (.int (nI (Nat.gcd 60 y))) ∧ h' = h) := by
  have loop : ∀ b a s, s + b ≤ 60 → a ≤ 60 → 1 ≤ a → AW mX7_commonDivisor (d + 1) 7 [some (.int (nI 60)), some (.int (nI y)), some (.int (nI a)), some (.int (nI b)), some (.int (nI s)), none] [] h (fun v h' => v = some (.int (nI (Nat.gcd a b))) ∧ h' = h) := by
    intro b
    induction b using Nat.strongRecOn with
    | ind b ih =>
      intro a s hs ha ha1
      by_cases hb : b = 0
      · subst hb
        refine aw_iload dX7_commonDivisor_7 rfl ?_
        refine aw_bipush (v := nI 64) dX7_commonDivisor_9 (by decide) ?_
        refine aw_icmp_geN (tgt := 34) dX7_commonDivisor_11 (by decide) (by omega) (by omega) (fun q => absurd q (by omega)) (fun _ => ?_)
        refine aw_iload_n dX7_commonDivisor_14 rfl rfl ?_
        refine aw_if_eqN (tgt := 34) dX7_commonDivisor_15 (by decide) (by omega) (fun _ => ?_) (fun q => absurd q (by omega))
        refine aw_iconst (v := nI 1) dX7_commonDivisor_34 (by decide) ?_
        refine aw_iload_n dX7_commonDivisor_35 rfl rfl ?_
        refine aw_mmaxN dX7_commonDivisor_36 kX7_278 (by omega) (by omega) (Nat.le_of_ble_eq_true rfl) ?_
        rw [Nat.max_eq_right ha1]
        refine aw_iret dX7_commonDivisor_39 rfl (by first | rfl | exact (pk_charN (by omega)).1 | decide) ?_
        exact ⟨by rw [Nat.gcd_zero_right], rfl⟩
      · have hlt : a % b < b := Nat.mod_lt _ (by omega)
        refine aw_iload dX7_commonDivisor_7 rfl ?_
        refine aw_bipush (v := nI 64) dX7_commonDivisor_9 (by decide) ?_
        refine aw_icmp_geN (tgt := 34) dX7_commonDivisor_11 (by decide) (by omega) (by omega) (fun q => absurd q (by omega)) (fun _ => ?_)
        refine aw_iload_n dX7_commonDivisor_14 rfl rfl ?_
        refine aw_if_eqN (tgt := 34) dX7_commonDivisor_15 (by decide) (by omega) (fun q => absurd q (by omega)) (fun _ => ?_)
        refine aw_iload_n dX7_commonDivisor_18 rfl rfl ?_
        refine aw_iload_n dX7_commonDivisor_19 rfl rfl ?_
        refine aw_iremN dX7_commonDivisor_20 (by omega) (by omega) (by omega) ?_
        refine aw_istore dX7_commonDivisor_21 (Nat.le_of_ble_eq_true rfl) rfl ?_
        dsimp only [List.set]
        refine aw_iload_n dX7_commonDivisor_23 rfl rfl ?_
        refine aw_istore_n dX7_commonDivisor_24 rfl (Nat.le_of_ble_eq_true rfl) rfl ?_
        dsimp only [List.set]
        refine aw_iload dX7_commonDivisor_25 rfl ?_
        refine aw_istore_n dX7_commonDivisor_27 rfl (Nat.le_of_ble_eq_true rfl) rfl ?_
        dsimp only [List.set]
        refine aw_iincN (v := 1) dX7_commonDivisor_28 rfl rfl ?_
        dsimp only [List.set]
        refine aw_goto (tgt := 7) dX7_commonDivisor_31 (by decide) ?_
        refine aw_forget 5 ?_
        dsimp only [List.set]
        have e : Nat.gcd a b = Nat.gcd b (a % b) := by rw [Nat.gcd_comm a b, Nat.gcd_rec b a, Nat.gcd_comm]
        rw [e]
        exact ih (a % b) hlt b (s + 1) (by omega) (by omega) (by omega)
  change AW mX7_commonDivisor _ 0 [some (.int (nI 60)), some (.int (nI y)), none, none, none, none] [] h _
  refine aw_iload_n dX7_commonDivisor_0 rfl rfl ?_
  refine aw_istore_n dX7_commonDivisor_1 rfl (Nat.le_of_ble_eq_true rfl) rfl ?_
  dsimp only [List.set]
  refine aw_iload_n dX7_commonDivisor_2 rfl rfl ?_
  refine aw_istore_n dX7_commonDivisor_3 rfl (Nat.le_of_ble_eq_true rfl) rfl ?_
  dsimp only [List.set]
  refine aw_iconst (v := nI 0) dX7_commonDivisor_4 (by decide) ?_
  refine aw_istore dX7_commonDivisor_5 (Nat.le_of_ble_eq_true rfl) rfl ?_
  dsimp only [List.set]
  exact loop y 60 0 (by omega) (by omega) (by omega)
noncomputable def a_foundling (X : XS) (i r t p : Int32) : Int32 := match ix i 0 (xn X - 1) with
  | none => aBAD
  | some i => match ix r 0 (xn X - 1) with
    | none => aBAD
    | some r => match ix t 0 120 with
      | none => aBAD
      | some t => match ix p 0 1 with
        | none => aBAD
        | some p => nI ((if p = 0 then fnS X i r (t + 1) 60 else 60) / Nat.gcd 60 (fnS X i r (t + 1) 60))
theorem x_foundling {d : Nat} {h : Hp} {X : XS} {i r t p : Int32} (hr : RX h X) (hv : VX X) : RT mX7_foundling (d + 7) [.ref 0, .int i, .int r, .int t, .int p] h (QX h X (a_foundling X i r t p)) := by
  have hn := hv.n
  have hc1 := hv.2.1.1
  unfold a_foundling
  change AW mX7_foundling _ 0 [some (.ref 0), some (.int i), some (.int r), some (.int t), some (.int p), none, none] [] h _
  cases ei : ix i 0 (xn X - 1) with
  | none =>
    refine aw_aload_n dX7_foundling_0 rfl rfl ?_
    refine aw_iload_n dX7_foundling_1 rfl rfl ?_
    refine aw_callVF dX7_foundling_2 kX7_116 (c_isCN hr hv ei) (by first | assumption | rfl) rfl rfl rfl (Nat.le_of_ble_eq_true rfl) (Nat.le_of_ble_eq_true rfl) ?_
    dsimp only [Option.toList, List.cons_append, List.nil_append, Nat.reduceAdd]
    refine aw_if_eqN (tgt := 36) dX7_foundling_5 (by decide) (by omega) (fun _ => ?_) (fun q => absurd q (by omega))
    refine aw_iconst (v := nI 4294967295) dX7_foundling_36 (by decide) ?_
    refine aw_iret dX7_foundling_37 rfl (by first | rfl | exact (pk_charN (by omega)).1 | decide) ?_
    exact QX.same hr
  | some i =>
    obtain ⟨rfl, hi1, hi2⟩ := ix_s (by omega) (by omega) ei
    dsimp only
    cases er : ix r 0 (xn X - 1) with
    | none =>
      refine aw_aload_n dX7_foundling_0 rfl rfl ?_
      refine aw_iload_n dX7_foundling_1 rfl rfl ?_
      refine aw_callVF dX7_foundling_2 kX7_116 (c_isCS hr hv ei) (by first | assumption | rfl) rfl rfl rfl (Nat.le_of_ble_eq_true rfl) (Nat.le_of_ble_eq_true rfl) ?_
      dsimp only [Option.toList, List.cons_append, List.nil_append, Nat.reduceAdd]
      refine aw_if_eqN (tgt := 36) dX7_foundling_5 (by decide) (by omega) (fun q => absurd q (by omega)) (fun _ => ?_)
      refine aw_aload_n dX7_foundling_8 rfl rfl ?_
      refine aw_iload_n dX7_foundling_9 rfl rfl ?_
      refine aw_callVF dX7_foundling_10 kX7_140 (c_isRN hr hv er) (by first | assumption | rfl) rfl rfl rfl (Nat.le_of_ble_eq_true rfl) (Nat.le_of_ble_eq_true rfl) ?_
      dsimp only [Option.toList, List.cons_append, List.nil_append, Nat.reduceAdd]
      refine aw_if_eqN (tgt := 36) dX7_foundling_13 (by decide) (by omega) (fun _ => ?_) (fun q => absurd q (by omega))
      refine aw_iconst (v := nI 4294967295) dX7_foundling_36 (by decide) ?_
      refine aw_iret dX7_foundling_37 rfl (by first | rfl | exact (pk_charN (by omega)).1 | decide) ?_
      exact QX.same hr
    | some r =>
      obtain ⟨rfl, hr1, hr2⟩ := ix_s (by omega) (by omega) er
      dsimp only
      cases et : ix t 0 120 with
      | none =>
        refine aw_aload_n dX7_foundling_0 rfl rfl ?_
        refine aw_iload_n dX7_foundling_1 rfl rfl ?_
        refine aw_callVF dX7_foundling_2 kX7_116 (c_isCS hr hv ei) (by first | assumption | rfl) rfl rfl rfl (Nat.le_of_ble_eq_true rfl) (Nat.le_of_ble_eq_true rfl) ?_
        dsimp only [Option.toList, List.cons_append, List.nil_append, Nat.reduceAdd]
        refine aw_if_eqN (tgt := 36) dX7_foundling_5 (by decide) (by omega) (fun q => absurd q (by omega)) (fun _ => ?_)
        refine aw_aload_n dX7_foundling_8 rfl rfl ?_
        refine aw_iload_n dX7_foundling_9 rfl rfl ?_
        refine aw_callVF dX7_foundling_10 kX7_140 (c_isRS hr hv er) (by first | assumption | rfl) rfl rfl rfl (Nat.le_of_ble_eq_true rfl) (Nat.le_of_ble_eq_true rfl) ?_
        dsimp only [Option.toList, List.cons_append, List.nil_append, Nat.reduceAdd]
        refine aw_if_eqN (tgt := 36) dX7_foundling_13 (by decide) (by omega) (fun q => absurd q (by omega)) (fun _ => ?_)
        refine aw_iload_n dX7_foundling_16 rfl rfl ?_
        refine aw_iconst (v := nI 0) dX7_foundling_17 (by decide) ?_
        refine aw_bipush (v := nI 120) dX7_foundling_18 (by decide) ?_
        refine aw_callSF dX7_foundling_20 kX7_99 (c_wiN et) rfl rfl rfl (Nat.le_of_ble_eq_true rfl) (Nat.le_of_ble_eq_true rfl) ?_
        dsimp only [Option.toList, List.cons_append, List.nil_append, Nat.reduceAdd]
        refine aw_if_eqN (tgt := 36) dX7_foundling_23 (by decide) (by omega) (fun _ => ?_) (fun q => absurd q (by omega))
        refine aw_iconst (v := nI 4294967295) dX7_foundling_36 (by decide) ?_
        refine aw_iret dX7_foundling_37 rfl (by first | rfl | exact (pk_charN (by omega)).1 | decide) ?_
        exact QX.same hr
      | some t =>
        obtain ⟨rfl, ht1, ht2⟩ := ix_s (by omega) (by omega) et
        dsimp only
        cases ep : ix p 0 1 with
        | none =>
          refine aw_aload_n dX7_foundling_0 rfl rfl ?_
          refine aw_iload_n dX7_foundling_1 rfl rfl ?_
          refine aw_callVF dX7_foundling_2 kX7_116 (c_isCS hr hv ei) (by first | assumption | rfl) rfl rfl rfl (Nat.le_of_ble_eq_true rfl) (Nat.le_of_ble_eq_true rfl) ?_
          dsimp only [Option.toList, List.cons_append, List.nil_append, Nat.reduceAdd]
          refine aw_if_eqN (tgt := 36) dX7_foundling_5 (by decide) (by omega) (fun q => absurd q (by omega)) (fun _ => ?_)
          refine aw_aload_n dX7_foundling_8 rfl rfl ?_
          refine aw_iload_n dX7_foundling_9 rfl rfl ?_
          refine aw_callVF dX7_foundling_10 kX7_140 (c_isRS hr hv er) (by first | assumption | rfl) rfl rfl rfl (Nat.le_of_ble_eq_true rfl) (Nat.le_of_ble_eq_true rfl) ?_
          dsimp only [Option.toList, List.cons_append, List.nil_append, Nat.reduceAdd]
          refine aw_if_eqN (tgt := 36) dX7_foundling_13 (by decide) (by omega) (fun q => absurd q (by omega)) (fun _ => ?_)
          refine aw_iload_n dX7_foundling_16 rfl rfl ?_
          refine aw_iconst (v := nI 0) dX7_foundling_17 (by decide) ?_
          refine aw_bipush (v := nI 120) dX7_foundling_18 (by decide) ?_
          refine aw_callSF dX7_foundling_20 kX7_99 (c_wiS et) rfl rfl rfl (Nat.le_of_ble_eq_true rfl) (Nat.le_of_ble_eq_true rfl) ?_
          dsimp only [Option.toList, List.cons_append, List.nil_append, Nat.reduceAdd]
          refine aw_if_eqN (tgt := 36) dX7_foundling_23 (by decide) (by omega) (fun q => absurd q (by omega)) (fun _ => ?_)
          refine aw_iload dX7_foundling_26 rfl ?_
          refine aw_iconst (v := nI 0) dX7_foundling_28 (by decide) ?_
          refine aw_iconst (v := nI 1) dX7_foundling_29 (by decide) ?_
          refine aw_callSF dX7_foundling_30 kX7_99 (c_wiN ep) rfl rfl rfl (Nat.le_of_ble_eq_true rfl) (Nat.le_of_ble_eq_true rfl) ?_
          dsimp only [Option.toList, List.cons_append, List.nil_append, Nat.reduceAdd]
          refine aw_if_neN (tgt := 38) dX7_foundling_33 (by decide) (by omega) (fun q => absurd q (by omega)) (fun _ => ?_)
          refine aw_iconst (v := nI 4294967295) dX7_foundling_36 (by decide) ?_
          refine aw_iret dX7_foundling_37 rfl (by first | rfl | exact (pk_charN (by omega)).1 | decide) ?_
          exact QX.same hr
        | some p =>
          obtain ⟨rfl, hp1, hp2⟩ := ix_s (by omega) (by omega) ep
          dsimp only
          have hin : i < xn X := by omega
          have hg : ∀ y, y ≤ 60 → 1 ≤ Nat.gcd 60 y ∧ Nat.gcd 60 y ≤ 60 := fun y _ => ⟨Nat.gcd_pos_of_pos_left _ (by decide), Nat.gcd_le_left _ (by decide)⟩
          have loop : ∀ u x hh, x + u = 60 → FQ h hh → AW mX7_foundling (d + 7) 44 [some (.ref 0), some (.int (nI i)), some (.int (nI r)), some (.int (nI t)), some (.int (nI p)), some (.int (nI (fnS X i r (t + 1) x))), some (.int (nI x))] [] hh (QX h X (nI ((if p = 0 then fnS X i r (t + 1) 60 else 60) / Nat.gcd 60 (fnS X i r (t + 1) 60)))) := by
            intro u
            induction u with
            | zero =>
              intro x hh hx hf
              have ex : x = 60 := by omega
              subst ex
              have hle := fnS_le (X := X) (i := i) (r := r) (t := t + 1) 60
              generalize fnS X i r (t + 1) 60 = y at hle ⊢
              have hgy := hg y hle
              refine aw_iload dX7_foundling_44 rfl ?_
              refine aw_bipush (v := nI 59) dX7_foundling_46 (by decide) ?_
              refine aw_icmp_gtN (tgt := 99) dX7_foundling_48 (by decide) (by omega) (by omega) (fun _ => ?_) (fun q => absurd q (by omega))
              refine aw_bipush (v := nI 60) dX7_foundling_99 (by decide) ?_
              refine aw_iload dX7_foundling_101 rfl ?_
              refine aw_callSF dX7_foundling_103 kX7_239 (c_commonDivisor hle) rfl rfl rfl (Nat.le_of_ble_eq_true rfl) (Nat.le_of_ble_eq_true rfl) ?_
              dsimp only [Option.toList, List.cons_append, List.nil_append, Nat.reduceAdd]
              refine aw_istore dX7_foundling_106 (Nat.le_of_ble_eq_true rfl) rfl ?_
              dsimp only [List.set]
              refine aw_iload dX7_foundling_108 rfl ?_
              rcases (show p = 0 ∨ p = 1 by omega) with rfl | rfl
              · refine aw_if_neN (tgt := 118) dX7_foundling_110 (by decide) (by omega) (fun q => absurd q (by omega)) (fun _ => ?_)
                refine aw_iload dX7_foundling_113 rfl ?_
                refine aw_goto (tgt := 120) dX7_foundling_115 (by decide) ?_
                refine aw_iload dX7_foundling_120 rfl ?_
                refine aw_idivN dX7_foundling_122 (by omega) (by omega) (by omega) ?_
                refine aw_iret dX7_foundling_123 rfl (by first | rfl | exact (pk_charN (by omega)).1 | decide) ?_
                exact QX.fq hr hv hf
              · refine aw_if_neN (tgt := 118) dX7_foundling_110 (by decide) (by omega) (fun _ => ?_) (fun q => absurd q (by omega))
                refine aw_bipush (v := nI 60) dX7_foundling_118 (by decide) ?_
                refine aw_iload dX7_foundling_120 rfl ?_
                refine aw_idivN dX7_foundling_122 (by omega) (by omega) (by omega) ?_
                refine aw_iret dX7_foundling_123 rfl (by first | rfl | exact (pk_charN (by omega)).1 | decide) ?_
                exact QX.fq hr hv hf
            | succ u ih =>
              intro x hh hx hf
              have hra := hr.fq hv hf
              have hb1 : ∀ k, k < xn X → fu (xC X).2.1 i x k < 60 := fun k hk => by
                unfold fu
                split
                · omega
                · exact hv.2.1.2.2 k hk
              have hok2 := WO_ls hv.1 hb1
              refine aw_iload dX7_foundling_44 rfl ?_
              refine aw_bipush (v := nI 59) dX7_foundling_46 (by decide) ?_
              refine aw_icmp_gtN (tgt := 99) dX7_foundling_48 (by decide) (by omega) (by omega) (fun q => absurd q (by omega)) (fun _ => ?_)
              refine aw_aload_n dX7_foundling_51 rfl rfl ?_
              refine aw_getR dX7_foundling_52 fX7_60 (by first | assumption | rfl) (by rfl) ?_
              refine aw_aload_n dX7_foundling_55 rfl rfl ?_
              refine aw_getR dX7_foundling_56 fX7_29 (by first | assumption | rfl) (by rfl) ?_
              refine aw_iload_n dX7_foundling_59 rfl rfl ?_
              refine aw_iload dX7_foundling_60 rfl ?_
              refine aw_callV dX7_foundling_62 kX7_232 (c_W_beginWith hra.1 hv.1 hra.2.1 hv.2.1.2.2 hin (by omega) ⟨rfl, rfl, rfl⟩ (by decide)) (by first | assumption | rfl) rfl rfl rfl (Nat.le_of_ble_eq_true rfl) (Nat.le_of_ble_eq_true rfl) ?_
              rintro _ h2 ⟨rfl, w2, f2⟩
              dsimp only [Option.toList, List.cons_append, List.nil_append, Nat.reduceAdd]
              refine aw_aload_n dX7_foundling_65 rfl rfl ?_
              refine aw_getR dX7_foundling_66 fX7_60 (by first | assumption | rfl) (by rfl) ?_
              refine aw_iload_n dX7_foundling_69 rfl rfl ?_
              refine aw_iconst (v := nI 1) dX7_foundling_70 (by decide) ?_
              refine aw_iaddN dX7_foundling_71 ?_
              have w2' : WS h2 (xS X) (fu (xC X).2.1 i x) (lsB (xn X) (fu (xC X).2.1 i x)) (xC X).1 (xC X).2.2 (fun _ => 0) 0 := w2
              refine aw_callV dX7_foundling_72 kX7_159 (c_W_go w2' hok2 hv.2.1.2.1 (by omega)) (by first | assumption | rfl) rfl rfl rfl (Nat.le_of_ble_eq_true rfl) (Nat.le_of_ble_eq_true rfl) ?_
              rintro _ h3 ⟨rfl, w3, f3⟩
              dsimp only [Option.toList, List.cons_append, List.nil_append, Nat.reduceAdd]
              refine aw_aload_n dX7_foundling_75 rfl rfl ?_
              refine aw_getR dX7_foundling_76 fX7_60 (by first | assumption | rfl) (by rfl) ?_
              refine aw_callVF dX7_foundling_79 kX7_162 (c_W_standing) (by first | assumption | rfl) rfl rfl rfl (Nat.le_of_ble_eq_true rfl) (Nat.le_of_ble_eq_true rfl) ?_
              dsimp only [Option.toList, List.cons_append, List.nil_append, Nat.reduceAdd]
              refine aw_iload_n dX7_foundling_82 rfl rfl ?_
              refine aw_callVF dX7_foundling_83 kX7_130 (c_S_roomOf (by first | assumption | exact ⟨rfl, rfl, rfl⟩) (by omega)) (by first | assumption | rfl) rfl rfl rfl (Nat.le_of_ble_eq_true rfl) (Nat.le_of_ble_eq_true rfl) ?_
              dsimp only [Option.toList, List.cons_append, List.nil_append, Nat.reduceAdd]
              have f4 : FQ h h3 := hf.trans (FQ.of (f2.trans f3))
              have hpm := PM_rmF (b := fu (xC X).2.1 i x) (L := lsB (xn X) (fu (xC X).2.1 i x)) (day0 := (xC X).1) hv.1 (fun q hq => (hok2.2 q hq).2) hv.2.1.2.1 (t + 1)
              have hri := hpm.1 i hin
              rw [(w3.2.2.2 i hin).1]
              have ihx := ih (x + 1) h3 (by omega) f4
              have hle : sn (xS X) ≤ 8 := hn.2
              refine aw_iload_n dX7_foundling_86 rfl rfl ?_
              refine aw_icmp_neN (tgt := 93) dX7_foundling_87 (by decide) (by omega) (by omega) (fun c87 => ?_) (fun c87 => ?_)
              · have e : fnS X i r (t + 1) (x + 1) = fnS X i r (t + 1) x := by
                  show fnS X i r (t + 1) x + (if _ then 1 else 0) = _
                  rw [if_neg c87]; rfl
                rw [e] at ihx
                refine aw_iincN (v := 1) dX7_foundling_93 rfl rfl ?_
                dsimp only [List.set]
                refine aw_goto (tgt := 44) dX7_foundling_96 (by decide) ?_
                exact ihx
              · have e : fnS X i r (t + 1) (x + 1) = fnS X i r (t + 1) x + 1 := by
                  show fnS X i r (t + 1) x + (if _ then 1 else 0) = _
                  rw [if_pos (by omega)]
                rw [e] at ihx
                refine aw_iincN (v := 1) dX7_foundling_90 rfl rfl ?_
                dsimp only [List.set]
                refine aw_iincN (v := 1) dX7_foundling_93 rfl rfl ?_
                dsimp only [List.set]
                refine aw_goto (tgt := 44) dX7_foundling_96 (by decide) ?_
                exact ihx
          refine aw_aload_n dX7_foundling_0 rfl rfl ?_
          refine aw_iload_n dX7_foundling_1 rfl rfl ?_
          refine aw_callVF dX7_foundling_2 kX7_116 (c_isCS hr hv ei) (by first | assumption | rfl) rfl rfl rfl (Nat.le_of_ble_eq_true rfl) (Nat.le_of_ble_eq_true rfl) ?_
          dsimp only [Option.toList, List.cons_append, List.nil_append, Nat.reduceAdd]
          refine aw_if_eqN (tgt := 36) dX7_foundling_5 (by decide) (by omega) (fun q => absurd q (by omega)) (fun _ => ?_)
          refine aw_aload_n dX7_foundling_8 rfl rfl ?_
          refine aw_iload_n dX7_foundling_9 rfl rfl ?_
          refine aw_callVF dX7_foundling_10 kX7_140 (c_isRS hr hv er) (by first | assumption | rfl) rfl rfl rfl (Nat.le_of_ble_eq_true rfl) (Nat.le_of_ble_eq_true rfl) ?_
          dsimp only [Option.toList, List.cons_append, List.nil_append, Nat.reduceAdd]
          refine aw_if_eqN (tgt := 36) dX7_foundling_13 (by decide) (by omega) (fun q => absurd q (by omega)) (fun _ => ?_)
          refine aw_iload_n dX7_foundling_16 rfl rfl ?_
          refine aw_iconst (v := nI 0) dX7_foundling_17 (by decide) ?_
          refine aw_bipush (v := nI 120) dX7_foundling_18 (by decide) ?_
          refine aw_callSF dX7_foundling_20 kX7_99 (c_wiS et) rfl rfl rfl (Nat.le_of_ble_eq_true rfl) (Nat.le_of_ble_eq_true rfl) ?_
          dsimp only [Option.toList, List.cons_append, List.nil_append, Nat.reduceAdd]
          refine aw_if_eqN (tgt := 36) dX7_foundling_23 (by decide) (by omega) (fun q => absurd q (by omega)) (fun _ => ?_)
          refine aw_iload dX7_foundling_26 rfl ?_
          refine aw_iconst (v := nI 0) dX7_foundling_28 (by decide) ?_
          refine aw_iconst (v := nI 1) dX7_foundling_29 (by decide) ?_
          refine aw_callSF dX7_foundling_30 kX7_99 (c_wiS ep) rfl rfl rfl (Nat.le_of_ble_eq_true rfl) (Nat.le_of_ble_eq_true rfl) ?_
          dsimp only [Option.toList, List.cons_append, List.nil_append, Nat.reduceAdd]
          refine aw_if_neN (tgt := 38) dX7_foundling_33 (by decide) (by omega) (fun _ => ?_) (fun q => absurd q (by omega))
          refine aw_iconst (v := nI 0) dX7_foundling_38 (by decide) ?_
          refine aw_istore dX7_foundling_39 (Nat.le_of_ble_eq_true rfl) rfl ?_
          dsimp only [List.set]
          refine aw_iconst (v := nI 0) dX7_foundling_41 (by decide) ?_
          refine aw_istore dX7_foundling_42 (Nat.le_of_ble_eq_true rfl) rfl ?_
          dsimp only [List.set]
          exact loop 60 0 h (by omega) (fun o _ => rfl)
def drw (z k : Nat) : Nat := (7919 * z + 6151 * k + 1) * (7919 * z + 6151 * k + 1) % 65521 / 2
theorem c_drawOf {d z k : Nat} {h : Hp} (hz : z ≤ 9999) (hk : k ≤ 120) : RT mX7_drawOf d [.int (nI z), .int (nI k)] h (fun v h' => v = some (.int (nI (drw z k))) ∧ h' = h) := by
  have e1 : (7919 : Int64) = lN 7919 := rfl
  have e2 : (6151 : Int64) = lN 6151 := rfl
  have e3 : (1 : Int64) = lN 1 := rfl
  have e4 : (65521 : Int64) = lN 65521 := rfl
  have e5 : (2 : Int64) = lN 2 := rfl
  have hx : 7919 * z + 6151 * k + 1 < 2 ^ 27 := by omega
  have hxx : (7919 * z + 6151 * k + 1) * (7919 * z + 6151 * k + 1) < 2 ^ 63 := by
    have := Nat.mul_lt_mul'' hx hx
    omega
  change AW mX7_drawOf _ 0 [some (.int (nI z)), some (.int (nI k)), none, none] [] h _
  refine aw_ldc2 dX7_drawOf_0 qX7_267 ?_
  refine aw_iload_n dX7_drawOf_3 rfl rfl ?_
  refine aw_i2l dX7_drawOf_4 ?_
  refine aw_lmul dX7_drawOf_5 ?_
  refine aw_ldc2 dX7_drawOf_6 qX7_269 ?_
  refine aw_iload_n dX7_drawOf_9 rfl rfl ?_
  refine aw_i2l dX7_drawOf_10 ?_
  refine aw_lmul dX7_drawOf_11 ?_
  refine aw_ladd dX7_drawOf_12 ?_
  refine aw_lconst (v := 1) dX7_drawOf_13 (by decide) ?_
  refine aw_ladd dX7_drawOf_14 ?_
  rw [e1, e2, e3, nI_l (by omega), nI_l (by omega), lN_mul, lN_mul, lN_add, lN_add]
  refine aw_lstore_n dX7_drawOf_15 rfl (Nat.le_of_ble_eq_true rfl) rfl ?_
  dsimp only [List.set]
  refine aw_lload_n dX7_drawOf_16 rfl rfl ?_
  refine aw_lload_n dX7_drawOf_17 rfl rfl ?_
  refine aw_lmul dX7_drawOf_18 ?_
  refine aw_ldc2 dX7_drawOf_19 qX7_271 ?_
  rw [lN_mul, e4]
  refine aw_lrem dX7_drawOf_22 (by decide) ?_
  rw [pk_lRem hxx (by decide) (by decide)]
  refine aw_ldc2 dX7_drawOf_23 qX7_273 ?_
  refine aw_ldiv dX7_drawOf_26 (by decide) ?_
  rw [e5, pk_lDiv (by omega) (by decide) (by decide)]
  refine aw_l2i dX7_drawOf_27 ?_
  rw [lN_i]
  refine aw_iret dX7_drawOf_28 rfl (by first | rfl | exact (pk_charN (by omega)).1 | decide) ?_
  exact ⟨rfl, rfl⟩
/-- the rooms ahead of a day, two swapped by a draw -/
def ysw (n w : Nat) (g : Nat → Nat) : Nat → Nat := if w / 64 % 5 = 0 then swp g (w % n) (w / 8 % n) else g
def yrF (S : Hs) (c : Sv) (z : Nat) : Nat → Nat → Nat
  | 0 => c.2.2
  | k + 1 => chR S c.2.1 (cL (sn S) c) (c.1 + k) (ysw (sn S) (drw z k) (yrF S c z k)) (sn S)
def yrC (S : Hs) (c : Sv) (z : Nat) : Nat → Nat
  | 0 => 0
  | k + 1 => yrC S c z k + coldN S (c.1 + k) (yrF S c z (k + 1)) (sn S)
theorem swp_self (g : Nat → Nat) (i : Nat) : swp g i i = g := by
  funext k
  unfold swp
  by_cases q : k = i
  · rw [if_pos q, q]
  · rw [if_neg q, if_neg q]
theorem PM_ysw {n w : Nat} {g : Nat → Nat} (hg : PM n g) (hn : 1 ≤ n) : PM n (ysw n w g) := by
  unfold ysw
  split
  · exact PM_swp hg (Nat.mod_lt _ (by omega)) (Nat.mod_lt _ (by omega))
  · exact hg
theorem PM_yrF {S : Hs} {c : Sv} {z : Nat} (hS : HsOk S) (hc : SvOk (sn S) c) : ∀ k, PM (sn S) (yrF S c z k) := by
  intro k
  induction k with
  | zero => exact hc.2.1
  | succ k ih => exact PM_chR hS (fun q hq => ((cL_ok hS hc).2 q hq).2) (PM_ysw ih hS.1) (sn S) (Nat.le_refl _)
theorem c_exchangeByDraw {d w dd c : Nat} {h : Hp} {S : Hs} {b L f s : Nat → Nat} (hws : WS h S b L dd f s c) (hS : HsOk S) (hw : w < 2 ^ 30) : RT mX7_exchangeByDraw (d + 2) [.ref 0, .int (nI w)] h (fun v h' => v = none ∧ WS h' S b L dd (ysw (sn S) w f) s c ∧ FW6 h h') := by
  have h38 := hS.2.1
  have h37 := hS.1
  have e45 : h 4 5 = sn S := hws.1.1
  have m1 : w % sn S < sn S := Nat.mod_lt _ (by omega)
  have m2 : w / 8 % sn S < sn S := Nat.mod_lt _ (by omega)
  change AW mX7_exchangeByDraw _ 0 [some (.ref 0), some (.int (nI w)), none, none] [] h _
  refine aw_iload_n dX7_exchangeByDraw_0 rfl rfl ?_
  refine aw_aload_n dX7_exchangeByDraw_1 rfl rfl ?_
  refine aw_getR dX7_exchangeByDraw_2 fX7_19 (by first | assumption | rfl) (by rfl) ?_
  refine aw_callVF dX7_exchangeByDraw_5 kX7_113 (c_P_cousins) (by first | assumption | rfl) rfl rfl rfl (Nat.le_of_ble_eq_true rfl) (Nat.le_of_ble_eq_true rfl) ?_
  dsimp only [Option.toList, List.cons_append, List.nil_append, Nat.reduceAdd]
  rw [e45]
  refine aw_callSF dX7_exchangeByDraw_8 kX7_264 (c_wrapped (by omega) (by omega)) rfl rfl rfl (Nat.le_of_ble_eq_true rfl) (Nat.le_of_ble_eq_true rfl) ?_
  dsimp only [Option.toList, List.cons_append, List.nil_append, Nat.reduceAdd]
  rw [md_toInt (by omega) (by omega)]
  refine aw_istore_n dX7_exchangeByDraw_11 rfl (Nat.le_of_ble_eq_true rfl) rfl ?_
  dsimp only [List.set]
  refine aw_iload_n dX7_exchangeByDraw_12 rfl rfl ?_
  refine aw_bipush (v := nI 8) dX7_exchangeByDraw_13 (by decide) ?_
  refine aw_idivN dX7_exchangeByDraw_15 (by omega) (by omega) (by omega) ?_
  refine aw_aload_n dX7_exchangeByDraw_16 rfl rfl ?_
  refine aw_getR dX7_exchangeByDraw_17 fX7_19 (by first | assumption | rfl) (by rfl) ?_
  refine aw_callVF dX7_exchangeByDraw_20 kX7_113 (c_P_cousins) (by first | assumption | rfl) rfl rfl rfl (Nat.le_of_ble_eq_true rfl) (Nat.le_of_ble_eq_true rfl) ?_
  dsimp only [Option.toList, List.cons_append, List.nil_append, Nat.reduceAdd]
  rw [e45]
  refine aw_callSF dX7_exchangeByDraw_23 kX7_264 (c_wrapped (by omega) (by omega)) rfl rfl rfl (Nat.le_of_ble_eq_true rfl) (Nat.le_of_ble_eq_true rfl) ?_
  dsimp only [Option.toList, List.cons_append, List.nil_append, Nat.reduceAdd]
  rw [md_toInt (by omega) (by omega)]
  refine aw_istore_n dX7_exchangeByDraw_26 rfl (Nat.le_of_ble_eq_true rfl) rfl ?_
  dsimp only [List.set]
  refine aw_iload_n dX7_exchangeByDraw_27 rfl rfl ?_
  refine aw_iload_n dX7_exchangeByDraw_28 rfl rfl ?_
  refine aw_icmp_eqN (tgt := 53) dX7_exchangeByDraw_29 (by decide) (by omega) (by omega) (fun c29 => ?_) (fun c29 => ?_)
  · refine aw_vret dX7_exchangeByDraw_53 rfl ?_
    refine ⟨rfl, ?_, fun o _ => rfl⟩
    have e : ysw (sn S) w f = f := by
      unfold ysw
      rw [c29, swp_self]
      split <;> rfl
    rw [e]
    exact hws
  · refine aw_iload_n dX7_exchangeByDraw_32 rfl rfl ?_
    refine aw_bipush (v := nI 64) dX7_exchangeByDraw_33 (by decide) ?_
    refine aw_idivN dX7_exchangeByDraw_35 (by omega) (by omega) (by omega) ?_
    refine aw_iconst (v := nI 5) dX7_exchangeByDraw_36 (by decide) ?_
    refine aw_iremN dX7_exchangeByDraw_37 (by omega) (by omega) (by omega) ?_
    refine aw_if_neN (tgt := 53) dX7_exchangeByDraw_38 (by decide) (by omega) (fun c38 => ?_) (fun c38 => ?_)
    · refine aw_vret dX7_exchangeByDraw_53 rfl ?_
      refine ⟨rfl, ?_, fun o _ => rfl⟩
      have e : ysw (sn S) w f = f := by
        unfold ysw
        rw [if_neg (by omega)]
      rw [e]
      exact hws
    · refine aw_aload_n dX7_exchangeByDraw_41 rfl rfl ?_
      refine aw_getR dX7_exchangeByDraw_42 fX7_60 (by first | assumption | rfl) (by rfl) ?_
      refine aw_callVF dX7_exchangeByDraw_45 kX7_162 (c_W_standing) (by first | assumption | rfl) rfl rfl rfl (Nat.le_of_ble_eq_true rfl) (Nat.le_of_ble_eq_true rfl) ?_
      dsimp only [Option.toList, List.cons_append, List.nil_append, Nat.reduceAdd]
      refine aw_iload_n dX7_exchangeByDraw_48 rfl rfl ?_
      refine aw_iload_n dX7_exchangeByDraw_49 rfl rfl ?_
      refine aw_callVF dX7_exchangeByDraw_50 kX7_169 (c_S_exchange (by first | assumption | exact ⟨rfl, rfl, rfl⟩) (by omega) (by omega)) (by first | assumption | rfl) rfl rfl rfl (Nat.le_of_ble_eq_true rfl) (Nat.le_of_ble_eq_true rfl) ?_
      dsimp only [Option.toList, List.cons_append, List.nil_append, Nat.reduceAdd]
      refine aw_vret dX7_exchangeByDraw_53 rfl ?_
      have e : ysw (sn S) w f = swp f (w % sn S) (w / 8 % sn S) := by
        unfold ysw
        rw [if_pos (by omega)]
      rw [e]
      obtain ⟨w2, f2⟩ := hws.swap m1 m2
      exact ⟨rfl, w2, f2⟩
noncomputable def a_year (X : XS) (z m w : Int32) : Int32 := match ix z 0 9999 with
  | none => aBAD
  | some z => match ix m 1 120 with
    | none => aBAD
    | some m => match ix w 0 1 with
      | none => aBAD
      | some w => nI (if w = 0 then yrC (xS X) (xC X) z m else own (yrF (xS X) (xC X) z m) 0 (xn X) 0)
theorem x_year {d : Nat} {h : Hp} {X : XS} {z m w : Int32} (hr : RX h X) (hv : VX X) : RT mX7_year (d + 6) [.ref 0, .int z, .int m, .int w] h (QX h X (a_year X z m w)) := by
  have hn := hv.n
  have hc1 := hv.2.1.1
  have hok := cL_ok hv.1 hv.2.1
  unfold a_year
  change AW mX7_year _ 0 [some (.ref 0), some (.int z), some (.int m), some (.int w), none] [] h _
  cases ez : ix z 0 9999 with
  | none =>
    refine aw_iload_n dX7_year_0 rfl rfl ?_
    refine aw_iconst (v := nI 0) dX7_year_1 (by decide) ?_
    refine aw_sipush (v := nI 9999) dX7_year_2 (by decide) ?_
    refine aw_callSF dX7_year_5 kX7_99 (c_wiN ez) rfl rfl rfl (Nat.le_of_ble_eq_true rfl) (Nat.le_of_ble_eq_true rfl) ?_
    dsimp only [Option.toList, List.cons_append, List.nil_append, Nat.reduceAdd]
    refine aw_if_eqN (tgt := 30) dX7_year_8 (by decide) (by omega) (fun _ => ?_) (fun q => absurd q (by omega))
    refine aw_iconst (v := nI 4294967295) dX7_year_30 (by decide) ?_
    refine aw_iret dX7_year_31 rfl (by first | rfl | exact (pk_charN (by omega)).1 | decide) ?_
    exact QX.same hr
  | some z =>
    obtain ⟨rfl, hz1, hz2⟩ := ix_s (by omega) (by omega) ez
    dsimp only
    cases em : ix m 1 120 with
    | none =>
      refine aw_iload_n dX7_year_0 rfl rfl ?_
      refine aw_iconst (v := nI 0) dX7_year_1 (by decide) ?_
      refine aw_sipush (v := nI 9999) dX7_year_2 (by decide) ?_
      refine aw_callSF dX7_year_5 kX7_99 (c_wiS ez) rfl rfl rfl (Nat.le_of_ble_eq_true rfl) (Nat.le_of_ble_eq_true rfl) ?_
      dsimp only [Option.toList, List.cons_append, List.nil_append, Nat.reduceAdd]
      refine aw_if_eqN (tgt := 30) dX7_year_8 (by decide) (by omega) (fun q => absurd q (by omega)) (fun _ => ?_)
      refine aw_iload_n dX7_year_11 rfl rfl ?_
      refine aw_iconst (v := nI 1) dX7_year_12 (by decide) ?_
      refine aw_bipush (v := nI 120) dX7_year_13 (by decide) ?_
      refine aw_callSF dX7_year_15 kX7_99 (c_wiN em) rfl rfl rfl (Nat.le_of_ble_eq_true rfl) (Nat.le_of_ble_eq_true rfl) ?_
      dsimp only [Option.toList, List.cons_append, List.nil_append, Nat.reduceAdd]
      refine aw_if_eqN (tgt := 30) dX7_year_18 (by decide) (by omega) (fun _ => ?_) (fun q => absurd q (by omega))
      refine aw_iconst (v := nI 4294967295) dX7_year_30 (by decide) ?_
      refine aw_iret dX7_year_31 rfl (by first | rfl | exact (pk_charN (by omega)).1 | decide) ?_
      exact QX.same hr
    | some m =>
      obtain ⟨rfl, hm1, hm2⟩ := ix_s (by omega) (by omega) em
      dsimp only
      cases ew : ix w 0 1 with
      | none =>
        refine aw_iload_n dX7_year_0 rfl rfl ?_
        refine aw_iconst (v := nI 0) dX7_year_1 (by decide) ?_
        refine aw_sipush (v := nI 9999) dX7_year_2 (by decide) ?_
        refine aw_callSF dX7_year_5 kX7_99 (c_wiS ez) rfl rfl rfl (Nat.le_of_ble_eq_true rfl) (Nat.le_of_ble_eq_true rfl) ?_
        dsimp only [Option.toList, List.cons_append, List.nil_append, Nat.reduceAdd]
        refine aw_if_eqN (tgt := 30) dX7_year_8 (by decide) (by omega) (fun q => absurd q (by omega)) (fun _ => ?_)
        refine aw_iload_n dX7_year_11 rfl rfl ?_
        refine aw_iconst (v := nI 1) dX7_year_12 (by decide) ?_
        refine aw_bipush (v := nI 120) dX7_year_13 (by decide) ?_
        refine aw_callSF dX7_year_15 kX7_99 (c_wiS em) rfl rfl rfl (Nat.le_of_ble_eq_true rfl) (Nat.le_of_ble_eq_true rfl) ?_
        dsimp only [Option.toList, List.cons_append, List.nil_append, Nat.reduceAdd]
        refine aw_if_eqN (tgt := 30) dX7_year_18 (by decide) (by omega) (fun q => absurd q (by omega)) (fun _ => ?_)
        refine aw_iload_n dX7_year_21 rfl rfl ?_
        refine aw_iconst (v := nI 0) dX7_year_22 (by decide) ?_
        refine aw_iconst (v := nI 1) dX7_year_23 (by decide) ?_
        refine aw_callSF dX7_year_24 kX7_99 (c_wiN ew) rfl rfl rfl (Nat.le_of_ble_eq_true rfl) (Nat.le_of_ble_eq_true rfl) ?_
        dsimp only [Option.toList, List.cons_append, List.nil_append, Nat.reduceAdd]
        refine aw_if_neN (tgt := 32) dX7_year_27 (by decide) (by omega) (fun q => absurd q (by omega)) (fun _ => ?_)
        refine aw_iconst (v := nI 4294967295) dX7_year_30 (by decide) ?_
        refine aw_iret dX7_year_31 rfl (by first | rfl | exact (pk_charN (by omega)).1 | decide) ?_
        exact QX.same hr
      | some w =>
        obtain ⟨rfl, hw1, hw2⟩ := ix_s (by omega) (by omega) ew
        dsimp only
        have loop : ∀ u k s hh, k + u = m → WS hh (xS X) (xC X).2.1 (cL (xn X) (xC X)) ((xC X).1 + k) (yrF (xS X) (xC X) z k) s (yrC (xS X) (xC X) z k) → FW6 h hh → AW mX7_year (d + 6) 46 [some (.ref 0), some (.int (nI z)), some (.int (nI m)), some (.int (nI w)), some (.int (nI k))] [] hh (QX h X (nI (if w = 0 then yrC (xS X) (xC X) z m else own (yrF (xS X) (xC X) z m) 0 (xn X) 0))) := by
          intro u
          induction u with
          | zero =>
            intro k s hh hk hw3 hf
            have ek : k = m := by omega
            subst ek
            refine aw_iload dX7_year_46 rfl ?_
            refine aw_iload_n dX7_year_48 rfl rfl ?_
            refine aw_icmp_geN (tgt := 76) dX7_year_49 (by decide) (by omega) (by omega) (fun _ => ?_) (fun q => absurd q (by omega))
            refine aw_iload_n dX7_year_76 rfl rfl ?_
            rcases (show w = 0 ∨ w = 1 by omega) with rfl | rfl
            · rw [if_pos rfl]
              refine aw_if_neN (tgt := 90) dX7_year_77 (by decide) (by omega) (fun q => absurd q (by omega)) (fun _ => ?_)
              refine aw_aload_n dX7_year_80 rfl rfl ?_
              refine aw_getR dX7_year_81 fX7_60 (by first | assumption | rfl) (by rfl) ?_
              refine aw_callVF dX7_year_84 kX7_190 (c_W_coldTogether) (by first | assumption | rfl) rfl rfl rfl (Nat.le_of_ble_eq_true rfl) (Nat.le_of_ble_eq_true rfl) ?_
              dsimp only [Option.toList, List.cons_append, List.nil_append, Nat.reduceAdd]
              refine aw_goto (tgt := 108) dX7_year_87 (by decide) ?_
              rw [hw3.2.2.1]
              refine aw_iret dX7_year_108 rfl (by first | rfl | exact (pk_charN (by omega)).1 | decide) ?_
              exact QX.fq hr hv (FQ.of hf)
            · rw [if_neg (by decide)]
              have e62 : ∀ i, i < xn X → hh 62 i = yrF (xS X) (xC X) z k i := fun i hi => (hw3.2.2.2 i hi).1
              have hpy := PM_yrF (z := z) hv.1 hv.2.1 k
              refine aw_if_neN (tgt := 90) dX7_year_77 (by decide) (by omega) (fun _ => ?_) (fun q => absurd q (by omega))
              refine aw_aload_n dX7_year_90 rfl rfl ?_
              refine aw_getR dX7_year_91 fX7_60 (by first | assumption | rfl) (by rfl) ?_
              refine aw_callVF dX7_year_94 kX7_162 (c_W_standing) (by first | assumption | rfl) rfl rfl rfl (Nat.le_of_ble_eq_true rfl) (Nat.le_of_ble_eq_true rfl) ?_
              dsimp only [Option.toList, List.cons_append, List.nil_append, Nat.reduceAdd]
              refine aw_iconst (v := nI 0) dX7_year_97 (by decide) ?_
              refine aw_aload_n dX7_year_98 rfl rfl ?_
              refine aw_getR dX7_year_99 fX7_19 (by first | assumption | rfl) (by rfl) ?_
              refine aw_callVF dX7_year_102 kX7_113 (c_P_cousins) (by first | assumption | rfl) rfl rfl rfl (Nat.le_of_ble_eq_true rfl) (Nat.le_of_ble_eq_true rfl) ?_
              dsimp only [Option.toList, List.cons_append, List.nil_append, Nat.reduceAdd]
              rw [show hh 4 5 = xn X from hw3.1.1]
              refine aw_callVF dX7_year_105 kX7_149 (c_S_ownerOf ⟨rfl, rfl, rfl⟩ hn.2 (by omega) (fun i hi => by show hh 62 i < _; rw [e62 i hi]; have := hpy.1 i hi; have h9 : sn (xS X) ≤ 8 := hn.2; omega)) (by first | assumption | rfl) rfl rfl rfl (Nat.le_of_ble_eq_true rfl) (Nat.le_of_ble_eq_true rfl) ?_
              dsimp only [Option.toList, List.cons_append, List.nil_append, Nat.reduceAdd]
              rw [own_congr (xn X) 0 (fun i _ hi => e62 i (by omega))]
              refine aw_iret dX7_year_108 rfl (by first | rfl | exact (pk_charN (by omega)).1 | decide) ?_
              exact QX.fq hr hv (FQ.of hf)
          | succ u ih =>
            intro k s hh hk hw3 hf
            have hdr : drw z k < 2 ^ 30 := by
              have : (7919 * z + 6151 * k + 1) * (7919 * z + 6151 * k + 1) % 65521 < 65521 := Nat.mod_lt _ (by decide)
              unfold drw
              omega
            have hpy := PM_yrF (z := z) hv.1 hv.2.1 k
            refine aw_iload dX7_year_46 rfl ?_
            refine aw_iload_n dX7_year_48 rfl rfl ?_
            refine aw_icmp_geN (tgt := 76) dX7_year_49 (by decide) (by omega) (by omega) (fun q => absurd q (by omega)) (fun _ => ?_)
            refine aw_aload_n dX7_year_52 rfl rfl ?_
            refine aw_iload_n dX7_year_53 rfl rfl ?_
            refine aw_iload dX7_year_54 rfl ?_
            refine aw_callSF dX7_year_56 kX7_248 (c_drawOf hz2 (by omega)) rfl rfl rfl (Nat.le_of_ble_eq_true rfl) (Nat.le_of_ble_eq_true rfl) ?_
            dsimp only [Option.toList, List.cons_append, List.nil_append, Nat.reduceAdd]
            refine aw_callV dX7_year_59 kX7_251 (c_exchangeByDraw hw3 hv.1 hdr) (by first | assumption | rfl) rfl rfl rfl (Nat.le_of_ble_eq_true rfl) (Nat.le_of_ble_eq_true rfl) ?_
            rintro _ h2 ⟨rfl, w2, f2⟩
            dsimp only [Option.toList, List.cons_append, List.nil_append, Nat.reduceAdd]
            refine aw_aload_n dX7_year_62 rfl rfl ?_
            refine aw_getR dX7_year_63 fX7_60 (by first | assumption | rfl) (by rfl) ?_
            refine aw_iconst (v := nI 1) dX7_year_66 (by decide) ?_
            refine aw_callV dX7_year_67 kX7_159 (c_W_go w2 hok (PM_ysw hpy hv.1.1) (by omega)) (by first | assumption | rfl) rfl rfl rfl (Nat.le_of_ble_eq_true rfl) (Nat.le_of_ble_eq_true rfl) ?_
            rintro _ h3 ⟨rfl, w3, f3⟩
            dsimp only [Option.toList, List.cons_append, List.nil_append, Nat.reduceAdd]
            refine aw_iincN (v := 1) dX7_year_70 rfl rfl ?_
            dsimp only [List.set]
            refine aw_goto (tgt := 46) dX7_year_73 (by decide) ?_
            exact ih (k + 1) _ h3 (by omega) (by
              rw [← Nat.add_assoc]
              show WS h3 (xS X) (xC X).2.1 (cL (xn X) (xC X)) ((xC X).1 + k + 1) (yrF (xS X) (xC X) z (k + 1)) _ (yrC (xS X) (xC X) z k + coldN (xS X) ((xC X).1 + k) (yrF (xS X) (xC X) z (k + 1)) (sn (xS X)))
              have e1 : coldF (xS X) (xC X).2.1 (cL (xn X) (xC X)) ((xC X).1 + k) (ysw (sn (xS X)) (drw z k) (yrF (xS X) (xC X) z k)) 1 = coldN (xS X) ((xC X).1 + k) (yrF (xS X) (xC X) z (k + 1)) (sn (xS X)) := by
                show 0 + _ = _
                rw [Nat.zero_add]
                rfl
              rw [e1] at w3
              exact w3) (hf.trans (f2.trans f3))
        refine aw_iload_n dX7_year_0 rfl rfl ?_
        refine aw_iconst (v := nI 0) dX7_year_1 (by decide) ?_
        refine aw_sipush (v := nI 9999) dX7_year_2 (by decide) ?_
        refine aw_callSF dX7_year_5 kX7_99 (c_wiS ez) rfl rfl rfl (Nat.le_of_ble_eq_true rfl) (Nat.le_of_ble_eq_true rfl) ?_
        dsimp only [Option.toList, List.cons_append, List.nil_append, Nat.reduceAdd]
        refine aw_if_eqN (tgt := 30) dX7_year_8 (by decide) (by omega) (fun q => absurd q (by omega)) (fun _ => ?_)
        refine aw_iload_n dX7_year_11 rfl rfl ?_
        refine aw_iconst (v := nI 1) dX7_year_12 (by decide) ?_
        refine aw_bipush (v := nI 120) dX7_year_13 (by decide) ?_
        refine aw_callSF dX7_year_15 kX7_99 (c_wiS em) rfl rfl rfl (Nat.le_of_ble_eq_true rfl) (Nat.le_of_ble_eq_true rfl) ?_
        dsimp only [Option.toList, List.cons_append, List.nil_append, Nat.reduceAdd]
        refine aw_if_eqN (tgt := 30) dX7_year_18 (by decide) (by omega) (fun q => absurd q (by omega)) (fun _ => ?_)
        refine aw_iload_n dX7_year_21 rfl rfl ?_
        refine aw_iconst (v := nI 0) dX7_year_22 (by decide) ?_
        refine aw_iconst (v := nI 1) dX7_year_23 (by decide) ?_
        refine aw_callSF dX7_year_24 kX7_99 (c_wiS ew) rfl rfl rfl (Nat.le_of_ble_eq_true rfl) (Nat.le_of_ble_eq_true rfl) ?_
        dsimp only [Option.toList, List.cons_append, List.nil_append, Nat.reduceAdd]
        refine aw_if_neN (tgt := 32) dX7_year_27 (by decide) (by omega) (fun _ => ?_) (fun q => absurd q (by omega))
        refine aw_aload_n dX7_year_32 rfl rfl ?_
        refine aw_getR dX7_year_33 fX7_60 (by first | assumption | rfl) (by rfl) ?_
        refine aw_aload_n dX7_year_36 rfl rfl ?_
        refine aw_getR dX7_year_37 fX7_29 (by first | assumption | rfl) (by rfl) ?_
        refine aw_callV dX7_year_40 kX7_133 (c_Xbegin hr hv) (by first | assumption | rfl) rfl rfl rfl (Nat.le_of_ble_eq_true rfl) (Nat.le_of_ble_eq_true rfl) ?_
        rintro _ h2 ⟨rfl, w2, f2⟩
        dsimp only [Option.toList, List.cons_append, List.nil_append, Nat.reduceAdd]
        refine aw_iconst (v := nI 0) dX7_year_43 (by decide) ?_
        refine aw_istore dX7_year_44 (Nat.le_of_ble_eq_true rfl) rfl ?_
        dsimp only [List.set]
        exact loop m 0 _ h2 (by omega) w2 f2
