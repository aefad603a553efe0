/-! the reference: undo, keep, back, seen -/
/-- seventeen places of row c from off on come to row 70 -/
def h17 (h : Hp) (c off k : Nat) : Hp := fun o j => if o = 70 ∧ j < k then h c (off + j) else h o j
theorem h17_ne {h : Hp} {c off k o : Nat} (hne : o ≠ 70) : h17 h c off k o = h o := by
  funext j
  simp [h17, hne]
theorem h17_at {h : Hp} {c off k j : Nat} (hj : j < k) : h17 h c off k 70 j = h c (off + j) := by
  simp [h17, hj]
theorem h17_s {h : Hp} {c off k : Nat} (hc : c ≠ 70) : hw (h17 h c off k) 70 k (h c (off + k)) = h17 h c off (k + 1) := by
  funext o j
  unfold hw h17
  by_cases q1 : o = 70
  · subst q1
    by_cases q2 : j = k
    · subst q2
      rw [if_pos ⟨rfl, rfl⟩, if_pos ⟨rfl, by omega⟩]
    · rw [if_neg (fun z => q2 z.2)]
      by_cases q3 : j < k
      · rw [if_pos ⟨rfl, q3⟩, if_pos ⟨rfl, by omega⟩]
      · rw [if_neg (fun z => q3 z.2), if_neg (fun z => q3 (by omega))]
  · rw [if_neg (fun z => q1 z.1), if_neg (fun z => q1 z.1), if_neg (fun z => q1 z.1)]
theorem h17_0 {h : Hp} {c off : Nat} : h17 h c off 0 = h := by
  funext o j
  unfold h17
  rw [if_neg (by omega)]
theorem MV.take {h : Hp} {n c off : Nat} {s : Sv} (hv : MV h n c off s) (hn : n ≤ 8) : MV (h17 h c off 17) n 70 0 s := by
  refine ⟨by rw [h17_at (by omega), Nat.add_zero]; exact hv.1, fun i hi => ⟨?_, ?_⟩⟩
  · rw [Nat.zero_add, h17_at (by omega)]; exact (hv.2 i hi).1
  · rw [Nat.zero_add, h17_at (by omega)]; exact (hv.2 i hi).2
theorem y_undo {d : Nat} {h : Hp} {X : XS} (hr : RM h X) (hv : VX X) : RT mX8_undo (d + 6) [.ref 67] h (QN h (a_undo X)) := by
  have hn := hv.n
  have hu := hv.2.2.2.1.1
  obtain ⟨r1, r2, r3, ⟨r4, r4'⟩, ⟨r5, r5'⟩, ⟨r6, r6'⟩, r7, r8⟩ := id hr
  unfold a_undo
  change AW mX8_undo _ 0 [some (.ref 67), none] [] h _
  refine aw_aload_n dX8_undo_0 rfl rfl ?_
  refine aw_getI dX8_undo_1 fX8_118 (by first | assumption | rfl) (by rfl) ?_
  rw [r4]
  refine aw_if_neN (tgt := 10) dX8_undo_4 (by decide) (by omega) (fun c4 => ?_) (fun c4 => ?_)
  · rw [if_neg c4]
    obtain ⟨s, hs⟩ : ∃ s, (xU X).1 = s + 1 := ⟨(xU X).1 - 1, by omega⟩
    rw [hs, Nat.add_sub_cancel]
    refine aw_aload_n dX8_undo_10 rfl rfl ?_
    refine aw_dup dX8_undo_11 rfl ?_
    refine aw_getI dX8_undo_12 fX8_118 (by first | assumption | rfl) (by rfl) ?_
    refine aw_iconst (v := nI 1) dX8_undo_15 (by decide) ?_
    rw [r4, hs]
    refine aw_isubN dX8_undo_16 (by omega) ?_
    rw [Nat.add_sub_cancel]
    refine aw_putfield dX8_undo_17 gX8_118 (by first | assumption | rfl) (by rfl) ?_
    refine aw_iconst (v := nI 0) dX8_undo_20 (by decide) ?_
    refine aw_istore_n dX8_undo_21 rfl (Nat.le_of_ble_eq_true rfl) rfl ?_
    dsimp only [List.set]
    obtain ⟨h2, hh2⟩ : ∃ h2, h2 = hw h 67 5 s := ⟨_, rfl⟩
    rw [← hh2]
    have e5 : h2 67 5 = s := by rw [hh2, hw_at, if_pos rfl]
    have g7 : ∀ k, k ≠ 5 → h2 67 k = h 67 k := fun k p => by rw [hh2, hw_at, if_neg p]
    have g : ∀ o, o ≠ 67 → h2 o = h o := fun o p => by rw [hh2, hw_ne p]
    have loop : ∀ u k, k + u = 17 → AW mX8_undo (d + 6) 22 [some (.ref 67), some (.int (nI k))] [] (h17 h2 72 (17 * s) k) (QN h (nI s, setC (setU X (s, (xU X).2)) ((xU X).2 s))) := by
      intro u
      induction u with
      | zero =>
        intro k hk
        have ek : k = 17 := by omega
        subst ek
        refine aw_iload_n dX8_undo_22 rfl rfl ?_
        refine aw_bipush (v := nI 17) dX8_undo_23 (by decide) ?_
        refine aw_icmp_geN (tgt := 54) dX8_undo_25 (by decide) (by omega) (by omega) (fun _ => ?_) (fun q => absurd q (by omega))
        refine aw_aload_n dX8_undo_54 rfl rfl ?_
        refine aw_getI dX8_undo_55 fX8_118 (by first | assumption | rfl) (by rfl) ?_
        rw [h17_ne (by decide), e5]
        refine aw_iret dX8_undo_58 rfl (by first | rfl | exact (pk_charN (by omega)).1 | decide) ?_
        have m72 : MV h2 (xn X) 72 (17 * s) ((xU X).2 s) := (r4' s (by omega)).eqr (g 72 (by decide))
        refine ⟨rfl, hr.mk2 rfl rfl rfl (fun o ho => by rw [h17_ne (by omega)]; exact g o (by omega)) (by rw [h17_ne (by decide)]; exact g7 0 (by decide)) (by rw [h17_ne (by decide)]; exact g7 12 (by decide)) (m72.take hn.2) ⟨by rw [h17_ne (by decide)]; exact e5, fun k hk => ((r4' k (by have hk : k < s := hk; omega)).eqr (g 72 (by decide))).eqr (h17_ne (by decide))⟩ ⟨by rw [h17_ne (by decide), g7 7 (by decide)]; exact r5, fun k hk => ((r5' k hk).eqr (g 73 (by decide))).eqr (h17_ne (by decide))⟩ ⟨by rw [h17_ne (by decide), g7 9 (by decide)]; exact r6, fun k hk => by rw [h17_ne (by decide), g 74 (by decide)]; exact r6' k hk⟩, fun o ho => by rw [h17_ne (by omega)]; exact g o (by omega)⟩
      | succ u ih =>
        intro k hk
        refine aw_iload_n dX8_undo_22 rfl rfl ?_
        refine aw_bipush (v := nI 17) dX8_undo_23 (by decide) ?_
        refine aw_icmp_geN (tgt := 54) dX8_undo_25 (by decide) (by omega) (by omega) (fun q => absurd q (by omega)) (fun _ => ?_)
        refine aw_aload_n dX8_undo_28 rfl rfl ?_
        refine aw_getR dX8_undo_29 fX8_16 (by first | assumption | rfl) (by rfl) ?_
        refine aw_iload_n dX8_undo_32 rfl rfl ?_
        refine aw_aload_n dX8_undo_33 rfl rfl ?_
        refine aw_getR dX8_undo_34 fX8_22 (by first | assumption | rfl) (by rfl) ?_
        refine aw_bipush (v := nI 17) dX8_undo_37 (by decide) ?_
        refine aw_aload_n dX8_undo_39 rfl rfl ?_
        refine aw_getI dX8_undo_40 fX8_118 (by first | assumption | rfl) (by rfl) ?_
        rw [h17_ne (by decide), e5]
        refine aw_imulN dX8_undo_43 ?_
        refine aw_iload_n dX8_undo_44 rfl rfl ?_
        refine aw_iaddN dX8_undo_45 ?_
        refine aw_iaload dX8_undo_46 (by first | assumption | rfl) (by omega) (by omega) ?_
        rw [h17_ne (by decide)]
        refine aw_iastore dX8_undo_47 (by first | assumption | rfl) (by omega) (by omega) ?_
        refine aw_iincN (v := 1) dX8_undo_48 rfl rfl ?_
        dsimp only [List.set]
        refine aw_goto (tgt := 22) dX8_undo_51 (by decide) ?_
        rw [h17_s (by decide)]
        exact ih (k + 1) (by omega)
    have r := loop 17 0 (by omega)
    rw [h17_0] at r
    exact r
  · rw [if_pos (by omega)]
    refine aw_bipush (v := nI 4294967294) dX8_undo_7 (by decide) ?_
    refine aw_iret dX8_undo_9 rfl (by first | rfl | exact (pk_charN (by omega)).1 | decide) ?_
    exact QM.same hr
theorem y_keep {d : Nat} {h : Hp} {X : XS} (hr : RM h X) (hv : VX X) : RT mX8_keep (d + 6) [.ref 67] h (QN h (a_keep X)) := by
  have hn := hv.n
  have hu := hv.2.2.2.2.1.1
  obtain ⟨r1, r2, r3, ⟨r4, r4'⟩, ⟨r5, r5'⟩, ⟨r6, r6'⟩, r7, r8⟩ := id hr
  unfold a_keep
  change AW mX8_keep _ 0 [some (.ref 67)] [] h _
  refine aw_aload_n dX8_keep_0 rfl rfl ?_
  refine aw_getI dX8_keep_1 fX8_121 (by first | assumption | rfl) (by rfl) ?_
  rw [r5]
  refine aw_iconst (v := nI 2) dX8_keep_4 (by decide) ?_
  refine aw_icmp_neN (tgt := 11) dX8_keep_5 (by decide) (by omega) (by omega) (fun c5 => ?_) (fun c5 => ?_)
  · rw [if_neg c5]
    refine aw_aload_n dX8_keep_11 rfl rfl ?_
    refine aw_getR dX8_keep_12 fX8_25 (by first | assumption | rfl) (by rfl) ?_
    refine aw_bipush (v := nI 17) dX8_keep_15 (by decide) ?_
    refine aw_aload_n dX8_keep_17 rfl rfl ?_
    refine aw_getI dX8_keep_18 fX8_121 (by first | assumption | rfl) (by rfl) ?_
    rw [r5]
    refine aw_imulN dX8_keep_21 ?_
    refine aw_aload_n dX8_keep_22 rfl rfl ?_
    refine aw_getR dX8_keep_23 fX8_16 (by first | assumption | rfl) (by rfl) ?_
    refine aw_bipush (v := nI 17) dX8_keep_26 (by decide) ?_
    refine aw_callSF dX8_keep_28 kX8_114 (m_put (na := 34) (nc := 17) rfl rfl (by decide) (by omega) (by omega) (by decide) (by decide)) rfl rfl rfl (Nat.le_of_ble_eq_true rfl) (Nat.le_of_ble_eq_true rfl) ?_
    dsimp only [Option.toList, List.cons_append, List.nil_append, Nat.reduceAdd]
    refine aw_aload_n dX8_keep_31 rfl rfl ?_
    refine aw_dup dX8_keep_32 rfl ?_
    refine aw_getI dX8_keep_33 fX8_121 (by first | assumption | rfl) (by rfl) ?_
    refine aw_iconst (v := nI 1) dX8_keep_36 (by decide) ?_
    refine aw_iaddN dX8_keep_37 ?_
    rw [hcq_ne (by decide), r5]
    refine aw_putfield dX8_keep_38 gX8_121 (by first | assumption | rfl) (by rfl) ?_
    refine aw_aload_n dX8_keep_41 rfl rfl ?_
    refine aw_getI dX8_keep_42 fX8_121 (by first | assumption | rfl) (by rfl) ?_
    rw [hw_at, if_pos rfl]
    refine aw_iret dX8_keep_45 rfl (by first | rfl | exact (pk_charN (by omega)).1 | decide) ?_
    obtain ⟨h2, hh2⟩ : ∃ h2, h2 = hw (hcq h 70 73 (17 * (xV X).1) 17) 67 7 ((xV X).1 + 1) := ⟨_, rfl⟩
    rw [← hh2]
    have g7 : ∀ k, k ≠ 7 → h2 67 k = h 67 k := fun k p => by rw [hh2, hw_at, if_neg p, hcq_ne (by decide)]
    have g : ∀ o, o ≠ 67 → o ≠ 73 → h2 o = h o := fun o p q => by rw [hh2, hw_ne p, hcq_ne q]
    have e73 : h2 73 = hcq h 70 73 (17 * (xV X).1) 17 73 := by rw [hh2, hw_ne (by decide)]
    refine ⟨rfl, hr.mk2 rfl rfl rfl (fun o ho => g o (by omega) (by omega)) (g7 0 (by decide)) (g7 12 (by decide)) (r2.eqr (g 70 (by decide) (by decide))) ⟨by rw [g7 5 (by decide)]; exact r4, fun k hk => (r4' k hk).eqr (g 72 (by decide) (by decide))⟩ ⟨by rw [hh2, hw_at, if_pos rfl]; rfl, fun k hk => ?_⟩ ⟨by rw [g7 9 (by decide)]; exact r6, fun k hk => by rw [g 74 (by decide) (by decide)]; exact r6' k hk⟩, fun o ho => g o (by omega) (by omega)⟩
    have hk : k < (xV X).1 + 1 := hk
    show MV h2 (xn X) 73 (17 * k) (if k = (xV X).1 then xC X else (xV X).2 k)
    refine MV.eqr ?_ e73
    by_cases z : k = (xV X).1
    · rw [if_pos z, z]; exact r2.cp hn.2
    · rw [if_neg z]; exact (r5' k (by omega)).out hn.2 (by omega)
  · rw [if_pos (by omega)]
    refine aw_bipush (v := nI 4294967293) dX8_keep_8 (by decide) ?_
    refine aw_iret dX8_keep_10 rfl (by first | rfl | exact (pk_charN (by omega)).1 | decide) ?_
    exact QM.same hr
theorem y_back {d : Nat} {h : Hp} {X : XS} (hr : RM h X) (hv : VX X) : RT mX8_back (d + 6) [.ref 67] h (QN h (a_back X)) := by
  have hn := hv.n
  have hu := hv.2.2.2.2.1.1
  obtain ⟨r1, r2, r3, ⟨r4, r4'⟩, ⟨r5, r5'⟩, ⟨r6, r6'⟩, r7, r8⟩ := id hr
  unfold a_back
  change AW mX8_back _ 0 [some (.ref 67), none] [] h _
  refine aw_aload_n dX8_back_0 rfl rfl ?_
  refine aw_getI dX8_back_1 fX8_121 (by first | assumption | rfl) (by rfl) ?_
  rw [r5]
  refine aw_if_neN (tgt := 10) dX8_back_4 (by decide) (by omega) (fun c4 => ?_) (fun c4 => ?_)
  · rw [if_neg c4]
    obtain ⟨s, hs⟩ : ∃ s, (xV X).1 = s + 1 := ⟨(xV X).1 - 1, by omega⟩
    rw [hs, Nat.add_sub_cancel]
    refine aw_aload_n dX8_back_10 rfl rfl ?_
    refine aw_dup dX8_back_11 rfl ?_
    refine aw_getI dX8_back_12 fX8_121 (by first | assumption | rfl) (by rfl) ?_
    refine aw_iconst (v := nI 1) dX8_back_15 (by decide) ?_
    rw [r5, hs]
    refine aw_isubN dX8_back_16 (by omega) ?_
    rw [Nat.add_sub_cancel]
    refine aw_putfield dX8_back_17 gX8_121 (by first | assumption | rfl) (by rfl) ?_
    refine aw_iconst (v := nI 0) dX8_back_20 (by decide) ?_
    refine aw_istore_n dX8_back_21 rfl (Nat.le_of_ble_eq_true rfl) rfl ?_
    dsimp only [List.set]
    obtain ⟨h2, hh2⟩ : ∃ h2, h2 = hw h 67 7 s := ⟨_, rfl⟩
    rw [← hh2]
    have e5 : h2 67 7 = s := by rw [hh2, hw_at, if_pos rfl]
    have g7 : ∀ k, k ≠ 7 → h2 67 k = h 67 k := fun k p => by rw [hh2, hw_at, if_neg p]
    have g : ∀ o, o ≠ 67 → h2 o = h o := fun o p => by rw [hh2, hw_ne p]
    have loop : ∀ u k, k + u = 17 → AW mX8_back (d + 6) 22 [some (.ref 67), some (.int (nI k))] [] (h17 h2 73 (17 * s) k) (QN h (nI s, setC (setV (setU X (0, (xU X).2)) (s, (xV X).2)) ((xV X).2 s))) := by
      intro u
      induction u with
      | zero =>
        intro k hk
        have ek : k = 17 := by omega
        subst ek
        refine aw_iload_n dX8_back_22 rfl rfl ?_
        refine aw_bipush (v := nI 17) dX8_back_23 (by decide) ?_
        refine aw_icmp_geN (tgt := 54) dX8_back_25 (by decide) (by omega) (by omega) (fun _ => ?_) (fun q => absurd q (by omega))
        refine aw_aload_n dX8_back_54 rfl rfl ?_
        refine aw_iconst (v := nI 0) dX8_back_55 (by decide) ?_
        refine aw_putfield dX8_back_56 gX8_118 (by first | assumption | rfl) (by rfl) ?_
        refine aw_aload_n dX8_back_59 rfl rfl ?_
        refine aw_getI dX8_back_60 fX8_121 (by first | assumption | rfl) (by rfl) ?_
        rw [hw_at, if_neg (by decide), h17_ne (by decide), e5]
        refine aw_iret dX8_back_63 rfl (by first | rfl | exact (pk_charN (by omega)).1 | decide) ?_
        have m73 : MV h2 (xn X) 73 (17 * s) ((xV X).2 s) := (r5' s (by omega)).eqr (g 73 (by decide))
        have q7 : ∀ k, k ≠ 5 → hw (h17 h2 73 (17 * s) 17) 67 5 0 67 k = h2 67 k := fun k p => by rw [hw_at, if_neg p, h17_ne (by decide)]
        have q : ∀ o, o ≠ 67 → o ≠ 70 → hw (h17 h2 73 (17 * s) 17) 67 5 0 o = h o := fun o p r => by rw [hw_ne p, h17_ne r]; exact g o p
        refine ⟨rfl, hr.mk2 rfl rfl rfl (fun o ho => q o (by omega) (by omega)) (by rw [q7 0 (by decide)]; exact g7 0 (by decide)) (by rw [q7 12 (by decide)]; exact g7 12 (by decide)) ((m73.take hn.2).eqr (hw_ne (by decide))) ⟨by rw [hw_at, if_pos rfl]; rfl, fun k hk => by have hk : k < 0 := hk; omega⟩ ⟨by rw [q7 7 (by decide)]; exact e5, fun k hk => (r5' k (by have hk : k < s := hk; omega)).eqr (q 73 (by decide) (by decide))⟩ ⟨by rw [q7 9 (by decide), g7 9 (by decide)]; exact r6, fun k hk => by rw [q 74 (by decide) (by decide)]; exact r6' k hk⟩, fun o ho => q o (by omega) (by omega)⟩
      | succ u ih =>
        intro k hk
        refine aw_iload_n dX8_back_22 rfl rfl ?_
        refine aw_bipush (v := nI 17) dX8_back_23 (by decide) ?_
        refine aw_icmp_geN (tgt := 54) dX8_back_25 (by decide) (by omega) (by omega) (fun q => absurd q (by omega)) (fun _ => ?_)
        refine aw_aload_n dX8_back_28 rfl rfl ?_
        refine aw_getR dX8_back_29 fX8_16 (by first | assumption | rfl) (by rfl) ?_
        refine aw_iload_n dX8_back_32 rfl rfl ?_
        refine aw_aload_n dX8_back_33 rfl rfl ?_
        refine aw_getR dX8_back_34 fX8_25 (by first | assumption | rfl) (by rfl) ?_
        refine aw_bipush (v := nI 17) dX8_back_37 (by decide) ?_
        refine aw_aload_n dX8_back_39 rfl rfl ?_
        refine aw_getI dX8_back_40 fX8_121 (by first | assumption | rfl) (by rfl) ?_
        rw [h17_ne (by decide), e5]
        refine aw_imulN dX8_back_43 ?_
        refine aw_iload_n dX8_back_44 rfl rfl ?_
        refine aw_iaddN dX8_back_45 ?_
        refine aw_iaload dX8_back_46 (by first | assumption | rfl) (by omega) (by omega) ?_
        rw [h17_ne (by decide)]
        refine aw_iastore dX8_back_47 (by first | assumption | rfl) (by omega) (by omega) ?_
        refine aw_iincN (v := 1) dX8_back_48 rfl rfl ?_
        dsimp only [List.set]
        refine aw_goto (tgt := 22) dX8_back_51 (by decide) ?_
        rw [h17_s (by decide)]
        exact ih (k + 1) (by omega)
    have r := loop 17 0 (by omega)
    rw [h17_0] at r
    exact r
  · rw [if_pos (by omega)]
    refine aw_bipush (v := nI 4294967294) dX8_back_7 (by decide) ?_
    refine aw_iret dX8_back_9 rfl (by first | rfl | exact (pk_charN (by omega)).1 | decide) ?_
    exact QM.same hr
theorem y_seen {d : Nat} {h : Hp} {X : XS} {i r t : Int32} (hr : RM h X) (hv : VX X) : RT mX8_seen (d + 6) [.ref 67, .int i, .int r, .int t] h (QN h (a_seen X i r t)) := by
  have hn := hv.n
  have hz8 := hv.2.2.2.2.2.1
  obtain ⟨r1, r2, r3, ⟨r4, r4'⟩, ⟨r5, r5'⟩, ⟨r6, r6'⟩, r7, r8⟩ := id hr
  unfold a_seen
  change AW mX8_seen _ 0 [some (.ref 67), some (.int i), some (.int r), some (.int t)] [] h _
  cases ei : ix i 0 (xn X - 1) with
  | none =>
    refine aw_aload_n dX8_seen_0 rfl rfl ?_
    refine aw_iload_n dX8_seen_1 rfl rfl ?_
    refine aw_callVF dX8_seen_2 kX8_151 (m_oneN hr hv ei) (by first | assumption | rfl) rfl rfl rfl (Nat.le_of_ble_eq_true rfl) (Nat.le_of_ble_eq_true rfl) ?_
    dsimp only [Option.toList, List.cons_append, List.nil_append, Nat.reduceAdd]
    refine aw_if_eqN (tgt := 26) dX8_seen_5 (by decide) (by omega) (fun _ => ?_) (fun q => absurd q (by omega))
    refine aw_iconst (v := nI 4294967295) dX8_seen_26 (by decide) ?_
    refine aw_iret dX8_seen_27 rfl (by first | rfl | exact (pk_charN (by omega)).1 | decide) ?_
    exact QM.same hr
  | some i =>
    obtain ⟨rfl, hi1, hi2⟩ := ix_s (by omega) (by omega) ei
    dsimp only
    cases er : ix r 0 (xn X - 1) with
    | none =>
      refine aw_aload_n dX8_seen_0 rfl rfl ?_
      refine aw_iload_n dX8_seen_1 rfl rfl ?_
      refine aw_callVF dX8_seen_2 kX8_151 (m_oneS hr hv ei) (by first | assumption | rfl) rfl rfl rfl (Nat.le_of_ble_eq_true rfl) (Nat.le_of_ble_eq_true rfl) ?_
      dsimp only [Option.toList, List.cons_append, List.nil_append, Nat.reduceAdd]
      refine aw_if_eqN (tgt := 26) dX8_seen_5 (by decide) (by omega) (fun q => absurd q (by omega)) (fun _ => ?_)
      refine aw_aload_n dX8_seen_8 rfl rfl ?_
      refine aw_iload_n dX8_seen_9 rfl rfl ?_
      refine aw_callVF dX8_seen_10 kX8_151 (m_oneN hr hv er) (by first | assumption | rfl) rfl rfl rfl (Nat.le_of_ble_eq_true rfl) (Nat.le_of_ble_eq_true rfl) ?_
      dsimp only [Option.toList, List.cons_append, List.nil_append, Nat.reduceAdd]
      refine aw_if_eqN (tgt := 26) dX8_seen_13 (by decide) (by omega) (fun _ => ?_) (fun q => absurd q (by omega))
      refine aw_iconst (v := nI 4294967295) dX8_seen_26 (by decide) ?_
      refine aw_iret dX8_seen_27 rfl (by first | rfl | exact (pk_charN (by omega)).1 | decide) ?_
      exact QM.same hr
    | some r =>
      obtain ⟨rfl, hr1, hr2⟩ := ix_s (by omega) (by omega) er
      dsimp only
      cases et : ix t 0 120 with
      | none =>
        refine aw_aload_n dX8_seen_0 rfl rfl ?_
        refine aw_iload_n dX8_seen_1 rfl rfl ?_
        refine aw_callVF dX8_seen_2 kX8_151 (m_oneS hr hv ei) (by first | assumption | rfl) rfl rfl rfl (Nat.le_of_ble_eq_true rfl) (Nat.le_of_ble_eq_true rfl) ?_
        dsimp only [Option.toList, List.cons_append, List.nil_append, Nat.reduceAdd]
        refine aw_if_eqN (tgt := 26) dX8_seen_5 (by decide) (by omega) (fun q => absurd q (by omega)) (fun _ => ?_)
        refine aw_aload_n dX8_seen_8 rfl rfl ?_
        refine aw_iload_n dX8_seen_9 rfl rfl ?_
        refine aw_callVF dX8_seen_10 kX8_151 (m_oneS hr hv er) (by first | assumption | rfl) rfl rfl rfl (Nat.le_of_ble_eq_true rfl) (Nat.le_of_ble_eq_true rfl) ?_
        dsimp only [Option.toList, List.cons_append, List.nil_append, Nat.reduceAdd]
        refine aw_if_eqN (tgt := 26) dX8_seen_13 (by decide) (by omega) (fun q => absurd q (by omega)) (fun _ => ?_)
        refine aw_iload_n dX8_seen_16 rfl rfl ?_
        refine aw_iconst (v := nI 0) dX8_seen_17 (by decide) ?_
        refine aw_bipush (v := nI 120) dX8_seen_18 (by decide) ?_
        refine aw_callSF dX8_seen_20 kX8_76 (m_iN et) rfl rfl rfl (Nat.le_of_ble_eq_true rfl) (Nat.le_of_ble_eq_true rfl) ?_
        dsimp only [Option.toList, List.cons_append, List.nil_append, Nat.reduceAdd]
        refine aw_if_neN (tgt := 28) dX8_seen_23 (by decide) (by omega) (fun q => absurd q (by omega)) (fun _ => ?_)
        refine aw_iconst (v := nI 4294967295) dX8_seen_26 (by decide) ?_
        refine aw_iret dX8_seen_27 rfl (by first | rfl | exact (pk_charN (by omega)).1 | decide) ?_
        exact QM.same hr
      | some t =>
        obtain ⟨rfl, ht1, ht2⟩ := ix_s (by omega) (by omega) et
        dsimp only
        have hc8 := hz8.1
        refine aw_aload_n dX8_seen_0 rfl rfl ?_
        refine aw_iload_n dX8_seen_1 rfl rfl ?_
        refine aw_callVF dX8_seen_2 kX8_151 (m_oneS hr hv ei) (by first | assumption | rfl) rfl rfl rfl (Nat.le_of_ble_eq_true rfl) (Nat.le_of_ble_eq_true rfl) ?_
        dsimp only [Option.toList, List.cons_append, List.nil_append, Nat.reduceAdd]
        refine aw_if_eqN (tgt := 26) dX8_seen_5 (by decide) (by omega) (fun q => absurd q (by omega)) (fun _ => ?_)
        refine aw_aload_n dX8_seen_8 rfl rfl ?_
        refine aw_iload_n dX8_seen_9 rfl rfl ?_
        refine aw_callVF dX8_seen_10 kX8_151 (m_oneS hr hv er) (by first | assumption | rfl) rfl rfl rfl (Nat.le_of_ble_eq_true rfl) (Nat.le_of_ble_eq_true rfl) ?_
        dsimp only [Option.toList, List.cons_append, List.nil_append, Nat.reduceAdd]
        refine aw_if_eqN (tgt := 26) dX8_seen_13 (by decide) (by omega) (fun q => absurd q (by omega)) (fun _ => ?_)
        refine aw_iload_n dX8_seen_16 rfl rfl ?_
        refine aw_iconst (v := nI 0) dX8_seen_17 (by decide) ?_
        refine aw_bipush (v := nI 120) dX8_seen_18 (by decide) ?_
        refine aw_callSF dX8_seen_20 kX8_76 (m_iS et) rfl rfl rfl (Nat.le_of_ble_eq_true rfl) (Nat.le_of_ble_eq_true rfl) ?_
        dsimp only [Option.toList, List.cons_append, List.nil_append, Nat.reduceAdd]
        refine aw_if_neN (tgt := 28) dX8_seen_23 (by decide) (by omega) (fun _ => ?_) (fun q => absurd q (by omega))
        refine aw_aload_n dX8_seen_28 rfl rfl ?_
        refine aw_getI dX8_seen_29 fX8_124 (by first | assumption | rfl) (by rfl) ?_
        rw [r6]
        refine aw_bipush (v := nI 8) dX8_seen_32 (by decide) ?_
        refine aw_icmp_neN (tgt := 40) dX8_seen_34 (by decide) (by omega) (by omega) (fun c34 => ?_) (fun c34 => ?_)
        · rw [if_neg c34]
          refine aw_aload_n dX8_seen_40 rfl rfl ?_
          refine aw_getR dX8_seen_41 fX8_28 (by first | assumption | rfl) (by rfl) ?_
          refine aw_iconst (v := nI 3) dX8_seen_44 (by decide) ?_
          refine aw_aload_n dX8_seen_45 rfl rfl ?_
          refine aw_getI dX8_seen_46 fX8_124 (by first | assumption | rfl) (by rfl) ?_
          rw [r6]
          refine aw_imulN dX8_seen_49 ?_
          refine aw_iload_n dX8_seen_50 rfl rfl ?_
          refine aw_iastore dX8_seen_51 (by first | assumption | rfl) (by omega) (by omega) ?_
          refine aw_aload_n dX8_seen_52 rfl rfl ?_
          refine aw_getR dX8_seen_53 fX8_28 (by first | assumption | rfl) (by rfl) ?_
          refine aw_iconst (v := nI 3) dX8_seen_56 (by decide) ?_
          refine aw_aload_n dX8_seen_57 rfl rfl ?_
          refine aw_getI dX8_seen_58 fX8_124 (by first | assumption | rfl) (by rfl) ?_
          rw [hw_ne (by decide), r6]
          refine aw_imulN dX8_seen_61 ?_
          refine aw_iconst (v := nI 1) dX8_seen_62 (by decide) ?_
          refine aw_iaddN dX8_seen_63 ?_
          refine aw_iload_n dX8_seen_64 rfl rfl ?_
          refine aw_iastore dX8_seen_65 (by first | assumption | rfl) (by omega) (by omega) ?_
          refine aw_aload_n dX8_seen_66 rfl rfl ?_
          refine aw_getR dX8_seen_67 fX8_28 (by first | assumption | rfl) (by rfl) ?_
          refine aw_iconst (v := nI 3) dX8_seen_70 (by decide) ?_
          refine aw_aload_n dX8_seen_71 rfl rfl ?_
          refine aw_getI dX8_seen_72 fX8_124 (by first | assumption | rfl) (by rfl) ?_
          rw [hw_ne (by decide), hw_ne (by decide), r6]
          refine aw_imulN dX8_seen_75 ?_
          refine aw_iconst (v := nI 2) dX8_seen_76 (by decide) ?_
          refine aw_iaddN dX8_seen_77 ?_
          refine aw_iload_n dX8_seen_78 rfl rfl ?_
          refine aw_iastore dX8_seen_79 (by first | assumption | rfl) (by omega) (by omega) ?_
          refine aw_aload_n dX8_seen_80 rfl rfl ?_
          refine aw_dup dX8_seen_81 rfl ?_
          refine aw_getI dX8_seen_82 fX8_124 (by first | assumption | rfl) (by rfl) ?_
          refine aw_iconst (v := nI 1) dX8_seen_85 (by decide) ?_
          refine aw_iaddN dX8_seen_86 ?_
          rw [hw_ne (by decide), hw_ne (by decide), hw_ne (by decide), r6]
          refine aw_putfield dX8_seen_87 gX8_124 (by first | assumption | rfl) (by rfl) ?_
          refine aw_aload_n dX8_seen_90 rfl rfl ?_
          refine aw_getI dX8_seen_91 fX8_124 (by first | assumption | rfl) (by rfl) ?_
          rw [hw_at, if_pos rfl]
          refine aw_iret dX8_seen_94 rfl (by first | rfl | exact (pk_charN (by omega)).1 | decide) ?_
          obtain ⟨h2, hh2⟩ : ∃ h2, h2 = hw (hw (hw (hw h 74 (3 * (xZ X).1) i) 74 (3 * (xZ X).1 + 1) r) 74 (3 * (xZ X).1 + 2) t) 67 9 ((xZ X).1 + 1) := ⟨_, rfl⟩
          rw [← hh2]
          have g7 : ∀ k, k ≠ 9 → h2 67 k = h 67 k := fun k p => by rw [hh2, hw_at, if_neg p, hw_ne (by decide), hw_ne (by decide), hw_ne (by decide)]
          have g : ∀ o, o ≠ 67 → o ≠ 74 → h2 o = h o := fun o p q => by rw [hh2, hw_ne p, hw_ne q, hw_ne q, hw_ne q]
          have g4 : ∀ j, h2 74 j = if j = 3 * (xZ X).1 + 2 then t else if j = 3 * (xZ X).1 + 1 then r else if j = 3 * (xZ X).1 then i else h 74 j := fun j => by rw [hh2, hw_ne (by decide), hw_at, hw_at, hw_at]
          refine ⟨rfl, hr.mk2 rfl rfl rfl (fun o ho => g o (by omega) (by omega)) (g7 0 (by decide)) (g7 12 (by decide)) (r2.eqr (g 70 (by decide) (by decide))) ⟨by rw [g7 5 (by decide)]; exact r4, fun k hk => (r4' k hk).eqr (g 72 (by decide) (by decide))⟩ ⟨by rw [g7 7 (by decide)]; exact r5, fun k hk => (r5' k hk).eqr (g 73 (by decide) (by decide))⟩ ⟨by rw [hh2, hw_at, if_pos rfl]; rfl, fun k hk => ?_⟩, fun o ho => g o (by omega) (by omega)⟩
          have hk : k < (xZ X).1 + 1 := hk
          show h2 74 (3 * k) = (if k = (xZ X).1 then (i, r, t) else (xZ X).2 k).1 ∧ h2 74 (3 * k + 1) = (if k = (xZ X).1 then (i, r, t) else (xZ X).2 k).2.1 ∧ h2 74 (3 * k + 2) = (if k = (xZ X).1 then (i, r, t) else (xZ X).2 k).2.2
          rw [g4, g4, g4]
          by_cases z : k = (xZ X).1
          · rw [if_pos z, if_neg (by omega), if_neg (by omega), if_pos (by omega), if_neg (by omega), if_pos (by omega), if_pos (by omega)]
            exact ⟨rfl, rfl, rfl⟩
          · rw [if_neg z, if_neg (by omega), if_neg (by omega), if_neg (by omega), if_neg (by omega), if_neg (by omega), if_neg (by omega), if_neg (by omega), if_neg (by omega), if_neg (by omega)]
            exact r6' k (by omega)
        · rw [if_pos (by omega)]
          refine aw_bipush (v := nI 4294967293) dX8_seen_37 (by decide) ?_
          refine aw_iret dX8_seen_39 rfl (by first | rfl | exact (pk_charN (by omega)).1 | decide) ?_
          exact QM.same hr
