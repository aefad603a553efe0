/-! the reference: acts -/
theorem y_write {d : Nat} {h : Hp} {X : XS} {x : Int32} (hr : RM h X) (hv : VX X) : RT mX8_write (d + 6) [.ref 67, .int x] h (QN h (a_write X x)) := by
  have hT := hv.2.2.2.2.2.2.1
  have e12 : h 67 12 = (xT X).1 := hr.2.2.2.2.2.2.1
  unfold a_write
  change AW mX8_write _ 0 [some (.ref 67), some (.int x)] [] h _
  cases ej : ix x 32 126 with
  | none =>
    refine aw_iload_n dX8_write_0 rfl rfl ?_
    refine aw_bipush (v := nI 32) dX8_write_1 (by decide) ?_
    refine aw_bipush (v := nI 126) dX8_write_3 (by decide) ?_
    refine aw_callSF dX8_write_5 kX8_76 (m_iN ej) rfl rfl rfl (Nat.le_of_ble_eq_true rfl) (Nat.le_of_ble_eq_true rfl) ?_
    dsimp only [Option.toList, List.cons_append, List.nil_append, Nat.reduceAdd]
    refine aw_if_neN (tgt := 13) dX8_write_8 (by decide) (by omega) (fun q => absurd q (by omega)) (fun _ => ?_)
    refine aw_iconst (v := nI 4294967295) dX8_write_11 (by decide) ?_
    refine aw_iret dX8_write_12 rfl (by first | rfl | exact (pk_charN (by omega)).1 | decide) ?_
    exact QM.same hr
  | some j =>
    obtain ⟨rfl, hj1, hj2⟩ := ix_s (by omega) (by omega) ej
    dsimp only
    refine aw_iload_n dX8_write_0 rfl rfl ?_
    refine aw_bipush (v := nI 32) dX8_write_1 (by decide) ?_
    refine aw_bipush (v := nI 126) dX8_write_3 (by decide) ?_
    refine aw_callSF dX8_write_5 kX8_76 (m_iS ej) rfl rfl rfl (Nat.le_of_ble_eq_true rfl) (Nat.le_of_ble_eq_true rfl) ?_
    dsimp only [Option.toList, List.cons_append, List.nil_append, Nat.reduceAdd]
    refine aw_if_neN (tgt := 13) dX8_write_8 (by decide) (by omega) (fun _ => ?_) (fun q => absurd q (by omega))
    refine aw_aload_n dX8_write_13 rfl rfl ?_
    refine aw_getI dX8_write_14 fX8_80 (by first | assumption | rfl) (by rfl) ?_
    refine aw_sipush (v := nI 200) dX8_write_17 (by decide) ?_
    rw [e12]
    refine aw_icmp_neN (tgt := 26) dX8_write_20 (by decide) (by omega) (by omega) (fun c20 => ?_) (fun c20 => ?_)
    · rw [if_neg c20]
      refine aw_aload_n dX8_write_26 rfl rfl ?_
      refine aw_getR dX8_write_27 fX8_31 (by first | assumption | rfl) (by rfl) ?_
      refine aw_aload_n dX8_write_30 rfl rfl ?_
      refine aw_getI dX8_write_31 fX8_80 (by first | assumption | rfl) (by rfl) ?_
      refine aw_iload_n dX8_write_34 rfl rfl ?_
      rw [e12]
      refine aw_iastore dX8_write_35 (by first | assumption | rfl) (by omega) (by omega) ?_
      refine aw_aload_n dX8_write_36 rfl rfl ?_
      refine aw_dup dX8_write_37 rfl ?_
      refine aw_getI dX8_write_38 fX8_80 (by first | assumption | rfl) (by rfl) ?_
      refine aw_iconst (v := nI 1) dX8_write_41 (by decide) ?_
      refine aw_iaddN dX8_write_42 ?_
      rw [hw_ne (by decide), e12]
      refine aw_putfield dX8_write_43 gX8_80 (by first | assumption | rfl) (by rfl) ?_
      refine aw_aload_n dX8_write_46 rfl rfl ?_
      refine aw_getI dX8_write_47 fX8_80 (by first | assumption | rfl) (by rfl) ?_
      rw [hw_at, if_pos rfl]
      refine aw_iret dX8_write_50 rfl (by first | rfl | exact (pk_charN (by omega)).1 | decide) ?_
      refine ⟨rfl, ?_, fun o ho => by rw [hw_ne (by omega), hw_ne (by omega)]⟩
      obtain ⟨r1, r2, r3, r4, r5, r6, r7, r8⟩ := hr
      have g : ∀ o, o ≠ 67 → o ≠ 75 → hw (hw h 75 (xT X).1 j) 67 12 ((xT X).1 + 1) o = h o := fun o p q => by rw [hw_ne p, hw_ne q]
      have g7 : ∀ k, k ≠ 12 → hw (hw h 75 (xT X).1 j) 67 12 ((xT X).1 + 1) 67 k = h 67 k := fun k p => by rw [hw_at, if_neg p, hw_ne (by decide)]
      refine ⟨?_, ?_, ?_, ?_, ?_, ?_, by rw [hw_at, if_pos rfl]; rfl, fun k hk => ?_⟩
      · unfold HM
        rw [g7 0 (by decide), g 68 (by decide) (by decide), g 69 (by decide) (by decide)]
        exact r1
      · unfold MV
        rw [g 70 (by decide) (by decide)]
        exact r2
      · unfold MV
        rw [g 71 (by decide) (by decide)]
        exact r3
      · unfold MV
        rw [g7 5 (by decide), g 72 (by decide) (by decide)]
        exact r4
      · unfold MV
        rw [g7 7 (by decide), g 73 (by decide) (by decide)]
        exact r5
      · rw [g7 9 (by decide), g 74 (by decide) (by decide)]
        exact r6
      · show _ = fu (xT X).2 (xT X).1 j k
        rw [hw_ne (by decide), hw_at]
        unfold fu
        split
        · rfl
        · exact r8 k (by have hk : k < (xT X).1 + 1 := hk; omega)
    · rw [if_pos (by omega)]
      refine aw_bipush (v := nI 4294967293) dX8_write_23 (by decide) ?_
      refine aw_iret dX8_write_25 rfl (by first | rfl | exact (pk_charN (by omega)).1 | decide) ?_
      exact QM.same hr
theorem y_wipe {d : Nat} {h : Hp} {X : XS} (hr : RM h X) (hv : VX X) : RT mX8_wipe (d + 6) [.ref 67] h (QN h (a_wipe X)) := by
  have e12 : h 67 12 = (xT X).1 := hr.2.2.2.2.2.2.1
  change AW mX8_wipe _ 0 [some (.ref 67), none] [] h _
  refine aw_aload_n dX8_wipe_0 rfl rfl ?_
  refine aw_getI dX8_wipe_1 fX8_80 (by first | assumption | rfl) (by rfl) ?_
  rw [e12]
  refine aw_istore_n dX8_wipe_4 rfl (Nat.le_of_ble_eq_true rfl) rfl ?_
  dsimp only [List.set]
  refine aw_aload_n dX8_wipe_5 rfl rfl ?_
  refine aw_iconst (v := nI 0) dX8_wipe_6 (by decide) ?_
  refine aw_putfield dX8_wipe_7 gX8_80 (by first | assumption | rfl) (by rfl) ?_
  refine aw_iload_n dX8_wipe_10 rfl rfl ?_
  refine aw_iret dX8_wipe_11 rfl (by first | rfl | exact (pk_charN (by omega)).1 | decide) ?_
  refine ⟨rfl, ?_, fun o ho => hw_ne (by omega)⟩
  obtain ⟨r1, r2, r3, r4, r5, r6, r7, r8⟩ := hr
  have g : ∀ o, o ≠ 67 → hw h 67 12 0 o = h o := fun o p => hw_ne p
  have g7 : ∀ k, k ≠ 12 → hw h 67 12 0 67 k = h 67 k := fun k p => by rw [hw_at, if_neg p]
  refine ⟨?_, ?_, ?_, ?_, ?_, ?_, by rw [hw_at, if_pos rfl]; rfl, fun k hk => by have hk : k < 0 := hk; omega⟩
  · unfold HM
    rw [g7 0 (by decide), g 68 (by decide), g 69 (by decide)]
    exact r1
  · unfold MV
    rw [g 70 (by decide)]
    exact r2
  · unfold MV
    rw [g 71 (by decide)]
    exact r3
  · unfold MV
    rw [g7 5 (by decide), g 72 (by decide)]
    exact r4
  · unfold MV
    rw [g7 7 (by decide), g 73 (by decide)]
    exact r5
  · rw [g7 9 (by decide), g 74 (by decide)]
    exact r6
theorem MV.cp {h : Hp} {n c a off : Nat} {s : Sv} (hv : MV h n c 0 s) (hn : n ≤ 8) : MV (hcq h c a off 17) n a off s := by
  have g : ∀ j, j < 17 → hcq h c a off 17 a (off + j) = h c j := fun j hj => hcq_in hj
  refine ⟨by have q := g 0 (by omega); rw [Nat.add_zero] at q; rw [q]; exact hv.1, fun i hi => ⟨?_, ?_⟩⟩
  · rw [g _ (by omega)]
    have q := (hv.2 i hi).1
    rw [Nat.zero_add] at q
    exact q
  · rw [g _ (by omega)]
    have q := (hv.2 i hi).2
    rw [Nat.zero_add] at q
    exact q
theorem MV.out {h : Hp} {n c a off off2 : Nat} {s : Sv} (hv : MV h n a off2 s) (hn : n ≤ 8) (ho : off2 + 17 ≤ off ∨ off + 17 ≤ off2) : MV (hcq h c a off 17) n a off2 s := by
  refine ⟨by rw [hcq_out (by omega)]; exact hv.1, fun i hi => ⟨?_, ?_⟩⟩
  · rw [hcq_out (by omega)]
    exact (hv.2 i hi).1
  · rw [hcq_out (by omega)]
    exact (hv.2 i hi).2
theorem MV.eqr {h h' : Hp} {n a off : Nat} {s : Sv} (hv : MV h n a off s) (e : h' a = h a) : MV h' n a off s := by
  unfold MV
  rw [e]
  exact hv
/-- a state of the reference of which only some objects changed -/
theorem RM.mk2 {h h' : Hp} {X X' : XS} (hr : RM h X) (eS : xS X' = xS X) (e0 : x0 X' = x0 X) (eT : xT X' = xT X) (g : ∀ o, o = 68 ∨ o = 69 ∨ o = 71 ∨ o = 75 → h' o = h o) (g0 : h' 67 0 = h 67 0) (g12 : h' 67 12 = h 67 12)
    (hC : MV h' (xn X) 70 0 (xC X')) (hU : h' 67 5 = (xU X').1 ∧ ∀ k, k < (xU X').1 → MV h' (xn X) 72 (17 * k) ((xU X').2 k)) (hV : h' 67 7 = (xV X').1 ∧ ∀ k, k < (xV X').1 → MV h' (xn X) 73 (17 * k) ((xV X').2 k))
    (hZ : h' 67 9 = (xZ X').1 ∧ ∀ k, k < (xZ X').1 → h' 74 (3 * k) = ((xZ X').2 k).1 ∧ h' 74 (3 * k + 1) = ((xZ X').2 k).2.1 ∧ h' 74 (3 * k + 2) = ((xZ X').2 k).2.2) : RM h' X' := by
  obtain ⟨r1, r2, r3, r4, r5, r6, r7, r8⟩ := hr
  have en : xn X' = xn X := by unfold xn; rw [eS]
  refine ⟨?_, by rw [en]; exact hC, ?_, by rw [en]; exact hU, by rw [en]; exact hV, hZ, ?_⟩
  · rw [eS]
    unfold HM
    rw [g0, g 68 (by decide), g 69 (by decide)]
    exact r1
  · have ef : fiC X' = fiC X := by unfold fiC; rw [e0]
    rw [en, ef]
    exact MV.eqr r3 (g 71 (by decide))
  · rw [eT, g12, g 75 (by decide)]
    exact ⟨r7, r8⟩
theorem m_remembers {d : Nat} {h : Hp} {X : XS} (hr : RM h X) (hv : VX X) : RT mX8_remembers (d + 1) [.ref 67] h (fun v h' => v = none ∧ RM h' (pushX X) ∧ FN h h') := by
  have hn := hv.n
  have hu8 := hv.2.2.2.1.1
  obtain ⟨r1, r2, r3, ⟨r4, r4'⟩, ⟨r5, r5'⟩, ⟨r6, r6'⟩, r7, r8⟩ := id hr
  -- from pc 48 on, with s standings V on the pile
  have fin : ∀ (s : Nat) (V : Nat → Sv) (hh : Hp), s < 8 → hh 67 5 = s → (∀ k, k < s → MV hh (xn X) 72 (17 * k) (V k)) → (∀ o, o ≠ 67 → o ≠ 72 → hh o = h o) → (∀ k, k ≠ 5 → hh 67 k = h 67 k) → pus 8 (xU X).1 (xU X).2 (xC X) = (s + 1, fun k => if k = s then xC X else V k) → AW mX8_remembers (d + 1) 48 [some (.ref 67), none] [] hh (fun v h' => v = none ∧ RM h' (pushX X) ∧ FN h h') := by
    intro s V hh hs g1 g2 g3 g4 ep
    refine aw_aload_n dX8_remembers_48 rfl rfl ?_
    refine aw_getR dX8_remembers_49 fX8_22 (by first | assumption | rfl) (by rfl) ?_
    refine aw_bipush (v := nI 17) dX8_remembers_52 (by decide) ?_
    refine aw_aload_n dX8_remembers_54 rfl rfl ?_
    refine aw_getI dX8_remembers_55 fX8_118 (by first | assumption | rfl) (by rfl) ?_
    rw [g1]
    refine aw_imulN dX8_remembers_58 ?_
    refine aw_aload_n dX8_remembers_59 rfl rfl ?_
    refine aw_getR dX8_remembers_60 fX8_16 (by first | assumption | rfl) (by rfl) ?_
    refine aw_bipush (v := nI 17) dX8_remembers_63 (by decide) ?_
    refine aw_callSF dX8_remembers_65 kX8_114 (m_put (na := 136) (nc := 17) rfl rfl (by decide) (by omega) (by omega) (by decide) (by decide)) rfl rfl rfl (Nat.le_of_ble_eq_true rfl) (Nat.le_of_ble_eq_true rfl) ?_
    dsimp only [Option.toList, List.cons_append, List.nil_append, Nat.reduceAdd]
    refine aw_aload_n dX8_remembers_68 rfl rfl ?_
    refine aw_dup dX8_remembers_69 rfl ?_
    refine aw_getI dX8_remembers_70 fX8_118 (by first | assumption | rfl) (by rfl) ?_
    refine aw_iconst (v := nI 1) dX8_remembers_73 (by decide) ?_
    refine aw_iaddN dX8_remembers_74 ?_
    rw [hcq_ne (by decide), g1]
    refine aw_putfield dX8_remembers_75 gX8_118 (by first | assumption | rfl) (by rfl) ?_
    refine aw_vret dX8_remembers_78 rfl ?_
    have c70 : MV hh (xn X) 70 0 (xC X) := r2.eqr (g3 70 (by decide) (by decide))
    have eo : ∀ o, o ≠ 67 → o ≠ 72 → hw (hcq hh 70 72 (17 * s) 17) 67 5 (s + 1) o = h o := fun o p q => by rw [hw_ne p, hcq_ne q]; exact g3 o p q
    have e7 : ∀ k, k ≠ 5 → hw (hcq hh 70 72 (17 * s) 17) 67 5 (s + 1) 67 k = h 67 k := fun k p => by rw [hw_at, if_neg p, hcq_ne (by decide)]; exact g4 k p
    have e72 : hw (hcq hh 70 72 (17 * s) 17) 67 5 (s + 1) 72 = hcq hh 70 72 (17 * s) 17 72 := hw_ne (by decide)
    refine ⟨rfl, ?_, fun o ho => eo o (by omega) (by omega)⟩
    refine hr.mk2 rfl rfl rfl (fun o ho => eo o (by omega) (by omega)) (e7 0 (by decide)) (e7 12 (by decide)) (r2.eqr (eo 70 (by decide) (by decide))) ?_ ⟨by rw [e7 7 (by decide)]; exact r5, fun k hk => (r5' k hk).eqr (eo 73 (by decide) (by decide))⟩ ⟨by rw [e7 9 (by decide)]; exact r6, fun k hk => by rw [eo 74 (by decide) (by decide)]; exact r6' k hk⟩
    have eU : xU (pushX X) = (s + 1, fun k => if k = s then xC X else V k) := ep
    rw [eU]
    refine ⟨by rw [hw_at, if_pos rfl], fun k hk => ?_⟩
    dsimp only at hk ⊢
    refine MV.eqr ?_ e72
    by_cases z : k = s
    · rw [if_pos z, z]
      exact c70.cp hn.2
    · rw [if_neg z]
      exact (g2 k (by omega)).out hn.2 (by omega)
  change AW mX8_remembers _ 0 [some (.ref 67), none] [] h _
  refine aw_aload_n dX8_remembers_0 rfl rfl ?_
  refine aw_getI dX8_remembers_1 fX8_118 (by first | assumption | rfl) (by rfl) ?_
  rw [r4]
  refine aw_bipush (v := nI 8) dX8_remembers_4 (by decide) ?_
  refine aw_icmp_neN (tgt := 48) dX8_remembers_6 (by decide) (by omega) (by omega) (fun c6 => ?_) (fun c6 => ?_)
  · have ep : pus 8 (xU X).1 (xU X).2 (xC X) = ((xU X).1 + 1, fun k => if k = (xU X).1 then xC X else (xU X).2 k) := by unfold pus; rw [if_neg c6]
    exact fin (xU X).1 (xU X).2 h (by omega) r4 r4' (fun o _ _ => rfl) (fun k _ => rfl) ep
  · have hu : (xU X).1 = 8 := by omega
    have ep : pus 8 (xU X).1 (xU X).2 (xC X) = (7 + 1, fun k => if k = 7 then xC X else (xU X).2 (k + 1)) := by unfold pus; rw [if_pos hu]
    have loop : ∀ u k hh, k + u = 119 → (∀ o, o ≠ 72 → hh o = h o) → (∀ j, j < k → hh 72 j = h 72 (j + 17)) → (∀ j, k ≤ j → hh 72 j = h 72 j) → AW mX8_remembers (d + 1) 11 [some (.ref 67), some (.int (nI k))] [] hh (fun v h' => v = none ∧ RM h' (pushX X) ∧ FN h h') := by
      intro u
      induction u with
      | zero =>
        intro k hh hk g1 g2 g3
        have ek : k = 119 := by omega
        subst ek
        refine aw_iload_n dX8_remembers_11 rfl rfl ?_
        refine aw_bipush (v := nI 119) dX8_remembers_12 (by decide) ?_
        refine aw_icmp_geN (tgt := 38) dX8_remembers_14 (by decide) (by omega) (by omega) (fun _ => ?_) (fun q => absurd q (by omega))
        refine aw_aload_n dX8_remembers_38 rfl rfl ?_
        refine aw_dup dX8_remembers_39 rfl ?_
        refine aw_getI dX8_remembers_40 fX8_118 (by first | assumption | rfl) (by rfl) ?_
        refine aw_iconst (v := nI 1) dX8_remembers_43 (by decide) ?_
        rw [g1 67 (by decide), r4, hu]
        refine aw_isubN dX8_remembers_44 (by omega) ?_
        refine aw_putfield dX8_remembers_45 gX8_118 (by first | assumption | rfl) (by rfl) ?_
        refine aw_forget 1 ?_
        dsimp only [List.set]
        refine fin 7 (fun k => (xU X).2 (k + 1)) _ (by omega) (by rw [hw_at, if_pos rfl]) (fun k hk => ?_) (fun o p q => by rw [hw_ne p]; exact g1 o q) (fun k p => by rw [hw_at, if_neg p, g1 67 (by decide)]) ep
        have q := r4' (k + 1) (by omega)
        unfold MV
        rw [hw_ne (by decide)]
        refine ⟨?_, fun i hi => ⟨?_, ?_⟩⟩
        · rw [g2 _ (by omega), show 17 * k + 17 = 17 * (k + 1) by omega]
          exact q.1
        · rw [g2 _ (by omega), show 17 * k + (1 + i) + 17 = 17 * (k + 1) + (1 + i) by omega]
          exact (q.2 i hi).1
        · rw [g2 _ (by omega), show 17 * k + (9 + i) + 17 = 17 * (k + 1) + (9 + i) by omega]
          exact (q.2 i hi).2
      | succ u ih =>
        intro k hh hk g1 g2 g3
        refine aw_iload_n dX8_remembers_11 rfl rfl ?_
        refine aw_bipush (v := nI 119) dX8_remembers_12 (by decide) ?_
        refine aw_icmp_geN (tgt := 38) dX8_remembers_14 (by decide) (by omega) (by omega) (fun q => absurd q (by omega)) (fun _ => ?_)
        refine aw_aload_n dX8_remembers_17 rfl rfl ?_
        refine aw_getR dX8_remembers_18 fX8_22 (by first | assumption | rfl) (by rfl) ?_
        refine aw_iload_n dX8_remembers_21 rfl rfl ?_
        refine aw_aload_n dX8_remembers_22 rfl rfl ?_
        refine aw_getR dX8_remembers_23 fX8_22 (by first | assumption | rfl) (by rfl) ?_
        refine aw_iload_n dX8_remembers_26 rfl rfl ?_
        refine aw_bipush (v := nI 17) dX8_remembers_27 (by decide) ?_
        refine aw_iaddN dX8_remembers_29 ?_
        refine aw_iaload dX8_remembers_30 (by first | assumption | rfl) (by omega) (by omega) ?_
        rw [g3 (k + 17) (by omega)]
        refine aw_iastore dX8_remembers_31 (by first | assumption | rfl) (by omega) (by omega) ?_
        refine aw_iincN (v := 1) dX8_remembers_32 rfl rfl ?_
        dsimp only [List.set]
        refine aw_goto (tgt := 11) dX8_remembers_35 (by decide) ?_
        refine ih (k + 1) _ (by omega) (fun o ho => by rw [hw_ne ho]; exact g1 o ho) (fun j hj => ?_) (fun j hj => by rw [hw_at, if_neg (by omega)]; exact g3 j (by omega))
        rw [hw_at]
        split
        · rename_i z; rw [z]
        · exact g2 j (by omega)
    refine aw_iconst (v := nI 0) dX8_remembers_9 (by decide) ?_
    refine aw_istore_n dX8_remembers_10 rfl (Nat.le_of_ble_eq_true rfl) rfl ?_
    dsimp only [List.set]
    exact loop 119 0 h (by omega) (fun o _ => rfl) (fun j hj => by omega) (fun j _ => rfl)
theorem RM.setC {h h' : Hp} {X : XS} {c : Sv} (hr : RM h X) (g : ∀ o, o ≠ 70 → o ≠ 80 → o ≠ 81 → h' o = h o) (hc : MV h' (xn X) 70 0 c) : RM h' (setC X c) := by
  obtain ⟨r1, r2, r3, ⟨r4, r4'⟩, ⟨r5, r5'⟩, ⟨r6, r6'⟩, r7, r8⟩ := id hr
  have g7 : h' 67 = h 67 := g 67 (by decide) (by decide) (by decide)
  exact hr.mk2 rfl rfl rfl (fun o ho => g o (by omega) (by omega) (by omega)) (by rw [g7]) (by rw [g7]) hc ⟨by rw [g7]; exact r4, fun k hk => (r4' k hk).eqr (g 72 (by decide) (by decide) (by decide))⟩ ⟨by rw [g7]; exact r5, fun k hk => (r5' k hk).eqr (g 73 (by decide) (by decide) (by decide))⟩ ⟨by rw [g7]; exact r6, fun k hk => by rw [g 74 (by decide) (by decide) (by decide)]; exact r6' k hk⟩
theorem y_pass {d : Nat} {h : Hp} {X : XS} {t : Int32} (hr : RM h X) (hv : VX X) : RT mX8_pass (d + 6) [.ref 67, .int t] h (QN h (a_pass X t)) := by
  have hn := hv.n
  have hc1 := hv.2.1.1
  have e70 : h 70 0 = (xC X).1 := hr.2.1.1
  unfold a_pass
  change AW mX8_pass _ 0 [some (.ref 67), some (.int t)] [] h _
  cases et : ix t 1 120 with
  | none =>
    refine aw_iload_n dX8_pass_0 rfl rfl ?_
    refine aw_iconst (v := nI 1) dX8_pass_1 (by decide) ?_
    refine aw_bipush (v := nI 120) dX8_pass_2 (by decide) ?_
    refine aw_callSF dX8_pass_4 kX8_76 (m_iN et) rfl rfl rfl (Nat.le_of_ble_eq_true rfl) (Nat.le_of_ble_eq_true rfl) ?_
    dsimp only [Option.toList, List.cons_append, List.nil_append, Nat.reduceAdd]
    refine aw_if_neN (tgt := 12) dX8_pass_7 (by decide) (by omega) (fun q => absurd q (by omega)) (fun _ => ?_)
    refine aw_iconst (v := nI 4294967295) dX8_pass_10 (by decide) ?_
    refine aw_iret dX8_pass_11 rfl (by first | rfl | exact (pk_charN (by omega)).1 | decide) ?_
    exact QM.same hr
  | some t =>
    obtain ⟨rfl, ht1, ht2⟩ := ix_s (by omega) (by omega) et
    dsimp only
    refine aw_iload_n dX8_pass_0 rfl rfl ?_
    refine aw_iconst (v := nI 1) dX8_pass_1 (by decide) ?_
    refine aw_bipush (v := nI 120) dX8_pass_2 (by decide) ?_
    refine aw_callSF dX8_pass_4 kX8_76 (m_iS et) rfl rfl rfl (Nat.le_of_ble_eq_true rfl) (Nat.le_of_ble_eq_true rfl) ?_
    dsimp only [Option.toList, List.cons_append, List.nil_append, Nat.reduceAdd]
    refine aw_if_neN (tgt := 12) dX8_pass_7 (by decide) (by omega) (fun _ => ?_) (fun q => absurd q (by omega))
    refine aw_aload_n dX8_pass_12 rfl rfl ?_
    refine aw_getR dX8_pass_13 fX8_16 (by first | assumption | rfl) (by rfl) ?_
    refine aw_iconst (v := nI 0) dX8_pass_16 (by decide) ?_
    refine aw_iaload dX8_pass_17 (by first | assumption | rfl) (by omega) (by omega) ?_
    rw [e70]
    refine aw_iload_n dX8_pass_18 rfl rfl ?_
    refine aw_iaddN dX8_pass_19 ?_
    refine aw_sipush (v := nI 9999) dX8_pass_20 (by decide) ?_
    refine aw_icmp_leN (tgt := 29) dX8_pass_23 (by decide) (by omega) (by omega) (fun c23 => ?_) (fun c23 => ?_)
    · rw [if_neg (by omega)]
      have hv2 := pushX_ok hv
      refine aw_aload_n dX8_pass_29 rfl rfl ?_
      refine aw_callV dX8_pass_30 kX8_161 (m_remembers hr hv) (by first | assumption | rfl) rfl rfl rfl (Nat.le_of_ble_eq_true rfl) (Nat.le_of_ble_eq_true rfl) ?_
      rintro _ h2 ⟨rfl, r2, f2⟩
      dsimp only [Option.toList, List.cons_append, List.nil_append, Nat.reduceAdd]
      refine aw_aload_n dX8_pass_33 rfl rfl ?_
      refine aw_aload_n dX8_pass_34 rfl rfl ?_
      refine aw_getR dX8_pass_35 fX8_16 (by first | assumption | rfl) (by rfl) ?_
      refine aw_callV dX8_pass_38 kX8_154 (m_fromX r2 hv2) (by first | assumption | rfl) rfl rfl rfl (Nat.le_of_ble_eq_true rfl) (Nat.le_of_ble_eq_true rfl) ?_
      rintro _ h3 ⟨rfl, w3, f3⟩
      dsimp only [Option.toList, List.cons_append, List.nil_append, Nat.reduceAdd]
      refine aw_aload_n dX8_pass_41 rfl rfl ?_
      refine aw_iload_n dX8_pass_42 rfl rfl ?_
      refine aw_callV dX8_pass_43 kX8_164 (m_goesOn w3 (cL_ok hv2.1 hv2.2.1) hv2.2.1.2.1 (by show (xC X).1 + t < 2 ^ 29; omega)) (by first | assumption | rfl) rfl rfl rfl (Nat.le_of_ble_eq_true rfl) (Nat.le_of_ble_eq_true rfl) ?_
      rintro _ h4 ⟨rfl, w4, f4⟩
      dsimp only [Option.toList, List.cons_append, List.nil_append, Nat.reduceAdd]
      refine aw_aload_n dX8_pass_46 rfl rfl ?_
      refine aw_getR dX8_pass_47 fX8_16 (by first | assumption | rfl) (by rfl) ?_
      refine aw_iconst (v := nI 0) dX8_pass_50 (by decide) ?_
      refine aw_aload_n dX8_pass_51 rfl rfl ?_
      refine aw_getR dX8_pass_52 fX8_46 (by first | assumption | rfl) (by rfl) ?_
      refine aw_bipush (v := nI 17) dX8_pass_55 (by decide) ?_
      refine aw_callSF dX8_pass_57 kX8_114 (m_put (na := 17) (nc := 17) rfl rfl (by decide) (by omega) (by omega) (by decide) (by decide)) rfl rfl rfl (Nat.le_of_ble_eq_true rfl) (Nat.le_of_ble_eq_true rfl) ?_
      dsimp only [Option.toList, List.cons_append, List.nil_append, Nat.reduceAdd]
      refine aw_aload_n dX8_pass_60 rfl rfl ?_
      refine aw_getR dX8_pass_61 fX8_16 (by first | assumption | rfl) (by rfl) ?_
      refine aw_iconst (v := nI 0) dX8_pass_64 (by decide) ?_
      refine aw_iaload dX8_pass_65 (by first | assumption | rfl) (by omega) (by omega) ?_
      have m80 : MV h4 (xn X) 80 0 ((xC X).1 + t, (xC X).2.1, rmX X t) := ⟨w4.2.1, fun i hi => ⟨by rw [Nat.zero_add]; exact (w4.2.2 i hi).1, by rw [Nat.zero_add]; exact (w4.2.2 i hi).2.1⟩⟩
      have m70 : MV (hcq h4 80 70 0 17) (xn X) 70 0 ((xC X).1 + t, (xC X).2.1, rmX X t) := m80.cp hn.2
      have f34 := f3.trans f4
      rw [show hcq h4 80 70 0 17 70 0 = (xC X).1 + t from m70.1]
      refine aw_iret dX8_pass_66 rfl (by first | rfl | exact (pk_charN (by omega)).1 | decide) ?_
      refine ⟨rfl, r2.setC (fun o p q r => by rw [hcq_ne p]; exact f34 o q r) m70, fun o ho => ?_⟩
      rw [hcq_ne (by omega), f34 o (by omega) (by omega), f2 o ho]
    · rw [if_pos (by omega)]
      refine aw_bipush (v := nI 4294967294) dX8_pass_26 (by decide) ?_
      refine aw_iret dX8_pass_28 rfl (by first | rfl | exact (pk_charN (by omega)).1 | decide) ?_
      exact QM.same hr
theorem y_swap {d : Nat} {h : Hp} {X : XS} {i j : Int32} (hr : RM h X) (hv : VX X) : RT mX8_swap (d + 6) [.ref 67, .int i, .int j] h (QN h (a_swap X i j)) := by
  have hn := hv.n
  unfold a_swap
  change AW mX8_swap _ 0 [some (.ref 67), some (.int i), some (.int j)] [] h _
  cases ei : ix i 0 (xn X - 1) with
  | none =>
    refine aw_aload_n dX8_swap_0 rfl rfl ?_
    refine aw_iload_n dX8_swap_1 rfl rfl ?_
    refine aw_callVF dX8_swap_2 kX8_151 (m_oneN hr hv ei) (by first | assumption | rfl) rfl rfl rfl (Nat.le_of_ble_eq_true rfl) (Nat.le_of_ble_eq_true rfl) ?_
    dsimp only [Option.toList, List.cons_append, List.nil_append, Nat.reduceAdd]
    refine aw_if_eqN (tgt := 21) dX8_swap_5 (by decide) (by omega) (fun _ => ?_) (fun q => absurd q (by omega))
    refine aw_iconst (v := nI 4294967295) dX8_swap_21 (by decide) ?_
    refine aw_iret dX8_swap_22 rfl (by first | rfl | exact (pk_charN (by omega)).1 | decide) ?_
    exact QM.same hr
  | some i =>
    obtain ⟨rfl, hi1, hi2⟩ := ix_s (by omega) (by omega) ei
    dsimp only
    cases ej : ix j 0 (xn X - 1) with
    | none =>
      refine aw_aload_n dX8_swap_0 rfl rfl ?_
      refine aw_iload_n dX8_swap_1 rfl rfl ?_
      refine aw_callVF dX8_swap_2 kX8_151 (m_oneS hr hv ei) (by first | assumption | rfl) rfl rfl rfl (Nat.le_of_ble_eq_true rfl) (Nat.le_of_ble_eq_true rfl) ?_
      dsimp only [Option.toList, List.cons_append, List.nil_append, Nat.reduceAdd]
      refine aw_if_eqN (tgt := 21) dX8_swap_5 (by decide) (by omega) (fun q => absurd q (by omega)) (fun _ => ?_)
      refine aw_aload_n dX8_swap_8 rfl rfl ?_
      refine aw_iload_n dX8_swap_9 rfl rfl ?_
      refine aw_callVF dX8_swap_10 kX8_151 (m_oneN hr hv ej) (by first | assumption | rfl) rfl rfl rfl (Nat.le_of_ble_eq_true rfl) (Nat.le_of_ble_eq_true rfl) ?_
      dsimp only [Option.toList, List.cons_append, List.nil_append, Nat.reduceAdd]
      refine aw_if_eqN (tgt := 21) dX8_swap_13 (by decide) (by omega) (fun _ => ?_) (fun q => absurd q (by omega))
      refine aw_iconst (v := nI 4294967295) dX8_swap_21 (by decide) ?_
      refine aw_iret dX8_swap_22 rfl (by first | rfl | exact (pk_charN (by omega)).1 | decide) ?_
      exact QM.same hr
    | some j =>
      obtain ⟨rfl, hj1, hj2⟩ := ix_s (by omega) (by omega) ej
      dsimp only
      refine aw_aload_n dX8_swap_0 rfl rfl ?_
      refine aw_iload_n dX8_swap_1 rfl rfl ?_
      refine aw_callVF dX8_swap_2 kX8_151 (m_oneS hr hv ei) (by first | assumption | rfl) rfl rfl rfl (Nat.le_of_ble_eq_true rfl) (Nat.le_of_ble_eq_true rfl) ?_
      dsimp only [Option.toList, List.cons_append, List.nil_append, Nat.reduceAdd]
      refine aw_if_eqN (tgt := 21) dX8_swap_5 (by decide) (by omega) (fun q => absurd q (by omega)) (fun _ => ?_)
      refine aw_aload_n dX8_swap_8 rfl rfl ?_
      refine aw_iload_n dX8_swap_9 rfl rfl ?_
      refine aw_callVF dX8_swap_10 kX8_151 (m_oneS hr hv ej) (by first | assumption | rfl) rfl rfl rfl (Nat.le_of_ble_eq_true rfl) (Nat.le_of_ble_eq_true rfl) ?_
      dsimp only [Option.toList, List.cons_append, List.nil_append, Nat.reduceAdd]
      refine aw_if_eqN (tgt := 21) dX8_swap_13 (by decide) (by omega) (fun q => absurd q (by omega)) (fun _ => ?_)
      refine aw_iload_n dX8_swap_16 rfl rfl ?_
      refine aw_iload_n dX8_swap_17 rfl rfl ?_
      refine aw_icmp_neN (tgt := 23) dX8_swap_18 (by decide) (by omega) (by omega) (fun c18 => ?_) (fun c18 => ?_)
      · rw [if_neg c18]
        refine aw_aload_n dX8_swap_23 rfl rfl ?_
        refine aw_callV dX8_swap_24 kX8_161 (m_remembers hr hv) (by first | assumption | rfl) rfl rfl rfl (Nat.le_of_ble_eq_true rfl) (Nat.le_of_ble_eq_true rfl) ?_
        rintro _ h2 ⟨rfl, r2, f2⟩
        dsimp only [Option.toList, List.cons_append, List.nil_append, Nat.reduceAdd]
        refine aw_aload_n dX8_swap_27 rfl rfl ?_
        refine aw_getR dX8_swap_28 fX8_16 (by first | assumption | rfl) (by rfl) ?_
        refine aw_iload_n dX8_swap_31 rfl rfl ?_
        refine aw_iload_n dX8_swap_32 rfl rfl ?_
        refine aw_callSF dX8_swap_33 kX8_133 (m_swapped (by first | assumption | rfl) (by omega) (by omega) (by decide)) rfl rfl rfl (Nat.le_of_ble_eq_true rfl) (Nat.le_of_ble_eq_true rfl) ?_
        dsimp only [Option.toList, List.cons_append, List.nil_append, Nat.reduceAdd]
        refine aw_aload_n dX8_swap_36 rfl rfl ?_
        refine aw_getR dX8_swap_37 fX8_16 (by first | assumption | rfl) (by rfl) ?_
        refine aw_iconst (v := nI 1) dX8_swap_40 (by decide) ?_
        refine aw_iload_n dX8_swap_41 rfl rfl ?_
        refine aw_iaddN dX8_swap_42 ?_
        refine aw_iaload dX8_swap_43 (by first | assumption | rfl) (by omega) (by omega) ?_
        have s2 : MV h2 (xn X) 70 0 (xC X) := r2.2.1
        have q1 : ∀ k, k < xn X → h2 70 (1 + k) = (xC X).2.2 k := fun k hk => by have z := (s2.2 k hk).1; rw [Nat.zero_add] at z; exact z
        have s3 : MV (hx2 h2 70 (1 + i) (1 + j)) (xn X) 70 0 ((xC X).1, (xC X).2.1, swp (xC X).2.2 i j) := by
          refine ⟨?_, fun k hk => ⟨?_, ?_⟩⟩
          · rw [hx2_at]
            unfold swp
            rw [if_neg (by omega), if_neg (by omega)]
            exact s2.1
          · rw [Nat.zero_add, hx2_at]
            unfold swp
            rw [q1 i (by omega), q1 j (by omega), q1 k hk]
            dsimp only
            by_cases z1 : k = j
            · rw [if_pos (by omega), if_pos z1]
            · rw [if_neg (by omega), if_neg z1]
              by_cases z2 : k = i
              · rw [if_pos (by omega), if_pos z2]
              · rw [if_neg (by omega), if_neg z2]
          · rw [Nat.zero_add, hx2_at]
            unfold swp
            rw [if_neg (by omega), if_neg (by omega)]
            have z := (s2.2 k hk).2
            rw [Nat.zero_add] at z
            exact z
        have e : hx2 h2 70 (1 + i) (1 + j) 70 (1 + i) = swp (xC X).2.2 i j i := by have z := (s3.2 i (by omega)).1; rw [Nat.zero_add] at z; exact z
        rw [e]
        refine aw_iret dX8_swap_44 rfl (by first | rfl | exact (pk_charN (by omega)).1 | decide) ?_
        refine ⟨rfl, r2.setC (fun o p _ _ => hx2_ne p) s3, fun o ho => ?_⟩
        rw [hx2_ne (by omega), f2 o ho]
      · rw [if_pos (by omega)]
        refine aw_iconst (v := nI 4294967295) dX8_swap_21 (by decide) ?_
        refine aw_iret dX8_swap_22 rfl (by first | rfl | exact (pk_charN (by omega)).1 | decide) ?_
        exact QM.same hr
theorem y_alter {d : Nat} {h : Hp} {X : XS} {i x : Int32} (hr : RM h X) (hv : VX X) : RT mX8_alter (d + 6) [.ref 67, .int i, .int x] h (QN h (a_alter X i x)) := by
  have hn := hv.n
  unfold a_alter
  change AW mX8_alter _ 0 [some (.ref 67), some (.int i), some (.int x), none] [] h _
  cases ei : ix i 0 (xn X - 1) with
  | none =>
    refine aw_aload_n dX8_alter_0 rfl rfl ?_
    refine aw_iload_n dX8_alter_1 rfl rfl ?_
    refine aw_callVF dX8_alter_2 kX8_151 (m_oneN hr hv ei) (by first | assumption | rfl) rfl rfl rfl (Nat.le_of_ble_eq_true rfl) (Nat.le_of_ble_eq_true rfl) ?_
    dsimp only [Option.toList, List.cons_append, List.nil_append, Nat.reduceAdd]
    refine aw_if_eqN (tgt := 18) dX8_alter_5 (by decide) (by omega) (fun _ => ?_) (fun q => absurd q (by omega))
    refine aw_iconst (v := nI 4294967295) dX8_alter_18 (by decide) ?_
    refine aw_iret dX8_alter_19 rfl (by first | rfl | exact (pk_charN (by omega)).1 | decide) ?_
    exact QM.same hr
  | some i =>
    obtain ⟨rfl, hi1, hi2⟩ := ix_s (by omega) (by omega) ei
    dsimp only
    cases ex : ix x 0 59 with
    | none =>
      refine aw_aload_n dX8_alter_0 rfl rfl ?_
      refine aw_iload_n dX8_alter_1 rfl rfl ?_
      refine aw_callVF dX8_alter_2 kX8_151 (m_oneS hr hv ei) (by first | assumption | rfl) rfl rfl rfl (Nat.le_of_ble_eq_true rfl) (Nat.le_of_ble_eq_true rfl) ?_
      dsimp only [Option.toList, List.cons_append, List.nil_append, Nat.reduceAdd]
      refine aw_if_eqN (tgt := 18) dX8_alter_5 (by decide) (by omega) (fun q => absurd q (by omega)) (fun _ => ?_)
      refine aw_iload_n dX8_alter_8 rfl rfl ?_
      refine aw_iconst (v := nI 0) dX8_alter_9 (by decide) ?_
      refine aw_bipush (v := nI 59) dX8_alter_10 (by decide) ?_
      refine aw_callSF dX8_alter_12 kX8_76 (m_iN ex) rfl rfl rfl (Nat.le_of_ble_eq_true rfl) (Nat.le_of_ble_eq_true rfl) ?_
      dsimp only [Option.toList, List.cons_append, List.nil_append, Nat.reduceAdd]
      refine aw_if_neN (tgt := 20) dX8_alter_15 (by decide) (by omega) (fun q => absurd q (by omega)) (fun _ => ?_)
      refine aw_iconst (v := nI 4294967295) dX8_alter_18 (by decide) ?_
      refine aw_iret dX8_alter_19 rfl (by first | rfl | exact (pk_charN (by omega)).1 | decide) ?_
      exact QM.same hr
    | some x =>
      obtain ⟨rfl, hx1, hx2'⟩ := ix_s (by omega) (by omega) ex
      dsimp only
      refine aw_aload_n dX8_alter_0 rfl rfl ?_
      refine aw_iload_n dX8_alter_1 rfl rfl ?_
      refine aw_callVF dX8_alter_2 kX8_151 (m_oneS hr hv ei) (by first | assumption | rfl) rfl rfl rfl (Nat.le_of_ble_eq_true rfl) (Nat.le_of_ble_eq_true rfl) ?_
      dsimp only [Option.toList, List.cons_append, List.nil_append, Nat.reduceAdd]
      refine aw_if_eqN (tgt := 18) dX8_alter_5 (by decide) (by omega) (fun q => absurd q (by omega)) (fun _ => ?_)
      refine aw_iload_n dX8_alter_8 rfl rfl ?_
      refine aw_iconst (v := nI 0) dX8_alter_9 (by decide) ?_
      refine aw_bipush (v := nI 59) dX8_alter_10 (by decide) ?_
      refine aw_callSF dX8_alter_12 kX8_76 (m_iS ex) rfl rfl rfl (Nat.le_of_ble_eq_true rfl) (Nat.le_of_ble_eq_true rfl) ?_
      dsimp only [Option.toList, List.cons_append, List.nil_append, Nat.reduceAdd]
      refine aw_if_neN (tgt := 20) dX8_alter_15 (by decide) (by omega) (fun _ => ?_) (fun q => absurd q (by omega))
      refine aw_aload_n dX8_alter_20 rfl rfl ?_
      refine aw_callV dX8_alter_21 kX8_161 (m_remembers hr hv) (by first | assumption | rfl) rfl rfl rfl (Nat.le_of_ble_eq_true rfl) (Nat.le_of_ble_eq_true rfl) ?_
      rintro _ h2 ⟨rfl, r2, f2⟩
      dsimp only [Option.toList, List.cons_append, List.nil_append, Nat.reduceAdd]
      refine aw_aload_n dX8_alter_24 rfl rfl ?_
      refine aw_getR dX8_alter_25 fX8_16 (by first | assumption | rfl) (by rfl) ?_
      refine aw_bipush (v := nI 9) dX8_alter_28 (by decide) ?_
      refine aw_iload_n dX8_alter_30 rfl rfl ?_
      refine aw_iaddN dX8_alter_31 ?_
      refine aw_iaload dX8_alter_32 (by first | assumption | rfl) (by omega) (by omega) ?_
      have s2 : MV h2 (xn X) 70 0 (xC X) := r2.2.1
      have q2 : ∀ k, k < xn X → h2 70 (9 + k) = (xC X).2.1 k := fun k hk => by have z := (s2.2 k hk).2; rw [Nat.zero_add] at z; exact z
      rw [q2 i (by omega)]
      refine aw_istore_n dX8_alter_33 rfl (Nat.le_of_ble_eq_true rfl) rfl ?_
      dsimp only [List.set]
      refine aw_aload_n dX8_alter_34 rfl rfl ?_
      refine aw_getR dX8_alter_35 fX8_16 (by first | assumption | rfl) (by rfl) ?_
      refine aw_bipush (v := nI 9) dX8_alter_38 (by decide) ?_
      refine aw_iload_n dX8_alter_40 rfl rfl ?_
      refine aw_iaddN dX8_alter_41 ?_
      refine aw_iload_n dX8_alter_42 rfl rfl ?_
      refine aw_iastore dX8_alter_43 (by first | assumption | rfl) (by omega) (by omega) ?_
      refine aw_iload_n dX8_alter_44 rfl rfl ?_
      refine aw_iret dX8_alter_45 rfl (by first | rfl | exact (pk_charN (by omega)).1 | decide) ?_
      have s3 : MV (hw h2 70 (9 + i) x) (xn X) 70 0 ((xC X).1, fu (xC X).2.1 i x, (xC X).2.2) := by
        refine ⟨by rw [hw_at, if_neg (by omega)]; exact s2.1, fun k hk => ⟨by rw [hw_at, if_neg (by omega)]; exact (s2.2 k hk).1, ?_⟩⟩
        rw [Nat.zero_add, hw_at]
        show _ = fu (xC X).2.1 i x k
        unfold fu
        by_cases z : k = i
        · rw [if_pos (by omega), if_pos z]
        · rw [if_neg (by omega), if_neg z]
          exact q2 k hk
      refine ⟨rfl, r2.setC (fun o p _ _ => hw_ne p) s3, fun o ho => ?_⟩
      rw [hw_ne (by omega), f2 o ho]
theorem y_forget {d : Nat} {h : Hp} {X : XS} (hr : RM h X) (hv : VX X) : RT mX8_forget (d + 6) [.ref 67] h (QN h (a_forget X)) := by
  obtain ⟨r1, r2, r3, ⟨r4, r4'⟩, ⟨r5, r5'⟩, ⟨r6, r6'⟩, r7, r8⟩ := id hr
  change AW mX8_forget _ 0 [some (.ref 67), none] [] h _
  refine aw_aload_n dX8_forget_0 rfl rfl ?_
  refine aw_getI dX8_forget_1 fX8_124 (by first | assumption | rfl) (by rfl) ?_
  rw [r6]
  refine aw_istore_n dX8_forget_4 rfl (Nat.le_of_ble_eq_true rfl) rfl ?_
  dsimp only [List.set]
  refine aw_aload_n dX8_forget_5 rfl rfl ?_
  refine aw_iconst (v := nI 0) dX8_forget_6 (by decide) ?_
  refine aw_putfield dX8_forget_7 gX8_124 (by first | assumption | rfl) (by rfl) ?_
  refine aw_iload_n dX8_forget_10 rfl rfl ?_
  refine aw_iret dX8_forget_11 rfl (by first | rfl | exact (pk_charN (by omega)).1 | decide) ?_
  have g7 : ∀ k, k ≠ 9 → hw h 67 9 0 67 k = h 67 k := fun k p => by rw [hw_at, if_neg p]
  exact ⟨rfl, hr.mk2 rfl rfl rfl (fun o ho => hw_ne (by omega)) (g7 0 (by decide)) (g7 12 (by decide)) (r2.eqr (hw_ne (by decide))) ⟨by rw [g7 5 (by decide)]; exact r4, fun k hk => (r4' k hk).eqr (hw_ne (by decide))⟩ ⟨by rw [g7 7 (by decide)]; exact r5, fun k hk => (r5' k hk).eqr (hw_ne (by decide))⟩ ⟨by rw [hw_at, if_pos rfl]; rfl, fun k hk => by have hk : k < 0 := hk; omega⟩, fun o ho => hw_ne (by omega)⟩
