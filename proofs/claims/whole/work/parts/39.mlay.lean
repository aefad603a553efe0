/-! the reference: an item, a text, laying it -/
theorem m_readItem {d n a : Nat} {h : Hp} {T : Nat → Nat} {P : PS} (ht : MT h T n a) (hk : TOk T n) (ha : a < n) (hd0 : DM h P) (hP : PSOk P) : RT mX8_readItem (d + 4) [.ref 67] h (miQ (itS (ltr T n) a P) h) := by
  have hn := hk.1
  have hla := ltr_lt hk a
  have e13 := ht.2.1
  have f2 : FM3 h (hw h 67 13 (a + 1)) := FM3.place
  have t2 : MT (hw h 67 13 (a + 1)) T n (a + 1) := ht.fr f2 (by rw [hw_at, if_pos rfl])
  have d2 : DM (hw h 67 13 (a + 1)) P := hd0.fr f2
  change AW mX8_readItem _ 0 [some (.ref 67), none] [] h _
  refine aw_aload_n dX8_readItem_0 rfl rfl ?_
  refine aw_aload_n dX8_readItem_1 rfl rfl ?_
  refine aw_getI dX8_readItem_2 fX8_83 (by first | assumption | rfl) (by rfl) ?_
  rw [e13]
  refine aw_callVF dX8_readItem_5 kX8_86 (m_letterAt ht hk (by omega)) (by first | assumption | rfl) rfl rfl rfl (Nat.le_of_ble_eq_true rfl) (Nat.le_of_ble_eq_true rfl) ?_
  dsimp only [Option.toList, List.cons_append, List.nil_append, Nat.reduceAdd]
  refine aw_istore_n dX8_readItem_8 rfl (Nat.le_of_ble_eq_true rfl) rfl ?_
  dsimp only [List.set]
  refine aw_aload_n dX8_readItem_9 rfl rfl ?_
  refine aw_dup dX8_readItem_10 rfl ?_
  refine aw_getI dX8_readItem_11 fX8_83 (by first | assumption | rfl) (by rfl) ?_
  rw [e13, ltm_s ha]
  refine aw_iconst (v := nI 1) dX8_readItem_14 (by decide) ?_
  refine aw_iaddN dX8_readItem_15 ?_
  refine aw_putfield dX8_readItem_16 gX8_83 (by first | assumption | rfl) (by rfl) ?_
  refine aw_iload_n dX8_readItem_19 rfl rfl ?_
  by_cases c1 : ltr T n a = 99
  · have ez : itS (ltr T n) a P = itC (ltr T n) (a + 1) P := by unfold itS itC; rw [if_pos c1]; rfl
    rw [ez, c1]
    refine aw_lookup (off := 28) (tgt := 48) dX8_readItem_20 (by decide) (by decide) (by decide) ?_
    refine aw_aload_n dX8_readItem_48 rfl rfl ?_
    refine aw_callV dX8_readItem_49 kX8_100 (m_readCousinOf t2 hk (by omega) d2 hP) (by first | assumption | rfl) rfl rfl rfl (Nat.le_of_ble_eq_true rfl) (Nat.le_of_ble_eq_true rfl) ?_
    rintro v h3 ⟨f3, hq⟩
    dsimp only [Option.toList, List.cons_append, List.nil_append, Nat.reduceAdd]
    cases hz : itC (ltr T n) (a + 1) P with
    | none =>
      rw [hz] at hq
      dsimp only at hq
      subst hq
      refine aw_iret dX8_readItem_52 rfl (by first | rfl | exact (pk_charN (by omega)).1 | decide) ?_
      exact ⟨(FMD.of3 f2).trans f3, rfl⟩
    | some q =>
      rw [hz] at hq
      obtain ⟨rfl, g1, g2⟩ := hq
      refine aw_iret dX8_readItem_52 rfl (by first | rfl | exact (pk_charN (by omega)).1 | decide) ?_
      exact ⟨(FMD.of3 f2).trans f3, rfl, g1, g2⟩
  · by_cases c2 : ltr T n a = 114
    · have ez : itS (ltr T n) a P = itR (ltr T n) (a + 1) P := by unfold itS itR; rw [if_neg c1, if_pos c2]; rfl
      rw [ez, c2]
      refine aw_lookup (off := 33) (tgt := 53) dX8_readItem_20 (by decide) (by decide) (by decide) ?_
      refine aw_aload_n dX8_readItem_53 rfl rfl ?_
      refine aw_callV dX8_readItem_54 kX8_104 (m_readRoomOf t2 hk (by omega) d2 hP) (by first | assumption | rfl) rfl rfl rfl (Nat.le_of_ble_eq_true rfl) (Nat.le_of_ble_eq_true rfl) ?_
      rintro v h3 ⟨f3, hq⟩
      dsimp only [Option.toList, List.cons_append, List.nil_append, Nat.reduceAdd]
      cases hz : itR (ltr T n) (a + 1) P with
      | none =>
        rw [hz] at hq
        dsimp only at hq
        subst hq
        refine aw_iret dX8_readItem_57 rfl (by first | rfl | exact (pk_charN (by omega)).1 | decide) ?_
        exact ⟨(FMD.of3 f2).trans f3, rfl⟩
      | some q =>
        rw [hz] at hq
        obtain ⟨rfl, g1, g2⟩ := hq
        refine aw_iret dX8_readItem_57 rfl (by first | rfl | exact (pk_charN (by omega)).1 | decide) ?_
        exact ⟨(FMD.of3 f2).trans f3, rfl, g1, g2⟩
    · have ez : itS (ltr T n) a P = none := by unfold itS; rw [if_neg c1, if_neg c2]
      rw [ez]
      refine aw_lookup (off := 38) (tgt := 58) dX8_readItem_20 (by decide) ?_ (by decide) ?_
      · rw [nI_toInt (by omega)]
        show (if (99 : Int) = ((ltr T n a : Nat) : Int) then (28 : Int) else if (114 : Int) = ((ltr T n a : Nat) : Int) then (33 : Int) else (38 : Int)) = 38
        rw [if_neg (by omega), if_neg (by omega)]
      · refine aw_iconst (v := nI 0) dX8_readItem_58 (by decide) ?_
        refine aw_iret dX8_readItem_59 rfl (by first | rfl | exact (pk_charN (by omega)).1 | decide) ?_
        exact ⟨FMD.of3 f2, rfl⟩
def mfQ (z : Nat ⊕ PS) (h : Hp) : Option Value → Hp → Prop := fun v h' => FMD h h' ∧ match z with
  | .inl a => v = some (.int (nI a))
  | .inr P => v = some (.int (nI 4294967292)) ∧ DM h' P
theorem m_fault {d n a0 : Nat} {h : Hp} {T : Nat → Nat} (ht : MT h T n a0) (hk : TOk T n) : RT mX8_fault (d + 5) [.ref 67] h (mfQ (psr (ltr T n) n 200 0 P00) h) := by
  have hn := hk.1
  have hl := ltr_lt hk
  have loop : ∀ u a P hh, 200 ≤ a + u → a ≤ 2 ^ 20 → MT hh T n a → DM hh P → PSOk P → FMD h hh → AW mX8_fault (d + 5) 9 [some (.ref 67), none] [] hh (mfQ (psr (ltr T n) n u a P) h) := by
    intro u
    induction u with
    | zero =>
      intro a P hh hku ha htx hdr hP hf
      obtain ⟨e1, e2, e3⟩ := id htx
      refine aw_aload_n dX8_fault_9 rfl rfl ?_
      refine aw_getI dX8_fault_10 fX8_83 (by first | assumption | rfl) (by rfl) ?_
      refine aw_aload_n dX8_fault_13 rfl rfl ?_
      refine aw_getI dX8_fault_14 fX8_80 (by first | assumption | rfl) (by rfl) ?_
      rw [e1, e2]
      refine aw_icmp_geN (tgt := 37) dX8_fault_17 (by decide) (by omega) (by omega) (fun _ => ?_) (fun q => absurd q (by omega))
      refine aw_bipush (v := nI 4294967292) dX8_fault_37 (by decide) ?_
      refine aw_iret dX8_fault_39 rfl (by first | rfl | exact (pk_charN (by omega)).1 | decide) ?_
      exact ⟨hf, rfl, hdr⟩
    | succ u ih =>
      intro a P hh hku ha htx hdr hP hf
      obtain ⟨e1, e2, e3⟩ := id htx
      refine aw_aload_n dX8_fault_9 rfl rfl ?_
      refine aw_getI dX8_fault_10 fX8_83 (by first | assumption | rfl) (by rfl) ?_
      refine aw_aload_n dX8_fault_13 rfl rfl ?_
      refine aw_getI dX8_fault_14 fX8_80 (by first | assumption | rfl) (by rfl) ?_
      rw [e1, e2]
      refine aw_icmp_geN (tgt := 37) dX8_fault_17 (by decide) (by omega) (by omega) (fun c17 => ?_) (fun c17 => ?_)
      · have ez : psr (ltr T n) n (u + 1) a P = .inr P := by unfold psr; rw [if_neg (by omega)]
        rw [ez]
        refine aw_bipush (v := nI 4294967292) dX8_fault_37 (by decide) ?_
        refine aw_iret dX8_fault_39 rfl (by first | rfl | exact (pk_charN (by omega)).1 | decide) ?_
        exact ⟨hf, rfl, hdr⟩
      · have han : a < n := by omega
        refine aw_aload_n dX8_fault_20 rfl rfl ?_
        refine aw_getI dX8_fault_21 fX8_83 (by first | assumption | rfl) (by rfl) ?_
        rw [e2]
        refine aw_istore_n dX8_fault_24 rfl (Nat.le_of_ble_eq_true rfl) rfl ?_
        dsimp only [List.set]
        refine aw_aload_n dX8_fault_25 rfl rfl ?_
        refine aw_callV dX8_fault_26 kX8_107 (m_readItem htx hk han hdr hP) (by first | assumption | rfl) rfl rfl rfl (Nat.le_of_ble_eq_true rfl) (Nat.le_of_ble_eq_true rfl) ?_
        rintro v h2 ⟨f2, hq⟩
        dsimp only [Option.toList, List.cons_append, List.nil_append, Nat.reduceAdd]
        cases hz : itS (ltr T n) a P with
        | none =>
          rw [hz] at hq
          dsimp only at hq
          subst hq
          have ez : psr (ltr T n) n (u + 1) a P = .inl a := by unfold psr; rw [if_pos han, hz]
          rw [ez]
          refine aw_if_neN (tgt := 34) dX8_fault_29 (by decide) (by omega) (fun q => absurd q (by omega)) (fun _ => ?_)
          refine aw_iload_n dX8_fault_32 rfl rfl ?_
          refine aw_iret dX8_fault_33 rfl (by first | rfl | exact (pk_charN (by omega)).1 | decide) ?_
          exact ⟨hf.trans f2, rfl⟩
        | some q =>
          rw [hz] at hq
          obtain ⟨rfl, q2, q3⟩ := hq
          have ez : psr (ltr T n) n (u + 1) a P = psr (ltr T n) n u q.2 q.1 := by
            conv => lhs; unfold psr
            rw [if_pos han, hz]
          rw [ez]
          obtain ⟨i1, i2, i3⟩ := itS_lt hl hP hz
          refine aw_if_neN (tgt := 34) dX8_fault_29 (by decide) (by omega) (fun _ => ?_) (fun q => absurd q (by omega))
          refine aw_goto (tgt := 9) dX8_fault_34 (by decide) ?_
          refine aw_forget 1 ?_
          dsimp only [List.set]
          exact ih q.2 q.1 h2 (by omega) (by omega) (htx.frD f2 q3) q2 i3 (hf.trans f2)
  change AW mX8_fault _ 0 [some (.ref 67), none] [] h _
  refine aw_aload_n dX8_fault_0 rfl rfl ?_
  refine aw_iconst (v := nI 0) dX8_fault_1 (by decide) ?_
  refine aw_putfield dX8_fault_2 gX8_83 (by first | assumption | rfl) (by rfl) ?_
  refine aw_aload_n dX8_fault_5 rfl rfl ?_
  refine aw_callV dX8_fault_6 kX8_52 (m_clearTold) (by first | assumption | rfl) rfl rfl rfl (Nat.le_of_ble_eq_true rfl) (Nat.le_of_ble_eq_true rfl) ?_
  rintro _ h2 ⟨rfl, d2, f2, e2⟩
  dsimp only [Option.toList, List.cons_append, List.nil_append, Nat.reduceAdd]
  have f3 : FMD h h2 := (FMD.fld (by omega)).trans f2
  exact loop 200 0 P00 _ (by omega) (by omega) (ht.frD f3 (by rw [e2, hw_at, if_pos rfl])) d2 P00_ok f3
theorem RM.fmd {h h' : Hp} {X : XS} (hr : RM h X) (hf : FMD h h') : RM h' X := hr.gen (fun o h1 h2 => hf.2 o (by omega) (by omega)) (fun k hk => hf.1 k (by omega) (by omega) (by omega))
theorem FMD.fn {h h' : Hp} (hf : FMD h h') : FN h h' := fun o ho => hf.2 o (by omega) (by omega)
theorem y_fault {d : Nat} {h : Hp} {X : XS} (hr : RM h X) (hv : VX X) : RT mX8_fault (d + 6) [.ref 67] h (QM h X (a_fault X)) := by
  have htx : MT h (xT X).2 (xT X).1 (h 67 13) := ⟨hr.2.2.2.2.2.2.1, rfl, hr.2.2.2.2.2.2.2⟩
  refine (m_fault (d := d + 1) htx hv.2.2.2.2.2.2).imp (fun v h2 hq => ?_)
  obtain ⟨f2, hq⟩ := hq
  unfold a_fault
  rw [show psr (ltr (xT X).2 (xT X).1) (xT X).1 200 0 P00 = xP X from rfl] at hq
  cases hz : xP X with
  | inl a =>
    rw [hz] at hq
    dsimp only at hq ⊢
    subst hq
    exact ⟨rfl, hr.fmd f2, f2.fn⟩
  | inr P =>
    rw [hz] at hq
    dsimp only at hq ⊢
    obtain ⟨rfl, _⟩ := hq
    exact ⟨rfl, hr.fmd f2, f2.fn⟩
theorem m_settles {d : Nat} {h : Hp} {X : XS} {P : PS} (hd0 : DM h P) (hP : PSOk P) (h1 : 1 ≤ pn P ∧ pm P = pn P) (ht : h 67 12 = (xT X).1 ∧ ∀ k, k < (xT X).1 → h 75 k = (xT X).2 k) : RT mX8_settles (d + 1) [.ref 67] h (fun v h' => v = none ∧ RM h' (layX X P) ∧ FN h h') := by
  obtain ⟨e1, e2, e3, e4, e5, e6⟩ := hd0
  have hn8 := hP.1
  change AW mX8_settles _ 0 [some (.ref 67)] [] h _
  refine aw_aload_n dX8_settles_0 rfl rfl ?_
  refine aw_aload_n dX8_settles_1 rfl rfl ?_
  refine aw_getI dX8_settles_2 fX8_66 (by first | assumption | rfl) (by rfl) ?_
  rw [e1]
  refine aw_putfield dX8_settles_5 gX8_73 (by first | assumption | rfl) (by rfl) ?_
  refine aw_aload_n dX8_settles_8 rfl rfl ?_
  refine aw_getR dX8_settles_9 fX8_7 (by first | assumption | rfl) (by rfl) ?_
  refine aw_iconst (v := nI 0) dX8_settles_12 (by decide) ?_
  refine aw_aload_n dX8_settles_13 rfl rfl ?_
  refine aw_getR dX8_settles_14 fX8_37 (by first | assumption | rfl) (by rfl) ?_
  refine aw_bipush (v := nI 16) dX8_settles_17 (by decide) ?_
  refine aw_callSF dX8_settles_19 kX8_114 (m_put (na := 16) (nc := 16) rfl rfl (by decide) (by decide) (by decide) (by decide) (by decide)) rfl rfl rfl (Nat.le_of_ble_eq_true rfl) (Nat.le_of_ble_eq_true rfl) ?_
  dsimp only [Option.toList, List.cons_append, List.nil_append, Nat.reduceAdd]
  refine aw_aload_n dX8_settles_22 rfl rfl ?_
  refine aw_getR dX8_settles_23 fX8_13 (by first | assumption | rfl) (by rfl) ?_
  refine aw_iconst (v := nI 0) dX8_settles_26 (by decide) ?_
  refine aw_aload_n dX8_settles_27 rfl rfl ?_
  refine aw_getR dX8_settles_28 fX8_40 (by first | assumption | rfl) (by rfl) ?_
  refine aw_bipush (v := nI 16) dX8_settles_31 (by decide) ?_
  refine aw_callSF dX8_settles_33 kX8_114 (m_put (na := 16) (nc := 16) rfl rfl (by decide) (by decide) (by decide) (by decide) (by decide)) rfl rfl rfl (Nat.le_of_ble_eq_true rfl) (Nat.le_of_ble_eq_true rfl) ?_
  dsimp only [Option.toList, List.cons_append, List.nil_append, Nat.reduceAdd]
  refine aw_aload_n dX8_settles_36 rfl rfl ?_
  refine aw_getR dX8_settles_37 fX8_16 (by first | assumption | rfl) (by rfl) ?_
  refine aw_iconst (v := nI 0) dX8_settles_40 (by decide) ?_
  refine aw_aload_n dX8_settles_41 rfl rfl ?_
  refine aw_getR dX8_settles_42 fX8_43 (by first | assumption | rfl) (by rfl) ?_
  refine aw_bipush (v := nI 17) dX8_settles_45 (by decide) ?_
  refine aw_callSF dX8_settles_47 kX8_114 (m_put (na := 17) (nc := 17) rfl rfl (by decide) (by decide) (by decide) (by decide) (by decide)) rfl rfl rfl (Nat.le_of_ble_eq_true rfl) (Nat.le_of_ble_eq_true rfl) ?_
  dsimp only [Option.toList, List.cons_append, List.nil_append, Nat.reduceAdd]
  refine aw_aload_n dX8_settles_50 rfl rfl ?_
  refine aw_getR dX8_settles_51 fX8_19 (by first | assumption | rfl) (by rfl) ?_
  refine aw_iconst (v := nI 0) dX8_settles_54 (by decide) ?_
  refine aw_aload_n dX8_settles_55 rfl rfl ?_
  refine aw_getR dX8_settles_56 fX8_43 (by first | assumption | rfl) (by rfl) ?_
  refine aw_bipush (v := nI 17) dX8_settles_59 (by decide) ?_
  refine aw_callSF dX8_settles_61 kX8_114 (m_put (na := 17) (nc := 17) rfl rfl (by decide) (by decide) (by decide) (by decide) (by decide)) rfl rfl rfl (Nat.le_of_ble_eq_true rfl) (Nat.le_of_ble_eq_true rfl) ?_
  dsimp only [Option.toList, List.cons_append, List.nil_append, Nat.reduceAdd]
  generalize hg : hcq (hcq (hcq (hcq (hw h 67 0 (pn P)) 77 68 0 16) 78 69 0 16) 79 70 0 17) 79 71 0 17 = g
  have g68 : ∀ j, j < 16 → g 68 j = h 77 j := fun j hj => by
    have := hcq_in (h := hw h 67 0 (pn P)) (c := 77) (a := 68) (off := 0) (n := 16) hj
    rw [Nat.zero_add] at this
    rw [← hg, hcq_ne (by decide), hcq_ne (by decide), hcq_ne (by decide), this, hw_ne (by decide)]
  have g69 : ∀ j, j < 16 → g 69 j = h 78 j := fun j hj => by
    have := hcq_in (h := hcq (hw h 67 0 (pn P)) 77 68 0 16) (c := 78) (a := 69) (off := 0) (n := 16) hj
    rw [Nat.zero_add] at this
    rw [← hg, hcq_ne (by decide), hcq_ne (by decide), this, hcq_ne (by decide), hw_ne (by decide)]
  have g70 : ∀ j, j < 17 → g 70 j = h 79 j := fun j hj => by
    have := hcq_in (h := hcq (hcq (hw h 67 0 (pn P)) 77 68 0 16) 78 69 0 16) (c := 79) (a := 70) (off := 0) (n := 17) hj
    rw [Nat.zero_add] at this
    rw [← hg, hcq_ne (by decide), this, hcq_ne (by decide), hcq_ne (by decide), hw_ne (by decide)]
  have g71 : ∀ j, j < 17 → g 71 j = h 79 j := fun j hj => by
    have := hcq_in (h := hcq (hcq (hcq (hw h 67 0 (pn P)) 77 68 0 16) 78 69 0 16) 79 70 0 17) (c := 79) (a := 71) (off := 0) (n := 17) hj
    rw [Nat.zero_add] at this
    rw [← hg, this, hcq_ne (by decide), hcq_ne (by decide), hcq_ne (by decide), hw_ne (by decide)]
  have gg : ∀ o, o ≠ 67 → (o < 68 ∨ 71 < o) → g o = h o := fun o p q => by
    rw [← hg, hcq_ne (by omega), hcq_ne (by omega), hcq_ne (by omega), hcq_ne (by omega), hw_ne p]
  have g67 : ∀ j, g 67 j = if j = 0 then pn P else h 67 j := fun j => by
    rw [← hg, hcq_ne (by decide), hcq_ne (by decide), hcq_ne (by decide), hcq_ne (by decide), hw_at]
  clear hg
  refine aw_aload_n dX8_settles_64 rfl rfl ?_
  refine aw_iconst (v := nI 0) dX8_settles_65 (by decide) ?_
  refine aw_putfield dX8_settles_66 gX8_118 (by first | assumption | rfl) (by rfl) ?_
  refine aw_aload_n dX8_settles_69 rfl rfl ?_
  refine aw_iconst (v := nI 0) dX8_settles_70 (by decide) ?_
  refine aw_putfield dX8_settles_71 gX8_121 (by first | assumption | rfl) (by rfl) ?_
  refine aw_aload_n dX8_settles_74 rfl rfl ?_
  refine aw_iconst (v := nI 0) dX8_settles_75 (by decide) ?_
  refine aw_putfield dX8_settles_76 gX8_124 (by first | assumption | rfl) (by rfl) ?_
  refine aw_vret dX8_settles_79 rfl ?_
  have k7 : ∀ o, o ≠ 67 → hw (hw (hw g 67 5 0) 67 7 0) 67 9 0 o = g o := fun o p => by rw [hw_ne p, hw_ne p, hw_ne p]
  have k67 : ∀ j, hw (hw (hw g 67 5 0) 67 7 0) 67 9 0 67 j = if j = 9 then 0 else if j = 7 then 0 else if j = 5 then 0 else g 67 j := fun j => by rw [hw_at, hw_at, hw_at]
  have mv : ∀ o, (o = 70 ∨ o = 71) → MV (hw (hw (hw g 67 5 0) 67 7 0) 67 9 0) (pn P) o 0 (0, pb P, fun i => i) := by
    intro o ho
    have go : ∀ j, j < 17 → g o j = h 79 j := fun j hj => by
      rcases ho with rfl | rfl
      · exact g70 j hj
      · exact g71 j hj
    unfold MV
    rw [k7 o (by omega)]
    refine ⟨(go 0 (by omega)).trans e3, fun i hi => ⟨?_, ?_⟩⟩
    · rw [Nat.zero_add, go _ (by omega)]; exact e4 i (by omega)
    · rw [Nat.zero_add, go _ (by omega)]; exact (e5 i hi).2.2
  refine ⟨rfl, ⟨⟨?_, fun i hi => ?_⟩, mv 70 (by omega), mv 71 (by omega), ⟨?_, fun k hk => by have hk : k < 0 := hk; omega⟩, ⟨?_, fun k hk => by have hk : k < 0 := hk; omega⟩, ⟨?_, fun k hk => by have hk : k < 0 := hk; omega⟩, ?_, fun k hk => ?_⟩, fun o ho => ?_⟩
  · rw [k67, if_neg (by decide), if_neg (by decide), if_neg (by decide), g67, if_pos rfl]; rfl
  · have hi : i < pn P := hi
    have a5 := e5 i hi
    have a6 := e6 i (by omega)
    rw [k7 68 (by decide), k7 69 (by decide), g68 _ (by omega), g68 _ (by omega), g69 _ (by omega), g69 _ (by omega)]
    exact ⟨a5.1, a5.2.1, a6.1, a6.2⟩
  · rw [k67, if_neg (by decide), if_neg (by decide), if_pos rfl]; rfl
  · rw [k67, if_neg (by decide), if_pos rfl]; rfl
  · rw [k67, if_pos rfl]; rfl
  · rw [k67, if_neg (by decide), if_neg (by decide), if_neg (by decide), g67, if_neg (by decide)]; exact ht.1
  · rw [k7 75 (by decide), gg 75 (by decide) (by decide)]; exact ht.2 k hk
  · rw [k7 o (by omega), gg o (by omega) (by omega)]
theorem y_lay {d : Nat} {h : Hp} {X : XS} (hr : RM h X) (hv : VX X) : RT mX8_lay (d + 6) [.ref 67] h (QN h (a_lay X)) := by
  have htx : MT h (xT X).2 (xT X).1 (h 67 13) := ⟨hr.2.2.2.2.2.2.1, rfl, hr.2.2.2.2.2.2.2⟩
  have hT := hv.2.2.2.2.2.2
  change AW mX8_lay _ 0 [some (.ref 67)] [] h _
  refine aw_aload_n dX8_lay_0 rfl rfl ?_
  refine aw_callV dX8_lay_1 kX8_110 (m_fault htx hT) (by first | assumption | rfl) rfl rfl rfl (Nat.le_of_ble_eq_true rfl) (Nat.le_of_ble_eq_true rfl) ?_
  rintro v h2 ⟨f2, hq⟩
  dsimp only [Option.toList, List.cons_append, List.nil_append, Nat.reduceAdd]
  unfold a_lay
  rw [show psr (ltr (xT X).2 (xT X).1) (xT X).1 200 0 P00 = xP X from rfl] at hq
  cases hz : xP X with
  | inl a =>
    rw [hz] at hq
    dsimp only at hq ⊢
    subst hq
    have ha : a < (xT X).1 := psr_lt _ _ _ _ hz
    have := hT.1
    refine aw_bipush (v := nI 4294967292) dX8_lay_4 (by decide) ?_
    refine aw_icmp_ne (tgt := 27) dX8_lay_6 (by decide) (fun _ => ?_) (fun q => absurd q (ne_none (by omega)))
    refine aw_bipush (v := nI 4294967294) dX8_lay_27 (by decide) ?_
    refine aw_iret dX8_lay_29 rfl (by first | rfl | exact (pk_charN (by omega)).1 | decide) ?_
    exact ⟨rfl, hr.fmd f2, f2.fn⟩
  | inr P =>
    rw [hz] at hq
    dsimp only at hq ⊢
    obtain ⟨rfl, hdr⟩ := hq
    have hP : PSOk P := psr_ok (ltr_lt hT) _ _ _ _ P00_ok hz
    have e1 := hdr.1
    have e2 := hdr.2.1
    have p1 := hP.1
    have p2 := hP.2.1
    refine aw_bipush (v := nI 4294967292) dX8_lay_4 (by decide) ?_
    refine aw_icmp_ne (tgt := 27) dX8_lay_6 (by decide) (fun q => absurd rfl q) (fun _ => ?_)
    refine aw_aload_n dX8_lay_9 rfl rfl ?_
    refine aw_getI dX8_lay_10 fX8_66 (by first | assumption | rfl) (by rfl) ?_
    rw [e1]
    refine aw_if_eqN (tgt := 27) dX8_lay_13 (by decide) (by omega) (fun c13 => ?_) (fun c13 => ?_)
    · rw [if_neg (by omega)]
      refine aw_bipush (v := nI 4294967294) dX8_lay_27 (by decide) ?_
      refine aw_iret dX8_lay_29 rfl (by first | rfl | exact (pk_charN (by omega)).1 | decide) ?_
      exact ⟨rfl, hr.fmd f2, f2.fn⟩
    · refine aw_aload_n dX8_lay_16 rfl rfl ?_
      refine aw_getI dX8_lay_17 fX8_70 (by first | assumption | rfl) (by rfl) ?_
      refine aw_aload_n dX8_lay_20 rfl rfl ?_
      refine aw_getI dX8_lay_21 fX8_66 (by first | assumption | rfl) (by rfl) ?_
      rw [e1, e2]
      refine aw_icmp_eqN (tgt := 30) dX8_lay_24 (by decide) (by omega) (by omega) (fun c24 => ?_) (fun c24 => ?_)
      · have hq : 1 ≤ pn P ∧ pm P = pn P := by omega
        rw [if_pos hq]
        have ht2 : h2 67 12 = (xT X).1 ∧ ∀ k, k < (xT X).1 → h2 75 k = (xT X).2 k := ⟨(f2.1 12 (by decide) (by decide) (by decide)).trans htx.1, fun k hk => by rw [f2.2 75 (by decide) (by decide)]; exact htx.2.2 k hk⟩
        refine aw_aload_n dX8_lay_30 rfl rfl ?_
        refine aw_callV dX8_lay_31 kX8_63 (m_settles (X := X) hdr hP hq ht2) (by first | assumption | rfl) rfl rfl rfl (Nat.le_of_ble_eq_true rfl) (Nat.le_of_ble_eq_true rfl) ?_
        rintro _ h3 ⟨rfl, r3, f3⟩
        dsimp only [Option.toList, List.cons_append, List.nil_append, Nat.reduceAdd]
        refine aw_aload_n dX8_lay_34 rfl rfl ?_
        refine aw_getI dX8_lay_35 fX8_73 (by first | assumption | rfl) (by rfl) ?_
        rw [show h3 67 0 = pn P from r3.1.1]
        refine aw_iret dX8_lay_38 rfl (by first | rfl | exact (pk_charN (by omega)).1 | decide) ?_
        exact ⟨rfl, r3, f2.fn.trans f3⟩
      · rw [if_neg (by omega)]
        refine aw_bipush (v := nI 4294967294) dX8_lay_27 (by decide) ?_
        refine aw_iret dX8_lay_29 rfl (by first | rfl | exact (pk_charN (by omega)).1 | decide) ?_
        exact ⟨rfl, hr.fmd f2, f2.fn⟩
