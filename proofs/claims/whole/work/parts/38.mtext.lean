/-! the reference reads a text: place at 13, told 76, readCousins 15, readRooms 17, readCousin 77, readRoom 78, read 79 -/
def ltm (T : Nat → Nat) (n k : Nat) : Nat := if k < n then T k else 4294967295
theorem ltm_s {T : Nat → Nat} {n k : Nat} (hk : k < n) : ltm T n k = ltr T n k := by unfold ltm ltr; rw [if_pos hk, if_pos hk]
theorem ltm_n {T : Nat → Nat} {n k : Nat} (hk : ¬ k < n) : ltm T n k = 4294967295 := by unfold ltm; rw [if_neg hk]
theorem ltr_n {T : Nat → Nat} {n k : Nat} (hk : ¬ k < n) : ltr T n k = 0 := by unfold ltr; rw [if_neg hk]
def MT (h : Hp) (T : Nat → Nat) (n a : Nat) : Prop := h 67 12 = n ∧ h 67 13 = a ∧ ∀ k, k < n → h 75 k = T k
theorem m_letterAt {d n a b : Nat} {h : Hp} {T : Nat → Nat} (ht : MT h T n b) (hk : TOk T n) (ha : a < 2 ^ 30) : RT mX8_letterAt d [.ref 67, .int (nI a)] h (fun v h' => v = some (.int (nI (ltm T n a))) ∧ h' = h) := by
  obtain ⟨e1, e2, e3⟩ := ht
  have hn := hk.1
  change AW mX8_letterAt _ 0 [some (.ref 67), some (.int (nI a))] [] h _
  refine aw_iload_n dX8_letterAt_0 rfl rfl ?_
  refine aw_aload_n dX8_letterAt_1 rfl rfl ?_
  refine aw_getI dX8_letterAt_2 fX8_80 (by first | assumption | rfl) (by rfl) ?_
  rw [e1]
  refine aw_icmp_geN (tgt := 17) dX8_letterAt_5 (by decide) (by omega) (by omega) (fun c5 => ?_) (fun c5 => ?_)
  · rw [ltm_n (by omega)]
    refine aw_iconst (v := nI 4294967295) dX8_letterAt_17 (by decide) ?_
    refine aw_iret dX8_letterAt_18 rfl (by first | rfl | exact (pk_charN (by omega)).1 | decide) ?_
    exact ⟨rfl, rfl⟩
  · have e4 := e3 a (by omega)
    have ez : ltm T n a = T a := by unfold ltm; rw [if_pos (by omega)]
    refine aw_aload_n dX8_letterAt_8 rfl rfl ?_
    refine aw_getR dX8_letterAt_9 fX8_31 (by first | assumption | rfl) (by rfl) ?_
    refine aw_iload_n dX8_letterAt_12 rfl rfl ?_
    refine aw_iaload dX8_letterAt_13 (by first | assumption | rfl) (by omega) (by omega) ?_
    rw [e4, ez]
    refine aw_goto (tgt := 18) dX8_letterAt_14 (by decide) ?_
    refine aw_iret dX8_letterAt_18 rfl (by first | rfl | exact (pk_charN (by omega)).1 | decide) ?_
    exact ⟨rfl, rfl⟩
theorem m_isFig {d n a : Nat} {h : Hp} {T : Nat → Nat} (hk : TOk T n) : RT mX8_isFigure (d + 1) [.int (nI (ltm T n a))] h (fun v h' => v = some (.int (nI (if 48 ≤ ltr T n a ∧ ltr T n a ≤ 57 then 1 else 0))) ∧ h' = h) := by
  have hl := ltr_lt hk a
  change AW mX8_isFigure _ 0 [some (.int (nI (ltm T n a)))] [] h _
  by_cases q : a < n
  · rw [ltm_s q]
    refine aw_iload_n dX8_isFigure_0 rfl rfl ?_
    refine aw_bipush (v := nI 48) dX8_isFigure_1 (by decide) ?_
    refine aw_bipush (v := nI 57) dX8_isFigure_3 (by decide) ?_
    refine aw_callSF dX8_isFigure_5 kX8_76 (m_inN (by omega) (by omega) (by omega)) rfl rfl rfl (Nat.le_of_ble_eq_true rfl) (Nat.le_of_ble_eq_true rfl) ?_
    dsimp only [Option.toList, List.cons_append, List.nil_append, Nat.reduceAdd]
    by_cases qq : 48 ≤ ltr T n a ∧ ltr T n a ≤ 57
    · rw [if_pos qq]
      refine aw_iret dX8_isFigure_8 rfl (by first | rfl | exact (pk_charN (by omega)).1 | decide) ?_
      exact ⟨rfl, rfl⟩
    · rw [if_neg qq]
      refine aw_iret dX8_isFigure_8 rfl (by first | rfl | exact (pk_charN (by omega)).1 | decide) ?_
      exact ⟨rfl, rfl⟩
  · rw [ltm_n q, ltr_n q, if_neg (by omega)]
    have e : (if nI 48 ≤ nI 4294967295 ∧ nI 4294967295 ≤ nI 57 then 1 else 0) = 0 := by decide
    refine aw_iload_n dX8_isFigure_0 rfl rfl ?_
    refine aw_bipush (v := nI 48) dX8_isFigure_1 (by decide) ?_
    refine aw_bipush (v := nI 57) dX8_isFigure_3 (by decide) ?_
    refine aw_callSF dX8_isFigure_5 kX8_76 (m_in) rfl rfl rfl (Nat.le_of_ble_eq_true rfl) (Nat.le_of_ble_eq_true rfl) ?_
    dsimp only [Option.toList, List.cons_append, List.nil_append, Nat.reduceAdd]
    rw [e]
    refine aw_iret dX8_isFigure_8 rfl (by first | rfl | exact (pk_charN (by omega)).1 | decide) ?_
    exact ⟨rfl, rfl⟩
def FM3 (h h' : Hp) : Prop := (∀ k, k ≠ 13 → h' 67 k = h 67 k) ∧ ∀ o, o ≠ 67 → o ≠ 76 → h' o = h o
theorem FM3.rf {h : Hp} : FM3 h h := ⟨fun _ _ => rfl, fun _ _ _ => rfl⟩
theorem FM3.trans {h h1 h2 : Hp} (a : FM3 h h1) (b : FM3 h1 h2) : FM3 h h2 := ⟨fun k p => (b.1 k p).trans (a.1 k p), fun o p q => (b.2 o p q).trans (a.2 o p q)⟩
theorem FM3.place {h : Hp} {x : Nat} : FM3 h (hw h 67 13 x) := ⟨fun k p => by rw [hw_at, if_neg p], fun o p _ => hw_ne p⟩
theorem FM3.num {h : Hp} {k x : Nat} : FM3 h (hw h 76 k x) := ⟨fun j p => by rw [hw_ne (by decide)], fun o _ p => hw_ne p⟩
theorem MT.fr {h h' : Hp} {T : Nat → Nat} {n a a2 : Nat} (ht : MT h T n a) (hf : FM3 h h') (ha : h' 67 13 = a2) : MT h' T n a2 := by
  refine ⟨(hf.1 12 (by decide)).trans ht.1, ha, fun k hk => ?_⟩
  rw [hf.2 75 (by decide) (by decide)]
  exact ht.2.2 k hk
def mnQ (l : Nat → Nat) (h : Hp) (k r a : Nat) : Option Value → Hp → Prop := fun v h' => FM3 h h' ∧ match nmL l r a with
  | none => v = some (.int (nI 0))
  | some w => v = some (.int (nI 1)) ∧ h' 67 13 = w.2 ∧ (∀ j, j < r → h' 76 (k + j) = w.1.getD j 0) ∧ ∀ j, j < k → h' 76 j = h 76 j
theorem m_readNumbers {d n a many : Nat} {h : Hp} {T : Nat → Nat} (ht : MT h T n a) (hk : TOk T n) (ha : a ≤ 300) (hm : many ≤ 3) : RT mX8_readNumbers (d + 2) [.ref 67, .int (nI many)] h (mnQ (ltr T n) h 0 many a) := by
  have hl := ltr_lt hk
  have loop : ∀ r k aa hh, k + r = many → MT hh T n aa → aa + 3 * r ≤ 2 ^ 28 → AW mX8_readNumbers (d + 2) 2 [some (.ref 67), some (.int (nI many)), some (.int (nI k))] [] hh (mnQ (ltr T n) hh k r aa) := by
    intro r
    induction r with
    | zero =>
      intro k aa hh hkr htx hbd
      refine aw_iload_n dX8_readNumbers_2 rfl rfl ?_
      refine aw_iload_n dX8_readNumbers_3 rfl rfl ?_
      refine aw_icmp_geN (tgt := 144) dX8_readNumbers_4 (by decide) (by omega) (by omega) (fun _ => ?_) (fun q => absurd q (by omega))
      refine aw_iconst (v := nI 1) dX8_readNumbers_144 (by decide) ?_
      refine aw_iret dX8_readNumbers_145 rfl (by first | rfl | exact (pk_charN (by omega)).1 | decide) ?_
      exact ⟨FM3.rf, rfl, htx.2.1, fun j hj => by omega, fun j _ => rfl⟩
    | succ r ih =>
      intro k aa hh hkr htx hbd
      have e13 := htx.2.1
      have la := hl aa
      have la1 := hl (aa + 1)
      by_cases hc : 48 ≤ ltr T n aa ∧ ltr T n aa ≤ 57
      · have han : aa < n := by
          by_cases q : aa < n
          · exact q
          · rw [ltr_n q] at hc; omega
        have t2 : MT (hw (hw hh 76 k (ltr T n aa - 48)) 67 13 (aa + 1)) T n (aa + 1) := htx.fr (FM3.num.trans FM3.place) (by rw [hw_at, if_pos rfl])
        have f2 : FM3 hh (hw (hw hh 76 k (ltr T n aa - 48)) 67 13 (aa + 1)) := FM3.num.trans FM3.place
        have tail : ∀ x a2 h2, nu1 (ltr T n) aa = some (x, a2) → MT h2 T n a2 → FM3 hh h2 → h2 76 k = x → (∀ j, j < k → h2 76 j = hh 76 j) → AW mX8_readNumbers (d + 2) 101 [some (.ref 67), some (.int (nI many)), some (.int (nI k))] [] h2 (mnQ (ltr T n) hh k (r + 1) aa) := by
          intro x a2 h2 hz hm2 g2 hx hj0
          obtain ⟨hx99, ha2, ha3⟩ := nu1_lt hl hz
          have la2 := hl a2
          have bad : ltr T n a2 ≠ (if r = 0 then 59 else 44) → AW mX8_readNumbers (d + 2) 126 [some (.ref 67), some (.int (nI many)), some (.int (nI k))] [] h2 (mnQ (ltr T n) hh k (r + 1) aa) := by
            intro hne
            have hnm : nmL (ltr T n) (r + 1) aa = none := by
              unfold nmL nsp
              rw [hz]
              dsimp only
              rw [if_neg hne]
            refine aw_iconst (v := nI 0) dX8_readNumbers_126 (by decide) ?_
            refine aw_iret dX8_readNumbers_127 rfl (by first | rfl | exact (pk_charN (by omega)).1 | decide) ?_
            exact ⟨g2, by rw [hnm]⟩
          have good : ltr T n a2 = (if r = 0 then 59 else 44) → AW mX8_readNumbers (d + 2) 128 [some (.ref 67), some (.int (nI many)), some (.int (nI k))] [] h2 (mnQ (ltr T n) hh k (r + 1) aa) := by
            intro he
            have hns : nsp (ltr T n) (if r = 0 then 59 else 44) aa = some (x, a2 + 1) := by
              unfold nsp
              rw [hz]
              dsimp only
              rw [if_pos he]
            have e3 := hm2.2.1
            have t3 : MT (hw h2 67 13 (a2 + 1)) T n (a2 + 1) := hm2.fr FM3.place (by rw [hw_at, if_pos rfl])
            refine aw_aload_n dX8_readNumbers_128 rfl rfl ?_
            refine aw_dup dX8_readNumbers_129 rfl ?_
            refine aw_getI dX8_readNumbers_130 fX8_83 (by first | assumption | rfl) (by rfl) ?_
            rw [e3]
            refine aw_iconst (v := nI 1) dX8_readNumbers_133 (by decide) ?_
            refine aw_iaddN dX8_readNumbers_134 ?_
            refine aw_putfield dX8_readNumbers_135 gX8_83 (by first | assumption | rfl) (by rfl) ?_
            refine aw_iincN (v := 1) dX8_readNumbers_138 rfl rfl ?_
            dsimp only [List.set]
            refine aw_goto (tgt := 2) dX8_readNumbers_141 (by decide) ?_
            refine aw_imp ?_ (ih (k + 1) (a2 + 1) _ (by omega) t3 (by omega))
            intro v h4 hq
            obtain ⟨g3, g4⟩ := hq
            refine ⟨(g2.trans FM3.place).trans g3, ?_⟩
            have hnm : nmL (ltr T n) (r + 1) aa = (match nmL (ltr T n) r (a2 + 1) with
              | none => none
              | some w => some (x :: w.1, w.2)) := by
              conv => lhs; unfold nmL
              rw [hns]
              rfl
            rw [hnm]
            cases hz2 : nmL (ltr T n) r (a2 + 1) with
            | none =>
              rw [hz2] at g4
              exact g4
            | some w =>
              rw [hz2] at g4
              obtain ⟨y1, y2, y3, y4⟩ := g4
              refine ⟨y1, y2, fun j hj => ?_, fun j hj => ?_⟩
              · cases j with
                | zero =>
                  rw [Nat.add_zero, y4 k (by omega), hw_ne (by decide), hx]
                  rfl
                | succ j =>
                  have := y3 j (by omega)
                  rw [show k + (j + 1) = k + 1 + j by omega, this]
                  rfl
              · rw [y4 j (by omega), hw_ne (by decide), hj0 j hj]
          have e3 := hm2.2.1
          refine aw_aload_n dX8_readNumbers_101 rfl rfl ?_
          refine aw_aload_n dX8_readNumbers_102 rfl rfl ?_
          refine aw_getI dX8_readNumbers_103 fX8_83 (by first | assumption | rfl) (by rfl) ?_
          rw [e3]
          refine aw_callVF dX8_readNumbers_106 kX8_86 (m_letterAt hm2 hk (by omega)) (by first | assumption | rfl) rfl rfl rfl (Nat.le_of_ble_eq_true rfl) (Nat.le_of_ble_eq_true rfl) ?_
          dsimp only [Option.toList, List.cons_append, List.nil_append, Nat.reduceAdd]
          by_cases qn : a2 < n
          · rw [ltm_s qn]
            refine aw_iload_n dX8_readNumbers_109 rfl rfl ?_
            refine aw_iload_n dX8_readNumbers_110 rfl rfl ?_
            refine aw_iconst (v := nI 1) dX8_readNumbers_111 (by decide) ?_
            refine aw_isubN dX8_readNumbers_112 (by omega) ?_
            refine aw_icmp_geN (tgt := 121) dX8_readNumbers_113 (by decide) (by omega) (by omega) (fun c113 => ?_) (fun c113 => ?_)
            · refine aw_bipush (v := nI 59) dX8_readNumbers_121 (by decide) ?_
              refine aw_icmp_eqN (tgt := 128) dX8_readNumbers_123 (by decide) (by omega) (by omega) (fun c123 => ?_) (fun c123 => ?_)
              · exact good (by rw [if_pos (by omega)]; omega)
              · exact bad (by rw [if_pos (by omega)]; omega)
            · refine aw_bipush (v := nI 44) dX8_readNumbers_116 (by decide) ?_
              refine aw_goto (tgt := 123) dX8_readNumbers_118 (by decide) ?_
              refine aw_icmp_eqN (tgt := 128) dX8_readNumbers_123 (by decide) (by omega) (by omega) (fun c123 => ?_) (fun c123 => ?_)
              · exact good (by rw [if_neg (by omega)]; omega)
              · exact bad (by rw [if_neg (by omega)]; omega)
          · rw [ltm_n qn]
            have hb := bad (by rw [ltr_n qn]; split <;> omega)
            refine aw_iload_n dX8_readNumbers_109 rfl rfl ?_
            refine aw_iload_n dX8_readNumbers_110 rfl rfl ?_
            refine aw_iconst (v := nI 1) dX8_readNumbers_111 (by decide) ?_
            refine aw_isubN dX8_readNumbers_112 (by omega) ?_
            refine aw_icmp_geN (tgt := 121) dX8_readNumbers_113 (by decide) (by omega) (by omega) (fun c113 => ?_) (fun c113 => ?_)
            · refine aw_bipush (v := nI 59) dX8_readNumbers_121 (by decide) ?_
              exact aw_icmp_eq (tgt := 128) dX8_readNumbers_123 (by decide) (fun q => absurd q (by decide)) (fun _ => hb)
            · refine aw_bipush (v := nI 44) dX8_readNumbers_116 (by decide) ?_
              refine aw_goto (tgt := 123) dX8_readNumbers_118 (by decide) ?_
              exact aw_icmp_eq (tgt := 128) dX8_readNumbers_123 (by decide) (fun q => absurd q (by decide)) (fun _ => hb)
        refine aw_iload_n dX8_readNumbers_2 rfl rfl ?_
        refine aw_iload_n dX8_readNumbers_3 rfl rfl ?_
        refine aw_icmp_geN (tgt := 144) dX8_readNumbers_4 (by decide) (by omega) (by omega) (fun q => absurd q (by omega)) (fun _ => ?_)
        refine aw_aload_n dX8_readNumbers_7 rfl rfl ?_
        refine aw_aload_n dX8_readNumbers_8 rfl rfl ?_
        refine aw_getI dX8_readNumbers_9 fX8_83 (by first | assumption | rfl) (by rfl) ?_
        rw [e13]
        refine aw_callVF dX8_readNumbers_12 kX8_86 (m_letterAt htx hk (by omega)) (by first | assumption | rfl) rfl rfl rfl (Nat.le_of_ble_eq_true rfl) (Nat.le_of_ble_eq_true rfl) ?_
        dsimp only [Option.toList, List.cons_append, List.nil_append, Nat.reduceAdd]
        refine aw_callSF dX8_readNumbers_15 kX8_90 (m_isFig hk) rfl rfl rfl (Nat.le_of_ble_eq_true rfl) (Nat.le_of_ble_eq_true rfl) ?_
        dsimp only [Option.toList, List.cons_append, List.nil_append, Nat.reduceAdd]
        rw [if_pos hc]
        refine aw_if_neN (tgt := 23) dX8_readNumbers_18 (by decide) (by omega) (fun _ => ?_) (fun q => absurd q (by omega))
        refine aw_aload_n dX8_readNumbers_23 rfl rfl ?_
        refine aw_getR dX8_readNumbers_24 fX8_34 (by first | assumption | rfl) (by rfl) ?_
        refine aw_iload_n dX8_readNumbers_27 rfl rfl ?_
        refine aw_aload_n dX8_readNumbers_28 rfl rfl ?_
        refine aw_aload_n dX8_readNumbers_29 rfl rfl ?_
        refine aw_getI dX8_readNumbers_30 fX8_83 (by first | assumption | rfl) (by rfl) ?_
        rw [e13]
        refine aw_callVF dX8_readNumbers_33 kX8_86 (m_letterAt htx hk (by omega)) (by first | assumption | rfl) rfl rfl rfl (Nat.le_of_ble_eq_true rfl) (Nat.le_of_ble_eq_true rfl) ?_
        dsimp only [Option.toList, List.cons_append, List.nil_append, Nat.reduceAdd]
        rw [ltm_s han]
        refine aw_bipush (v := nI 48) dX8_readNumbers_36 (by decide) ?_
        refine aw_isubN dX8_readNumbers_38 (by omega) ?_
        refine aw_iastore dX8_readNumbers_39 (by first | assumption | rfl) (by omega) (by omega) ?_
        refine aw_aload_n dX8_readNumbers_40 rfl rfl ?_
        refine aw_dup dX8_readNumbers_41 rfl ?_
        refine aw_getI dX8_readNumbers_42 fX8_83 (by first | assumption | rfl) (by rfl) ?_
        rw [hw_ne (by decide), e13]
        refine aw_iconst (v := nI 1) dX8_readNumbers_45 (by decide) ?_
        refine aw_iaddN dX8_readNumbers_46 ?_
        refine aw_putfield dX8_readNumbers_47 gX8_83 (by first | assumption | rfl) (by rfl) ?_
        refine aw_aload_n dX8_readNumbers_50 rfl rfl ?_
        refine aw_aload_n dX8_readNumbers_51 rfl rfl ?_
        refine aw_getI dX8_readNumbers_52 fX8_83 (by first | assumption | rfl) (by rfl) ?_
        rw [hw_at, if_pos rfl]
        refine aw_callVF dX8_readNumbers_55 kX8_86 (m_letterAt t2 hk (by omega)) (by first | assumption | rfl) rfl rfl rfl (Nat.le_of_ble_eq_true rfl) (Nat.le_of_ble_eq_true rfl) ?_
        dsimp only [Option.toList, List.cons_append, List.nil_append, Nat.reduceAdd]
        refine aw_callSF dX8_readNumbers_58 kX8_90 (m_isFig hk) rfl rfl rfl (Nat.le_of_ble_eq_true rfl) (Nat.le_of_ble_eq_true rfl) ?_
        dsimp only [Option.toList, List.cons_append, List.nil_append, Nat.reduceAdd]
        by_cases hc2 : 48 ≤ ltr T n (aa + 1) ∧ ltr T n (aa + 1) ≤ 57
        · have hz : nu1 (ltr T n) aa = some (10 * (ltr T n aa - 48) + (ltr T n (aa + 1) - 48), aa + 2) := by
            unfold nu1
            rw [if_pos hc, if_pos hc2]
          have han2 : aa + 1 < n := by
            by_cases q : aa + 1 < n
            · exact q
            · rw [ltr_n q] at hc2; omega
          rw [if_pos hc2]
          refine aw_if_eqN (tgt := 101) dX8_readNumbers_61 (by decide) (by omega) (fun q => absurd q (by omega)) (fun _ => ?_)
          refine aw_aload_n dX8_readNumbers_64 rfl rfl ?_
          refine aw_getR dX8_readNumbers_65 fX8_34 (by first | assumption | rfl) (by rfl) ?_
          refine aw_iload_n dX8_readNumbers_68 rfl rfl ?_
          refine aw_bipush (v := nI 10) dX8_readNumbers_69 (by decide) ?_
          refine aw_aload_n dX8_readNumbers_71 rfl rfl ?_
          refine aw_getR dX8_readNumbers_72 fX8_34 (by first | assumption | rfl) (by rfl) ?_
          refine aw_iload_n dX8_readNumbers_75 rfl rfl ?_
          refine aw_iaload dX8_readNumbers_76 (by first | assumption | rfl) (by omega) (by omega) ?_
          rw [hw_ne (by decide), hw_at, if_pos rfl]
          refine aw_imulN dX8_readNumbers_77 ?_
          refine aw_aload_n dX8_readNumbers_78 rfl rfl ?_
          refine aw_aload_n dX8_readNumbers_79 rfl rfl ?_
          refine aw_getI dX8_readNumbers_80 fX8_83 (by first | assumption | rfl) (by rfl) ?_
          rw [hw_at, if_pos rfl]
          refine aw_callVF dX8_readNumbers_83 kX8_86 (m_letterAt t2 hk (by omega)) (by first | assumption | rfl) rfl rfl rfl (Nat.le_of_ble_eq_true rfl) (Nat.le_of_ble_eq_true rfl) ?_
          dsimp only [Option.toList, List.cons_append, List.nil_append, Nat.reduceAdd]
          rw [ltm_s han2]
          refine aw_iaddN dX8_readNumbers_86 ?_
          refine aw_bipush (v := nI 48) dX8_readNumbers_87 (by decide) ?_
          refine aw_isubN dX8_readNumbers_89 (by omega) ?_
          refine aw_iastore dX8_readNumbers_90 (by first | assumption | rfl) (by omega) (by omega) ?_
          refine aw_aload_n dX8_readNumbers_91 rfl rfl ?_
          refine aw_dup dX8_readNumbers_92 rfl ?_
          refine aw_getI dX8_readNumbers_93 fX8_83 (by first | assumption | rfl) (by rfl) ?_
          rw [hw_ne (by decide), hw_at, if_pos rfl]
          refine aw_iconst (v := nI 1) dX8_readNumbers_96 (by decide) ?_
          refine aw_iaddN dX8_readNumbers_97 ?_
          refine aw_putfield dX8_readNumbers_98 gX8_83 (by first | assumption | rfl) (by rfl) ?_
          refine tail _ _ _ hz ?_ ?_ ?_ ?_
          · exact (t2.fr (FM3.num.trans FM3.place) (by rw [hw_at, if_pos rfl]))
          · exact f2.trans (FM3.num.trans FM3.place)
          · rw [hw_ne (by decide), hw_at, if_pos rfl]
            omega
          · intro j hj
            rw [hw_ne (by decide), hw_at, if_neg (by omega), hw_ne (by decide), hw_at, if_neg (by omega)]
        · have hz : nu1 (ltr T n) aa = some (ltr T n aa - 48, aa + 1) := by
            unfold nu1
            rw [if_pos hc, if_neg hc2]
          rw [if_neg hc2]
          refine aw_if_eqN (tgt := 101) dX8_readNumbers_61 (by decide) (by omega) (fun _ => ?_) (fun q => absurd q (by omega))
          refine tail _ _ _ hz t2 f2 ?_ ?_
          · rw [hw_ne (by decide), hw_at, if_pos rfl]
          · intro j hj
            rw [hw_ne (by decide), hw_at, if_neg (by omega)]
      · have hnm : nmL (ltr T n) (r + 1) aa = none := by
          unfold nmL nsp nu1
          rw [if_neg hc]
        refine aw_iload_n dX8_readNumbers_2 rfl rfl ?_
        refine aw_iload_n dX8_readNumbers_3 rfl rfl ?_
        refine aw_icmp_geN (tgt := 144) dX8_readNumbers_4 (by decide) (by omega) (by omega) (fun q => absurd q (by omega)) (fun _ => ?_)
        refine aw_aload_n dX8_readNumbers_7 rfl rfl ?_
        refine aw_aload_n dX8_readNumbers_8 rfl rfl ?_
        refine aw_getI dX8_readNumbers_9 fX8_83 (by first | assumption | rfl) (by rfl) ?_
        rw [e13]
        refine aw_callVF dX8_readNumbers_12 kX8_86 (m_letterAt htx hk (by omega)) (by first | assumption | rfl) rfl rfl rfl (Nat.le_of_ble_eq_true rfl) (Nat.le_of_ble_eq_true rfl) ?_
        dsimp only [Option.toList, List.cons_append, List.nil_append, Nat.reduceAdd]
        refine aw_callSF dX8_readNumbers_15 kX8_90 (m_isFig hk) rfl rfl rfl (Nat.le_of_ble_eq_true rfl) (Nat.le_of_ble_eq_true rfl) ?_
        dsimp only [Option.toList, List.cons_append, List.nil_append, Nat.reduceAdd]
        rw [if_neg hc]
        refine aw_if_neN (tgt := 23) dX8_readNumbers_18 (by decide) (by omega) (fun q => absurd q (by omega)) (fun _ => ?_)
        refine aw_iconst (v := nI 0) dX8_readNumbers_21 (by decide) ?_
        refine aw_iret dX8_readNumbers_22 rfl (by first | rfl | exact (pk_charN (by omega)).1 | decide) ?_
        exact ⟨FM3.rf, by rw [hnm]⟩
  change AW mX8_readNumbers _ 0 [some (.ref 67), some (.int (nI many)), none] [] h _
  refine aw_iconst (v := nI 0) dX8_readNumbers_0 (by decide) ?_
  refine aw_istore_n dX8_readNumbers_1 rfl (Nat.le_of_ble_eq_true rfl) rfl ?_
  dsimp only [List.set]
  exact loop many 0 a h (by omega) ht (by omega)
def DM (h : Hp) (P : PS) : Prop := h 67 15 = pn P ∧ h 67 17 = pm P ∧ h 79 0 = 0 ∧ (∀ i, i < 8 → h 79 (1 + i) = i) ∧ (∀ i, i < pn P → h 77 (2 * i) = pK P i ∧ h 77 (2 * i + 1) = pW P i ∧ h 79 (9 + i) = pb P i) ∧ ∀ r, r < pm P → h 78 (2 * r) = pA P r ∧ h 78 (2 * r + 1) = pB P r
def FMD (h h' : Hp) : Prop := (∀ k, k ≠ 13 → k ≠ 15 → k ≠ 17 → h' 67 k = h 67 k) ∧ ∀ o, o ≠ 67 → (o < 76 ∨ 79 < o) → h' o = h o
theorem FMD.rf {h : Hp} : FMD h h := ⟨fun _ _ _ _ => rfl, fun _ _ _ => rfl⟩
theorem FMD.trans {h h1 h2 : Hp} (a : FMD h h1) (b : FMD h1 h2) : FMD h h2 := ⟨fun k p q r => (b.1 k p q r).trans (a.1 k p q r), fun o p q => (b.2 o p q).trans (a.2 o p q)⟩
theorem FMD.of3 {h h' : Hp} (a : FM3 h h') : FMD h h' := ⟨fun k p _ _ => a.1 k p, fun o p q => a.2 o p (by omega)⟩
theorem FMD.fld {h : Hp} {k x : Nat} (hk : k = 13 ∨ k = 15 ∨ k = 17) : FMD h (hw h 67 k x) := ⟨fun j p q r => by rw [hw_at, if_neg (by omega)], fun o p _ => hw_ne p⟩
theorem FMD.arr {h : Hp} {o k x : Nat} (ho : 76 ≤ o ∧ o ≤ 79) : FMD h (hw h o k x) := ⟨fun j p q r => by rw [hw_ne (by omega)], fun o _ p => hw_ne (by omega)⟩
theorem MT.frD {h h' : Hp} {T : Nat → Nat} {n a a2 : Nat} (ht : MT h T n a) (hf : FMD h h') (ha : h' 67 13 = a2) : MT h' T n a2 := by
  refine ⟨(hf.1 12 (by decide) (by decide) (by decide)).trans ht.1, ha, fun k hk => ?_⟩
  rw [hf.2 75 (by decide) (by decide)]
  exact ht.2.2 k hk
theorem DM.fr {h h' : Hp} {P : PS} (hd0 : DM h P) (hf : FM3 h h') : DM h' P := by
  unfold DM
  rw [hf.1 15 (by decide), hf.1 17 (by decide), hf.2 77 (by decide) (by decide), hf.2 78 (by decide) (by decide), hf.2 79 (by decide) (by decide)]
  exact hd0
theorem m_isTold {d k x hi : Nat} {h : Hp} (hk : k < 3) (hx : h 76 k = x) (hb : x ≤ 99) (hh : hi < 2 ^ 20) : RT mX8_isTold (d + 1) [.ref 67, .int (nI k), .int (nI 0), .int (nI hi)] h (fun v h' => v = some (.int (nI (if x ≤ hi then 1 else 0))) ∧ h' = h) := by
  have e : (if 0 ≤ x ∧ x ≤ hi then 1 else 0) = (if x ≤ hi then 1 else 0) := by
    by_cases q : x ≤ hi
    · rw [if_pos ⟨Nat.zero_le _, q⟩, if_pos q]
    · rw [if_neg (fun z => q z.2), if_neg q]
  change AW mX8_isTold _ 0 [some (.ref 67), some (.int (nI k)), some (.int (nI 0)), some (.int (nI hi))] [] h _
  refine aw_aload_n dX8_isTold_0 rfl rfl ?_
  refine aw_getR dX8_isTold_1 fX8_34 (by first | assumption | rfl) (by rfl) ?_
  refine aw_iload_n dX8_isTold_4 rfl rfl ?_
  refine aw_iaload dX8_isTold_5 (by first | assumption | rfl) (by omega) (by omega) ?_
  rw [hx]
  refine aw_iload_n dX8_isTold_6 rfl rfl ?_
  refine aw_iload_n dX8_isTold_7 rfl rfl ?_
  refine aw_callSF dX8_isTold_8 kX8_76 (m_inN (by omega) (by omega) (by omega)) rfl rfl rfl (Nat.le_of_ble_eq_true rfl) (Nat.le_of_ble_eq_true rfl) ?_
  dsimp only [Option.toList, List.cons_append, List.nil_append, Nat.reduceAdd]
  rw [e]
  by_cases qq : x ≤ hi
  · rw [if_pos qq]
    refine aw_iret dX8_isTold_11 rfl (by first | rfl | exact (pk_charN (by omega)).1 | decide) ?_
    exact ⟨rfl, rfl⟩
  · rw [if_neg qq]
    refine aw_iret dX8_isTold_11 rfl (by first | rfl | exact (pk_charN (by omega)).1 | decide) ?_
    exact ⟨rfl, rfl⟩
theorem m_clearTold {d : Nat} {h : Hp} : RT mX8_clearTold (d + 1) [.ref 67] h (fun v h' => v = none ∧ DM h' P00 ∧ FMD h h' ∧ h' 67 13 = h 67 13) := by
  have loop : ∀ u k hh, k + u = 17 → hh 67 15 = 0 → hh 67 17 = 0 → FMD h hh → hh 67 13 = h 67 13 → (∀ j, j < k → hh 79 j = if 1 ≤ j ∧ j ≤ 8 then j - 1 else 0) → AW mX8_clearTold (d + 1) 12 [some (.ref 67), some (.int (nI k))] [] hh (fun v h' => v = none ∧ DM h' P00 ∧ FMD h h' ∧ h' 67 13 = h 67 13) := by
    intro u
    induction u with
    | zero =>
      intro k hh hku e1 e2 hf e13 ha
      refine aw_iload_n dX8_clearTold_12 rfl rfl ?_
      refine aw_bipush (v := nI 17) dX8_clearTold_13 (by decide) ?_
      refine aw_icmp_geN (tgt := 47) dX8_clearTold_15 (by decide) (by omega) (by omega) (fun _ => ?_) (fun q => absurd q (by omega))
      refine aw_vret dX8_clearTold_47 rfl ?_
      refine ⟨rfl, ⟨e1, e2, ?_, fun i hi => ?_, fun i hi => by have hi : i < 0 := hi; omega, fun i hi => by have hi : i < 0 := hi; omega⟩, hf, e13⟩
      · rw [ha 0 (by omega), if_neg (by omega)]
      · rw [ha (1 + i) (by omega), if_pos (by omega)]
        omega
    | succ u ih =>
      intro k hh hku e1 e2 hf e13 ha
      have fin : ∀ x, x = (if 1 ≤ k ∧ k ≤ 8 then k - 1 else 0) → AW mX8_clearTold (d + 1) 12 [some (.ref 67), some (.int (nI (k + 1)))] [] (hw hh 79 k x) (fun v h' => v = none ∧ DM h' P00 ∧ FMD h h' ∧ h' 67 13 = h 67 13) := by
        intro x hx
        refine ih (k + 1) _ (by omega) (by rw [hw_ne (by decide)]; exact e1) (by rw [hw_ne (by decide)]; exact e2) (hf.trans (FMD.arr (by omega))) (by rw [hw_ne (by decide)]; exact e13) (fun j hj => ?_)
        rw [hw_at]
        by_cases q : j = k
        · rw [if_pos q, hx, q]
        · rw [if_neg q]
          exact ha j (by omega)
      refine aw_iload_n dX8_clearTold_12 rfl rfl ?_
      refine aw_bipush (v := nI 17) dX8_clearTold_13 (by decide) ?_
      refine aw_icmp_geN (tgt := 47) dX8_clearTold_15 (by decide) (by omega) (by omega) (fun q => absurd q (by omega)) (fun _ => ?_)
      refine aw_aload_n dX8_clearTold_18 rfl rfl ?_
      refine aw_getR dX8_clearTold_19 fX8_43 (by first | assumption | rfl) (by rfl) ?_
      refine aw_iload_n dX8_clearTold_22 rfl rfl ?_
      refine aw_iload_n dX8_clearTold_23 rfl rfl ?_
      refine aw_iconst (v := nI 1) dX8_clearTold_24 (by decide) ?_
      refine aw_bipush (v := nI 8) dX8_clearTold_25 (by decide) ?_
      refine aw_callSF dX8_clearTold_27 kX8_76 (m_inN (by omega) (by omega) (by omega)) rfl rfl rfl (Nat.le_of_ble_eq_true rfl) (Nat.le_of_ble_eq_true rfl) ?_
      dsimp only [Option.toList, List.cons_append, List.nil_append, Nat.reduceAdd]
      by_cases q : 1 ≤ k ∧ k ≤ 8
      · rw [if_pos q]
        refine aw_if_eqN (tgt := 39) dX8_clearTold_30 (by decide) (by omega) (fun q => absurd q (by omega)) (fun _ => ?_)
        refine aw_iload_n dX8_clearTold_33 rfl rfl ?_
        refine aw_iconst (v := nI 1) dX8_clearTold_34 (by decide) ?_
        refine aw_isubN dX8_clearTold_35 (by omega) ?_
        refine aw_goto (tgt := 40) dX8_clearTold_36 (by decide) ?_
        refine aw_iastore dX8_clearTold_40 (by first | assumption | rfl) (by omega) (by omega) ?_
        refine aw_iincN (v := 1) dX8_clearTold_41 rfl rfl ?_
        dsimp only [List.set]
        refine aw_goto (tgt := 12) dX8_clearTold_44 (by decide) ?_
        exact fin _ (by rw [if_pos q])
      · rw [if_neg q]
        refine aw_if_eqN (tgt := 39) dX8_clearTold_30 (by decide) (by omega) (fun _ => ?_) (fun q => absurd q (by omega))
        refine aw_iconst (v := nI 0) dX8_clearTold_39 (by decide) ?_
        refine aw_iastore dX8_clearTold_40 (by first | assumption | rfl) (by omega) (by omega) ?_
        refine aw_iincN (v := 1) dX8_clearTold_41 rfl rfl ?_
        dsimp only [List.set]
        refine aw_goto (tgt := 12) dX8_clearTold_44 (by decide) ?_
        exact fin _ (by rw [if_neg q])
  change AW mX8_clearTold _ 0 [some (.ref 67), none] [] h _
  refine aw_aload_n dX8_clearTold_0 rfl rfl ?_
  refine aw_iconst (v := nI 0) dX8_clearTold_1 (by decide) ?_
  refine aw_putfield dX8_clearTold_2 gX8_66 (by first | assumption | rfl) (by rfl) ?_
  refine aw_aload_n dX8_clearTold_5 rfl rfl ?_
  refine aw_iconst (v := nI 0) dX8_clearTold_6 (by decide) ?_
  refine aw_putfield dX8_clearTold_7 gX8_70 (by first | assumption | rfl) (by rfl) ?_
  refine aw_iconst (v := nI 0) dX8_clearTold_10 (by decide) ?_
  refine aw_istore_n dX8_clearTold_11 rfl (Nat.le_of_ble_eq_true rfl) rfl ?_
  dsimp only [List.set]
  refine loop 17 0 _ (by omega) ?_ ?_ ((FMD.fld (by omega)).trans (FMD.fld (by omega))) ?_ (fun j hj => by omega)
  · rw [hw_at, if_neg (by decide), hw_at, if_pos rfl]
  · rw [hw_at, if_pos rfl]
  · rw [hw_at, if_neg (by decide), hw_at, if_neg (by decide)]
theorem m_tellsCousin {d x y z : Nat} {h : Hp} {P : PS} (hd0 : DM h P) (hP : PSOk P) (hn : pn P < 8) : RT mX8_tellsCousin d [.ref 67, .int (nI x), .int (nI y), .int (nI z)] h (fun v h' => v = none ∧ DM h' (addC P x y z) ∧ FMD h h' ∧ h' 67 13 = h 67 13) := by
  obtain ⟨e1, e2, e3, e4, e5, e6⟩ := hd0
  change AW mX8_tellsCousin _ 0 [some (.ref 67), some (.int (nI x)), some (.int (nI y)), some (.int (nI z))] [] h _
  refine aw_aload_n dX8_tellsCousin_0 rfl rfl ?_
  refine aw_getR dX8_tellsCousin_1 fX8_37 (by first | assumption | rfl) (by rfl) ?_
  refine aw_iconst (v := nI 2) dX8_tellsCousin_4 (by decide) ?_
  refine aw_aload_n dX8_tellsCousin_5 rfl rfl ?_
  refine aw_getI dX8_tellsCousin_6 fX8_66 (by first | assumption | rfl) (by rfl) ?_
  rw [e1]
  refine aw_imulN dX8_tellsCousin_9 ?_
  refine aw_iload_n dX8_tellsCousin_10 rfl rfl ?_
  refine aw_iastore dX8_tellsCousin_11 (by first | assumption | rfl) (by omega) (by omega) ?_
  refine aw_aload_n dX8_tellsCousin_12 rfl rfl ?_
  refine aw_getR dX8_tellsCousin_13 fX8_37 (by first | assumption | rfl) (by rfl) ?_
  refine aw_iconst (v := nI 2) dX8_tellsCousin_16 (by decide) ?_
  refine aw_aload_n dX8_tellsCousin_17 rfl rfl ?_
  refine aw_getI dX8_tellsCousin_18 fX8_66 (by first | assumption | rfl) (by rfl) ?_
  rw [hw_ne (by decide), e1]
  refine aw_imulN dX8_tellsCousin_21 ?_
  refine aw_iconst (v := nI 1) dX8_tellsCousin_22 (by decide) ?_
  refine aw_iaddN dX8_tellsCousin_23 ?_
  refine aw_iload_n dX8_tellsCousin_24 rfl rfl ?_
  refine aw_iastore dX8_tellsCousin_25 (by first | assumption | rfl) (by omega) (by omega) ?_
  refine aw_aload_n dX8_tellsCousin_26 rfl rfl ?_
  refine aw_getR dX8_tellsCousin_27 fX8_43 (by first | assumption | rfl) (by rfl) ?_
  refine aw_bipush (v := nI 9) dX8_tellsCousin_30 (by decide) ?_
  refine aw_aload_n dX8_tellsCousin_32 rfl rfl ?_
  refine aw_getI dX8_tellsCousin_33 fX8_66 (by first | assumption | rfl) (by rfl) ?_
  rw [hw_ne (by decide), hw_ne (by decide), e1]
  refine aw_iaddN dX8_tellsCousin_36 ?_
  refine aw_iload_n dX8_tellsCousin_37 rfl rfl ?_
  refine aw_iastore dX8_tellsCousin_38 (by first | assumption | rfl) (by omega) (by omega) ?_
  refine aw_aload_n dX8_tellsCousin_39 rfl rfl ?_
  refine aw_dup dX8_tellsCousin_40 rfl ?_
  refine aw_getI dX8_tellsCousin_41 fX8_66 (by first | assumption | rfl) (by rfl) ?_
  rw [hw_ne (by decide), hw_ne (by decide), hw_ne (by decide), e1]
  refine aw_iconst (v := nI 1) dX8_tellsCousin_44 (by decide) ?_
  refine aw_iaddN dX8_tellsCousin_45 ?_
  refine aw_putfield dX8_tellsCousin_46 gX8_66 (by first | assumption | rfl) (by rfl) ?_
  refine aw_vret dX8_tellsCousin_49 rfl ?_
  have g79 : ∀ j, hw (hw (hw (hw h 77 (2 * pn P) x) 77 (2 * pn P + 1) z) 79 (9 + pn P) y) 67 15 (pn P + 1) 79 j = if j = 9 + pn P then y else h 79 j := fun j => by rw [hw_ne (by decide), hw_at, hw_ne (by decide), hw_ne (by decide)]
  have g77 : ∀ j, hw (hw (hw (hw h 77 (2 * pn P) x) 77 (2 * pn P + 1) z) 79 (9 + pn P) y) 67 15 (pn P + 1) 77 j = if j = 2 * pn P + 1 then z else if j = 2 * pn P then x else h 77 j := fun j => by rw [hw_ne (by decide), hw_ne (by decide), hw_at, hw_at]
  have g78 : hw (hw (hw (hw h 77 (2 * pn P) x) 77 (2 * pn P + 1) z) 79 (9 + pn P) y) 67 15 (pn P + 1) 78 = h 78 := by rw [hw_ne (by decide), hw_ne (by decide), hw_ne (by decide), hw_ne (by decide)]
  have g67 : ∀ j, hw (hw (hw (hw h 77 (2 * pn P) x) 77 (2 * pn P + 1) z) 79 (9 + pn P) y) 67 15 (pn P + 1) 67 j = if j = 15 then pn P + 1 else h 67 j := fun j => by rw [hw_at, hw_ne (by decide), hw_ne (by decide), hw_ne (by decide)]
  refine ⟨rfl, ⟨?_, ?_, ?_, fun i hi => ?_, fun i hi => ?_, fun r hr => ?_⟩, (((FMD.arr (by omega)).trans (FMD.arr (by omega))).trans (FMD.arr (by omega))).trans (FMD.fld (by omega)), ?_⟩
  · rw [g67, if_pos rfl]; rfl
  · rw [g67, if_neg (by decide)]; exact e2
  · rw [g79, if_neg (by omega)]; exact e3
  · rw [g79, if_neg (by omega)]; exact e4 i hi
  · have hi : i < pn P + 1 := hi
    rw [g77, g77, g79]
    show _ = fu (pK P) (pn P) x i ∧ _ = fu (pW P) (pn P) z i ∧ _ = fu (pb P) (pn P) y i
    unfold fu
    by_cases qi : i = pn P
    · rw [if_pos qi, if_pos qi, if_pos qi, if_neg (by omega), if_pos (by omega), if_pos (by omega), if_pos (by omega)]
      exact ⟨rfl, rfl, rfl⟩
    · rw [if_neg qi, if_neg qi, if_neg qi, if_neg (by omega), if_neg (by omega), if_neg (by omega), if_neg (by omega), if_neg (by omega)]
      exact e5 i (by omega)
  · rw [g78]
    exact e6 r hr
  · rw [g67, if_neg (by decide)]
theorem m_tellsRoom {d x y : Nat} {h : Hp} {P : PS} (hd0 : DM h P) (hP : PSOk P) (hn : pm P < 8) : RT mX8_tellsRoom d [.ref 67, .int (nI x), .int (nI y)] h (fun v h' => v = none ∧ DM h' (addR P x y) ∧ FMD h h' ∧ h' 67 13 = h 67 13) := by
  obtain ⟨e1, e2, e3, e4, e5, e6⟩ := hd0
  change AW mX8_tellsRoom _ 0 [some (.ref 67), some (.int (nI x)), some (.int (nI y))] [] h _
  refine aw_aload_n dX8_tellsRoom_0 rfl rfl ?_
  refine aw_getR dX8_tellsRoom_1 fX8_40 (by first | assumption | rfl) (by rfl) ?_
  refine aw_iconst (v := nI 2) dX8_tellsRoom_4 (by decide) ?_
  refine aw_aload_n dX8_tellsRoom_5 rfl rfl ?_
  refine aw_getI dX8_tellsRoom_6 fX8_70 (by first | assumption | rfl) (by rfl) ?_
  rw [e2]
  refine aw_imulN dX8_tellsRoom_9 ?_
  refine aw_iload_n dX8_tellsRoom_10 rfl rfl ?_
  refine aw_iastore dX8_tellsRoom_11 (by first | assumption | rfl) (by omega) (by omega) ?_
  refine aw_aload_n dX8_tellsRoom_12 rfl rfl ?_
  refine aw_getR dX8_tellsRoom_13 fX8_40 (by first | assumption | rfl) (by rfl) ?_
  refine aw_iconst (v := nI 2) dX8_tellsRoom_16 (by decide) ?_
  refine aw_aload_n dX8_tellsRoom_17 rfl rfl ?_
  refine aw_getI dX8_tellsRoom_18 fX8_70 (by first | assumption | rfl) (by rfl) ?_
  rw [hw_ne (by decide), e2]
  refine aw_imulN dX8_tellsRoom_21 ?_
  refine aw_iconst (v := nI 1) dX8_tellsRoom_22 (by decide) ?_
  refine aw_iaddN dX8_tellsRoom_23 ?_
  refine aw_iload_n dX8_tellsRoom_24 rfl rfl ?_
  refine aw_iastore dX8_tellsRoom_25 (by first | assumption | rfl) (by omega) (by omega) ?_
  refine aw_aload_n dX8_tellsRoom_26 rfl rfl ?_
  refine aw_dup dX8_tellsRoom_27 rfl ?_
  refine aw_getI dX8_tellsRoom_28 fX8_70 (by first | assumption | rfl) (by rfl) ?_
  rw [hw_ne (by decide), hw_ne (by decide), e2]
  refine aw_iconst (v := nI 1) dX8_tellsRoom_31 (by decide) ?_
  refine aw_iaddN dX8_tellsRoom_32 ?_
  refine aw_putfield dX8_tellsRoom_33 gX8_70 (by first | assumption | rfl) (by rfl) ?_
  refine aw_vret dX8_tellsRoom_36 rfl ?_
  have g78 : ∀ j, hw (hw (hw h 78 (2 * pm P) x) 78 (2 * pm P + 1) y) 67 17 (pm P + 1) 78 j = if j = 2 * pm P + 1 then y else if j = 2 * pm P then x else h 78 j := fun j => by rw [hw_ne (by decide), hw_at, hw_at]
  have g7 : ∀ o, o ≠ 67 → o ≠ 78 → hw (hw (hw h 78 (2 * pm P) x) 78 (2 * pm P + 1) y) 67 17 (pm P + 1) o = h o := fun o p q => by rw [hw_ne p, hw_ne q, hw_ne q]
  have g67 : ∀ j, hw (hw (hw h 78 (2 * pm P) x) 78 (2 * pm P + 1) y) 67 17 (pm P + 1) 67 j = if j = 17 then pm P + 1 else h 67 j := fun j => by rw [hw_at, hw_ne (by decide), hw_ne (by decide)]
  refine ⟨rfl, ⟨?_, ?_, ?_, fun i hi => ?_, fun i hi => ?_, fun r hr => ?_⟩, ((FMD.arr (by omega)).trans (FMD.arr (by omega))).trans (FMD.fld (by omega)), ?_⟩
  · rw [g67, if_neg (by decide)]; exact e1
  · rw [g67, if_pos rfl]; rfl
  · rw [g7 79 (by decide) (by decide)]; exact e3
  · rw [g7 79 (by decide) (by decide)]; exact e4 i hi
  · rw [g7 79 (by decide) (by decide), g7 77 (by decide) (by decide)]; exact e5 i hi
  · have hr : r < pm P + 1 := hr
    rw [g78, g78]
    show _ = fu (pA P) (pm P) x r ∧ _ = fu (pB P) (pm P) y r
    unfold fu
    by_cases qi : r = pm P
    · rw [if_pos qi, if_pos qi, if_neg (by omega), if_pos (by omega), if_pos (by omega)]
      exact ⟨rfl, rfl⟩
    · rw [if_neg qi, if_neg qi, if_neg (by omega), if_neg (by omega), if_neg (by omega), if_neg (by omega)]
      exact e6 r (by omega)
  · rw [g67, if_neg (by decide)]
/-- the end of reading one item's numbers from a: o is what it tells -/
def miQ (o : Option (PS × Nat)) (h : Hp) : Option Value → Hp → Prop := fun v h' => FMD h h' ∧ match o with
  | none => v = some (.int (nI 0))
  | some q => v = some (.int (nI 1)) ∧ DM h' q.1 ∧ h' 67 13 = q.2
noncomputable def itC (l : Nat → Nat) (a : Nat) (P : PS) : Option (PS × Nat) := match nmL l 3 a with
    | none => none
    | some w => if okC P (w.1.getD 0 0) (w.1.getD 1 0) (w.1.getD 2 0) then some (addC P (w.1.getD 0 0) (w.1.getD 1 0) (w.1.getD 2 0), w.2) else none
noncomputable def itR (l : Nat → Nat) (a : Nat) (P : PS) : Option (PS × Nat) := match nmL l 2 a with
    | none => none
    | some w => if okR P (w.1.getD 0 0) (w.1.getD 1 0) then some (addR P (w.1.getD 0 0) (w.1.getD 1 0), w.2) else none
theorem m_readCousinOf {d n a : Nat} {h : Hp} {T : Nat → Nat} {P : PS} (ht : MT h T n a) (hk : TOk T n) (ha : a ≤ 300) (hd0 : DM h P) (hP : PSOk P) : RT mX8_readCousinOf (d + 3) [.ref 67] h (miQ (itC (ltr T n) a P) h) := by
  have hl := ltr_lt hk
  have e1 := hd0.1
  have hn8 := hP.1
  change AW mX8_readCousinOf _ 0 [some (.ref 67)] [] h _
  refine aw_aload_n dX8_readCousinOf_0 rfl rfl ?_
  refine aw_getI dX8_readCousinOf_1 fX8_66 (by first | assumption | rfl) (by rfl) ?_
  rw [e1]
  refine aw_bipush (v := nI 8) dX8_readCousinOf_4 (by decide) ?_
  refine aw_icmp_eqN (tgt := 49) dX8_readCousinOf_6 (by decide) (by omega) (by omega) (fun c6 => ?_) (fun c6 => ?_)
  · have ez : itC (ltr T n) a P = none := by
      unfold itC
      split
      · rfl
      · exact if_neg (fun q => by have := q.1; omega)
    refine aw_iconst (v := nI 0) dX8_readCousinOf_49 (by decide) ?_
    refine aw_iret dX8_readCousinOf_50 rfl (by first | rfl | exact (pk_charN (by omega)).1 | decide) ?_
    exact ⟨FMD.rf, by rw [ez]⟩
  · refine aw_aload_n dX8_readCousinOf_9 rfl rfl ?_
    refine aw_iconst (v := nI 3) dX8_readCousinOf_10 (by decide) ?_
    refine aw_callV dX8_readCousinOf_11 kX8_94 (m_readNumbers ht hk ha (by omega)) (by first | assumption | rfl) rfl rfl rfl (Nat.le_of_ble_eq_true rfl) (Nat.le_of_ble_eq_true rfl) ?_
    rintro v h3 ⟨f3, hq⟩
    dsimp only [Option.toList, List.cons_append, List.nil_append, Nat.reduceAdd]
    cases hz : nmL (ltr T n) 3 a with
    | none =>
      rw [hz] at hq
      dsimp only at hq
      subst hq
      have ez : itC (ltr T n) a P = none := by unfold itC; rw [hz]
      refine aw_if_eqN (tgt := 49) dX8_readCousinOf_14 (by decide) (by omega) (fun _ => ?_) (fun q => absurd q (by omega))
      refine aw_iconst (v := nI 0) dX8_readCousinOf_49 (by decide) ?_
      refine aw_iret dX8_readCousinOf_50 rfl (by first | rfl | exact (pk_charN (by omega)).1 | decide) ?_
      exact ⟨FMD.of3 f3, by rw [ez]⟩
    | some w =>
      rw [hz] at hq
      obtain ⟨rfl, q2, q3, q4⟩ := hq
      have q30 : h3 76 0 = w.1.getD 0 0 := q3 0 (by decide)
      have q31 : h3 76 1 = w.1.getD 1 0 := q3 1 (by decide)
      have q32 : h3 76 2 = w.1.getD 2 0 := q3 2 (by decide)
      have hb := (nmL_lt hl 3 _ w hz).2.2
      have d3 : DM h3 P := hd0.fr f3
      have bad : ¬ okC P (w.1.getD 0 0) (w.1.getD 1 0) (w.1.getD 2 0) → AW mX8_readCousinOf (d + 3) 49 [some (.ref 67)] [] h3 (miQ (itC (ltr T n) a P) h) := by
        intro hbd
        have ez : itC (ltr T n) a P = none := by unfold itC; rw [hz]; dsimp only; rw [if_neg hbd]
        refine aw_iconst (v := nI 0) dX8_readCousinOf_49 (by decide) ?_
        refine aw_iret dX8_readCousinOf_50 rfl (by first | rfl | exact (pk_charN (by omega)).1 | decide) ?_
        exact ⟨FMD.of3 f3, by rw [ez]⟩
      refine aw_if_eqN (tgt := 49) dX8_readCousinOf_14 (by decide) (by omega) (fun q => absurd q (by omega)) (fun _ => ?_)
      refine aw_aload_n dX8_readCousinOf_17 rfl rfl ?_
      refine aw_iconst (v := nI 0) dX8_readCousinOf_18 (by decide) ?_
      refine aw_iconst (v := nI 0) dX8_readCousinOf_19 (by decide) ?_
      refine aw_iconst (v := nI 3) dX8_readCousinOf_20 (by decide) ?_
      refine aw_callVF dX8_readCousinOf_21 kX8_97 (m_isTold (by omega) q30 (hb 0) (by omega)) (by first | assumption | rfl) rfl rfl rfl (Nat.le_of_ble_eq_true rfl) (Nat.le_of_ble_eq_true rfl) ?_
      dsimp only [Option.toList, List.cons_append, List.nil_append, Nat.reduceAdd]
      by_cases c0 : w.1.getD 0 0 ≤ 3
      · rw [if_pos c0]
        refine aw_if_eqN (tgt := 49) dX8_readCousinOf_24 (by decide) (by omega) (fun q => absurd q (by omega)) (fun _ => ?_)
        refine aw_aload_n dX8_readCousinOf_27 rfl rfl ?_
        refine aw_iconst (v := nI 1) dX8_readCousinOf_28 (by decide) ?_
        refine aw_iconst (v := nI 0) dX8_readCousinOf_29 (by decide) ?_
        refine aw_bipush (v := nI 59) dX8_readCousinOf_30 (by decide) ?_
        refine aw_callVF dX8_readCousinOf_32 kX8_97 (m_isTold (by omega) q31 (hb 1) (by omega)) (by first | assumption | rfl) rfl rfl rfl (Nat.le_of_ble_eq_true rfl) (Nat.le_of_ble_eq_true rfl) ?_
        dsimp only [Option.toList, List.cons_append, List.nil_append, Nat.reduceAdd]
        by_cases c1 : w.1.getD 1 0 ≤ 59
        · rw [if_pos c1]
          refine aw_if_eqN (tgt := 49) dX8_readCousinOf_35 (by decide) (by omega) (fun q => absurd q (by omega)) (fun _ => ?_)
          refine aw_aload_n dX8_readCousinOf_38 rfl rfl ?_
          refine aw_iconst (v := nI 2) dX8_readCousinOf_39 (by decide) ?_
          refine aw_iconst (v := nI 0) dX8_readCousinOf_40 (by decide) ?_
          refine aw_bipush (v := nI 9) dX8_readCousinOf_41 (by decide) ?_
          refine aw_callVF dX8_readCousinOf_43 kX8_97 (m_isTold (by omega) q32 (hb 2) (by omega)) (by first | assumption | rfl) rfl rfl rfl (Nat.le_of_ble_eq_true rfl) (Nat.le_of_ble_eq_true rfl) ?_
          dsimp only [Option.toList, List.cons_append, List.nil_append, Nat.reduceAdd]
          by_cases c2 : w.1.getD 2 0 ≤ 9
          · rw [if_pos c2]
            have hok : okC P (w.1.getD 0 0) (w.1.getD 1 0) (w.1.getD 2 0) := ⟨by omega, c0, c1, c2⟩
            have ez : itC (ltr T n) a P = some (addC P (w.1.getD 0 0) (w.1.getD 1 0) (w.1.getD 2 0), w.2) := by unfold itC; rw [hz]; dsimp only; rw [if_pos hok]
            refine aw_if_neN (tgt := 51) dX8_readCousinOf_46 (by decide) (by omega) (fun _ => ?_) (fun q => absurd q (by omega))
            refine aw_aload_n dX8_readCousinOf_51 rfl rfl ?_
            refine aw_aload_n dX8_readCousinOf_52 rfl rfl ?_
            refine aw_getR dX8_readCousinOf_53 fX8_34 (by first | assumption | rfl) (by rfl) ?_
            refine aw_iconst (v := nI 0) dX8_readCousinOf_56 (by decide) ?_
            refine aw_iaload dX8_readCousinOf_57 (by first | assumption | rfl) (by omega) (by omega) ?_
            refine aw_aload_n dX8_readCousinOf_58 rfl rfl ?_
            refine aw_getR dX8_readCousinOf_59 fX8_34 (by first | assumption | rfl) (by rfl) ?_
            refine aw_iconst (v := nI 1) dX8_readCousinOf_62 (by decide) ?_
            refine aw_iaload dX8_readCousinOf_63 (by first | assumption | rfl) (by omega) (by omega) ?_
            refine aw_aload_n dX8_readCousinOf_64 rfl rfl ?_
            refine aw_getR dX8_readCousinOf_65 fX8_34 (by first | assumption | rfl) (by rfl) ?_
            refine aw_iconst (v := nI 2) dX8_readCousinOf_68 (by decide) ?_
            refine aw_iaload dX8_readCousinOf_69 (by first | assumption | rfl) (by omega) (by omega) ?_
            rw [q30, q31, q32]
            refine aw_callV dX8_readCousinOf_70 kX8_55 (m_tellsCousin d3 hP (by omega)) (by first | assumption | rfl) rfl rfl rfl (Nat.le_of_ble_eq_true rfl) (Nat.le_of_ble_eq_true rfl) ?_
            rintro _ h4 ⟨rfl, d4, f4, e4⟩
            dsimp only [Option.toList, List.cons_append, List.nil_append, Nat.reduceAdd]
            refine aw_iconst (v := nI 1) dX8_readCousinOf_73 (by decide) ?_
            refine aw_iret dX8_readCousinOf_74 rfl (by first | rfl | exact (pk_charN (by omega)).1 | decide) ?_
            refine ⟨(FMD.of3 f3).trans f4, ?_⟩
            rw [ez]
            exact ⟨rfl, d4, e4.trans q2⟩
          · rw [if_neg c2]
            refine aw_if_neN (tgt := 51) dX8_readCousinOf_46 (by decide) (by omega) (fun q => absurd q (by omega)) (fun _ => ?_)
            exact bad (fun q => c2 q.2.2.2)
        · rw [if_neg c1]
          refine aw_if_eqN (tgt := 49) dX8_readCousinOf_35 (by decide) (by omega) (fun _ => ?_) (fun q => absurd q (by omega))
          exact bad (fun q => c1 q.2.2.1)
      · rw [if_neg c0]
        refine aw_if_eqN (tgt := 49) dX8_readCousinOf_24 (by decide) (by omega) (fun _ => ?_) (fun q => absurd q (by omega))
        exact bad (fun q => c0 q.2.1)
theorem m_readRoomOf {d n a : Nat} {h : Hp} {T : Nat → Nat} {P : PS} (ht : MT h T n a) (hk : TOk T n) (ha : a ≤ 300) (hd0 : DM h P) (hP : PSOk P) : RT mX8_readRoomOf (d + 3) [.ref 67] h (miQ (itR (ltr T n) a P) h) := by
  have hl := ltr_lt hk
  have e1 := hd0.2.1
  have hn8 := hP.2.1
  change AW mX8_readRoomOf _ 0 [some (.ref 67)] [] h _
  refine aw_aload_n dX8_readRoomOf_0 rfl rfl ?_
  refine aw_getI dX8_readRoomOf_1 fX8_70 (by first | assumption | rfl) (by rfl) ?_
  rw [e1]
  refine aw_bipush (v := nI 8) dX8_readRoomOf_4 (by decide) ?_
  refine aw_icmp_eqN (tgt := 39) dX8_readRoomOf_6 (by decide) (by omega) (by omega) (fun c6 => ?_) (fun c6 => ?_)
  · have ez : itR (ltr T n) a P = none := by
      unfold itR
      split
      · rfl
      · exact if_neg (fun q => by have := q.1; omega)
    refine aw_iconst (v := nI 0) dX8_readRoomOf_39 (by decide) ?_
    refine aw_iret dX8_readRoomOf_40 rfl (by first | rfl | exact (pk_charN (by omega)).1 | decide) ?_
    exact ⟨FMD.rf, by rw [ez]⟩
  · refine aw_aload_n dX8_readRoomOf_9 rfl rfl ?_
    refine aw_iconst (v := nI 2) dX8_readRoomOf_10 (by decide) ?_
    refine aw_callV dX8_readRoomOf_11 kX8_94 (m_readNumbers ht hk ha (by omega)) (by first | assumption | rfl) rfl rfl rfl (Nat.le_of_ble_eq_true rfl) (Nat.le_of_ble_eq_true rfl) ?_
    rintro v h3 ⟨f3, hq⟩
    dsimp only [Option.toList, List.cons_append, List.nil_append, Nat.reduceAdd]
    cases hz : nmL (ltr T n) 2 a with
    | none =>
      rw [hz] at hq
      dsimp only at hq
      subst hq
      have ez : itR (ltr T n) a P = none := by unfold itR; rw [hz]
      refine aw_if_eqN (tgt := 39) dX8_readRoomOf_14 (by decide) (by omega) (fun _ => ?_) (fun q => absurd q (by omega))
      refine aw_iconst (v := nI 0) dX8_readRoomOf_39 (by decide) ?_
      refine aw_iret dX8_readRoomOf_40 rfl (by first | rfl | exact (pk_charN (by omega)).1 | decide) ?_
      exact ⟨FMD.of3 f3, by rw [ez]⟩
    | some w =>
      rw [hz] at hq
      obtain ⟨rfl, q2, q3, q4⟩ := hq
      have q30 : h3 76 0 = w.1.getD 0 0 := q3 0 (by decide)
      have q31 : h3 76 1 = w.1.getD 1 0 := q3 1 (by decide)
      have hb := (nmL_lt hl 2 _ w hz).2.2
      have d3 : DM h3 P := hd0.fr f3
      have bad : ¬ okR P (w.1.getD 0 0) (w.1.getD 1 0) → AW mX8_readRoomOf (d + 3) 39 [some (.ref 67)] [] h3 (miQ (itR (ltr T n) a P) h) := by
        intro hbd
        have ez : itR (ltr T n) a P = none := by unfold itR; rw [hz]; dsimp only; rw [if_neg hbd]
        refine aw_iconst (v := nI 0) dX8_readRoomOf_39 (by decide) ?_
        refine aw_iret dX8_readRoomOf_40 rfl (by first | rfl | exact (pk_charN (by omega)).1 | decide) ?_
        exact ⟨FMD.of3 f3, by rw [ez]⟩
      refine aw_if_eqN (tgt := 39) dX8_readRoomOf_14 (by decide) (by omega) (fun q => absurd q (by omega)) (fun _ => ?_)
      refine aw_aload_n dX8_readRoomOf_17 rfl rfl ?_
      refine aw_iconst (v := nI 0) dX8_readRoomOf_18 (by decide) ?_
      refine aw_iconst (v := nI 0) dX8_readRoomOf_19 (by decide) ?_
      refine aw_bipush (v := nI 9) dX8_readRoomOf_20 (by decide) ?_
      refine aw_callVF dX8_readRoomOf_22 kX8_97 (m_isTold (by omega) q30 (hb 0) (by omega)) (by first | assumption | rfl) rfl rfl rfl (Nat.le_of_ble_eq_true rfl) (Nat.le_of_ble_eq_true rfl) ?_
      dsimp only [Option.toList, List.cons_append, List.nil_append, Nat.reduceAdd]
      by_cases c0 : w.1.getD 0 0 ≤ 9
      · rw [if_pos c0]
        refine aw_if_eqN (tgt := 39) dX8_readRoomOf_25 (by decide) (by omega) (fun q => absurd q (by omega)) (fun _ => ?_)
        refine aw_aload_n dX8_readRoomOf_28 rfl rfl ?_
        refine aw_iconst (v := nI 1) dX8_readRoomOf_29 (by decide) ?_
        refine aw_iconst (v := nI 0) dX8_readRoomOf_30 (by decide) ?_
        refine aw_bipush (v := nI 9) dX8_readRoomOf_31 (by decide) ?_
        refine aw_callVF dX8_readRoomOf_33 kX8_97 (m_isTold (by omega) q31 (hb 1) (by omega)) (by first | assumption | rfl) rfl rfl rfl (Nat.le_of_ble_eq_true rfl) (Nat.le_of_ble_eq_true rfl) ?_
        dsimp only [Option.toList, List.cons_append, List.nil_append, Nat.reduceAdd]
        by_cases c1 : w.1.getD 1 0 ≤ 9
        · rw [if_pos c1]
          have hok : okR P (w.1.getD 0 0) (w.1.getD 1 0) := ⟨by omega, c0, c1⟩
          have ez : itR (ltr T n) a P = some (addR P (w.1.getD 0 0) (w.1.getD 1 0), w.2) := by unfold itR; rw [hz]; dsimp only; rw [if_pos hok]
          refine aw_if_neN (tgt := 41) dX8_readRoomOf_36 (by decide) (by omega) (fun _ => ?_) (fun q => absurd q (by omega))
          refine aw_aload_n dX8_readRoomOf_41 rfl rfl ?_
          refine aw_aload_n dX8_readRoomOf_42 rfl rfl ?_
          refine aw_getR dX8_readRoomOf_43 fX8_34 (by first | assumption | rfl) (by rfl) ?_
          refine aw_iconst (v := nI 0) dX8_readRoomOf_46 (by decide) ?_
          refine aw_iaload dX8_readRoomOf_47 (by first | assumption | rfl) (by omega) (by omega) ?_
          refine aw_aload_n dX8_readRoomOf_48 rfl rfl ?_
          refine aw_getR dX8_readRoomOf_49 fX8_34 (by first | assumption | rfl) (by rfl) ?_
          refine aw_iconst (v := nI 1) dX8_readRoomOf_52 (by decide) ?_
          refine aw_iaload dX8_readRoomOf_53 (by first | assumption | rfl) (by omega) (by omega) ?_
          rw [q30, q31]
          refine aw_callV dX8_readRoomOf_54 kX8_59 (m_tellsRoom d3 hP (by omega)) (by first | assumption | rfl) rfl rfl rfl (Nat.le_of_ble_eq_true rfl) (Nat.le_of_ble_eq_true rfl) ?_
          rintro _ h4 ⟨rfl, d4, f4, e4⟩
          dsimp only [Option.toList, List.cons_append, List.nil_append, Nat.reduceAdd]
          refine aw_iconst (v := nI 1) dX8_readRoomOf_57 (by decide) ?_
          refine aw_iret dX8_readRoomOf_58 rfl (by first | rfl | exact (pk_charN (by omega)).1 | decide) ?_
          refine ⟨(FMD.of3 f3).trans f4, ?_⟩
          rw [ez]
          exact ⟨rfl, d4, e4.trans q2⟩
        · rw [if_neg c1]
          refine aw_if_neN (tgt := 41) dX8_readRoomOf_36 (by decide) (by omega) (fun q => absurd q (by omega)) (fun _ => ?_)
          exact bad (fun q => c1 q.2.2)
      · rw [if_neg c0]
        refine aw_if_eqN (tgt := 39) dX8_readRoomOf_25 (by decide) (by omega) (fun _ => ?_) (fun q => absurd q (by omega))
        exact bad (fun q => c0 q.2.1)
