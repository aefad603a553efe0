/-! what a text tells: cousins (how many, kinds, birthdays, wants), rooms (how many, suns) -/
abbrev PS : Type := Nat × (Nat → Nat) × (Nat → Nat) × (Nat → Nat) × Nat × (Nat → Nat) × (Nat → Nat)
def pn (P : PS) : Nat := P.1
def pK (P : PS) : Nat → Nat := P.2.1
def pb (P : PS) : Nat → Nat := P.2.2.1
def pW (P : PS) : Nat → Nat := P.2.2.2.1
def pm (P : PS) : Nat := P.2.2.2.2.1
def pA (P : PS) : Nat → Nat := P.2.2.2.2.2.1
def pB (P : PS) : Nat → Nat := P.2.2.2.2.2.2
def fu (f : Nat → Nat) (k v : Nat) : Nat → Nat := fun j => if j = k then v else f j
def addC (P : PS) (x y z : Nat) : PS := (pn P + 1, fu (pK P) (pn P) x, fu (pb P) (pn P) y, fu (pW P) (pn P) z, pm P, pA P, pB P)
def addR (P : PS) (x y : Nat) : PS := (pn P, pK P, pb P, pW P, pm P + 1, fu (pA P) (pm P) x, fu (pB P) (pm P) y)
abbrev okC (P : PS) (x y z : Nat) : Prop := pn P < 8 ∧ x ≤ 3 ∧ y ≤ 59 ∧ z ≤ 9
abbrev okR (P : PS) (x y : Nat) : Prop := pm P < 8 ∧ x ≤ 9 ∧ y ≤ 9
noncomputable def itS (l : Nat → Nat) (a : Nat) (P : PS) : Option (PS × Nat) :=
  if l a = 99 then (match nmL l 3 (a + 1) with
    | none => none
    | some w => if okC P (w.1.getD 0 0) (w.1.getD 1 0) (w.1.getD 2 0) then some (addC P (w.1.getD 0 0) (w.1.getD 1 0) (w.1.getD 2 0), w.2) else none)
  else if l a = 114 then (match nmL l 2 (a + 1) with
    | none => none
    | some w => if okR P (w.1.getD 0 0) (w.1.getD 1 0) then some (addR P (w.1.getD 0 0) (w.1.getD 1 0), w.2) else none)
  else none
noncomputable def psr (l : Nat → Nat) (n : Nat) : Nat → Nat → PS → Nat ⊕ PS
  | 0, _, P => .inr P
  | t + 1, a, P => if a < n then (match itS l a P with
    | none => .inl a
    | some q => psr l n t q.2 q.1) else .inr P
def PSOk (P : PS) : Prop := pn P ≤ 8 ∧ pm P ≤ 8 ∧ (∀ i, i < pn P → pK P i ≤ 3 ∧ pb P i ≤ 59 ∧ pW P i ≤ 9) ∧ ∀ r, r < pm P → pA P r ≤ 9 ∧ pB P r ≤ 9
theorem PSOk.addC {P : PS} {x y z : Nat} (hP : PSOk P) (hc : okC P x y z) : PSOk (addC P x y z) := by
  obtain ⟨a1, a2, a3, a4⟩ := hP
  obtain ⟨c1, c2, c3, c4⟩ := hc
  refine ⟨c1, a2, fun i hi => ?_, a4⟩
  show fu (pK P) (pn P) x i ≤ 3 ∧ fu (pb P) (pn P) y i ≤ 59 ∧ fu (pW P) (pn P) z i ≤ 9
  have hi : i < pn P + 1 := hi
  unfold fu
  by_cases q : i = pn P
  · rw [if_pos q, if_pos q, if_pos q]; exact ⟨c2, c3, c4⟩
  · rw [if_neg q, if_neg q, if_neg q]; exact a3 i (by omega)
theorem PSOk.addR {P : PS} {x y : Nat} (hP : PSOk P) (hc : okR P x y) : PSOk (addR P x y) := by
  obtain ⟨a1, a2, a3, a4⟩ := hP
  obtain ⟨c1, c2, c3⟩ := hc
  refine ⟨a1, c1, a3, fun i hi => ?_⟩
  show fu (pA P) (pm P) x i ≤ 9 ∧ fu (pB P) (pm P) y i ≤ 9
  have hi : i < pm P + 1 := hi
  unfold fu
  by_cases q : i = pm P
  · rw [if_pos q, if_pos q]; exact ⟨c2, c3⟩
  · rw [if_neg q, if_neg q]; exact a4 i (by omega)
theorem nsp_lt {l : Nat → Nat} (hl : ∀ k, l k ≤ 126) {sep a : Nat} {q : Nat × Nat} (h2 : nsp l sep a = some q) : q.1 ≤ 99 ∧ a < q.2 ∧ q.2 ≤ a + 3 := by
  unfold nsp at h2
  cases h6 : nu1 l a with
  | none => rw [h6] at h2; cases h2
  | some q1 =>
    rw [h6] at h2
    dsimp only at h2
    split at h2
    · have h7 := Option.some.inj h2
      obtain ⟨y1, y2, y3⟩ := nu1_lt (x := q1.1) (a2 := q1.2) hl h6
      rw [← h7]
      dsimp only
      omega
    · cases h2
theorem nmL_lt {l : Nat → Nat} (hl : ∀ k, l k ≤ 126) : ∀ r a w, nmL l r a = some w → a ≤ w.2 ∧ w.2 ≤ a + 3 * r ∧ ∀ j, w.1.getD j 0 ≤ 99 := by
  intro r
  induction r with
  | zero =>
    intro a w h1
    have h2 := Option.some.inj (show some ([], a) = some w from h1)
    subst h2
    exact ⟨Nat.le_refl _, Nat.le_refl _, fun j => by simp⟩
  | succ r ih =>
    intro a w h1
    unfold nmL at h1
    cases h2 : nsp l (if r = 0 then 59 else 44) a with
    | none => rw [h2] at h1; cases h1
    | some q =>
      rw [h2] at h1
      dsimp only at h1
      cases h3 : nmL l r q.2 with
      | none => rw [h3] at h1; cases h1
      | some w2 =>
        rw [h3] at h1
        have h4 := Option.some.inj h1
        obtain ⟨i1, i2, i3⟩ := ih q.2 w2 h3
        have h5 := nsp_lt hl h2
        rw [← h4]
        refine ⟨by dsimp only; omega, by dsimp only; omega, fun j => ?_⟩
        cases j with
        | zero => exact h5.1
        | succ j => exact i3 j
theorem itS_lt {l : Nat → Nat} (hl : ∀ k, l k ≤ 126) {a : Nat} {P : PS} {q : PS × Nat} (hP : PSOk P) (h1 : itS l a P = some q) : a < q.2 ∧ q.2 ≤ a + 10 ∧ PSOk q.1 := by
  unfold itS at h1
  split at h1
  · cases h2 : nmL l 3 (a + 1) with
    | none => rw [h2] at h1; cases h1
    | some w =>
      rw [h2] at h1
      dsimp only at h1
      have h3 := nmL_lt hl 3 (a + 1) w h2
      split at h1
      · have h4 := Option.some.inj h1
        rw [← h4]
        exact ⟨by dsimp only; omega, by dsimp only; omega, hP.addC (by assumption)⟩
      · cases h1
  · split at h1
    · cases h2 : nmL l 2 (a + 1) with
      | none => rw [h2] at h1; cases h1
      | some w =>
        rw [h2] at h1
        dsimp only at h1
        have h3 := nmL_lt hl 2 (a + 1) w h2
        split at h1
        · have h4 := Option.some.inj h1
          rw [← h4]
          exact ⟨by dsimp only; omega, by dsimp only; omega, hP.addR (by assumption)⟩
        · cases h1
    · cases h1
theorem psr_ok {l : Nat → Nat} {n : Nat} (hl : ∀ k, l k ≤ 126) : ∀ t a P P2, PSOk P → psr l n t a P = .inr P2 → PSOk P2 := by
  intro t
  induction t with
  | zero => intro a P P2 hP h1; cases h1; exact hP
  | succ t ih =>
    intro a P P2 hP h1
    unfold psr at h1
    split at h1
    · cases h2 : itS l a P with
      | none => rw [h2] at h1; cases h1
      | some q =>
        rw [h2] at h1
        exact ih _ _ _ (itS_lt hl hP h2).2.2 h1
    · cases h1; exact hP
/-- the draft: object 10 with rows 11 .. 15 -/
def DR (h : Hp) (P : PS) : Prop := h 10 5 = pn P ∧ h 10 6 = pm P ∧ (∀ i, i < pn P → h 11 i = pK P i ∧ h 12 i = pb P i ∧ h 13 i = pW P i) ∧ ∀ r, r < pm P → h 14 r = pA P r ∧ h 15 r = pB P r
def FD (h h' : Hp) : Prop := ∀ o, o < 10 ∨ 15 < o → h' o = h o
theorem c_P_clear {d : Nat} {h : Hp} : RT mX1_clear d [.ref 10] h (fun v h' => v = none ∧ h' = hw (hw h 10 5 0) 10 6 0) := by
  change AW mX1_clear _ 0 [some (.ref 10)] [] h _
  refine aw_aload_n dX1_clear_0 rfl rfl ?_
  refine aw_iconst (v := nI 0) dX1_clear_1 (by decide) ?_
  refine aw_putfield dX1_clear_2 gX1_27 (by first | assumption | rfl) (by rfl) ?_
  refine aw_aload_n dX1_clear_5 rfl rfl ?_
  refine aw_iconst (v := nI 0) dX1_clear_6 (by decide) ?_
  refine aw_putfield dX1_clear_7 gX1_31 (by first | assumption | rfl) (by rfl) ?_
  refine aw_vret dX1_clear_10 rfl ?_
  exact ⟨rfl, rfl⟩
theorem c_P_canBeLaid {d : Nat} {h : Hp} {P : PS} (hd0 : DR h P) (hP : PSOk P) : RT mX1_canBeLaid d [.ref 10] h (fun v h' => v = some (.int (nI (if 1 ≤ pn P ∧ pm P = pn P then 1 else 0))) ∧ h' = h) := by
  obtain ⟨e1, e2, _, _⟩ := hd0
  obtain ⟨a1, a2, _, _⟩ := hP
  change AW mX1_canBeLaid _ 0 [some (.ref 10)] [] h _
  refine aw_aload_n dX1_canBeLaid_0 rfl rfl ?_
  refine aw_getI dX1_canBeLaid_1 fX1_27 (by first | assumption | rfl) (by rfl) ?_
  refine aw_iconst (v := nI 1) dX1_canBeLaid_4 (by decide) ?_
  refine aw_icmp_ltN (tgt := 23) dX1_canBeLaid_5 (by decide) (by omega) (by omega) (fun c5 => ?_) (fun c5 => ?_)
  · rw [if_neg (by omega)]
    refine aw_iconst (v := nI 0) dX1_canBeLaid_23 (by decide) ?_
    refine aw_iret dX1_canBeLaid_24 rfl (by first | rfl | exact (pk_charN (by omega)).1 | decide) ?_
    exact ⟨rfl, rfl⟩
  · refine aw_aload_n dX1_canBeLaid_8 rfl rfl ?_
    refine aw_getI dX1_canBeLaid_9 fX1_31 (by first | assumption | rfl) (by rfl) ?_
    refine aw_aload_n dX1_canBeLaid_12 rfl rfl ?_
    refine aw_getI dX1_canBeLaid_13 fX1_27 (by first | assumption | rfl) (by rfl) ?_
    refine aw_icmp_neN (tgt := 23) dX1_canBeLaid_16 (by decide) (by omega) (by omega) (fun c16 => ?_) (fun c16 => ?_)
    · rw [if_neg (by omega)]
      refine aw_iconst (v := nI 0) dX1_canBeLaid_23 (by decide) ?_
      refine aw_iret dX1_canBeLaid_24 rfl (by first | rfl | exact (pk_charN (by omega)).1 | decide) ?_
      exact ⟨rfl, rfl⟩
    · rw [if_pos (by omega)]
      refine aw_iconst (v := nI 1) dX1_canBeLaid_19 (by decide) ?_
      refine aw_goto (tgt := 24) dX1_canBeLaid_20 (by decide) ?_
      refine aw_iret dX1_canBeLaid_24 rfl (by first | rfl | exact (pk_charN (by omega)).1 | decide) ?_
      exact ⟨rfl, rfl⟩
theorem c_P_addCousin {d x y z : Nat} {h : Hp} {P : PS} (hd0 : DR h P) (hP : PSOk P) (hx : x ≤ 99) (hy : y ≤ 99) (hz : z ≤ 99) : RT mX1_addCousin (d + 1) [.ref 10, .int (nI x), .int (nI y), .int (nI z)] h (fun v h' => (okC P x y z ∧ v = some (.int (nI 1)) ∧ DR h' (addC P x y z) ∧ FD h h') ∨ (¬ okC P x y z ∧ v = some (.int (nI 0)) ∧ h' = h)) := by
  obtain ⟨e1, e2, e3, e4⟩ := id hd0
  obtain ⟨a1, a2, _, _⟩ := hP
  have bad : ¬ okC P x y z → AW mX1_addCousin (d + 1) 38 [some (.ref 10), some (.int (nI x)), some (.int (nI y)), some (.int (nI z))] [] h (fun v h' => (okC P x y z ∧ v = some (.int (nI 1)) ∧ DR h' (addC P x y z) ∧ FD h h') ∨ (¬ okC P x y z ∧ v = some (.int (nI 0)) ∧ h' = h)) := by
    intro hb
    refine aw_iconst (v := nI 0) dX1_addCousin_38 (by decide) ?_
    refine aw_iret dX1_addCousin_39 rfl (by first | rfl | exact (pk_charN (by omega)).1 | decide) ?_
    exact Or.inr ⟨hb, rfl, rfl⟩
  change AW mX1_addCousin _ 0 [some (.ref 10), some (.int (nI x)), some (.int (nI y)), some (.int (nI z))] [] h _
  refine aw_aload_n dX1_addCousin_0 rfl rfl ?_
  refine aw_getI dX1_addCousin_1 fX1_27 (by first | assumption | rfl) (by rfl) ?_
  refine aw_bipush (v := nI 8) dX1_addCousin_4 (by decide) ?_
  refine aw_icmp_geN (tgt := 38) dX1_addCousin_6 (by decide) (by omega) (by omega) (fun c6 => ?_) (fun c6 => ?_)
  · exact bad (fun q => by have := q.1; omega)
  · refine aw_iload_n dX1_addCousin_9 rfl rfl ?_
    refine aw_iconst (v := nI 0) dX1_addCousin_10 (by decide) ?_
    refine aw_iconst (v := nI 3) dX1_addCousin_11 (by decide) ?_
    refine aw_callSF dX1_addCousin_12 kX1_34 (c_withinN (by omega) (by omega) (by omega)) rfl rfl rfl (Nat.le_of_ble_eq_true rfl) (Nat.le_of_ble_eq_true rfl) ?_
    dsimp only [Option.toList, List.cons_append, List.nil_append, Nat.reduceAdd]
    by_cases q1 : x ≤ 3
    · rw [if_pos ⟨Nat.zero_le _, q1⟩]
      refine aw_if_eqN (tgt := 38) dX1_addCousin_15 (by decide) (by omega) (fun q => absurd q (by omega)) (fun _ => ?_)
      refine aw_iload_n dX1_addCousin_18 rfl rfl ?_
      refine aw_iconst (v := nI 0) dX1_addCousin_19 (by decide) ?_
      refine aw_bipush (v := nI 59) dX1_addCousin_20 (by decide) ?_
      refine aw_callSF dX1_addCousin_22 kX1_34 (c_withinN (by omega) (by omega) (by omega)) rfl rfl rfl (Nat.le_of_ble_eq_true rfl) (Nat.le_of_ble_eq_true rfl) ?_
      dsimp only [Option.toList, List.cons_append, List.nil_append, Nat.reduceAdd]
      by_cases q2 : y ≤ 59
      · rw [if_pos ⟨Nat.zero_le _, q2⟩]
        refine aw_if_eqN (tgt := 38) dX1_addCousin_25 (by decide) (by omega) (fun q => absurd q (by omega)) (fun _ => ?_)
        refine aw_iload_n dX1_addCousin_28 rfl rfl ?_
        refine aw_iconst (v := nI 0) dX1_addCousin_29 (by decide) ?_
        refine aw_bipush (v := nI 9) dX1_addCousin_30 (by decide) ?_
        refine aw_callSF dX1_addCousin_32 kX1_34 (c_withinN (by omega) (by omega) (by omega)) rfl rfl rfl (Nat.le_of_ble_eq_true rfl) (Nat.le_of_ble_eq_true rfl) ?_
        dsimp only [Option.toList, List.cons_append, List.nil_append, Nat.reduceAdd]
        by_cases q3 : z ≤ 9
        · rw [if_pos ⟨Nat.zero_le _, q3⟩]
          refine aw_if_neN (tgt := 40) dX1_addCousin_35 (by decide) (by omega) (fun _ => ?_) (fun q => absurd q (by omega))
          refine aw_aload_n dX1_addCousin_40 rfl rfl ?_
          refine aw_getR dX1_addCousin_41 fX1_9 (by first | assumption | rfl) (by rfl) ?_
          refine aw_aload_n dX1_addCousin_44 rfl rfl ?_
          refine aw_getI dX1_addCousin_45 fX1_27 (by first | assumption | rfl) (by rfl) ?_
          refine aw_iload_n dX1_addCousin_48 rfl rfl ?_
          rw [e1]
          refine aw_callSF dX1_addCousin_49 kX1_38 (c_put (by first | assumption | rfl) (by omega) (by decide)) rfl rfl rfl (Nat.le_of_ble_eq_true rfl) (Nat.le_of_ble_eq_true rfl) ?_
          dsimp only [Option.toList, List.cons_append, List.nil_append, Nat.reduceAdd]
          refine aw_aload_n dX1_addCousin_52 rfl rfl ?_
          refine aw_getR dX1_addCousin_53 fX1_15 (by first | assumption | rfl) (by rfl) ?_
          refine aw_aload_n dX1_addCousin_56 rfl rfl ?_
          refine aw_getI dX1_addCousin_57 fX1_27 (by first | assumption | rfl) (by rfl) ?_
          refine aw_iload_n dX1_addCousin_60 rfl rfl ?_
          rw [hw_ne (by decide), e1]
          refine aw_callSF dX1_addCousin_61 kX1_38 (c_put (by first | assumption | rfl) (by omega) (by decide)) rfl rfl rfl (Nat.le_of_ble_eq_true rfl) (Nat.le_of_ble_eq_true rfl) ?_
          dsimp only [Option.toList, List.cons_append, List.nil_append, Nat.reduceAdd]
          refine aw_aload_n dX1_addCousin_64 rfl rfl ?_
          refine aw_getR dX1_addCousin_65 fX1_18 (by first | assumption | rfl) (by rfl) ?_
          refine aw_aload_n dX1_addCousin_68 rfl rfl ?_
          refine aw_getI dX1_addCousin_69 fX1_27 (by first | assumption | rfl) (by rfl) ?_
          refine aw_iload_n dX1_addCousin_72 rfl rfl ?_
          rw [hw_ne (by decide), hw_ne (by decide), e1]
          refine aw_callSF dX1_addCousin_73 kX1_38 (c_put (by first | assumption | rfl) (by omega) (by decide)) rfl rfl rfl (Nat.le_of_ble_eq_true rfl) (Nat.le_of_ble_eq_true rfl) ?_
          dsimp only [Option.toList, List.cons_append, List.nil_append, Nat.reduceAdd]
          refine aw_aload_n dX1_addCousin_76 rfl rfl ?_
          refine aw_dup dX1_addCousin_77 rfl ?_
          refine aw_getI dX1_addCousin_78 fX1_27 (by first | assumption | rfl) (by rfl) ?_
          refine aw_iconst (v := nI 1) dX1_addCousin_81 (by decide) ?_
          refine aw_iaddN dX1_addCousin_82 ?_
          rw [hw_ne (by decide), hw_ne (by decide), hw_ne (by decide), e1]
          refine aw_putfield dX1_addCousin_83 gX1_27 (by first | assumption | rfl) (by rfl) ?_
          refine aw_iconst (v := nI 1) dX1_addCousin_86 (by decide) ?_
          refine aw_iret dX1_addCousin_87 rfl (by first | rfl | exact (pk_charN (by omega)).1 | decide) ?_
          refine Or.inl ⟨⟨by omega, q1, q2, q3⟩, rfl, ⟨?_, ?_, fun i hi => ?_, fun r hr => ?_⟩, fun o ho => ?_⟩
          · rw [hw_at, if_pos rfl]; rfl
          · rw [hw_at, if_neg (by decide), hw_ne (by decide), hw_ne (by decide), hw_ne (by decide)]; exact e2
          · have hi : i < pn P + 1 := hi
            show _ = fu (pK P) (pn P) x i ∧ _ = fu (pb P) (pn P) y i ∧ _ = fu (pW P) (pn P) z i
            unfold fu
            by_cases qi : i = pn P
            · subst qi
              rw [if_pos rfl, if_pos rfl, if_pos rfl]
              refine ⟨?_, ?_, ?_⟩
              · rw [hw_ne (by decide), hw_ne (by decide), hw_ne (by decide), hw_at, if_pos rfl]
              · rw [hw_ne (by decide), hw_ne (by decide), hw_at, if_pos rfl]
              · rw [hw_ne (by decide), hw_at, if_pos rfl]
            · rw [if_neg qi, if_neg qi, if_neg qi]
              have := e3 i (by omega)
              refine ⟨?_, ?_, ?_⟩
              · rw [hw_ne (by decide), hw_ne (by decide), hw_ne (by decide), hw_at, if_neg qi]; exact this.1
              · rw [hw_ne (by decide), hw_ne (by decide), hw_at, if_neg qi, hw_ne (by decide)]; exact this.2.1
              · rw [hw_ne (by decide), hw_at, if_neg qi, hw_ne (by decide), hw_ne (by decide)]; exact this.2.2
          · have := e4 r hr
            show _ = pA P r ∧ _ = pB P r
            rw [hw_ne (a := 14) (by decide), hw_ne (a := 14) (by decide), hw_ne (a := 14) (by decide), hw_ne (a := 14) (by decide), hw_ne (a := 15) (by decide), hw_ne (a := 15) (by decide), hw_ne (a := 15) (by decide), hw_ne (a := 15) (by decide)]
            exact this
          · rw [hw_ne (by omega), hw_ne (by omega), hw_ne (by omega), hw_ne (by omega)]
        · rw [if_neg (by omega)]
          refine aw_if_neN (tgt := 40) dX1_addCousin_35 (by decide) (by omega) (fun q => absurd q (by omega)) (fun _ => ?_)
          exact bad (fun q => by have := q.2.2.2; omega)
      · rw [if_neg (by omega)]
        refine aw_if_eqN (tgt := 38) dX1_addCousin_25 (by decide) (by omega) (fun _ => ?_) (fun q => absurd q (by omega))
        exact bad (fun q => by have := q.2.2.1; omega)
    · rw [if_neg (by omega)]
      refine aw_if_eqN (tgt := 38) dX1_addCousin_15 (by decide) (by omega) (fun _ => ?_) (fun q => absurd q (by omega))
      exact bad (fun q => by have := q.2.1; omega)
theorem c_P_addRoom {d x y : Nat} {h : Hp} {P : PS} (hd0 : DR h P) (hP : PSOk P) (hx : x ≤ 99) (hy : y ≤ 99) : RT mX1_addRoom (d + 1) [.ref 10, .int (nI x), .int (nI y)] h (fun v h' => (okR P x y ∧ v = some (.int (nI 1)) ∧ DR h' (addR P x y) ∧ FD h h') ∨ (¬ okR P x y ∧ v = some (.int (nI 0)) ∧ h' = h)) := by
  obtain ⟨e1, e2, e3, e4⟩ := id hd0
  obtain ⟨a1, a2, _, _⟩ := hP
  have bad : ¬ okR P x y → AW mX1_addRoom (d + 1) 29 [some (.ref 10), some (.int (nI x)), some (.int (nI y))] [] h (fun v h' => (okR P x y ∧ v = some (.int (nI 1)) ∧ DR h' (addR P x y) ∧ FD h h') ∨ (¬ okR P x y ∧ v = some (.int (nI 0)) ∧ h' = h)) := by
    intro hb
    refine aw_iconst (v := nI 0) dX1_addRoom_29 (by decide) ?_
    refine aw_iret dX1_addRoom_30 rfl (by first | rfl | exact (pk_charN (by omega)).1 | decide) ?_
    exact Or.inr ⟨hb, rfl, rfl⟩
  change AW mX1_addRoom _ 0 [some (.ref 10), some (.int (nI x)), some (.int (nI y))] [] h _
  refine aw_aload_n dX1_addRoom_0 rfl rfl ?_
  refine aw_getI dX1_addRoom_1 fX1_31 (by first | assumption | rfl) (by rfl) ?_
  refine aw_bipush (v := nI 8) dX1_addRoom_4 (by decide) ?_
  refine aw_icmp_geN (tgt := 29) dX1_addRoom_6 (by decide) (by omega) (by omega) (fun c6 => ?_) (fun c6 => ?_)
  · exact bad (fun q => by have := q.1; omega)
  · refine aw_iload_n dX1_addRoom_9 rfl rfl ?_
    refine aw_iconst (v := nI 0) dX1_addRoom_10 (by decide) ?_
    refine aw_bipush (v := nI 9) dX1_addRoom_11 (by decide) ?_
    refine aw_callSF dX1_addRoom_13 kX1_34 (c_withinN (by omega) (by omega) (by omega)) rfl rfl rfl (Nat.le_of_ble_eq_true rfl) (Nat.le_of_ble_eq_true rfl) ?_
    dsimp only [Option.toList, List.cons_append, List.nil_append, Nat.reduceAdd]
    by_cases q1 : x ≤ 9
    · rw [if_pos ⟨Nat.zero_le _, q1⟩]
      refine aw_if_eqN (tgt := 29) dX1_addRoom_16 (by decide) (by omega) (fun q => absurd q (by omega)) (fun _ => ?_)
      refine aw_iload_n dX1_addRoom_19 rfl rfl ?_
      refine aw_iconst (v := nI 0) dX1_addRoom_20 (by decide) ?_
      refine aw_bipush (v := nI 9) dX1_addRoom_21 (by decide) ?_
      refine aw_callSF dX1_addRoom_23 kX1_34 (c_withinN (by omega) (by omega) (by omega)) rfl rfl rfl (Nat.le_of_ble_eq_true rfl) (Nat.le_of_ble_eq_true rfl) ?_
      dsimp only [Option.toList, List.cons_append, List.nil_append, Nat.reduceAdd]
      by_cases q2 : y ≤ 9
      · rw [if_pos ⟨Nat.zero_le _, q2⟩]
        refine aw_if_neN (tgt := 31) dX1_addRoom_26 (by decide) (by omega) (fun _ => ?_) (fun q => absurd q (by omega))
        refine aw_aload_n dX1_addRoom_31 rfl rfl ?_
        refine aw_getR dX1_addRoom_32 fX1_21 (by first | assumption | rfl) (by rfl) ?_
        refine aw_aload_n dX1_addRoom_35 rfl rfl ?_
        refine aw_getI dX1_addRoom_36 fX1_31 (by first | assumption | rfl) (by rfl) ?_
        refine aw_iload_n dX1_addRoom_39 rfl rfl ?_
        rw [e2]
        refine aw_callSF dX1_addRoom_40 kX1_38 (c_put (by first | assumption | rfl) (by omega) (by decide)) rfl rfl rfl (Nat.le_of_ble_eq_true rfl) (Nat.le_of_ble_eq_true rfl) ?_
        dsimp only [Option.toList, List.cons_append, List.nil_append, Nat.reduceAdd]
        refine aw_aload_n dX1_addRoom_43 rfl rfl ?_
        refine aw_getR dX1_addRoom_44 fX1_24 (by first | assumption | rfl) (by rfl) ?_
        refine aw_aload_n dX1_addRoom_47 rfl rfl ?_
        refine aw_getI dX1_addRoom_48 fX1_31 (by first | assumption | rfl) (by rfl) ?_
        refine aw_iload_n dX1_addRoom_51 rfl rfl ?_
        rw [hw_ne (by decide), e2]
        refine aw_callSF dX1_addRoom_52 kX1_38 (c_put (by first | assumption | rfl) (by omega) (by decide)) rfl rfl rfl (Nat.le_of_ble_eq_true rfl) (Nat.le_of_ble_eq_true rfl) ?_
        dsimp only [Option.toList, List.cons_append, List.nil_append, Nat.reduceAdd]
        refine aw_aload_n dX1_addRoom_55 rfl rfl ?_
        refine aw_dup dX1_addRoom_56 rfl ?_
        refine aw_getI dX1_addRoom_57 fX1_31 (by first | assumption | rfl) (by rfl) ?_
        refine aw_iconst (v := nI 1) dX1_addRoom_60 (by decide) ?_
        refine aw_iaddN dX1_addRoom_61 ?_
        rw [hw_ne (by decide), hw_ne (by decide), e2]
        refine aw_putfield dX1_addRoom_62 gX1_31 (by first | assumption | rfl) (by rfl) ?_
        refine aw_iconst (v := nI 1) dX1_addRoom_65 (by decide) ?_
        refine aw_iret dX1_addRoom_66 rfl (by first | rfl | exact (pk_charN (by omega)).1 | decide) ?_
        refine Or.inl ⟨⟨by omega, q1, q2⟩, rfl, ⟨?_, ?_, fun i hi => ?_, fun r hr => ?_⟩, fun o ho => ?_⟩
        · rw [hw_at, if_neg (by decide), hw_ne (by decide), hw_ne (by decide)]; exact e1
        · rw [hw_at, if_pos rfl]; rfl
        · have := e3 i hi
          show _ = pK P i ∧ _ = pb P i ∧ _ = pW P i
          rw [hw_ne (a := 11) (by decide), hw_ne (a := 11) (by decide), hw_ne (a := 11) (by decide), hw_ne (a := 12) (by decide), hw_ne (a := 12) (by decide), hw_ne (a := 12) (by decide), hw_ne (a := 13) (by decide), hw_ne (a := 13) (by decide), hw_ne (a := 13) (by decide)]
          exact this
        · have hr : r < pm P + 1 := hr
          show _ = fu (pA P) (pm P) x r ∧ _ = fu (pB P) (pm P) y r
          unfold fu
          by_cases qi : r = pm P
          · subst qi
            rw [if_pos rfl, if_pos rfl]
            refine ⟨?_, ?_⟩
            · rw [hw_ne (by decide), hw_ne (by decide), hw_at, if_pos rfl]
            · rw [hw_ne (by decide), hw_at, if_pos rfl]
          · rw [if_neg qi, if_neg qi]
            have := e4 r (by omega)
            refine ⟨?_, ?_⟩
            · rw [hw_ne (by decide), hw_ne (by decide), hw_at, if_neg qi]; exact this.1
            · rw [hw_ne (by decide), hw_at, if_neg qi, hw_ne (by decide)]; exact this.2
        · rw [hw_ne (by omega), hw_ne (by omega), hw_ne (by omega)]
      · rw [if_neg (by omega)]
        refine aw_if_neN (tgt := 31) dX1_addRoom_26 (by decide) (by omega) (fun q => absurd q (by omega)) (fun _ => ?_)
        exact bad (fun q => by have := q.2.2; omega)
    · rw [if_neg (by omega)]
      refine aw_if_eqN (tgt := 29) dX1_addRoom_16 (by decide) (by omega) (fun _ => ?_) (fun q => absurd q (by omega))
      exact bad (fun q => by have := q.2.1; omega)
def FTD (h h' : Hp) : Prop := h' 1 2 = h 1 2 ∧ ∀ o, o ≠ 1 → o ≠ 3 → (o < 10 ∨ 15 < o) → h' o = h o
theorem FTD.of3 {h h' : Hp} (a : FT3 h h') : FTD h h' := ⟨a.1, fun o p q _ => a.2 o p q⟩
theorem FTD.ofD {h h' : Hp} (a : FD h h') : FTD h h' := ⟨by rw [a 1 (by decide)], fun o _ _ p => a o p⟩
theorem FTD.trans {h h1 h2 : Hp} (a : FTD h h1) (b : FTD h1 h2) : FTD h h2 := ⟨b.1.trans a.1, fun o p q r => (b.2 o p q r).trans (a.2 o p q r)⟩
theorem DR.fr3 {h h' : Hp} {P : PS} (hd0 : DR h P) (hf : FT3 h h') : DR h' P := by
  unfold DR
  rw [hf.2 10 (by decide) (by decide), hf.2 11 (by decide) (by decide), hf.2 12 (by decide) (by decide), hf.2 13 (by decide) (by decide), hf.2 14 (by decide) (by decide), hf.2 15 (by decide) (by decide)]
  exact hd0
theorem TXS.fr {h h' : Hp} {T : Nat → Nat} {n a a2 : Nat} (ht : TXS h T n a) (hf : FTD h h') (ha : h' 1 3 = a2) : TXS h' T n a2 := by
  refine ⟨hf.1.trans ht.1, ha, fun k hk => ?_⟩
  rw [hf.2 2 (by decide) (by decide) (by decide)]
  exact ht.2.2 k hk
def riQ (l : Nat → Nat) (h : Hp) (a : Nat) (P : PS) : Option Value → Hp → Prop := fun v h' => FTD h h' ∧ match itS l a P with
  | none => v = some (.int (nI 0))
  | some q => v = some (.int (nI 1)) ∧ DR h' q.1 ∧ h' 1 3 = q.2
theorem c_T_readItem {d n a : Nat} {h : Hp} {T : Nat → Nat} {P : PS} (ht : TXS h T n a) (hk : TOk T n) (ha : a < n) (hd0 : DR h P) (hP : PSOk P) : RT mX5_readItem (d + 3) [.ref 1, .ref 10] h (riQ (ltr T n) h a P) := by
  have hn := hk.1
  have hl := ltr_lt hk
  have hla := hl a
  have e13 := ht.2.1
  have t2 : TXS (hw h 1 3 (a + 1)) T n (a + 1) := ht.go
  have f2 : FT3 h (hw h 1 3 (a + 1)) := FT3.place
  have d2 : DR (hw h 1 3 (a + 1)) P := hd0.fr3 f2
  change AW mX5_readItem _ 0 [some (.ref 1), some (.ref 10), none] [] h _
  refine aw_aload_n dX5_readItem_0 rfl rfl ?_
  refine aw_callVF dX5_readItem_1 kX5_35 (c_T_letterHere ht hk (by omega)) (by first | assumption | rfl) rfl rfl rfl (Nat.le_of_ble_eq_true rfl) (Nat.le_of_ble_eq_true rfl) ?_
  dsimp only [Option.toList, List.cons_append, List.nil_append, Nat.reduceAdd]
  refine aw_istore_n dX5_readItem_4 rfl (Nat.le_of_ble_eq_true rfl) rfl ?_
  dsimp only [List.set]
  refine aw_aload_n dX5_readItem_5 rfl rfl ?_
  refine aw_dup dX5_readItem_6 rfl ?_
  refine aw_getI dX5_readItem_7 fX5_28 (by first | assumption | rfl) (by rfl) ?_
  refine aw_iconst (v := nI 1) dX5_readItem_10 (by decide) ?_
  refine aw_iaddN dX5_readItem_11 ?_
  rw [e13]
  refine aw_putfield dX5_readItem_12 gX5_28 (by first | assumption | rfl) (by rfl) ?_
  refine aw_iload_n dX5_readItem_15 rfl rfl ?_
  refine aw_bipush (v := nI 99) dX5_readItem_16 (by decide) ?_
  refine aw_icmp_neN (tgt := 66) dX5_readItem_18 (by decide) (by omega) (by omega) (fun c18 => ?_) (fun c18 => ?_)
  · -- no cousin
    refine aw_iload_n dX5_readItem_66 rfl rfl ?_
    refine aw_bipush (v := nI 114) dX5_readItem_67 (by decide) ?_
    refine aw_icmp_neN (tgt := 109) dX5_readItem_69 (by decide) (by omega) (by omega) (fun c69 => ?_) (fun c69 => ?_)
    · -- nothing known
      have ez : itS (ltr T n) a P = none := by unfold itS; rw [if_neg c18, if_neg c69]
      refine aw_iconst (v := nI 0) dX5_readItem_109 (by decide) ?_
      refine aw_iret dX5_readItem_110 rfl (by first | rfl | exact (pk_charN (by omega)).1 | decide) ?_
      exact ⟨FTD.of3 f2, by rw [ez]⟩
    · have hc : ltr T n a = 114 := by omega
      refine aw_aload_n dX5_readItem_72 rfl rfl ?_
      refine aw_iconst (v := nI 2) dX5_readItem_73 (by decide) ?_
      refine aw_callV dX5_readItem_74 kX5_39 (c_T_readNumbers t2 hk (by omega) (by omega)) (by first | assumption | rfl) rfl rfl rfl (Nat.le_of_ble_eq_true rfl) (Nat.le_of_ble_eq_true rfl) ?_
      rintro v h3 ⟨f3, hq⟩
      dsimp only [Option.toList, List.cons_append, List.nil_append, Nat.reduceAdd]
      cases hz : nmL (ltr T n) 2 (a + 1) with
      | none =>
        rw [hz] at hq
        dsimp only at hq
        subst hq
        have ez : itS (ltr T n) a P = none := by unfold itS; rw [if_neg c18, if_pos hc, hz]
        refine aw_if_eqN (tgt := 107) dX5_readItem_77 (by decide) (by omega) (fun _ => ?_) (fun q => absurd q (by omega))
        refine aw_iconst (v := nI 0) dX5_readItem_107 (by decide) ?_
        refine aw_iret dX5_readItem_108 rfl (by first | rfl | exact (pk_charN (by omega)).1 | decide) ?_
        exact ⟨FTD.of3 (f2.trans f3), by rw [ez]⟩
      | some w =>
        rw [hz] at hq
        obtain ⟨rfl, q2, q3, q4⟩ := hq
        have q30 : h3 3 0 = w.1.getD 0 0 := q3 0 (by decide)
        have q31 : h3 3 1 = w.1.getD 1 0 := q3 1 (by decide)
        have hb := (nmL_lt hl 2 _ w hz).2.2
        have d3 : DR h3 P := d2.fr3 f3
        refine aw_if_eqN (tgt := 107) dX5_readItem_77 (by decide) (by omega) (fun q => absurd q (by omega)) (fun _ => ?_)
        refine aw_aload_n dX5_readItem_80 rfl rfl ?_
        refine aw_aload_n dX5_readItem_81 rfl rfl ?_
        refine aw_getR dX5_readItem_82 fX5_15 (by first | assumption | rfl) (by rfl) ?_
        refine aw_iconst (v := nI 0) dX5_readItem_85 (by decide) ?_
        refine aw_callSF dX5_readItem_86 kX5_43 (c_at (by first | assumption | rfl) (by omega) (by decide)) rfl rfl rfl (Nat.le_of_ble_eq_true rfl) (Nat.le_of_ble_eq_true rfl) ?_
        dsimp only [Option.toList, List.cons_append, List.nil_append, Nat.reduceAdd]
        refine aw_aload_n dX5_readItem_89 rfl rfl ?_
        refine aw_getR dX5_readItem_90 fX5_15 (by first | assumption | rfl) (by rfl) ?_
        refine aw_iconst (v := nI 1) dX5_readItem_93 (by decide) ?_
        refine aw_callSF dX5_readItem_94 kX5_43 (c_at (by first | assumption | rfl) (by omega) (by decide)) rfl rfl rfl (Nat.le_of_ble_eq_true rfl) (Nat.le_of_ble_eq_true rfl) ?_
        dsimp only [Option.toList, List.cons_append, List.nil_append, Nat.reduceAdd]
        rw [q30, q31]
        refine aw_callV dX5_readItem_97 kX5_51 (c_P_addRoom d3 hP (hb 0) (hb 1)) (by first | assumption | rfl) rfl rfl rfl (Nat.le_of_ble_eq_true rfl) (Nat.le_of_ble_eq_true rfl) ?_
        rintro v h4 hq4
        dsimp only [Option.toList, List.cons_append, List.nil_append, Nat.reduceAdd]
        rcases hq4 with ⟨o1, rfl, o3, o4⟩ | ⟨o1, rfl, rfl⟩
        · have ez : itS (ltr T n) a P = some (addR P (w.1.getD 0 0) (w.1.getD 1 0), w.2) := by
            unfold itS
            rw [if_neg c18, if_pos hc, hz]
            dsimp only
            rw [if_pos o1]
          refine aw_if_eqN (tgt := 107) dX5_readItem_100 (by decide) (by omega) (fun q => absurd q (by omega)) (fun _ => ?_)
          refine aw_iconst (v := nI 1) dX5_readItem_103 (by decide) ?_
          refine aw_goto (tgt := 108) dX5_readItem_104 (by decide) ?_
          refine aw_iret dX5_readItem_108 rfl (by first | rfl | exact (pk_charN (by omega)).1 | decide) ?_
          refine ⟨(FTD.of3 (f2.trans f3)).trans (FTD.ofD o4), ?_⟩
          rw [ez]
          exact ⟨rfl, o3, by rw [o4 1 (by decide)]; exact q2⟩
        · have ez : itS (ltr T n) a P = none := by
            unfold itS
            rw [if_neg c18, if_pos hc, hz]
            dsimp only
            rw [if_neg o1]
          refine aw_if_eqN (tgt := 107) dX5_readItem_100 (by decide) (by omega) (fun _ => ?_) (fun q => absurd q (by omega))
          refine aw_iconst (v := nI 0) dX5_readItem_107 (by decide) ?_
          refine aw_iret dX5_readItem_108 rfl (by first | rfl | exact (pk_charN (by omega)).1 | decide) ?_
          exact ⟨FTD.of3 (f2.trans f3), by rw [ez]⟩
  · have hc : ltr T n a = 99 := by omega
    refine aw_aload_n dX5_readItem_21 rfl rfl ?_
    refine aw_iconst (v := nI 3) dX5_readItem_22 (by decide) ?_
    refine aw_callV dX5_readItem_23 kX5_39 (c_T_readNumbers t2 hk (by omega) (by omega)) (by first | assumption | rfl) rfl rfl rfl (Nat.le_of_ble_eq_true rfl) (Nat.le_of_ble_eq_true rfl) ?_
    rintro v h3 ⟨f3, hq⟩
    dsimp only [Option.toList, List.cons_append, List.nil_append, Nat.reduceAdd]
    cases hz : nmL (ltr T n) 3 (a + 1) with
    | none =>
      rw [hz] at hq
      dsimp only at hq
      subst hq
      have ez : itS (ltr T n) a P = none := by unfold itS; rw [if_pos hc, hz]
      refine aw_if_eqN (tgt := 64) dX5_readItem_26 (by decide) (by omega) (fun _ => ?_) (fun q => absurd q (by omega))
      refine aw_iconst (v := nI 0) dX5_readItem_64 (by decide) ?_
      refine aw_iret dX5_readItem_65 rfl (by first | rfl | exact (pk_charN (by omega)).1 | decide) ?_
      exact ⟨FTD.of3 (f2.trans f3), by rw [ez]⟩
    | some w =>
      rw [hz] at hq
      obtain ⟨rfl, q2, q3, q4⟩ := hq
      have q30 : h3 3 0 = w.1.getD 0 0 := q3 0 (by decide)
      have q31 : h3 3 1 = w.1.getD 1 0 := q3 1 (by decide)
      have q32 : h3 3 2 = w.1.getD 2 0 := q3 2 (by decide)
      have hb := (nmL_lt hl 3 _ w hz).2.2
      have d3 : DR h3 P := d2.fr3 f3
      refine aw_if_eqN (tgt := 64) dX5_readItem_26 (by decide) (by omega) (fun q => absurd q (by omega)) (fun _ => ?_)
      refine aw_aload_n dX5_readItem_29 rfl rfl ?_
      refine aw_aload_n dX5_readItem_30 rfl rfl ?_
      refine aw_getR dX5_readItem_31 fX5_15 (by first | assumption | rfl) (by rfl) ?_
      refine aw_iconst (v := nI 0) dX5_readItem_34 (by decide) ?_
      refine aw_callSF dX5_readItem_35 kX5_43 (c_at (by first | assumption | rfl) (by omega) (by decide)) rfl rfl rfl (Nat.le_of_ble_eq_true rfl) (Nat.le_of_ble_eq_true rfl) ?_
      dsimp only [Option.toList, List.cons_append, List.nil_append, Nat.reduceAdd]
      refine aw_aload_n dX5_readItem_38 rfl rfl ?_
      refine aw_getR dX5_readItem_39 fX5_15 (by first | assumption | rfl) (by rfl) ?_
      refine aw_iconst (v := nI 1) dX5_readItem_42 (by decide) ?_
      refine aw_callSF dX5_readItem_43 kX5_43 (c_at (by first | assumption | rfl) (by omega) (by decide)) rfl rfl rfl (Nat.le_of_ble_eq_true rfl) (Nat.le_of_ble_eq_true rfl) ?_
      dsimp only [Option.toList, List.cons_append, List.nil_append, Nat.reduceAdd]
      refine aw_aload_n dX5_readItem_46 rfl rfl ?_
      refine aw_getR dX5_readItem_47 fX5_15 (by first | assumption | rfl) (by rfl) ?_
      refine aw_iconst (v := nI 2) dX5_readItem_50 (by decide) ?_
      refine aw_callSF dX5_readItem_51 kX5_43 (c_at (by first | assumption | rfl) (by omega) (by decide)) rfl rfl rfl (Nat.le_of_ble_eq_true rfl) (Nat.le_of_ble_eq_true rfl) ?_
      dsimp only [Option.toList, List.cons_append, List.nil_append, Nat.reduceAdd]
      rw [q30, q31, q32]
      refine aw_callV dX5_readItem_54 kX5_47 (c_P_addCousin d3 hP (hb 0) (hb 1) (hb 2)) (by first | assumption | rfl) rfl rfl rfl (Nat.le_of_ble_eq_true rfl) (Nat.le_of_ble_eq_true rfl) ?_
      rintro v h4 hq4
      dsimp only [Option.toList, List.cons_append, List.nil_append, Nat.reduceAdd]
      rcases hq4 with ⟨o1, rfl, o3, o4⟩ | ⟨o1, rfl, rfl⟩
      · have ez : itS (ltr T n) a P = some (addC P (w.1.getD 0 0) (w.1.getD 1 0) (w.1.getD 2 0), w.2) := by
          unfold itS
          rw [if_pos hc, hz]
          dsimp only
          rw [if_pos o1]
        refine aw_if_eqN (tgt := 64) dX5_readItem_57 (by decide) (by omega) (fun q => absurd q (by omega)) (fun _ => ?_)
        refine aw_iconst (v := nI 1) dX5_readItem_60 (by decide) ?_
        refine aw_goto (tgt := 65) dX5_readItem_61 (by decide) ?_
        refine aw_iret dX5_readItem_65 rfl (by first | rfl | exact (pk_charN (by omega)).1 | decide) ?_
        refine ⟨(FTD.of3 (f2.trans f3)).trans (FTD.ofD o4), ?_⟩
        rw [ez]
        exact ⟨rfl, o3, by rw [o4 1 (by decide)]; exact q2⟩
      · have ez : itS (ltr T n) a P = none := by
          unfold itS
          rw [if_pos hc, hz]
          dsimp only
          rw [if_neg o1]
        refine aw_if_eqN (tgt := 64) dX5_readItem_57 (by decide) (by omega) (fun _ => ?_) (fun q => absurd q (by omega))
        refine aw_iconst (v := nI 0) dX5_readItem_64 (by decide) ?_
        refine aw_iret dX5_readItem_65 rfl (by first | rfl | exact (pk_charN (by omega)).1 | decide) ?_
        exact ⟨FTD.of3 (f2.trans f3), by rw [ez]⟩
def P00 : PS := (0, fun _ => 0, fun _ => 0, fun _ => 0, 0, fun _ => 0, fun _ => 0)
theorem P00_ok : PSOk P00 := ⟨Nat.zero_le _, Nat.zero_le _, fun i hi => by have hi : i < 0 := hi; omega, fun i hi => by have hi : i < 0 := hi; omega⟩
def rdQ (z : Nat ⊕ PS) (h : Hp) : Option Value → Hp → Prop := fun v h' => FTD h h' ∧ match z with
  | .inl a => v = some (.int (nI a))
  | .inr P => v = some (.int (nI 4294967292)) ∧ DR h' P
theorem c_T_readInto {d n a0 : Nat} {h : Hp} {T : Nat → Nat} (ht : TXS h T n a0) (hk : TOk T n) : RT mX5_readInto (d + 4) [.ref 1, .ref 10] h (rdQ (psr (ltr T n) n 200 0 P00) h) := by
  have hn := hk.1
  have hl := ltr_lt hk
  have loop : ∀ u k a P hh, k + u = 200 → a ≤ 2 ^ 20 → TXS hh T n a → DR hh P → PSOk P → FTD h hh → AW mX5_readInto (d + 4) 11 [some (.ref 1), some (.ref 10), some (.int (nI k)), none] [] hh (rdQ (psr (ltr T n) n u a P) h) := by
    intro u
    induction u with
    | zero =>
      intro k a P hh hku ha htx hdr hP hf
      refine aw_iload_n dX5_readInto_11 rfl rfl ?_
      refine aw_sipush (v := nI 200) dX5_readInto_12 (by decide) ?_
      refine aw_icmp_geN (tgt := 50) dX5_readInto_15 (by decide) (by omega) (by omega) (fun _ => ?_) (fun q => absurd q (by omega))
      refine aw_bipush (v := nI 4294967292) dX5_readInto_50 (by decide) ?_
      refine aw_iret dX5_readInto_52 rfl (by first | rfl | exact (pk_charN (by omega)).1 | decide) ?_
      exact ⟨hf, rfl, hdr⟩
    | succ u ih =>
      intro k a P hh hku ha htx hdr hP hf
      obtain ⟨e1, e2, e3⟩ := id htx
      refine aw_iload_n dX5_readInto_11 rfl rfl ?_
      refine aw_sipush (v := nI 200) dX5_readInto_12 (by decide) ?_
      refine aw_icmp_geN (tgt := 50) dX5_readInto_15 (by decide) (by omega) (by omega) (fun q => absurd q (by omega)) (fun _ => ?_)
      refine aw_aload_n dX5_readInto_18 rfl rfl ?_
      refine aw_getI dX5_readInto_19 fX5_28 (by first | assumption | rfl) (by rfl) ?_
      refine aw_aload_n dX5_readInto_22 rfl rfl ?_
      refine aw_getI dX5_readInto_23 fX5_19 (by first | assumption | rfl) (by rfl) ?_
      rw [e1, e2]
      refine aw_icmp_geN (tgt := 50) dX5_readInto_26 (by decide) (by omega) (by omega) (fun c26 => ?_) (fun c26 => ?_)
      · have ez : psr (ltr T n) n (u + 1) a P = .inr P := by unfold psr; rw [if_neg (by omega)]
        rw [ez]
        refine aw_bipush (v := nI 4294967292) dX5_readInto_50 (by decide) ?_
        refine aw_iret dX5_readInto_52 rfl (by first | rfl | exact (pk_charN (by omega)).1 | decide) ?_
        exact ⟨hf, rfl, hdr⟩
      · have han : a < n := by omega
        refine aw_aload_n dX5_readInto_29 rfl rfl ?_
        refine aw_getI dX5_readInto_30 fX5_28 (by first | assumption | rfl) (by rfl) ?_
        rw [e2]
        refine aw_istore_n dX5_readInto_33 rfl (Nat.le_of_ble_eq_true rfl) rfl ?_
        dsimp only [List.set]
        refine aw_aload_n dX5_readInto_34 rfl rfl ?_
        refine aw_aload_n dX5_readInto_35 rfl rfl ?_
        refine aw_callV dX5_readInto_36 kX5_31 (c_T_readItem htx hk han hdr hP) (by first | assumption | rfl) rfl rfl rfl (Nat.le_of_ble_eq_true rfl) (Nat.le_of_ble_eq_true rfl) ?_
        rintro v h2 ⟨f2, hq⟩
        dsimp only [Option.toList, List.cons_append, List.nil_append, Nat.reduceAdd]
        cases hz : itS (ltr T n) a P with
        | none =>
          rw [hz] at hq
          dsimp only at hq
          subst hq
          have ez : psr (ltr T n) n (u + 1) a P = .inl a := by unfold psr; rw [if_pos han, hz]
          rw [ez]
          refine aw_if_neN (tgt := 44) dX5_readInto_39 (by decide) (by omega) (fun q => absurd q (by omega)) (fun _ => ?_)
          refine aw_iload_n dX5_readInto_42 rfl rfl ?_
          refine aw_iret dX5_readInto_43 rfl (by first | rfl | exact (pk_charN (by omega)).1 | decide) ?_
          exact ⟨hf.trans f2, rfl⟩
        | some q =>
          rw [hz] at hq
          obtain ⟨rfl, q2, q3⟩ := hq
          have ez : psr (ltr T n) n (u + 1) a P = psr (ltr T n) n u q.2 q.1 := by
            conv => lhs; unfold psr
            rw [if_pos han, hz]
          rw [ez]
          obtain ⟨i1, i2, i3⟩ := itS_lt hl hP hz
          refine aw_if_neN (tgt := 44) dX5_readInto_39 (by decide) (by omega) (fun _ => ?_) (fun q => absurd q (by omega))
          refine aw_iincN (v := 1) dX5_readInto_44 rfl rfl ?_
          dsimp only [List.set]
          refine aw_goto (tgt := 11) dX5_readInto_47 (by decide) ?_
          refine aw_forget 3 ?_
          dsimp only [List.set]
          exact ih (k + 1) q.2 q.1 h2 (by omega) (by omega) (htx.fr f2 q3) q2 i3 (hf.trans f2)
  change AW mX5_readInto _ 0 [some (.ref 1), some (.ref 10), none, none] [] h _
  refine aw_aload_n dX5_readInto_0 rfl rfl ?_
  refine aw_callVF dX5_readInto_1 kX5_23 (c_P_clear) (by first | assumption | rfl) rfl rfl rfl (Nat.le_of_ble_eq_true rfl) (Nat.le_of_ble_eq_true rfl) ?_
  dsimp only [Option.toList, List.cons_append, List.nil_append, Nat.reduceAdd]
  refine aw_aload_n dX5_readInto_4 rfl rfl ?_
  refine aw_iconst (v := nI 0) dX5_readInto_5 (by decide) ?_
  refine aw_putfield dX5_readInto_6 gX5_28 (by first | assumption | rfl) (by rfl) ?_
  refine aw_iconst (v := nI 0) dX5_readInto_9 (by decide) ?_
  refine aw_istore_n dX5_readInto_10 rfl (Nat.le_of_ble_eq_true rfl) rfl ?_
  dsimp only [List.set]
  refine loop 200 0 0 P00 _ (by omega) (by omega) ?_ ?_ P00_ok ?_
  · refine ⟨?_, by rw [hw_at, if_pos rfl], fun k hk2 => ?_⟩
    · rw [hw_at, if_neg (by decide), hw_ne (by decide), hw_ne (by decide)]; exact ht.1
    · rw [hw_ne (by decide), hw_ne (by decide), hw_ne (by decide)]; exact ht.2.2 k hk2
  · refine ⟨?_, ?_, fun i hi => by have hi : i < 0 := hi; omega, fun i hi => by have hi : i < 0 := hi; omega⟩
    · rw [hw_ne (by decide), hw_at, if_neg (by decide), hw_at, if_pos rfl]; rfl
    · rw [hw_ne (by decide), hw_at, if_pos rfl]; rfl
  · refine ⟨?_, fun o p q r => ?_⟩
    · rw [hw_at, if_neg (by decide), hw_ne (by decide), hw_ne (by decide)]
    · rw [hw_ne p, hw_ne (by omega), hw_ne (by omega)]
