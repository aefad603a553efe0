/-! Search: the three seekers -/
theorem dbR_skip {n : Nat} {V : (Nat → Nat) → Nat} {f : Nat → Nat} {k : Nat} : ∀ j, (∀ x, k ≤ x → x < k + j → ¬ (isP n (x / 64) ∧ isP n (x % 64) ∧ x / 64 < x % 64)) → dbR n V f (k + j) = dbR n V f k := by
  intro j
  induction j with
  | zero => intro _; rfl
  | succ j ih =>
    intro hq
    have e9 : dbR n V f (k + j + 1) = dbR n V f (k + j) := by
      rw [dbR, if_neg (hq (k + j) (by omega) (by omega))]
    rw [show k + (j + 1) = k + j + 1 from rfl, e9]
    exact ih (fun x h1 h2 => hq x h1 (by omega))
theorem c_Q_seekMostSun {d i m : Nat} {h : Hp} {S : Hs} {c : Sv} (hx : HX h S) (hS : HsOk S) (hv : SVt h (sn S) 16 c) (hc : SvOk (sn S) c) (hi : i < sn S) (hm : m ≤ 60) :
    RT mX2_seekMostSun (d + 5) [.ref 66, .ref 16, .int (nI i), .int (nI m)] h (fun v h' => v = none ∧ QS h' (dbR (sn S) (vSun S c i m) c.2.2 4096) ∧ FQ h h') := by
  have h38 := hS.2.1
  have h37 := hS.1
  have hok := cL_ok hS hc
  have hLs : ∀ q, q < sn S → cL (sn S) c q < sn S := fun q hq => (hok.2 q hq).2
  have hc1 := hc.1
  -- one try
  have dd0 : ∀ p, p = 0 ∨ isP (sn S) p → p / 8 < sn S ∧ p % 8 < sn S := fun p q => by omega
  have vlt : ∀ one two, (one = 0 ∨ isP (sn S) one) → (two = 0 ∨ isP (sn S) two) → vSun S c i m (ap (ap c.2.2 one) two) ≤ 540 := fun one two q1 q2 => by
    have := sunF_lt (b := c.2.1) (dd := c.1) hS hLs (PM_ap (PM_ap hc.2.1 (dd0 one q1)) (dd0 two q2)) hi m
    unfold vSun
    omega
  have inner : ∀ one (A : Nat → bT), (one = 0 ∨ isP (sn S) one) → one < 64 → (∀ two, one < two → two < 64 → A (two + 1) = if isP (sn S) two then bU (A two) (vSun S c i m (ap (ap c.2.2 one) two)) (fpO one two) (spO one two) else A two) → (∀ two, one < two → two ≤ 64 → (A two).1 ≤ 540) →
      (∀ h2, QS h2 (A 64) → FQ h h2 → AW mX2_seekMostSun (d + 5) 141 [some (.ref 66), some (.ref 16), some (.int (nI i)), some (.int (nI m)), some (.int (nI one)), none, none] [] h2 (fun v h' => v = none ∧ QS h' (dbR (sn S) (vSun S c i m) c.2.2 4096) ∧ FQ h h')) →
      ∀ u two hh, two + u = 64 → one < two → QS hh (A two) → FQ h hh → AW mX2_seekMostSun (d + 5) 68 [some (.ref 66), some (.ref 16), some (.int (nI i)), some (.int (nI m)), some (.int (nI one)), none, some (.int (nI two))] [] hh (fun v h' => v = none ∧ QS h' (dbR (sn S) (vSun S c i m) c.2.2 4096) ∧ FQ h h') := by
    intro one A hone hone2 hA hA2 kk u
    induction u with
    | zero =>
      intro two hh htw hlt hq hf
      have e2 : two = 64 := by omega
      subst e2
      refine aw_iload dX2_seekMostSun_68 rfl ?_
      refine aw_bipush (v := nI 64) dX2_seekMostSun_70 (by decide) ?_
      refine aw_icmp_geN (tgt := 141) dX2_seekMostSun_72 (by decide) (by omega) (by omega) (fun _ => ?_) (fun q => absurd q (by omega))
      refine aw_forget 6 ?_
      dsimp only [List.set]
      exact kk hh hq hf
    | succ u ih =>
      intro two hh htw hlt hq hf
      have hx1 := hx.fq hf
      have hv1 := hv.fq hf (by decide)
      have hAs := hA two hlt (by omega)
      have hA2t := hA2 two hlt (by omega)
      refine aw_iload dX2_seekMostSun_68 rfl ?_
      refine aw_bipush (v := nI 64) dX2_seekMostSun_70 (by decide) ?_
      refine aw_icmp_geN (tgt := 141) dX2_seekMostSun_72 (by decide) (by omega) (by omega) (fun q => absurd q (by omega)) (fun _ => ?_)
      refine aw_aload_n dX2_seekMostSun_75 rfl rfl ?_
      refine aw_iload dX2_seekMostSun_76 rfl ?_
      refine aw_callVF dX2_seekMostSun_78 kX2_47 (c_Q_isPair hx1 hS (by omega)) (by first | assumption | rfl) rfl rfl rfl (Nat.le_of_ble_eq_true rfl) (Nat.le_of_ble_eq_true rfl) ?_
      dsimp only [Option.toList, List.cons_append, List.nil_append, Nat.reduceAdd]
      by_cases hp : isP (sn S) two
      · rw [if_pos hp] at hAs ⊢
        have hvl := vlt one two hone (Or.inr hp)
        refine aw_if_neN (tgt := 87) dX2_seekMostSun_81 (by decide) (by omega) (fun _ => ?_) (fun q => absurd q (by omega))
        refine aw_aload_n dX2_seekMostSun_87 rfl rfl ?_
        refine aw_aload_n dX2_seekMostSun_88 rfl rfl ?_
        refine aw_iload dX2_seekMostSun_89 rfl ?_
        refine aw_iload dX2_seekMostSun_91 rfl ?_
        refine aw_callV dX2_seekMostSun_93 kX2_29 (c_Q_beginBy hx1 hS hv1 hc (dd0 one hone) (dd0 two (Or.inr hp)) (by omega) (by omega)) (by first | assumption | rfl) rfl rfl rfl (Nat.le_of_ble_eq_true rfl) (Nat.le_of_ble_eq_true rfl) ?_
        rintro _ h3 ⟨rfl, w3, f3⟩
        dsimp only [Option.toList, List.cons_append, List.nil_append, Nat.reduceAdd]
        refine aw_aload_n dX2_seekMostSun_96 rfl rfl ?_
        refine aw_getR dX2_seekMostSun_97 fX2_15 (by first | assumption | rfl) (by rfl) ?_
        refine aw_iload_n dX2_seekMostSun_100 rfl rfl ?_
        refine aw_callV dX2_seekMostSun_101 kX2_33 (c_W_go w3 hok (PM_ap (PM_ap hc.2.1 (dd0 one hone)) (dd0 two (Or.inr hp))) (by omega)) (by first | assumption | rfl) rfl rfl rfl (Nat.le_of_ble_eq_true rfl) (Nat.le_of_ble_eq_true rfl) ?_
        rintro _ h4 ⟨rfl, w4, f4⟩
        dsimp only [Option.toList, List.cons_append, List.nil_append, Nat.reduceAdd]
        refine aw_aload_n dX2_seekMostSun_104 rfl rfl ?_
        refine aw_getR dX2_seekMostSun_105 fX2_15 (by first | assumption | rfl) (by rfl) ?_
        refine aw_iload_n dX2_seekMostSun_108 rfl rfl ?_
        refine aw_callVF dX2_seekMostSun_109 kX2_39 (c_W_sunTogether (by omega)) (by first | assumption | rfl) rfl rfl rfl (Nat.le_of_ble_eq_true rfl) (Nat.le_of_ble_eq_true rfl) ?_
        dsimp only [Option.toList, List.cons_append, List.nil_append, Nat.reduceAdd]
        have q4 : QS h4 (A two) := (hq.fw f3).fw f4
        have f5 : FQ h h4 := hf.trans (FQ.of (f3.trans f4))
        have e65 : h4 65 i = vSun S c i m (ap (ap c.2.2 one) two) := by
          have := (w4.2.2.2 i hi).2.2.2
          dsimp only at this
          rw [this, Nat.zero_add]
          rfl
        rw [e65]
        refine aw_aload_n dX2_seekMostSun_112 rfl rfl ?_
        refine aw_getI dX2_seekMostSun_113 fX2_19 (by first | assumption | rfl) (by rfl) ?_
        rw [q4.1]
        refine aw_icmp_leN (tgt := 135) dX2_seekMostSun_116 (by decide) (by omega) (by omega) (fun c116 => ?_) (fun c116 => ?_)
        · have e : A (two + 1) = A two := by rw [hAs]; unfold bU; rw [if_neg (by omega)]
          refine aw_iincN (v := 1) dX2_seekMostSun_135 rfl rfl ?_
          dsimp only [List.set]
          refine aw_goto (tgt := 68) dX2_seekMostSun_138 (by decide) ?_
          exact ih (two + 1) h4 (by omega) (by omega) (by rw [e]; exact q4) f5
        · have e : A (two + 1) = (vSun S c i m (ap (ap c.2.2 one) two), fpO one two, spO one two) := by rw [hAs]; unfold bU; rw [if_pos (by omega)]
          refine aw_aload_n dX2_seekMostSun_119 rfl rfl ?_
          refine aw_aload_n dX2_seekMostSun_120 rfl rfl ?_
          refine aw_getR dX2_seekMostSun_121 fX2_15 (by first | assumption | rfl) (by rfl) ?_
          refine aw_iload_n dX2_seekMostSun_124 rfl rfl ?_
          refine aw_callVF dX2_seekMostSun_125 kX2_39 (c_W_sunTogether (by omega)) (by first | assumption | rfl) rfl rfl rfl (Nat.le_of_ble_eq_true rfl) (Nat.le_of_ble_eq_true rfl) ?_
          dsimp only [Option.toList, List.cons_append, List.nil_append, Nat.reduceAdd]
          rw [e65]
          refine aw_iload dX2_seekMostSun_128 rfl ?_
          refine aw_iload dX2_seekMostSun_130 rfl ?_
          refine aw_callVF dX2_seekMostSun_132 kX2_43 (c_Q_take (by omega) (by omega)) (by first | assumption | rfl) rfl rfl rfl (Nat.le_of_ble_eq_true rfl) (Nat.le_of_ble_eq_true rfl) ?_
          dsimp only [Option.toList, List.cons_append, List.nil_append, Nat.reduceAdd]
          refine aw_iincN (v := 1) dX2_seekMostSun_135 rfl rfl ?_
          dsimp only [List.set]
          refine aw_goto (tgt := 68) dX2_seekMostSun_138 (by decide) ?_
          exact ih (two + 1) _ (by omega) (by omega) (by rw [e]; exact QS.took) (f5.trans FQ.took)
      · rw [if_neg hp] at hAs ⊢
        refine aw_if_neN (tgt := 87) dX2_seekMostSun_81 (by decide) (by omega) (fun q => absurd q (by omega)) (fun _ => ?_)
        refine aw_goto (tgt := 135) dX2_seekMostSun_84 (by decide) ?_
        refine aw_iincN (v := 1) dX2_seekMostSun_135 rfl rfl ?_
        dsimp only [List.set]
        refine aw_goto (tgt := 68) dX2_seekMostSun_138 (by decide) ?_
        exact ih (two + 1) hh (by omega) (by omega) (by rw [hAs]; exact hq) hf
  have sgB : ∀ k, k ≤ 64 → (sgS (sn S) (vSun S c i m) c.2.2 k).1 ≤ 540 := by
    intro k
    induction k with
    | zero =>
      intro _
      have := vlt 0 0 (Or.inl rfl) (Or.inl rfl)
      rw [ap_0, ap_0] at this
      exact this
    | succ k ih =>
      intro hk
      unfold sgS
      split
      · have := vlt 0 k (Or.inl rfl) (Or.inr (by assumption))
        rw [ap_0] at this
        unfold bU
        split
        · exact this
        · exact ih (by omega)
      · exact ih (by omega)
  have dbB : ∀ k, k ≤ 4096 → (dbR (sn S) (vSun S c i m) c.2.2 k).1 ≤ 540 := by
    intro k
    induction k with
    | zero => intro _; exact sgB 64 (by omega)
    | succ k ih =>
      intro hk
      unfold dbR
      split
      · rename_i hz
        have := vlt (k / 64) (k % 64) (Or.inr hz.1) (Or.inr hz.2.1)
        unfold bU
        split
        · exact this
        · exact ih (by omega)
      · exact ih (by omega)
  have outer : ∀ u one hh, one + u = 64 → 1 ≤ one → QS hh (dbR (sn S) (vSun S c i m) c.2.2 (64 * one)) → FQ h hh → AW mX2_seekMostSun (d + 5) 32 [some (.ref 66), some (.ref 16), some (.int (nI i)), some (.int (nI m)), some (.int (nI one)), none, none] [] hh (fun v h' => v = none ∧ QS h' (dbR (sn S) (vSun S c i m) c.2.2 4096) ∧ FQ h h') := by
    intro u
    induction u with
    | zero =>
      intro one hh ho h1 hq hf
      have e1 : one = 64 := by omega
      subst e1
      refine aw_iload dX2_seekMostSun_32 rfl ?_
      refine aw_bipush (v := nI 64) dX2_seekMostSun_34 (by decide) ?_
      refine aw_icmp_geN (tgt := 147) dX2_seekMostSun_36 (by decide) (by omega) (by omega) (fun _ => ?_) (fun q => absurd q (by omega))
      refine aw_vret dX2_seekMostSun_147 rfl ?_
      exact ⟨rfl, hq, hf⟩
    | succ u ih =>
      intro one hh ho h1 hq hf
      have hx1 := hx.fq hf
      refine aw_iload dX2_seekMostSun_32 rfl ?_
      refine aw_bipush (v := nI 64) dX2_seekMostSun_34 (by decide) ?_
      refine aw_icmp_geN (tgt := 147) dX2_seekMostSun_36 (by decide) (by omega) (by omega) (fun q => absurd q (by omega)) (fun _ => ?_)
      refine aw_iload dX2_seekMostSun_39 rfl ?_
      refine aw_if_eqN (tgt := 53) dX2_seekMostSun_41 (by decide) (by omega) (fun q => absurd q (by omega)) (fun _ => ?_)
      refine aw_aload_n dX2_seekMostSun_44 rfl rfl ?_
      refine aw_iload dX2_seekMostSun_45 rfl ?_
      refine aw_callVF dX2_seekMostSun_47 kX2_47 (c_Q_isPair hx1 hS (by omega)) (by first | assumption | rfl) rfl rfl rfl (Nat.le_of_ble_eq_true rfl) (Nat.le_of_ble_eq_true rfl) ?_
      dsimp only [Option.toList, List.cons_append, List.nil_append, Nat.reduceAdd]
      by_cases hp : isP (sn S) one
      · rw [if_pos hp]
        refine aw_if_eqN (tgt := 60) dX2_seekMostSun_50 (by decide) (by omega) (fun q => absurd q (by omega)) (fun _ => ?_)
        refine aw_iload dX2_seekMostSun_53 rfl ?_
        refine aw_iconst (v := nI 1) dX2_seekMostSun_55 (by decide) ?_
        refine aw_iaddN dX2_seekMostSun_56 ?_
        refine aw_goto (tgt := 62) dX2_seekMostSun_57 (by decide) ?_
        refine aw_istore dX2_seekMostSun_62 (Nat.le_of_ble_eq_true rfl) rfl ?_
        dsimp only [List.set]
        refine aw_iload dX2_seekMostSun_64 rfl ?_
        refine aw_istore dX2_seekMostSun_66 (Nat.le_of_ble_eq_true rfl) rfl ?_
        dsimp only [List.set]
        refine aw_forget 5 ?_
        dsimp only [List.set]
        refine inner one (fun two => dbR (sn S) (vSun S c i m) c.2.2 (64 * one + two)) (Or.inr hp) (by omega) (fun two q1 q2 => ?_) (fun two q1 q2 => dbB _ (by omega)) (fun h2 q f2 => ?_) (63 - one) (one + 1) hh (by omega) (by omega) ?_ hf
        · show (if isP (sn S) ((64 * one + two) / 64) ∧ isP (sn S) ((64 * one + two) % 64) ∧ (64 * one + two) / 64 < (64 * one + two) % 64 then bU _ (vSun S c i m (ap (ap c.2.2 ((64 * one + two) / 64)) ((64 * one + two) % 64))) ((64 * one + two) / 64) ((64 * one + two) % 64) else _) = _
          rw [show (64 * one + two) / 64 = one by omega, show (64 * one + two) % 64 = two by omega]
          have ef : fpO one two = one := by unfold fpO; rw [if_neg (by omega)]
          have es : spO one two = two := by unfold spO; rw [if_neg (by omega)]
          rw [ef, es]
          by_cases q : isP (sn S) two
          · rw [if_pos ⟨hp, q, q1⟩, if_pos q]; rfl
          · rw [if_neg (fun z => q z.2.1), if_neg q]; rfl
        · refine aw_iincN (v := 1) dX2_seekMostSun_141 rfl rfl ?_
          dsimp only [List.set]
          refine aw_goto (tgt := 32) dX2_seekMostSun_144 (by decide) ?_
          refine ih (one + 1) h2 (by omega) (by omega) ?_ f2
          rw [Nat.mul_add]
          exact q
        · rw [dbR_skip (one + 1) (fun x g1 g2 z => by omega)]
          exact hq
      · rw [if_neg hp]
        refine aw_if_eqN (tgt := 60) dX2_seekMostSun_50 (by decide) (by omega) (fun _ => ?_) (fun q => absurd q (by omega))
        refine aw_bipush (v := nI 64) dX2_seekMostSun_60 (by decide) ?_
        refine aw_istore dX2_seekMostSun_62 (Nat.le_of_ble_eq_true rfl) rfl ?_
        dsimp only [List.set]
        refine aw_iload dX2_seekMostSun_64 rfl ?_
        refine aw_istore dX2_seekMostSun_66 (Nat.le_of_ble_eq_true rfl) rfl ?_
        dsimp only [List.set]
        refine aw_forget 5 ?_
        dsimp only [List.set]
        refine aw_iload dX2_seekMostSun_68 rfl ?_
        refine aw_bipush (v := nI 64) dX2_seekMostSun_70 (by decide) ?_
        refine aw_icmp_geN (tgt := 141) dX2_seekMostSun_72 (by decide) (by omega) (by omega) (fun _ => ?_) (fun q => absurd q (by omega))
        refine aw_iincN (v := 1) dX2_seekMostSun_141 rfl rfl ?_
        dsimp only [List.set]
        refine aw_goto (tgt := 32) dX2_seekMostSun_144 (by decide) ?_
        refine aw_forget 6 ?_
        dsimp only [List.set]
        refine ih (one + 1) hh (by omega) (by omega) ?_ hf
        rw [Nat.mul_add, dbR_skip 64 (fun x g1 g2 z => hp (by
          have : x / 64 = one := by omega
          rw [this] at z
          exact z.1))]
        exact hq
  change AW mX2_seekMostSun _ 0 [some (.ref 66), some (.ref 16), some (.int (nI i)), some (.int (nI m)), none, none, none] [] h _
  refine aw_aload_n dX2_seekMostSun_0 rfl rfl ?_
  refine aw_aload_n dX2_seekMostSun_1 rfl rfl ?_
  refine aw_iconst (v := nI 0) dX2_seekMostSun_2 (by decide) ?_
  refine aw_iconst (v := nI 0) dX2_seekMostSun_3 (by decide) ?_
  refine aw_callV dX2_seekMostSun_4 kX2_29 (c_Q_beginBy hx hS hv hc (dd0 0 (Or.inl rfl)) (dd0 0 (Or.inl rfl)) (by omega) (by omega)) (by first | assumption | rfl) rfl rfl rfl (Nat.le_of_ble_eq_true rfl) (Nat.le_of_ble_eq_true rfl) ?_
  rintro _ h3 ⟨rfl, w3, f3⟩
  dsimp only [Option.toList, List.cons_append, List.nil_append, Nat.reduceAdd]
  refine aw_aload_n dX2_seekMostSun_7 rfl rfl ?_
  refine aw_getR dX2_seekMostSun_8 fX2_15 (by first | assumption | rfl) (by rfl) ?_
  refine aw_iload_n dX2_seekMostSun_11 rfl rfl ?_
  refine aw_callV dX2_seekMostSun_12 kX2_33 (c_W_go w3 hok (PM_ap (PM_ap hc.2.1 (dd0 0 (Or.inl rfl))) (dd0 0 (Or.inl rfl))) (by omega)) (by first | assumption | rfl) rfl rfl rfl (Nat.le_of_ble_eq_true rfl) (Nat.le_of_ble_eq_true rfl) ?_
  rintro _ h4 ⟨rfl, w4, f4⟩
  dsimp only [Option.toList, List.cons_append, List.nil_append, Nat.reduceAdd]
  refine aw_aload_n dX2_seekMostSun_15 rfl rfl ?_
  refine aw_aload_n dX2_seekMostSun_16 rfl rfl ?_
  refine aw_getR dX2_seekMostSun_17 fX2_15 (by first | assumption | rfl) (by rfl) ?_
  refine aw_iload_n dX2_seekMostSun_20 rfl rfl ?_
  refine aw_callVF dX2_seekMostSun_21 kX2_39 (c_W_sunTogether (by omega)) (by first | assumption | rfl) rfl rfl rfl (Nat.le_of_ble_eq_true rfl) (Nat.le_of_ble_eq_true rfl) ?_
  dsimp only [Option.toList, List.cons_append, List.nil_append, Nat.reduceAdd]
  have e65 : h4 65 i = vSun S c i m c.2.2 := by
    have := (w4.2.2.2 i hi).2.2.2
    dsimp only at this
    rw [this, Nat.zero_add, ap_0, ap_0]
    rfl
  rw [e65]
  refine aw_iconst (v := nI 0) dX2_seekMostSun_24 (by decide) ?_
  refine aw_iconst (v := nI 0) dX2_seekMostSun_25 (by decide) ?_
  refine aw_callVF dX2_seekMostSun_26 kX2_43 (c_Q_take (by omega) (by omega)) (by first | assumption | rfl) rfl rfl rfl (Nat.le_of_ble_eq_true rfl) (Nat.le_of_ble_eq_true rfl) ?_
  dsimp only [Option.toList, List.cons_append, List.nil_append, Nat.reduceAdd]
  refine aw_iconst (v := nI 0) dX2_seekMostSun_29 (by decide) ?_
  refine aw_istore dX2_seekMostSun_30 (Nat.le_of_ble_eq_true rfl) rfl ?_
  dsimp only [List.set]
  have f5 := (FQ.of (f3.trans f4)).trans (FQ.took (h := h4) (m := vSun S c i m c.2.2) (x := fpO 0 0) (y := spO 0 0))
  have q5 : QS (hw (hw (hw h4 66 2 (vSun S c i m c.2.2)) 66 3 (fpO 0 0)) 66 4 (spO 0 0)) (sgS (sn S) (vSun S c i m) c.2.2 0) := QS.took
  refine aw_iload dX2_seekMostSun_32 rfl ?_
  refine aw_bipush (v := nI 64) dX2_seekMostSun_34 (by decide) ?_
  refine aw_icmp_geN (tgt := 147) dX2_seekMostSun_36 (by decide) (by omega) (by omega) (fun q => absurd q (by omega)) (fun _ => ?_)
  refine aw_iload dX2_seekMostSun_39 rfl ?_
  refine aw_if_eqN (tgt := 53) dX2_seekMostSun_41 (by decide) (by omega) (fun _ => ?_) (fun q => absurd q (by omega))
  refine aw_iload dX2_seekMostSun_53 rfl ?_
  refine aw_iconst (v := nI 1) dX2_seekMostSun_55 (by decide) ?_
  refine aw_iaddN dX2_seekMostSun_56 ?_
  refine aw_goto (tgt := 62) dX2_seekMostSun_57 (by decide) ?_
  refine aw_istore dX2_seekMostSun_62 (Nat.le_of_ble_eq_true rfl) rfl ?_
  dsimp only [List.set]
  refine aw_iload dX2_seekMostSun_64 rfl ?_
  refine aw_istore dX2_seekMostSun_66 (Nat.le_of_ble_eq_true rfl) rfl ?_
  dsimp only [List.set]
  refine aw_forget 5 ?_
  dsimp only [List.set, Nat.reduceAdd]
  refine inner 0 (fun two => sgS (sn S) (vSun S c i m) c.2.2 two) (Or.inl rfl) (by omega) (fun two q1 q2 => ?_) (fun two q1 q2 => sgB _ q2) (fun h2 q f2 => ?_) 63 1 _ (by omega) (by omega) ?_ f5
  · have ef : fpO 0 two = two := by unfold fpO; rw [if_pos rfl, if_neg (by omega)]
    have es : spO 0 two = 4294967292 := rfl
    rw [ef, es, ap_0]
    rfl
  · refine aw_iincN (v := 1) dX2_seekMostSun_141 rfl rfl ?_
    dsimp only [List.set]
    refine aw_goto (tgt := 32) dX2_seekMostSun_144 (by decide) ?_
    refine outer 63 1 h2 (by omega) (by omega) ?_ f2
    have e := dbR_skip (n := sn S) (V := vSun S c i m) (f := c.2.2) (k := 0) 64 (fun x g1 g2 z => by omega)
    rw [Nat.zero_add] at e
    rw [Nat.mul_one, e]
    exact q
  · have e : sgS (sn S) (vSun S c i m) c.2.2 1 = sgS (sn S) (vSun S c i m) c.2.2 0 := by
      show (if isP (sn S) 0 then _ else _) = _
      rw [if_neg (by omega)]
    rw [e]
    exact q5
/-- fewest cold: as much, the pair -/
def wrS (n : Nat) (V : (Nat → Nat) → Nat) (f : Nat → Nat) : Nat → Nat × Nat
  | 0 => (V f, 4294967292)
  | k + 1 => if isP n k then (if V (ap f k) < (wrS n V f k).1 then (V (ap f k), k) else wrS n V f k) else wrS n V f k
theorem c_Q_seekFewestCold {d m : Nat} {h : Hp} {S : Hs} {c : Sv} (hx : HX h S) (hS : HsOk S) (hv : SVt h (sn S) 16 c) (hc : SvOk (sn S) c) (hm : m ≤ 60) :
    RT mX2_seekFewestCold (d + 5) [.ref 66, .ref 16, .int (nI m)] h (fun v h' => v = none ∧ h' 66 2 = (wrS (sn S) (vCold S c m) c.2.2 64).1 ∧ h' 66 3 = (wrS (sn S) (vCold S c m) c.2.2 64).2 ∧ FQ h h') := by
  have h38 := hS.2.1
  have h37 := hS.1
  have hok := cL_ok hS hc
  have hc1 := hc.1
  have dd0 : ∀ p, p = 0 ∨ isP (sn S) p → p / 8 < sn S ∧ p % 8 < sn S := fun p q => by omega
  have vlt : ∀ g, vCold S c m g ≤ 480 := fun g => by
    have := coldF_lt (b := c.2.1) (L := cL (sn S) c) (dd := c.1) (f := g) hS m
    unfold vCold
    omega
  have wlt : ∀ k, (wrS (sn S) (vCold S c m) c.2.2 k).1 ≤ 480 := by
    intro k
    induction k with
    | zero => exact vlt _
    | succ k ih =>
      unfold wrS
      split
      · split
        · exact vlt _
        · exact ih
      · exact ih
  have loop : ∀ u two hh, two + u = 64 → 1 ≤ two → hh 66 2 = (wrS (sn S) (vCold S c m) c.2.2 two).1 → hh 66 3 = (wrS (sn S) (vCold S c m) c.2.2 two).2 → FQ h hh → AW mX2_seekFewestCold (d + 5) 30 [some (.ref 66), some (.ref 16), some (.int (nI m)), some (.int (nI two))] [] hh (fun v h' => v = none ∧ h' 66 2 = (wrS (sn S) (vCold S c m) c.2.2 64).1 ∧ h' 66 3 = (wrS (sn S) (vCold S c m) c.2.2 64).2 ∧ FQ h h') := by
    intro u
    induction u with
    | zero =>
      intro two hh htw h1 g1 g2 hf
      have e2 : two = 64 := by omega
      subst e2
      refine aw_iload_n dX2_seekFewestCold_30 rfl rfl ?_
      refine aw_bipush (v := nI 64) dX2_seekFewestCold_31 (by decide) ?_
      refine aw_icmp_geN (tgt := 95) dX2_seekFewestCold_33 (by decide) (by omega) (by omega) (fun _ => ?_) (fun q => absurd q (by omega))
      refine aw_vret dX2_seekFewestCold_95 rfl ?_
      exact ⟨rfl, g1, g2, hf⟩
    | succ u ih =>
      intro two hh htw h1 g1 g2 hf
      have hx1 := hx.fq hf
      have hv1 := hv.fq hf (by decide)
      have hwl := wlt two
      refine aw_iload_n dX2_seekFewestCold_30 rfl rfl ?_
      refine aw_bipush (v := nI 64) dX2_seekFewestCold_31 (by decide) ?_
      refine aw_icmp_geN (tgt := 95) dX2_seekFewestCold_33 (by decide) (by omega) (by omega) (fun q => absurd q (by omega)) (fun _ => ?_)
      refine aw_aload_n dX2_seekFewestCold_36 rfl rfl ?_
      refine aw_iload_n dX2_seekFewestCold_37 rfl rfl ?_
      refine aw_callVF dX2_seekFewestCold_38 kX2_47 (c_Q_isPair hx1 hS (by omega)) (by first | assumption | rfl) rfl rfl rfl (Nat.le_of_ble_eq_true rfl) (Nat.le_of_ble_eq_true rfl) ?_
      dsimp only [Option.toList, List.cons_append, List.nil_append, Nat.reduceAdd]
      by_cases hp : isP (sn S) two
      · rw [if_pos hp]
        have hvl := vlt (ap c.2.2 two)
        refine aw_if_neN (tgt := 47) dX2_seekFewestCold_41 (by decide) (by omega) (fun _ => ?_) (fun q => absurd q (by omega))
        refine aw_aload_n dX2_seekFewestCold_47 rfl rfl ?_
        refine aw_aload_n dX2_seekFewestCold_48 rfl rfl ?_
        refine aw_iconst (v := nI 0) dX2_seekFewestCold_49 (by decide) ?_
        refine aw_iload_n dX2_seekFewestCold_50 rfl rfl ?_
        refine aw_callV dX2_seekFewestCold_51 kX2_29 (c_Q_beginBy hx1 hS hv1 hc (dd0 0 (Or.inl rfl)) (dd0 two (Or.inr hp)) (by omega) (by omega)) (by first | assumption | rfl) rfl rfl rfl (Nat.le_of_ble_eq_true rfl) (Nat.le_of_ble_eq_true rfl) ?_
        rintro _ h3 ⟨rfl, w3, f3⟩
        dsimp only [Option.toList, List.cons_append, List.nil_append, Nat.reduceAdd]
        refine aw_aload_n dX2_seekFewestCold_54 rfl rfl ?_
        refine aw_getR dX2_seekFewestCold_55 fX2_15 (by first | assumption | rfl) (by rfl) ?_
        refine aw_iload_n dX2_seekFewestCold_58 rfl rfl ?_
        refine aw_callV dX2_seekFewestCold_59 kX2_33 (c_W_go w3 hok (PM_ap (PM_ap hc.2.1 (dd0 0 (Or.inl rfl))) (dd0 two (Or.inr hp))) (by omega)) (by first | assumption | rfl) rfl rfl rfl (Nat.le_of_ble_eq_true rfl) (Nat.le_of_ble_eq_true rfl) ?_
        rintro _ h4 ⟨rfl, w4, f4⟩
        dsimp only [Option.toList, List.cons_append, List.nil_append, Nat.reduceAdd]
        refine aw_aload_n dX2_seekFewestCold_62 rfl rfl ?_
        refine aw_getR dX2_seekFewestCold_63 fX2_15 (by first | assumption | rfl) (by rfl) ?_
        refine aw_callVF dX2_seekFewestCold_66 kX2_51 (c_W_coldTogether) (by first | assumption | rfl) rfl rfl rfl (Nat.le_of_ble_eq_true rfl) (Nat.le_of_ble_eq_true rfl) ?_
        dsimp only [Option.toList, List.cons_append, List.nil_append, Nat.reduceAdd]
        have f34 := f3.trans f4
        have e66 : h4 66 = hh 66 := f34 66 (by decide)
        have f5 : FQ h h4 := hf.trans (FQ.of f34)
        have ec : h4 60 4 = vCold S c m (ap c.2.2 two) := by
          have := w4.2.2.1
          rw [this, Nat.zero_add, ap_0]
          rfl
        rw [ec]
        refine aw_aload_n dX2_seekFewestCold_69 rfl rfl ?_
        refine aw_getI dX2_seekFewestCold_70 fX2_19 (by first | assumption | rfl) (by rfl) ?_
        rw [e66, g1]
        refine aw_icmp_geN (tgt := 89) dX2_seekFewestCold_73 (by decide) (by omega) (by omega) (fun c73 => ?_) (fun c73 => ?_)
        · have e : wrS (sn S) (vCold S c m) c.2.2 (two + 1) = wrS (sn S) (vCold S c m) c.2.2 two := by
            show (if isP (sn S) two then (if _ then _ else _) else _) = _
            rw [if_pos hp, if_neg (by omega)]
          refine aw_iincN (v := 1) dX2_seekFewestCold_89 rfl rfl ?_
          dsimp only [List.set]
          refine aw_goto (tgt := 30) dX2_seekFewestCold_92 (by decide) ?_
          exact ih (two + 1) h4 (by omega) (by omega) (by rw [e, e66]; exact g1) (by rw [e, e66]; exact g2) f5
        · have e : wrS (sn S) (vCold S c m) c.2.2 (two + 1) = (vCold S c m (ap c.2.2 two), two) := by
            show (if isP (sn S) two then (if _ then _ else _) else _) = _
            rw [if_pos hp, if_pos (by omega)]
          refine aw_aload_n dX2_seekFewestCold_76 rfl rfl ?_
          refine aw_aload_n dX2_seekFewestCold_77 rfl rfl ?_
          refine aw_getR dX2_seekFewestCold_78 fX2_15 (by first | assumption | rfl) (by rfl) ?_
          refine aw_callVF dX2_seekFewestCold_81 kX2_51 (c_W_coldTogether) (by first | assumption | rfl) rfl rfl rfl (Nat.le_of_ble_eq_true rfl) (Nat.le_of_ble_eq_true rfl) ?_
          dsimp only [Option.toList, List.cons_append, List.nil_append, Nat.reduceAdd]
          rw [ec]
          refine aw_iconst (v := nI 0) dX2_seekFewestCold_84 (by decide) ?_
          refine aw_iload_n dX2_seekFewestCold_85 rfl rfl ?_
          refine aw_callVF dX2_seekFewestCold_86 kX2_43 (c_Q_take (by omega) (by omega)) (by first | assumption | rfl) rfl rfl rfl (Nat.le_of_ble_eq_true rfl) (Nat.le_of_ble_eq_true rfl) ?_
          dsimp only [Option.toList, List.cons_append, List.nil_append, Nat.reduceAdd]
          refine aw_iincN (v := 1) dX2_seekFewestCold_89 rfl rfl ?_
          dsimp only [List.set]
          refine aw_goto (tgt := 30) dX2_seekFewestCold_92 (by decide) ?_
          have ef : fpO 0 two = two := by unfold fpO; rw [if_pos rfl, if_neg (by omega)]
          have qt := QS.took (h := h4) (m := vCold S c m (ap c.2.2 two)) (x := fpO 0 two) (y := spO 0 two)
          refine ih (two + 1) _ (by omega) (by omega) (by rw [e]; exact qt.1) (by rw [e]; exact qt.2.1.trans ef) (f5.trans FQ.took)
      · rw [if_neg hp]
        have e : wrS (sn S) (vCold S c m) c.2.2 (two + 1) = wrS (sn S) (vCold S c m) c.2.2 two := by
          show (if isP (sn S) two then _ else _) = _
          rw [if_neg hp]
        refine aw_if_neN (tgt := 47) dX2_seekFewestCold_41 (by decide) (by omega) (fun q => absurd q (by omega)) (fun _ => ?_)
        refine aw_goto (tgt := 89) dX2_seekFewestCold_44 (by decide) ?_
        refine aw_iincN (v := 1) dX2_seekFewestCold_89 rfl rfl ?_
        dsimp only [List.set]
        refine aw_goto (tgt := 30) dX2_seekFewestCold_92 (by decide) ?_
        exact ih (two + 1) hh (by omega) (by omega) (by rw [e]; exact g1) (by rw [e]; exact g2) hf
  change AW mX2_seekFewestCold _ 0 [some (.ref 66), some (.ref 16), some (.int (nI m)), none] [] h _
  refine aw_aload_n dX2_seekFewestCold_0 rfl rfl ?_
  refine aw_aload_n dX2_seekFewestCold_1 rfl rfl ?_
  refine aw_iconst (v := nI 0) dX2_seekFewestCold_2 (by decide) ?_
  refine aw_iconst (v := nI 0) dX2_seekFewestCold_3 (by decide) ?_
  refine aw_callV dX2_seekFewestCold_4 kX2_29 (c_Q_beginBy hx hS hv hc (dd0 0 (Or.inl rfl)) (dd0 0 (Or.inl rfl)) (by omega) (by omega)) (by first | assumption | rfl) rfl rfl rfl (Nat.le_of_ble_eq_true rfl) (Nat.le_of_ble_eq_true rfl) ?_
  rintro _ h3 ⟨rfl, w3, f3⟩
  dsimp only [Option.toList, List.cons_append, List.nil_append, Nat.reduceAdd]
  refine aw_aload_n dX2_seekFewestCold_7 rfl rfl ?_
  refine aw_getR dX2_seekFewestCold_8 fX2_15 (by first | assumption | rfl) (by rfl) ?_
  refine aw_iload_n dX2_seekFewestCold_11 rfl rfl ?_
  refine aw_callV dX2_seekFewestCold_12 kX2_33 (c_W_go w3 hok (PM_ap (PM_ap hc.2.1 (dd0 0 (Or.inl rfl))) (dd0 0 (Or.inl rfl))) (by omega)) (by first | assumption | rfl) rfl rfl rfl (Nat.le_of_ble_eq_true rfl) (Nat.le_of_ble_eq_true rfl) ?_
  rintro _ h4 ⟨rfl, w4, f4⟩
  dsimp only [Option.toList, List.cons_append, List.nil_append, Nat.reduceAdd]
  refine aw_aload_n dX2_seekFewestCold_15 rfl rfl ?_
  refine aw_aload_n dX2_seekFewestCold_16 rfl rfl ?_
  refine aw_getR dX2_seekFewestCold_17 fX2_15 (by first | assumption | rfl) (by rfl) ?_
  refine aw_callVF dX2_seekFewestCold_20 kX2_51 (c_W_coldTogether) (by first | assumption | rfl) rfl rfl rfl (Nat.le_of_ble_eq_true rfl) (Nat.le_of_ble_eq_true rfl) ?_
  dsimp only [Option.toList, List.cons_append, List.nil_append, Nat.reduceAdd]
  have ec : h4 60 4 = vCold S c m c.2.2 := by
    have := w4.2.2.1
    rw [this, Nat.zero_add, ap_0, ap_0]
    rfl
  rw [ec]
  refine aw_iconst (v := nI 0) dX2_seekFewestCold_23 (by decide) ?_
  refine aw_iconst (v := nI 0) dX2_seekFewestCold_24 (by decide) ?_
  refine aw_callVF dX2_seekFewestCold_25 kX2_43 (c_Q_take (by omega) (by omega)) (by first | assumption | rfl) rfl rfl rfl (Nat.le_of_ble_eq_true rfl) (Nat.le_of_ble_eq_true rfl) ?_
  dsimp only [Option.toList, List.cons_append, List.nil_append, Nat.reduceAdd]
  refine aw_iconst (v := nI 1) dX2_seekFewestCold_28 (by decide) ?_
  refine aw_istore_n dX2_seekFewestCold_29 rfl (Nat.le_of_ble_eq_true rfl) rfl ?_
  dsimp only [List.set]
  have qt := QS.took (h := h4) (m := vCold S c m c.2.2) (x := fpO 0 0) (y := spO 0 0)
  have e : wrS (sn S) (vCold S c m) c.2.2 1 = (vCold S c m c.2.2, 4294967292) := by
    show (if isP (sn S) 0 then _ else _) = _
    rw [if_neg (by omega)]
    rfl
  exact loop 63 1 _ (by omega) (by omega) (by rw [e]; exact qt.1) (by rw [e]; exact qt.2.1) ((FQ.of (f3.trans f4)).trans FQ.took)
/-- who can have room r behind t days, by one swap -/
def cvS (S : Hs) (c : Sv) (r t : Nat) : Nat → Int32
  | 0 => nI 1 <<< (nI (own (rmF S c.2.1 (cL (sn S) c) c.1 c.2.2 t) r (sn S) 0) &&& 31)
  | k + 1 => if isP (sn S) k then cvS S c r t k ||| (nI 1 <<< (nI (own (rmF S c.2.1 (cL (sn S) c) c.1 (ap c.2.2 k) t) r (sn S) 0) &&& 31)) else cvS S c r t k
theorem own_congr {f g : Nat → Nat} {r : Nat} : ∀ t k, (∀ i, k ≤ i → i < k + t → f i = g i) → own f r t k = own g r t k := by
  intro t
  induction t with
  | zero => intro k _; rfl
  | succ t ih =>
    intro k hq
    unfold own
    rw [hq k (Nat.le_refl _) (by omega), ih (k + 1) (fun i h1 h2 => hq i (by omega) (by omega))]
theorem c_Q_owners {d r t : Nat} {h : Hp} {S : Hs} {c : Sv} (hx : HX h S) (hS : HsOk S) (hv : SVt h (sn S) 16 c) (hc : SvOk (sn S) c) (hr : r < sn S) (ht : t ≤ 120) :
    RT mX2_ownersByOneSwap (d + 5) [.ref 66, .ref 16, .int (nI r), .int (nI t)] h (fun v h' => v = some (.int (cvS S c r (t + 1) 64)) ∧ FQ h h') := by
  have h38 := hS.2.1
  have h37 := hS.1
  have hok := cL_ok hS hc
  have hLs : ∀ q, q < sn S → cL (sn S) c q < sn S := fun q hq => (hok.2 q hq).2
  have hc1 := hc.1
  have dd0 : ∀ p, p = 0 ∨ isP (sn S) p → p / 8 < sn S ∧ p % 8 < sn S := fun p q => by omega
  -- one try, from pc 30 to 73
  have body : ∀ two (x : Int32) hh, two < 64 → (two = 0 ∨ isP (sn S) two) → FQ h hh → (∀ h2, FQ h h2 → AW mX2_ownersByOneSwap (d + 5) 73 [some (.ref 66), some (.ref 16), some (.int (nI r)), some (.int (nI t)), some (.int (x ||| (nI 1 <<< (nI (own (rmF S c.2.1 (cL (sn S) c) c.1 (ap c.2.2 two) (t + 1)) r (sn S) 0) &&& 31)))), some (.int (nI two))] [] h2 (fun v h' => v = some (.int (cvS S c r (t + 1) 64)) ∧ FQ h h')) →
      AW mX2_ownersByOneSwap (d + 5) 30 [some (.ref 66), some (.ref 16), some (.int (nI r)), some (.int (nI t)), some (.int x), some (.int (nI two))] [] hh (fun v h' => v = some (.int (cvS S c r (t + 1) 64)) ∧ FQ h h') := by
    intro two x hh htw hp hf kk
    have hx1 := hx.fq hf
    have hv1 := hv.fq hf (by decide)
    have hpm := PM_ap (PM_ap hc.2.1 (dd0 0 (Or.inl rfl))) (dd0 two hp)
    have hpr := PM_rmF (b := c.2.1) (day0 := c.1) hS hLs hpm (t + 1)
    refine aw_aload_n dX2_ownersByOneSwap_30 rfl rfl ?_
    refine aw_aload_n dX2_ownersByOneSwap_31 rfl rfl ?_
    refine aw_iconst (v := nI 0) dX2_ownersByOneSwap_32 (by decide) ?_
    refine aw_iload dX2_ownersByOneSwap_33 rfl ?_
    refine aw_callV dX2_ownersByOneSwap_35 kX2_29 (c_Q_beginBy hx1 hS hv1 hc (dd0 0 (Or.inl rfl)) (dd0 two hp) (by omega) (by omega)) (by first | assumption | rfl) rfl rfl rfl (Nat.le_of_ble_eq_true rfl) (Nat.le_of_ble_eq_true rfl) ?_
    rintro _ h3 ⟨rfl, w3, f3⟩
    dsimp only [Option.toList, List.cons_append, List.nil_append, Nat.reduceAdd]
    refine aw_aload_n dX2_ownersByOneSwap_38 rfl rfl ?_
    refine aw_getR dX2_ownersByOneSwap_39 fX2_15 (by first | assumption | rfl) (by rfl) ?_
    refine aw_iload_n dX2_ownersByOneSwap_42 rfl rfl ?_
    refine aw_iconst (v := nI 1) dX2_ownersByOneSwap_43 (by decide) ?_
    refine aw_iaddN dX2_ownersByOneSwap_44 ?_
    refine aw_callV dX2_ownersByOneSwap_45 kX2_33 (c_W_go w3 hok hpm (by omega)) (by first | assumption | rfl) rfl rfl rfl (Nat.le_of_ble_eq_true rfl) (Nat.le_of_ble_eq_true rfl) ?_
    rintro _ h4 ⟨rfl, w4, f4⟩
    dsimp only [Option.toList, List.cons_append, List.nil_append, Nat.reduceAdd]
    refine aw_iload dX2_ownersByOneSwap_48 rfl ?_
    refine aw_iconst (v := nI 1) dX2_ownersByOneSwap_50 (by decide) ?_
    refine aw_aload_n dX2_ownersByOneSwap_51 rfl rfl ?_
    refine aw_getR dX2_ownersByOneSwap_52 fX2_15 (by first | assumption | rfl) (by rfl) ?_
    refine aw_callVF dX2_ownersByOneSwap_55 kX2_55 (c_W_standing) (by first | assumption | rfl) rfl rfl rfl (Nat.le_of_ble_eq_true rfl) (Nat.le_of_ble_eq_true rfl) ?_
    dsimp only [Option.toList, List.cons_append, List.nil_append, Nat.reduceAdd]
    refine aw_iload_n dX2_ownersByOneSwap_58 rfl rfl ?_
    refine aw_aload_n dX2_ownersByOneSwap_59 rfl rfl ?_
    refine aw_getR dX2_ownersByOneSwap_60 fX2_9 (by first | assumption | rfl) (by rfl) ?_
    refine aw_callVF dX2_ownersByOneSwap_63 kX2_59 (c_P_cousins) (by first | assumption | rfl) rfl rfl rfl (Nat.le_of_ble_eq_true rfl) (Nat.le_of_ble_eq_true rfl) ?_
    dsimp only [Option.toList, List.cons_append, List.nil_append, Nat.reduceAdd]
    have e4 := w4.1.1
    have e62 : ∀ i, i < sn S → h4 62 i = rmF S c.2.1 (cL (sn S) c) c.1 (ap (ap c.2.2 0) two) (t + 1) i := fun i hi => (w4.2.2.2 i hi).1
    rw [e4]
    refine aw_callVF dX2_ownersByOneSwap_66 kX2_64 (c_S_ownerOf ⟨rfl, rfl, rfl⟩ (by omega) (by omega) (fun i hi => by rw [e62 i hi]; have := hpr.1 i hi; omega)) (by first | assumption | rfl) rfl rfl rfl (Nat.le_of_ble_eq_true rfl) (Nat.le_of_ble_eq_true rfl) ?_
    dsimp only [Option.toList, List.cons_append, List.nil_append, Nat.reduceAdd]
    refine aw_ishl dX2_ownersByOneSwap_69 ?_
    refine aw_ior dX2_ownersByOneSwap_70 ?_
    refine aw_istore dX2_ownersByOneSwap_71 (Nat.le_of_ble_eq_true rfl) rfl ?_
    dsimp only [List.set]
    have eo : own (h4 62) r (sn S) 0 = own (rmF S c.2.1 (cL (sn S) c) c.1 (ap c.2.2 two) (t + 1)) r (sn S) 0 := by
      rw [ap_0] at e62
      exact own_congr (sn S) 0 (fun i _ hi => e62 i (by omega))
    rw [eo]
    exact kk h4 (hf.trans (FQ.of (f3.trans f4)))
  have loop : ∀ u two hh, two + u = 64 → 1 ≤ two → FQ h hh → AW mX2_ownersByOneSwap (d + 5) 6 [some (.ref 66), some (.ref 16), some (.int (nI r)), some (.int (nI t)), some (.int (cvS S c r (t + 1) two)), some (.int (nI two))] [] hh (fun v h' => v = some (.int (cvS S c r (t + 1) 64)) ∧ FQ h h') := by
    intro u
    induction u with
    | zero =>
      intro two hh htw h1 hf
      have e2 : two = 64 := by omega
      subst e2
      refine aw_iload dX2_ownersByOneSwap_6 rfl ?_
      refine aw_bipush (v := nI 64) dX2_ownersByOneSwap_8 (by decide) ?_
      refine aw_icmp_geN (tgt := 79) dX2_ownersByOneSwap_10 (by decide) (by omega) (by omega) (fun _ => ?_) (fun q => absurd q (by omega))
      refine aw_iload dX2_ownersByOneSwap_79 rfl ?_
      refine aw_iret dX2_ownersByOneSwap_81 rfl (by first | rfl | exact (pk_charN (by omega)).1 | decide) ?_
      exact ⟨rfl, hf⟩
    | succ u ih =>
      intro two hh htw h1 hf
      have hx1 := hx.fq hf
      refine aw_iload dX2_ownersByOneSwap_6 rfl ?_
      refine aw_bipush (v := nI 64) dX2_ownersByOneSwap_8 (by decide) ?_
      refine aw_icmp_geN (tgt := 79) dX2_ownersByOneSwap_10 (by decide) (by omega) (by omega) (fun q => absurd q (by omega)) (fun _ => ?_)
      refine aw_iload dX2_ownersByOneSwap_13 rfl ?_
      refine aw_if_eqN (tgt := 30) dX2_ownersByOneSwap_15 (by decide) (by omega) (fun q => absurd q (by omega)) (fun _ => ?_)
      refine aw_aload_n dX2_ownersByOneSwap_18 rfl rfl ?_
      refine aw_iload dX2_ownersByOneSwap_19 rfl ?_
      refine aw_callVF dX2_ownersByOneSwap_21 kX2_47 (c_Q_isPair hx1 hS (by omega)) (by first | assumption | rfl) rfl rfl rfl (Nat.le_of_ble_eq_true rfl) (Nat.le_of_ble_eq_true rfl) ?_
      dsimp only [Option.toList, List.cons_append, List.nil_append, Nat.reduceAdd]
      by_cases hp : isP (sn S) two
      · rw [if_pos hp]
        refine aw_if_neN (tgt := 30) dX2_ownersByOneSwap_24 (by decide) (by omega) (fun _ => ?_) (fun q => absurd q (by omega))
        refine body two _ hh (by omega) (Or.inr hp) hf (fun h2 f2 => ?_)
        have e : cvS S c r (t + 1) (two + 1) = cvS S c r (t + 1) two ||| (nI 1 <<< (nI (own (rmF S c.2.1 (cL (sn S) c) c.1 (ap c.2.2 two) (t + 1)) r (sn S) 0) &&& 31)) := by
          show (if isP (sn S) two then _ else _) = _
          rw [if_pos hp]
        rw [← e]
        refine aw_iincN (v := 1) dX2_ownersByOneSwap_73 rfl rfl ?_
        dsimp only [List.set]
        refine aw_goto (tgt := 6) dX2_ownersByOneSwap_76 (by decide) ?_
        exact ih (two + 1) h2 (by omega) (by omega) f2
      · rw [if_neg hp]
        have e : cvS S c r (t + 1) (two + 1) = cvS S c r (t + 1) two := by
          show (if isP (sn S) two then _ else _) = _
          rw [if_neg hp]
        refine aw_if_neN (tgt := 30) dX2_ownersByOneSwap_24 (by decide) (by omega) (fun q => absurd q (by omega)) (fun _ => ?_)
        refine aw_goto (tgt := 73) dX2_ownersByOneSwap_27 (by decide) ?_
        refine aw_iincN (v := 1) dX2_ownersByOneSwap_73 rfl rfl ?_
        dsimp only [List.set]
        refine aw_goto (tgt := 6) dX2_ownersByOneSwap_76 (by decide) ?_
        rw [← e]
        exact ih (two + 1) hh (by omega) (by omega) hf
  change AW mX2_ownersByOneSwap _ 0 [some (.ref 66), some (.ref 16), some (.int (nI r)), some (.int (nI t)), none, none] [] h _
  refine aw_iconst (v := nI 0) dX2_ownersByOneSwap_0 (by decide) ?_
  refine aw_istore dX2_ownersByOneSwap_1 (Nat.le_of_ble_eq_true rfl) rfl ?_
  dsimp only [List.set]
  refine aw_iconst (v := nI 0) dX2_ownersByOneSwap_3 (by decide) ?_
  refine aw_istore dX2_ownersByOneSwap_4 (Nat.le_of_ble_eq_true rfl) rfl ?_
  dsimp only [List.set]
  refine aw_iload dX2_ownersByOneSwap_6 rfl ?_
  refine aw_bipush (v := nI 64) dX2_ownersByOneSwap_8 (by decide) ?_
  refine aw_icmp_geN (tgt := 79) dX2_ownersByOneSwap_10 (by decide) (by omega) (by omega) (fun q => absurd q (by omega)) (fun _ => ?_)
  refine aw_iload dX2_ownersByOneSwap_13 rfl ?_
  refine aw_if_eqN (tgt := 30) dX2_ownersByOneSwap_15 (by decide) (by omega) (fun _ => ?_) (fun q => absurd q (by omega))
  refine body 0 _ h (by omega) (Or.inl rfl) (fun o _ => rfl) (fun h2 f2 => ?_)
  have e : nI 0 ||| (nI 1 <<< (nI (own (rmF S c.2.1 (cL (sn S) c) c.1 (ap c.2.2 0) (t + 1)) r (sn S) 0) &&& 31)) = cvS S c r (t + 1) 1 := by
    show _ = (if isP (sn S) 0 then _ else _)
    rw [if_neg (by omega), nI_0, Int32.zero_or, ap_0]
    rfl
  rw [e]
  refine aw_iincN (v := 1) dX2_ownersByOneSwap_73 rfl rfl ?_
  dsimp only [List.set]
  refine aw_goto (tgt := 6) dX2_ownersByOneSwap_76 (by decide) ?_
  exact loop 63 1 h2 (by omega) (by omega) f2
