/-! the reference: register, from the last birthday down -/
def rgD (X : XS) (i : Nat) : Nat → Nat × Nat
  | 0 => (0, 4294967292)
  | u + 1 => if fitP X i (59 - u) then ((rgD X i u).1 + 1, 59 - u) else rgD X i u
theorem rgD_eq {X : XS} {i : Nat} : ∀ u, u ≤ 60 → (rgS X i (60 - u)).1 + (rgD X i u).1 = (rgS X i 60).1 ∧ (if (rgS X i (60 - u)).2 = 4294967292 then (rgD X i u).2 else (rgS X i (60 - u)).2) = (rgS X i 60).2 := by
  intro u
  induction u with
  | zero =>
    intro _
    refine ⟨rfl, ?_⟩
    show (if (rgS X i 60).2 = 4294967292 then 4294967292 else (rgS X i 60).2) = _
    split
    · rename_i z; exact z.symm
    · rfl
  | succ u ih =>
    intro hu
    obtain ⟨i1, i2⟩ := ih (by omega)
    obtain ⟨x, hx⟩ : ∃ x, 60 - (u + 1) = x ∧ 60 - u = x + 1 ∧ 59 - u = x := ⟨59 - u, by omega, by omega, rfl⟩
    rw [hx.1]
    rw [hx.2.1] at i1 i2
    have hsm := rgS_sm (X := X) (i := i) x
    unfold rgD
    rw [hx.2.2]
    by_cases q : fitP X i x
    · have e : rgS X i (x + 1) = ((rgS X i x).1 + 1, if (rgS X i x).2 = 4294967292 then x else (rgS X i x).2) := by rw [rgS, if_pos q]
      rw [e] at i1 i2
      dsimp only at i1 i2
      rw [if_pos q]
      dsimp only
      refine ⟨by omega, ?_⟩
      rw [← i2]
      by_cases z : (rgS X i x).2 = 4294967292
      · simp only [if_pos z]
        rw [if_neg (by omega)]
      · simp only [if_neg z]
    · have e : rgS X i (x + 1) = rgS X i x := by rw [rgS, if_neg q]
      rw [e] at i1 i2
      rw [if_neg q]
      exact ⟨i1, i2⟩
theorem rgD_60 {X : XS} {i : Nat} : rgD X i 60 = rgS X i 60 := by
  obtain ⟨h1, h2⟩ := rgD_eq (X := X) (i := i) 60 (Nat.le_refl _)
  have e0 : rgS X i (60 - 60) = (0, 4294967292) := rfl
  rw [e0] at h1 h2
  rw [if_pos rfl] at h2
  rw [Nat.zero_add] at h1
  exact Prod.ext h1 h2
theorem y_register {d : Nat} {h : Hp} {X : XS} {i w : Int32} (hr : RM h X) (hv : VX X) : RT mX8_register (d + 7) [.ref 67, .int i, .int w] h (QM h X (a_register X i w)) := by
  have hn := hv.n
  have hS := hv.1
  have hz8 := hv.2.2.2.2.2.1
  unfold a_register
  change AW mX8_register _ 0 [some (.ref 67), some (.int i), some (.int w), none, none, none, none, none, none] [] h _
  cases ei : ix i 0 (xn X - 1) with
  | none =>
    refine aw_aload_n dX8_register_0 rfl rfl ?_
    refine aw_iload_n dX8_register_1 rfl rfl ?_
    refine aw_callVF dX8_register_2 kX8_151 (m_oneN hr hv ei) (by first | assumption | rfl) rfl rfl rfl (Nat.le_of_ble_eq_true rfl) (Nat.le_of_ble_eq_true rfl) ?_
    dsimp only [Option.toList, List.cons_append, List.nil_append, Nat.reduceAdd]
    refine aw_if_eqN (tgt := 17) dX8_register_5 (by decide) (by omega) (fun _ => ?_) (fun q => absurd q (by omega))
    refine aw_iconst (v := nI 4294967295) dX8_register_17 (by decide) ?_
    refine aw_iret dX8_register_18 rfl (by first | rfl | exact (pk_charN (by omega)).1 | decide) ?_
    exact QM.same hr
  | some i =>
    obtain ⟨rfl, hi1, hi2⟩ := ix_s (by omega) (by omega) ei
    dsimp only
    cases ew : ix w 0 1 with
    | none =>
      refine aw_aload_n dX8_register_0 rfl rfl ?_
      refine aw_iload_n dX8_register_1 rfl rfl ?_
      refine aw_callVF dX8_register_2 kX8_151 (m_oneS hr hv ei) (by first | assumption | rfl) rfl rfl rfl (Nat.le_of_ble_eq_true rfl) (Nat.le_of_ble_eq_true rfl) ?_
      dsimp only [Option.toList, List.cons_append, List.nil_append, Nat.reduceAdd]
      refine aw_if_eqN (tgt := 17) dX8_register_5 (by decide) (by omega) (fun q => absurd q (by omega)) (fun _ => ?_)
      refine aw_iload_n dX8_register_8 rfl rfl ?_
      refine aw_iconst (v := nI 0) dX8_register_9 (by decide) ?_
      refine aw_iconst (v := nI 1) dX8_register_10 (by decide) ?_
      refine aw_callSF dX8_register_11 kX8_76 (m_iN ew) rfl rfl rfl (Nat.le_of_ble_eq_true rfl) (Nat.le_of_ble_eq_true rfl) ?_
      dsimp only [Option.toList, List.cons_append, List.nil_append, Nat.reduceAdd]
      refine aw_if_neN (tgt := 19) dX8_register_14 (by decide) (by omega) (fun q => absurd q (by omega)) (fun _ => ?_)
      refine aw_iconst (v := nI 4294967295) dX8_register_17 (by decide) ?_
      refine aw_iret dX8_register_18 rfl (by first | rfl | exact (pk_charN (by omega)).1 | decide) ?_
      exact QM.same hr
    | some w =>
      obtain ⟨rfl, hw1, hw2⟩ := ix_s (by omega) (by omega) ew
      dsimp only
      rw [← rgD_60]
      have hin : i < xn X := by omega
      have loop : ∀ k u hh, u + k = 60 → F81 h hh → AW mX8_register (d + 7) 29 [some (.ref 67), some (.int (nI i)), some (.int (nI w)), some (.int (nI (rgD X i u).1)), some (.int (nI (rgD X i u).2)), some (.int (nI (4294967296 + 59 - u))), none, none, none] [] hh (QM h X (nI (if w = 0 then (rgD X i 60).1 else (rgD X i 60).2))) := by
        intro k
        induction k with
        | zero =>
          intro u hh hu hg
          have eu : u = 60 := by omega
          subst eu
          refine aw_iload dX8_register_29 rfl ?_
          refine aw_if_lt (tgt := 190) dX8_register_31 (by decide) (fun _ => ?_) (fun q => absurd (by decide) q)
          refine aw_iload_n dX8_register_190 rfl rfl ?_
          rcases (show w = 0 ∨ w = 1 by omega) with rfl | rfl
          · rw [if_pos rfl]
            refine aw_if_neN (tgt := 198) dX8_register_191 (by decide) (by omega) (fun q => absurd q (by omega)) (fun _ => ?_)
            refine aw_iload_n dX8_register_194 rfl rfl ?_
            refine aw_goto (tgt := 200) dX8_register_195 (by decide) ?_
            refine aw_iret dX8_register_200 rfl (by first | rfl | exact (pk_charN (by omega)).1 | decide) ?_
            exact QM.fr hr hg
          · rw [if_neg (by decide)]
            refine aw_if_neN (tgt := 198) dX8_register_191 (by decide) (by omega) (fun _ => ?_) (fun q => absurd q (by omega))
            refine aw_iload dX8_register_198 rfl ?_
            refine aw_iret dX8_register_200 rfl (by first | rfl | exact (pk_charN (by omega)).1 | decide) ?_
            exact QM.fr hr hg
        | succ k ih =>
          intro u hh hu hg
          obtain ⟨x, hx⟩ : ∃ x, x = 59 - u := ⟨_, rfl⟩
          have ex : nI (4294967296 + 59 - u) = nI x := by rw [show 4294967296 + 59 - u = x + 4294967296 by omega, nI_w]
          rw [ex]
          have r2 := hr.fr hg
          refine aw_iload dX8_register_29 rfl ?_
          refine aw_if_ltN (tgt := 190) dX8_register_31 (by decide) (by omega) (fun q => absurd q (by omega)) (fun _ => ?_)
          refine aw_aload_n dX8_register_34 rfl rfl ?_
          refine aw_aload_n dX8_register_35 rfl rfl ?_
          refine aw_getR dX8_register_36 fX8_19 (by first | assumption | rfl) (by rfl) ?_
          refine aw_callV dX8_register_39 kX8_154 (m_from (c := fiC X) r2.1 hS r2.2.2.1 hv.2.2.1.2.2 rfl (by decide)) (by first | assumption | rfl) rfl rfl rfl (Nat.le_of_ble_eq_true rfl) (Nat.le_of_ble_eq_true rfl) ?_
          rintro _ h3 ⟨rfl, w3, f3⟩
          dsimp only [Option.toList, List.cons_append, List.nil_append, Nat.reduceAdd]
          refine aw_aload_n dX8_register_42 rfl rfl ?_
          refine aw_getR dX8_register_43 fX8_46 (by first | assumption | rfl) (by rfl) ?_
          refine aw_bipush (v := nI 9) dX8_register_46 (by decide) ?_
          refine aw_iload_n dX8_register_48 rfl rfl ?_
          refine aw_iaddN dX8_register_49 ?_
          refine aw_iload dX8_register_50 rfl ?_
          refine aw_iastore dX8_register_52 (by first | assumption | rfl) (by omega) (by omega) ?_
          refine aw_aload_n dX8_register_53 rfl rfl ?_
          obtain ⟨o1, o2, o3, o4⟩ := m_other (x := x) w3 hS hin hv.2.2.1.2.2 (by omega)
          refine aw_callV dX8_register_54 kX8_127 (m_findList o1 hS o2 o3) (by first | assumption | rfl) rfl rfl rfl (Nat.le_of_ble_eq_true rfl) (Nat.le_of_ble_eq_true rfl) ?_
          rintro _ h4 ⟨rfl, w4, f4⟩
          dsimp only [Option.toList, List.cons_append, List.nil_append, Nat.reduceAdd]
          refine aw_iconst (v := nI 1) dX8_register_57 (by decide) ?_
          refine aw_istore dX8_register_58 (Nat.le_of_ble_eq_true rfl) rfl ?_
          dsimp only [List.set]
          refine aw_iconst (v := nI 0) dX8_register_60 (by decide) ?_
          refine aw_istore dX8_register_61 (Nat.le_of_ble_eq_true rfl) rfl ?_
          dsimp only [List.set]
          have g4 : F81 h h4 := ((hg.trans f3).trans o4).trans (fun o p q => f4 o q)
          obtain ⟨B, hB⟩ : ∃ B, B = fu (x0 X) i x := ⟨_, rfl⟩
          have w4' : NS h4 (xS X) B (lsB (xn X) B) 0 (fun j => j) := by rw [hB]; exact w4
          have hok2 : WO (xS X) B (lsB (xn X) B) := WO_ls hS (fun j hj => by rw [hB]; exact (o3 j hj).2.2)
          have hLs : ∀ q, q < sn (xS X) → lsB (xn X) B q < sn (xS X) := fun q hq => (hok2.2 q hq).2
          have hfit : fitP X i x ↔ ∀ q, q < (xZ X).1 → rmF (xS X) B (lsB (xn X) B) 0 (fun j => j) (((xZ X).2 q).2.2 + 1) ((xZ X).2 q).1 = ((xZ X).2 q).2.1 := by rw [hB]
          -- the end of one birthday
          have fin : ∀ s h5, F81 h h5 → (s = 1 ∧ fitP X i x) ∨ (s = 0 ∧ ¬ fitP X i x) → AW mX8_register (d + 7) 157 [some (.ref 67), some (.int (nI i)), some (.int (nI w)), some (.int (nI (rgD X i u).1)), some (.int (nI (rgD X i u).2)), some (.int (nI x)), some (.int (nI s)), none, none] [] h5 (QM h X (nI (if w = 0 then (rgD X i 60).1 else (rgD X i 60).2))) := by
            intro s h5 g5 hs
            have ihx := ih (u + 1) h5 (by omega) g5
            have ex2 : nI x + Int32.ofInt (-1) = nI (4294967296 + 59 - (u + 1)) := by
              rw [show Int32.ofInt (-1) = nI 4294967295 by decide, nI_add, show x + 4294967295 = 4294967296 + 59 - (u + 1) by omega]
            rcases hs with ⟨rfl, q⟩ | ⟨rfl, q⟩
            · have e : rgD X i (u + 1) = ((rgD X i u).1 + 1, x) := by rw [rgD, ← hx, if_pos q]
              rw [e] at ihx
              dsimp only at ihx
              refine aw_iload_n dX8_register_157 rfl rfl ?_
              refine aw_iload dX8_register_158 rfl ?_
              refine aw_if_eqN (tgt := 167) dX8_register_160 (by decide) (by omega) (fun q => absurd q (by omega)) (fun _ => ?_)
              refine aw_iconst (v := nI 1) dX8_register_163 (by decide) ?_
              refine aw_goto (tgt := 168) dX8_register_164 (by decide) ?_
              refine aw_iaddN dX8_register_168 ?_
              refine aw_istore_n dX8_register_169 rfl (Nat.le_of_ble_eq_true rfl) rfl ?_
              dsimp only [List.set]
              refine aw_iload dX8_register_170 rfl ?_
              refine aw_if_eqN (tgt := 180) dX8_register_172 (by decide) (by omega) (fun q => absurd q (by omega)) (fun _ => ?_)
              refine aw_iload dX8_register_175 rfl ?_
              refine aw_goto (tgt := 182) dX8_register_177 (by decide) ?_
              refine aw_istore dX8_register_182 (Nat.le_of_ble_eq_true rfl) rfl ?_
              dsimp only [List.set]
              refine aw_iinc dX8_register_184 rfl ex2 rfl ?_
              dsimp only [List.set]
              refine aw_goto (tgt := 29) dX8_register_187 (by decide) ?_
              refine aw_forget 6 ?_
              dsimp only [List.set]
              exact ihx
            · have e : rgD X i (u + 1) = rgD X i u := by rw [rgD, ← hx, if_neg q]
              rw [e] at ihx
              refine aw_iload_n dX8_register_157 rfl rfl ?_
              refine aw_iload dX8_register_158 rfl ?_
              refine aw_if_eqN (tgt := 167) dX8_register_160 (by decide) (by omega) (fun _ => ?_) (fun q => absurd q (by omega))
              refine aw_iconst (v := nI 0) dX8_register_167 (by decide) ?_
              refine aw_iaddN dX8_register_168 ?_
              refine aw_istore_n dX8_register_169 rfl (Nat.le_of_ble_eq_true rfl) rfl ?_
              dsimp only [List.set]
              refine aw_iload dX8_register_170 rfl ?_
              refine aw_if_eqN (tgt := 180) dX8_register_172 (by decide) (by omega) (fun _ => ?_) (fun q => absurd q (by omega))
              refine aw_iload dX8_register_180 rfl ?_
              refine aw_istore dX8_register_182 (Nat.le_of_ble_eq_true rfl) rfl ?_
              dsimp only [List.set]
              refine aw_iinc dX8_register_184 rfl ex2 rfl ?_
              dsimp only [List.set]
              refine aw_goto (tgt := 29) dX8_register_187 (by decide) ?_
              refine aw_forget 6 ?_
              dsimp only [List.set]
              exact ihx
          -- all that was seen up to day t - 1 has been looked at
          have days : ∀ v t s h5, t + v = 121 → NS h5 (xS X) B (lsB (xn X) B) t (rmF (xS X) B (lsB (xn X) B) 0 (fun j => j) t) → F81 h h5 → ((s = 1 ∧ ∀ q, q < (xZ X).1 → ((xZ X).2 q).2.2 < t → rmF (xS X) B (lsB (xn X) B) 0 (fun j => j) (((xZ X).2 q).2.2 + 1) ((xZ X).2 q).1 = ((xZ X).2 q).2.1) ∨ (s = 0 ∧ ¬ fitP X i x)) → AW mX8_register (d + 7) 63 [some (.ref 67), some (.int (nI i)), some (.int (nI w)), some (.int (nI (rgD X i u).1)), some (.int (nI (rgD X i u).2)), some (.int (nI x)), some (.int (nI s)), some (.int (nI t)), none] [] h5 (QM h X (nI (if w = 0 then (rgD X i 60).1 else (rgD X i 60).2))) := by
            intro v
            induction v with
            | zero =>
              intro t s h5 ht w5 g5 hs
              refine aw_iload dX8_register_63 rfl ?_
              refine aw_bipush (v := nI 120) dX8_register_65 (by decide) ?_
              refine aw_icmp_gtN (tgt := 157) dX8_register_67 (by decide) (by omega) (by omega) (fun _ => ?_) (fun q => absurd q (by omega))
              refine aw_forget 7 ?_
              dsimp only [List.set]
              refine fin s h5 g5 ?_
              rcases hs with ⟨q1, q2⟩ | q
              · refine Or.inl ⟨q1, hfit.mpr (fun k hk => q2 k hk ?_)⟩
                have := (hz8.2 k hk).2.2
                omega
              · exact Or.inr q
            | succ v ihv =>
              intro t s h5 ht w5 g5 hs
              refine aw_iload dX8_register_63 rfl ?_
              refine aw_bipush (v := nI 120) dX8_register_65 (by decide) ?_
              refine aw_icmp_gtN (tgt := 157) dX8_register_67 (by decide) (by omega) (by omega) (fun q => absurd q (by omega)) (fun _ => ?_)
              refine aw_aload_n dX8_register_70 rfl rfl ?_
              refine aw_callV dX8_register_71 kX8_145 (m_goes w5 hok2 (PM_rmF hS hLs (PM_id _) t) (by omega)) (by first | assumption | rfl) rfl rfl rfl (Nat.le_of_ble_eq_true rfl) (Nat.le_of_ble_eq_true rfl) ?_
              rintro _ h6 ⟨rfl, w6, f6⟩
              dsimp only [Option.toList, List.cons_append, List.nil_append, Nat.reduceAdd]
              refine aw_pop dX8_register_74 rfl ?_
              refine aw_iconst (v := nI 0) dX8_register_75 (by decide) ?_
              refine aw_istore dX8_register_76 (Nat.le_of_ble_eq_true rfl) rfl ?_
              dsimp only [List.set]
              have g6 := g5.trans f6
              have r6 := hr.fr g6
              have er : chR (xS X) B (lsB (xn X) B) t (rmF (xS X) B (lsB (xn X) B) 0 (fun j => j) t) (sn (xS X)) = rmF (xS X) B (lsB (xn X) B) 0 (fun j => j) (t + 1) := by
                show _ = chR (xS X) B (lsB (xn X) B) (0 + t) (rmF (xS X) B (lsB (xn X) B) 0 (fun j => j) t) (sn (xS X))
                rw [Nat.zero_add]
              rw [er] at w6
              have seens : ∀ y k s2, k + y = (xZ X).1 → ((s2 = 1 ∧ (∀ q, q < (xZ X).1 → ((xZ X).2 q).2.2 < t → rmF (xS X) B (lsB (xn X) B) 0 (fun j => j) (((xZ X).2 q).2.2 + 1) ((xZ X).2 q).1 = ((xZ X).2 q).2.1) ∧ ∀ q, q < k → ((xZ X).2 q).2.2 = t → rmF (xS X) B (lsB (xn X) B) 0 (fun j => j) (((xZ X).2 q).2.2 + 1) ((xZ X).2 q).1 = ((xZ X).2 q).2.1) ∨ (s2 = 0 ∧ ¬ fitP X i x)) → AW mX8_register (d + 7) 78 [some (.ref 67), some (.int (nI i)), some (.int (nI w)), some (.int (nI (rgD X i u).1)), some (.int (nI (rgD X i u).2)), some (.int (nI x)), some (.int (nI s2)), some (.int (nI t)), some (.int (nI k))] [] h6 (QM h X (nI (if w = 0 then (rgD X i 60).1 else (rgD X i 60).2))) := by
                intro y
                have e9 : h6 67 9 = (xZ X).1 := r6.2.2.2.2.2.1.1
                have hc8 := hz8.1
                induction y with
                | zero =>
                  intro k s2 hk hs2
                  refine aw_iload dX8_register_78 rfl ?_
                  refine aw_aload_n dX8_register_80 rfl rfl ?_
                  refine aw_getI dX8_register_81 fX8_124 (by first | assumption | rfl) (by rfl) ?_
                  rw [e9]
                  refine aw_icmp_geN (tgt := 151) dX8_register_84 (by decide) (by omega) (by omega) (fun _ => ?_) (fun q => absurd q (by omega))
                  refine aw_iincN (v := 1) dX8_register_151 rfl rfl ?_
                  dsimp only [List.set]
                  refine aw_goto (tgt := 63) dX8_register_154 (by decide) ?_
                  refine aw_forget 8 ?_
                  dsimp only [List.set]
                  refine ihv (t + 1) s2 h6 (by omega) w6 g6 ?_
                  rcases hs2 with ⟨q1, q2, q3⟩ | q
                  · refine Or.inl ⟨q1, fun j hj hlt => ?_⟩
                    rcases Nat.lt_succ_iff_lt_or_eq.mp hlt with z | z
                    · exact q2 j hj z
                    · exact q3 j (by omega) z
                  · exact Or.inr q
                | succ y ihy =>
                  intro k s2 hk hs2
                  have hk8 : k < (xZ X).1 := by omega
                  have zk := r6.2.2.2.2.2.1.2 k hk8
                  obtain ⟨v1, v2, v3⟩ := hz8.2 k hk8
                  refine aw_iload dX8_register_78 rfl ?_
                  refine aw_aload_n dX8_register_80 rfl rfl ?_
                  refine aw_getI dX8_register_81 fX8_124 (by first | assumption | rfl) (by rfl) ?_
                  rw [e9]
                  rcases hs2 with ⟨rfl, q2, q3⟩ | ⟨rfl, q⟩
                  · refine aw_icmp_geN (tgt := 151) dX8_register_84 (by decide) (by omega) (by omega) (fun q => absurd q (by omega)) (fun _ => ?_)
                    refine aw_iload dX8_register_87 rfl ?_
                    refine aw_if_eqN (tgt := 142) dX8_register_89 (by decide) (by omega) (fun q => absurd q (by omega)) (fun _ => ?_)
                    refine aw_aload_n dX8_register_92 rfl rfl ?_
                    refine aw_getR dX8_register_93 fX8_28 (by first | assumption | rfl) (by rfl) ?_
                    refine aw_iconst (v := nI 3) dX8_register_96 (by decide) ?_
                    refine aw_iload dX8_register_97 rfl ?_
                    refine aw_imulN dX8_register_99 ?_
                    refine aw_iconst (v := nI 2) dX8_register_100 (by decide) ?_
                    refine aw_iaddN dX8_register_101 ?_
                    refine aw_iaload dX8_register_102 (by first | assumption | rfl) (by omega) (by omega) ?_
                    rw [zk.2.2]
                    refine aw_iload dX8_register_103 rfl ?_
                    refine aw_icmp_neN (tgt := 138) dX8_register_105 (by decide) (by omega) (by omega) (fun c105 => ?_) (fun c105 => ?_)
                    · refine aw_iconst (v := nI 1) dX8_register_138 (by decide) ?_
                      refine aw_goto (tgt := 143) dX8_register_139 (by decide) ?_
                      refine aw_istore dX8_register_143 (Nat.le_of_ble_eq_true rfl) rfl ?_
                      dsimp only [List.set]
                      refine aw_iincN (v := 1) dX8_register_145 rfl rfl ?_
                      dsimp only [List.set]
                      refine aw_goto (tgt := 78) dX8_register_148 (by decide) ?_
                      refine ihy (k + 1) 1 (by omega) (Or.inl ⟨rfl, q2, fun j hj hd9 => ?_⟩)
                      rcases Nat.lt_succ_iff_lt_or_eq.mp hj with z | z
                      · exact q3 j z hd9
                      · subst z; exact absurd hd9 c105
                    · have ht9 : ((xZ X).2 k).2.2 = t := by omega
                      have hri := (PM_rmF (b := B) (L := lsB (xn X) B) (day0 := 0) hS hLs (PM_id _) (t + 1)).1 _ v1
                      have hle : sn (xS X) ≤ 8 := hn.2
                      refine aw_aload_n dX8_register_108 rfl rfl ?_
                      refine aw_getR dX8_register_109 fX8_46 (by first | assumption | rfl) (by rfl) ?_
                      refine aw_iconst (v := nI 1) dX8_register_112 (by decide) ?_
                      refine aw_aload_n dX8_register_113 rfl rfl ?_
                      refine aw_getR dX8_register_114 fX8_28 (by first | assumption | rfl) (by rfl) ?_
                      refine aw_iconst (v := nI 3) dX8_register_117 (by decide) ?_
                      refine aw_iload dX8_register_118 rfl ?_
                      refine aw_imulN dX8_register_120 ?_
                      refine aw_iaload dX8_register_121 (by first | assumption | rfl) (by omega) (by omega) ?_
                      rw [zk.1]
                      refine aw_iaddN dX8_register_122 ?_
                      refine aw_iaload dX8_register_123 (by first | assumption | rfl) (by omega) (by omega) ?_
                      rw [(w6.2.2 _ v1).1]
                      refine aw_aload_n dX8_register_124 rfl rfl ?_
                      refine aw_getR dX8_register_125 fX8_28 (by first | assumption | rfl) (by rfl) ?_
                      refine aw_iconst (v := nI 3) dX8_register_128 (by decide) ?_
                      refine aw_iload dX8_register_129 rfl ?_
                      refine aw_imulN dX8_register_131 ?_
                      refine aw_iconst (v := nI 1) dX8_register_132 (by decide) ?_
                      refine aw_iaddN dX8_register_133 ?_
                      refine aw_iaload dX8_register_134 (by first | assumption | rfl) (by omega) (by omega) ?_
                      rw [zk.2.1]
                      refine aw_icmp_neN (tgt := 142) dX8_register_135 (by decide) (by omega) (by omega) (fun c135 => ?_) (fun c135 => ?_)
                      · refine aw_iconst (v := nI 0) dX8_register_142 (by decide) ?_
                        refine aw_istore dX8_register_143 (Nat.le_of_ble_eq_true rfl) rfl ?_
                        dsimp only [List.set]
                        refine aw_iincN (v := 1) dX8_register_145 rfl rfl ?_
                        dsimp only [List.set]
                        refine aw_goto (tgt := 78) dX8_register_148 (by decide) ?_
                        refine ihy (k + 1) 0 (by omega) (Or.inr ⟨rfl, fun z => c135 ?_⟩)
                        have := hfit.mp z k hk8
                        rw [ht9] at this
                        exact this
                      · refine aw_iconst (v := nI 1) dX8_register_138 (by decide) ?_
                        refine aw_goto (tgt := 143) dX8_register_139 (by decide) ?_
                        refine aw_istore dX8_register_143 (Nat.le_of_ble_eq_true rfl) rfl ?_
                        dsimp only [List.set]
                        refine aw_iincN (v := 1) dX8_register_145 rfl rfl ?_
                        dsimp only [List.set]
                        refine aw_goto (tgt := 78) dX8_register_148 (by decide) ?_
                        refine ihy (k + 1) 1 (by omega) (Or.inl ⟨rfl, q2, fun j hj hd9 => ?_⟩)
                        rcases Nat.lt_succ_iff_lt_or_eq.mp hj with z | z
                        · exact q3 j z hd9
                        · subst z
                          rw [ht9]
                          omega
                  · refine aw_icmp_geN (tgt := 151) dX8_register_84 (by decide) (by omega) (by omega) (fun q => absurd q (by omega)) (fun _ => ?_)
                    refine aw_iload dX8_register_87 rfl ?_
                    refine aw_if_eqN (tgt := 142) dX8_register_89 (by decide) (by omega) (fun _ => ?_) (fun q => absurd q (by omega))
                    refine aw_iconst (v := nI 0) dX8_register_142 (by decide) ?_
                    refine aw_istore dX8_register_143 (Nat.le_of_ble_eq_true rfl) rfl ?_
                    dsimp only [List.set]
                    refine aw_iincN (v := 1) dX8_register_145 rfl rfl ?_
                    dsimp only [List.set]
                    refine aw_goto (tgt := 78) dX8_register_148 (by decide) ?_
                    exact ihy (k + 1) 0 (by omega) (Or.inr ⟨rfl, q⟩)
              refine seens (xZ X).1 0 s (by omega) ?_
              rcases hs with ⟨q1, q2⟩ | q
              · exact Or.inl ⟨q1, q2, fun j hj => by omega⟩
              · exact Or.inr q
          exact days 121 0 1 h4 (by omega) w4' g4 (Or.inl ⟨rfl, fun q _ hlt => by omega⟩)
      refine aw_aload_n dX8_register_0 rfl rfl ?_
      refine aw_iload_n dX8_register_1 rfl rfl ?_
      refine aw_callVF dX8_register_2 kX8_151 (m_oneS hr hv ei) (by first | assumption | rfl) rfl rfl rfl (Nat.le_of_ble_eq_true rfl) (Nat.le_of_ble_eq_true rfl) ?_
      dsimp only [Option.toList, List.cons_append, List.nil_append, Nat.reduceAdd]
      refine aw_if_eqN (tgt := 17) dX8_register_5 (by decide) (by omega) (fun q => absurd q (by omega)) (fun _ => ?_)
      refine aw_iload_n dX8_register_8 rfl rfl ?_
      refine aw_iconst (v := nI 0) dX8_register_9 (by decide) ?_
      refine aw_iconst (v := nI 1) dX8_register_10 (by decide) ?_
      refine aw_callSF dX8_register_11 kX8_76 (m_iS ew) rfl rfl rfl (Nat.le_of_ble_eq_true rfl) (Nat.le_of_ble_eq_true rfl) ?_
      dsimp only [Option.toList, List.cons_append, List.nil_append, Nat.reduceAdd]
      refine aw_if_neN (tgt := 19) dX8_register_14 (by decide) (by omega) (fun _ => ?_) (fun q => absurd q (by omega))
      refine aw_iconst (v := nI 0) dX8_register_19 (by decide) ?_
      refine aw_istore_n dX8_register_20 rfl (Nat.le_of_ble_eq_true rfl) rfl ?_
      dsimp only [List.set]
      refine aw_bipush (v := nI 4294967292) dX8_register_21 (by decide) ?_
      refine aw_istore dX8_register_23 (Nat.le_of_ble_eq_true rfl) rfl ?_
      dsimp only [List.set]
      refine aw_bipush (v := nI 59) dX8_register_25 (by decide) ?_
      refine aw_istore dX8_register_27 (Nat.le_of_ble_eq_true rfl) rfl ?_
      dsimp only [List.set]
      have r := loop 60 0 h (by omega) (fun o _ _ => rfl)
      rw [show nI (4294967296 + 59 - 0) = nI 59 by decide] at r
      exact r
