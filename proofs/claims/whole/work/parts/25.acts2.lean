/-! acts -/
theorem RX.setC {h h' : Hp} {X : XS} {c : Sv} (hr : RX h X) (hv : VX X) (hf : ∀ o, o ≠ 16 → o ≠ 17 → o ≠ 18 → o < 60 ∨ 66 < o → h' o = h o) (hc : SVt h' (xn X) 16 c) : RX h' (setC X c) := by
  obtain ⟨r1, r2, r3, ⟨r4, r5⟩, ⟨r6, r7⟩, ⟨zs, r8, r9⟩, r10, r11⟩ := hr
  have hu := hv.2.2.2.1.1
  have hw1 := hv.2.2.2.2.1.1
  have g : ∀ o, o < 16 ∨ (18 < o ∧ o < 60) → h' o = h o := fun o ho => hf o (by omega) (by omega) (by omega) (by omega)
  refine ⟨?_, hc, r3.fr (g _ (by omega)) (g _ (by omega)) (g _ (by omega)), ⟨by rw [g 22 (by omega)]; exact r4, fun k (hk : k < (xU X).1) => (r5 k hk).fr (g _ (by omega)) (g _ (by omega)) (g _ (by omega))⟩, ⟨by rw [g 48 (by omega)]; exact r6, fun k (hk : k < (xV X).1) => (r7 k hk).fr (g _ (by omega)) (g _ (by omega)) (g _ (by omega))⟩, ⟨zs, ?_, r9⟩, by rw [g 1 (by omega)]; exact r10, fun k hk => by rw [g 2 (by omega)]; exact r11 k hk⟩
  · unfold HX
    rw [g 4 (by omega), g 5 (by omega), g 7 (by omega), g 8 (by omega), g 9 (by omega)]
    exact r1
  · unfold ZX
    rw [g 56 (by omega), g 57 (by omega), g 58 (by omega), g 59 (by omega)]
    exact r8
theorem RX.setU {h h' : Hp} {X : XS} {u : Nat × (Nat → Sv)} (hr : RX h X) (hv : VX X) (hf : ∀ o, o < 22 ∨ 48 ≤ o → h' o = h o) (h1 : h' 22 1 = u.1) (h2 : ∀ k, k < u.1 → SVt h' (xn X) (22 + 2 + 3 * k) (u.2 k)) : RX h' (setU X u) := by
  obtain ⟨r1, r2, r3, ⟨r4, r5⟩, ⟨r6, r7⟩, ⟨zs, r8, r9⟩, r10, r11⟩ := hr
  have hw1 := hv.2.2.2.2.1.1
  refine ⟨?_, r2.fr (hf _ (by omega)) (hf _ (by omega)) (hf _ (by omega)), r3.fr (hf _ (by omega)) (hf _ (by omega)) (hf _ (by omega)), ⟨h1, h2⟩, ⟨by rw [hf 48 (by omega)]; exact r6, fun k (hk : k < (xV X).1) => (r7 k hk).fr (hf _ (by omega)) (hf _ (by omega)) (hf _ (by omega))⟩, ⟨zs, ?_, r9⟩, by rw [hf 1 (by omega)]; exact r10, fun k hk => by rw [hf 2 (by omega)]; exact r11 k hk⟩
  · unfold HX
    rw [hf 4 (by omega), hf 5 (by omega), hf 7 (by omega), hf 8 (by omega), hf 9 (by omega)]
    exact r1
  · unfold ZX
    rw [hf 56 (by omega), hf 57 (by omega), hf 58 (by omega), hf 59 (by omega)]
    exact r8
theorem RX.setV {h h' : Hp} {X : XS} {u : Nat × (Nat → Sv)} (hr : RX h X) (hv : VX X) (hf : ∀ o, o < 48 ∨ 56 ≤ o → h' o = h o) (h1 : h' 48 1 = u.1) (h2 : ∀ k, k < u.1 → SVt h' (xn X) (48 + 2 + 3 * k) (u.2 k)) : RX h' (setV X u) := by
  obtain ⟨r1, r2, r3, ⟨r4, r5⟩, ⟨r6, r7⟩, ⟨zs, r8, r9⟩, r10, r11⟩ := hr
  have hu := hv.2.2.2.1.1
  refine ⟨?_, r2.fr (hf _ (by omega)) (hf _ (by omega)) (hf _ (by omega)), r3.fr (hf _ (by omega)) (hf _ (by omega)) (hf _ (by omega)), ⟨by rw [hf 22 (by omega)]; exact r4, fun k (hk : k < (xU X).1) => (r5 k hk).fr (hf _ (by omega)) (hf _ (by omega)) (hf _ (by omega))⟩, ⟨h1, h2⟩, ⟨zs, ?_, r9⟩, by rw [hf 1 (by omega)]; exact r10, fun k hk => by rw [hf 2 (by omega)]; exact r11 k hk⟩
  · unfold HX
    rw [hf 4 (by omega), hf 5 (by omega), hf 7 (by omega), hf 8 (by omega), hf 9 (by omega)]
    exact r1
  · unfold ZX
    rw [hf 56 (by omega), hf 57 (by omega), hf 58 (by omega), hf 59 (by omega)]
    exact r8
theorem RX.setZ {h h' : Hp} {X : XS} {z : Nat × (Nat → Zt)} (hr : RX h X) (hv : VX X) (hf : FS h h') (hz : ∃ zs, ZX h' z.1 zs ∧ ZO z.1 zs z.2) : RX h' (setZ X z) := by
  obtain ⟨r1, r2, r3, ⟨r4, r5⟩, ⟨r6, r7⟩, ⟨zs, r8, r9⟩, r10, r11⟩ := hr
  have hu := hv.2.2.2.1.1
  have hw1 := hv.2.2.2.2.1.1
  refine ⟨?_, r2.fr (hf _ (by omega)) (hf _ (by omega)) (hf _ (by omega)), r3.fr (hf _ (by omega)) (hf _ (by omega)) (hf _ (by omega)), ⟨by rw [hf 22 (by omega)]; exact r4, fun k (hk : k < (xU X).1) => (r5 k hk).fr (hf _ (by omega)) (hf _ (by omega)) (hf _ (by omega))⟩, ⟨by rw [hf 48 (by omega)]; exact r6, fun k (hk : k < (xV X).1) => (r7 k hk).fr (hf _ (by omega)) (hf _ (by omega)) (hf _ (by omega))⟩, hz, by rw [hf 1 (by omega)]; exact r10, fun k hk => by rw [hf 2 (by omega)]; exact r11 k hk⟩
  unfold HX
  rw [hf 4 (by omega), hf 5 (by omega), hf 7 (by omega), hf 8 (by omega), hf 9 (by omega)]
  exact r1
/-- the standing now goes upon what can be undone -/
def pushX (X : XS) : XS := setU X (pus 8 (xU X).1 (xU X).2 (xC X))
theorem pus_ok {n m s : Nat} {U : Nat → Sv} {c : Sv} (hs : s ≤ m) (hm : 1 ≤ m) (hu : ∀ k, k < s → SvOk n (U k)) (hc : SvOk n c) : (pus m s U c).1 ≤ m ∧ ∀ k, k < (pus m s U c).1 → SvOk n ((pus m s U c).2 k) := by
  unfold pus
  by_cases q : s = m
  · rw [if_pos q]
    refine ⟨Nat.le_refl _, fun k hk => ?_⟩
    dsimp only at hk ⊢
    split
    · exact hc
    · exact hu (k + 1) (by omega)
  · rw [if_neg q]
    refine ⟨by dsimp only; omega, fun k hk => ?_⟩
    dsimp only at hk ⊢
    split
    · exact hc
    · exact hu k (by omega)
theorem pushX_ok {X : XS} (hv : VX X) : VX (pushX X) := by
  obtain ⟨v1, v2, v3, v4, v5, v6, v7⟩ := hv
  exact ⟨v1, v2, v3, pus_ok v4.1 (by omega) v4.2 v2, v5, v6, v7⟩
theorem setC_ok {X : XS} {c : Sv} (hv : VX X) (hc : SvOk (xn X) c) : VX (setC X c) := by
  obtain ⟨v1, v2, v3, v4, v5, v6, v7⟩ := hv
  exact ⟨v1, hc, v3, v4, v5, v6, v7⟩
theorem c_Xpush {d : Nat} {h : Hp} {X : XS} (hr : RX h X) (hv : VX X) : RT mX0_push (d + 3) [.ref 22, .ref 16] h (fun v h' => v = none ∧ RX h' (pushX X) ∧ (∀ o, o < 22 ∨ 48 ≤ o → h' o = h o)) := by
  refine (c_L_push (n := 8) (N := xn X) (Or.inl ⟨rfl, rfl⟩) hr.2.2.2.1.1 hv.2.2.2.1.1 hv.n.2 hr.2.2.2.1.2 hr.2.1).imp ?_
  rintro v h' ⟨rfl, q1, q2, q3⟩
  have hf : ∀ o, o < 22 ∨ 48 ≤ o → h' o = h o := fun o ho => q3 o (by omega)
  exact ⟨rfl, hr.setU hv hf q1 q2, hf⟩
noncomputable def a_pass (X : XS) (t : Int32) : AX := match ix t 1 120 with
  | none => (aBAD, X)
  | some t => if 9999 < (xC X).1 + t then (aNO, X) else (nI ((xC X).1 + t), setC (pushX X) ((xC X).1 + t, (xC X).2.1, rmX X t))
theorem x_pass {d : Nat} {h : Hp} {X : XS} {t : Int32} (hr : RX h X) (hv : VX X) : RT mX7_pass (d + 6) [.ref 0, .int t] h (QY h (a_pass X t)) := by
  have hn := hv.n
  have hc1 := hv.2.1.1
  have e16 : h 16 2 = (xC X).1 := hr.2.1.1
  unfold a_pass
  change AW mX7_pass _ 0 [some (.ref 0), some (.int t)] [] h _
  cases et : ix t 1 120 with
  | none =>
    refine aw_iload_n dX7_pass_0 rfl rfl ?_
    refine aw_iconst (v := nI 1) dX7_pass_1 (by decide) ?_
    refine aw_bipush (v := nI 120) dX7_pass_2 (by decide) ?_
    refine aw_callSF dX7_pass_4 kX7_99 (c_wiN et) rfl rfl rfl (Nat.le_of_ble_eq_true rfl) (Nat.le_of_ble_eq_true rfl) ?_
    dsimp only [Option.toList, List.cons_append, List.nil_append, Nat.reduceAdd]
    refine aw_if_neN (tgt := 12) dX7_pass_7 (by decide) (by omega) (fun q => absurd q (by omega)) (fun _ => ?_)
    refine aw_iconst (v := nI 4294967295) dX7_pass_10 (by decide) ?_
    refine aw_iret dX7_pass_11 rfl (by first | rfl | exact (pk_charN (by omega)).1 | decide) ?_
    exact QX.same hr
  | some t =>
    obtain ⟨rfl, ht1, ht2⟩ := ix_s (by omega) (by omega) et
    dsimp only
    refine aw_iload_n dX7_pass_0 rfl rfl ?_
    refine aw_iconst (v := nI 1) dX7_pass_1 (by decide) ?_
    refine aw_bipush (v := nI 120) dX7_pass_2 (by decide) ?_
    refine aw_callSF dX7_pass_4 kX7_99 (c_wiS et) rfl rfl rfl (Nat.le_of_ble_eq_true rfl) (Nat.le_of_ble_eq_true rfl) ?_
    dsimp only [Option.toList, List.cons_append, List.nil_append, Nat.reduceAdd]
    refine aw_if_neN (tgt := 12) dX7_pass_7 (by decide) (by omega) (fun _ => ?_) (fun q => absurd q (by omega))
    refine aw_aload_n dX7_pass_12 rfl rfl ?_
    refine aw_getR dX7_pass_13 fX7_29 (by first | assumption | rfl) (by rfl) ?_
    refine aw_callVF dX7_pass_16 kX7_153 (c_S_day (by first | assumption | exact ⟨rfl, rfl, rfl⟩)) (by first | assumption | rfl) rfl rfl rfl (Nat.le_of_ble_eq_true rfl) (Nat.le_of_ble_eq_true rfl) ?_
    dsimp only [Option.toList, List.cons_append, List.nil_append, Nat.reduceAdd]
    refine aw_iload_n dX7_pass_19 rfl rfl ?_
    rw [e16]
    refine aw_iaddN dX7_pass_20 ?_
    refine aw_sipush (v := nI 9999) dX7_pass_21 (by decide) ?_
    refine aw_icmp_leN (tgt := 30) dX7_pass_24 (by decide) (by omega) (by omega) (fun c24 => ?_) (fun c24 => ?_)
    · rw [if_neg (by omega)]
      refine aw_aload_n dX7_pass_30 rfl rfl ?_
      refine aw_getR dX7_pass_31 fX7_41 (by first | assumption | rfl) (by rfl) ?_
      refine aw_aload_n dX7_pass_34 rfl rfl ?_
      refine aw_getR dX7_pass_35 fX7_29 (by first | assumption | rfl) (by rfl) ?_
      refine aw_callV dX7_pass_38 kX7_156 (c_Xpush hr hv) (by first | assumption | rfl) rfl rfl rfl (Nat.le_of_ble_eq_true rfl) (Nat.le_of_ble_eq_true rfl) ?_
      rintro _ h2 ⟨rfl, r2, f2⟩
      dsimp only [Option.toList, List.cons_append, List.nil_append, Nat.reduceAdd]
      refine aw_aload_n dX7_pass_41 rfl rfl ?_
      refine aw_getR dX7_pass_42 fX7_60 (by first | assumption | rfl) (by rfl) ?_
      refine aw_aload_n dX7_pass_45 rfl rfl ?_
      refine aw_getR dX7_pass_46 fX7_29 (by first | assumption | rfl) (by rfl) ?_
      have hv2 := pushX_ok hv
      refine aw_callV dX7_pass_49 kX7_133 (c_Xbegin r2 hv2) (by first | assumption | rfl) rfl rfl rfl (Nat.le_of_ble_eq_true rfl) (Nat.le_of_ble_eq_true rfl) ?_
      rintro _ h3 ⟨rfl, w3, f3⟩
      dsimp only [Option.toList, List.cons_append, List.nil_append, Nat.reduceAdd]
      refine aw_aload_n dX7_pass_52 rfl rfl ?_
      refine aw_getR dX7_pass_53 fX7_60 (by first | assumption | rfl) (by rfl) ?_
      refine aw_iload_n dX7_pass_56 rfl rfl ?_
      refine aw_callV dX7_pass_57 kX7_159 (c_W_go w3 (cL_ok hv2.1 hv2.2.1) hv2.2.1.2.1 (by show (xC X).1 + t < 2 ^ 30; omega)) (by first | assumption | rfl) rfl rfl rfl (Nat.le_of_ble_eq_true rfl) (Nat.le_of_ble_eq_true rfl) ?_
      rintro _ h4 ⟨rfl, w4, f4⟩
      dsimp only [Option.toList, List.cons_append, List.nil_append, Nat.reduceAdd]
      refine aw_aload_n dX7_pass_60 rfl rfl ?_
      refine aw_getR dX7_pass_61 fX7_29 (by first | assumption | rfl) (by rfl) ?_
      refine aw_aload_n dX7_pass_64 rfl rfl ?_
      refine aw_getR dX7_pass_65 fX7_60 (by first | assumption | rfl) (by rfl) ?_
      refine aw_callVF dX7_pass_68 kX7_162 (c_W_standing) (by first | assumption | rfl) rfl rfl rfl (Nat.le_of_ble_eq_true rfl) (Nat.le_of_ble_eq_true rfl) ?_
      dsimp only [Option.toList, List.cons_append, List.nil_append, Nat.reduceAdd]
      refine aw_callVF dX7_pass_71 kX7_166 (c_S_copyFrom (by first | assumption | exact ⟨rfl, rfl, rfl⟩) (by first | assumption | exact ⟨rfl, rfl, rfl⟩) (by omega)) (by first | assumption | rfl) rfl rfl rfl (Nat.le_of_ble_eq_true rfl) (Nat.le_of_ble_eq_true rfl) ?_
      dsimp only [Option.toList, List.cons_append, List.nil_append, Nat.reduceAdd]
      refine aw_aload_n dX7_pass_74 rfl rfl ?_
      refine aw_getR dX7_pass_75 fX7_29 (by first | assumption | rfl) (by rfl) ?_
      have s61 : SVt h4 (xn X) 61 ((xC X).1 + t, (xC X).2.1, rmX X t) := ⟨w4.2.1, fun i hi => ⟨(w4.2.2.2 i hi).1, (w4.2.2.2 i hi).2.1⟩⟩
      have s16 : SVt (hcs h4 61 16) (xn X) 16 ((xC X).1 + t, (xC X).2.1, rmX X t) := s61.cp hn.2 (by omega)
      have f34 := f3.trans f4
      refine aw_callVF dX7_pass_78 kX7_153 (c_S_day (by first | assumption | exact ⟨rfl, rfl, rfl⟩)) (by first | assumption | rfl) rfl rfl rfl (Nat.le_of_ble_eq_true rfl) (Nat.le_of_ble_eq_true rfl) ?_
      dsimp only [Option.toList, List.cons_append, List.nil_append, Nat.reduceAdd]
      rw [show hcs h4 61 16 16 2 = (xC X).1 + t from s16.1]
      refine aw_iret dX7_pass_81 rfl (by first | rfl | exact (pk_charN (by omega)).1 | decide) ?_
      refine ⟨rfl, r2.setC hv2 (fun o q1 q2 q3 q4 => by rw [hcs_ne q1 q2 q3]; exact f34 o (by omega)) s16, fun o ho => ?_⟩
      rw [hcs_ne (by omega) (by omega) (by omega), f34 o (by omega), f2 o (by omega)]
    · rw [if_pos (by omega)]
      refine aw_bipush (v := nI 4294967294) dX7_pass_27 (by decide) ?_
      refine aw_iret dX7_pass_29 rfl (by first | rfl | exact (pk_charN (by omega)).1 | decide) ?_
      exact QX.same hr
noncomputable def a_swap (X : XS) (i j : Int32) : AX := match ix i 0 (xn X - 1) with
  | none => (aBAD, X)
  | some i => match ix j 0 (xn X - 1) with
    | none => (aBAD, X)
    | some j => if i = j then (aBAD, X) else (nI (swp (xC X).2.2 i j i), setC (pushX X) ((xC X).1, (xC X).2.1, swp (xC X).2.2 i j))
theorem x_swap {d : Nat} {h : Hp} {X : XS} {i j : Int32} (hr : RX h X) (hv : VX X) : RT mX7_swap (d + 6) [.ref 0, .int i, .int j] h (QY h (a_swap X i j)) := by
  have hn := hv.n
  unfold a_swap
  change AW mX7_swap _ 0 [some (.ref 0), some (.int i), some (.int j)] [] h _
  cases ei : ix i 0 (xn X - 1) with
  | none =>
    refine aw_aload_n dX7_swap_0 rfl rfl ?_
    refine aw_iload_n dX7_swap_1 rfl rfl ?_
    refine aw_callVF dX7_swap_2 kX7_116 (c_isCN hr hv ei) (by first | assumption | rfl) rfl rfl rfl (Nat.le_of_ble_eq_true rfl) (Nat.le_of_ble_eq_true rfl) ?_
    dsimp only [Option.toList, List.cons_append, List.nil_append, Nat.reduceAdd]
    refine aw_if_eqN (tgt := 21) dX7_swap_5 (by decide) (by omega) (fun _ => ?_) (fun q => absurd q (by omega))
    refine aw_iconst (v := nI 4294967295) dX7_swap_21 (by decide) ?_
    refine aw_iret dX7_swap_22 rfl (by first | rfl | exact (pk_charN (by omega)).1 | decide) ?_
    exact QX.same hr
  | some i =>
    obtain ⟨rfl, hi1, hi2⟩ := ix_s (by omega) (by omega) ei
    dsimp only
    cases ej : ix j 0 (xn X - 1) with
    | none =>
      refine aw_aload_n dX7_swap_0 rfl rfl ?_
      refine aw_iload_n dX7_swap_1 rfl rfl ?_
      refine aw_callVF dX7_swap_2 kX7_116 (c_isCS hr hv ei) (by first | assumption | rfl) rfl rfl rfl (Nat.le_of_ble_eq_true rfl) (Nat.le_of_ble_eq_true rfl) ?_
      dsimp only [Option.toList, List.cons_append, List.nil_append, Nat.reduceAdd]
      refine aw_if_eqN (tgt := 21) dX7_swap_5 (by decide) (by omega) (fun q => absurd q (by omega)) (fun _ => ?_)
      refine aw_aload_n dX7_swap_8 rfl rfl ?_
      refine aw_iload_n dX7_swap_9 rfl rfl ?_
      refine aw_callVF dX7_swap_10 kX7_116 (c_isCN hr hv ej) (by first | assumption | rfl) rfl rfl rfl (Nat.le_of_ble_eq_true rfl) (Nat.le_of_ble_eq_true rfl) ?_
      dsimp only [Option.toList, List.cons_append, List.nil_append, Nat.reduceAdd]
      refine aw_if_eqN (tgt := 21) dX7_swap_13 (by decide) (by omega) (fun _ => ?_) (fun q => absurd q (by omega))
      refine aw_iconst (v := nI 4294967295) dX7_swap_21 (by decide) ?_
      refine aw_iret dX7_swap_22 rfl (by first | rfl | exact (pk_charN (by omega)).1 | decide) ?_
      exact QX.same hr
    | some j =>
      obtain ⟨rfl, hj1, hj2⟩ := ix_s (by omega) (by omega) ej
      dsimp only
      refine aw_aload_n dX7_swap_0 rfl rfl ?_
      refine aw_iload_n dX7_swap_1 rfl rfl ?_
      refine aw_callVF dX7_swap_2 kX7_116 (c_isCS hr hv ei) (by first | assumption | rfl) rfl rfl rfl (Nat.le_of_ble_eq_true rfl) (Nat.le_of_ble_eq_true rfl) ?_
      dsimp only [Option.toList, List.cons_append, List.nil_append, Nat.reduceAdd]
      refine aw_if_eqN (tgt := 21) dX7_swap_5 (by decide) (by omega) (fun q => absurd q (by omega)) (fun _ => ?_)
      refine aw_aload_n dX7_swap_8 rfl rfl ?_
      refine aw_iload_n dX7_swap_9 rfl rfl ?_
      refine aw_callVF dX7_swap_10 kX7_116 (c_isCS hr hv ej) (by first | assumption | rfl) rfl rfl rfl (Nat.le_of_ble_eq_true rfl) (Nat.le_of_ble_eq_true rfl) ?_
      dsimp only [Option.toList, List.cons_append, List.nil_append, Nat.reduceAdd]
      refine aw_if_eqN (tgt := 21) dX7_swap_13 (by decide) (by omega) (fun q => absurd q (by omega)) (fun _ => ?_)
      refine aw_iload_n dX7_swap_16 rfl rfl ?_
      refine aw_iload_n dX7_swap_17 rfl rfl ?_
      refine aw_icmp_neN (tgt := 23) dX7_swap_18 (by decide) (by omega) (by omega) (fun c18 => ?_) (fun c18 => ?_)
      · rw [if_neg c18]
        have hv2 := pushX_ok hv
        refine aw_aload_n dX7_swap_23 rfl rfl ?_
        refine aw_getR dX7_swap_24 fX7_41 (by first | assumption | rfl) (by rfl) ?_
        refine aw_aload_n dX7_swap_27 rfl rfl ?_
        refine aw_getR dX7_swap_28 fX7_29 (by first | assumption | rfl) (by rfl) ?_
        refine aw_callV dX7_swap_31 kX7_156 (c_Xpush hr hv) (by first | assumption | rfl) rfl rfl rfl (Nat.le_of_ble_eq_true rfl) (Nat.le_of_ble_eq_true rfl) ?_
        rintro _ h2 ⟨rfl, r2, f2⟩
        dsimp only [Option.toList, List.cons_append, List.nil_append, Nat.reduceAdd]
        refine aw_aload_n dX7_swap_34 rfl rfl ?_
        refine aw_getR dX7_swap_35 fX7_29 (by first | assumption | rfl) (by rfl) ?_
        refine aw_iload_n dX7_swap_38 rfl rfl ?_
        refine aw_iload_n dX7_swap_39 rfl rfl ?_
        refine aw_callVF dX7_swap_40 kX7_169 (c_S_exchange (by first | assumption | exact ⟨rfl, rfl, rfl⟩) (by omega) (by omega)) (by first | assumption | rfl) rfl rfl rfl (Nat.le_of_ble_eq_true rfl) (Nat.le_of_ble_eq_true rfl) ?_
        dsimp only [Option.toList, List.cons_append, List.nil_append, Nat.reduceAdd]
        refine aw_aload_n dX7_swap_43 rfl rfl ?_
        refine aw_getR dX7_swap_44 fX7_29 (by first | assumption | rfl) (by rfl) ?_
        refine aw_iload_n dX7_swap_47 rfl rfl ?_
        refine aw_callVF dX7_swap_48 kX7_130 (c_S_roomOf (by first | assumption | exact ⟨rfl, rfl, rfl⟩) (by omega)) (by first | assumption | rfl) rfl rfl rfl (Nat.le_of_ble_eq_true rfl) (Nat.le_of_ble_eq_true rfl) ?_
        dsimp only [Option.toList, List.cons_append, List.nil_append, Nat.reduceAdd]
        have s2 : SVt h2 (xn X) 16 (xC X) := r2.2.1
        have s3 : SVt (hx2 h2 17 i j) (xn X) 16 ((xC X).1, (xC X).2.1, swp (xC X).2.2 i j) := by
          refine ⟨by rw [hx2_ne (by decide)]; exact s2.1, fun k hk => ⟨?_, by rw [hx2_ne (by decide)]; exact (s2.2 k hk).2⟩⟩
          show hx2 h2 17 i j 17 k = _
          rw [hx2_at]
          unfold swp
          rw [(s2.2 i (by omega)).1, (s2.2 j (by omega)).1, (s2.2 k hk).1]
        rw [show hx2 h2 17 i j 17 i = swp (xC X).2.2 i j i from (s3.2 i (by omega)).1]
        refine aw_iret dX7_swap_51 rfl (by first | rfl | exact (pk_charN (by omega)).1 | decide) ?_
        refine ⟨rfl, r2.setC hv2 (fun o q1 q2 q3 q4 => hx2_ne q2) s3, fun o ho => ?_⟩
        rw [hx2_ne (by omega), f2 o (by omega)]
      · rw [if_pos (by omega)]
        refine aw_iconst (v := nI 4294967295) dX7_swap_21 (by decide) ?_
        refine aw_iret dX7_swap_22 rfl (by first | rfl | exact (pk_charN (by omega)).1 | decide) ?_
        exact QX.same hr
noncomputable def a_alter (X : XS) (i x : Int32) : AX := match ix i 0 (xn X - 1) with
  | none => (aBAD, X)
  | some i => match ix x 0 59 with
    | none => (aBAD, X)
    | some x => (nI ((xC X).2.1 i), setC (pushX X) ((xC X).1, fu (xC X).2.1 i x, (xC X).2.2))
theorem x_alter {d : Nat} {h : Hp} {X : XS} {i x : Int32} (hr : RX h X) (hv : VX X) : RT mX7_alter (d + 6) [.ref 0, .int i, .int x] h (QY h (a_alter X i x)) := by
  have hn := hv.n
  unfold a_alter
  change AW mX7_alter _ 0 [some (.ref 0), some (.int i), some (.int x), none] [] h _
  cases ei : ix i 0 (xn X - 1) with
  | none =>
    refine aw_aload_n dX7_alter_0 rfl rfl ?_
    refine aw_iload_n dX7_alter_1 rfl rfl ?_
    refine aw_callVF dX7_alter_2 kX7_116 (c_isCN hr hv ei) (by first | assumption | rfl) rfl rfl rfl (Nat.le_of_ble_eq_true rfl) (Nat.le_of_ble_eq_true rfl) ?_
    dsimp only [Option.toList, List.cons_append, List.nil_append, Nat.reduceAdd]
    refine aw_if_eqN (tgt := 18) dX7_alter_5 (by decide) (by omega) (fun _ => ?_) (fun q => absurd q (by omega))
    refine aw_iconst (v := nI 4294967295) dX7_alter_18 (by decide) ?_
    refine aw_iret dX7_alter_19 rfl (by first | rfl | exact (pk_charN (by omega)).1 | decide) ?_
    exact QX.same hr
  | some i =>
    obtain ⟨rfl, hi1, hi2⟩ := ix_s (by omega) (by omega) ei
    dsimp only
    cases ex : ix x 0 59 with
    | none =>
      refine aw_aload_n dX7_alter_0 rfl rfl ?_
      refine aw_iload_n dX7_alter_1 rfl rfl ?_
      refine aw_callVF dX7_alter_2 kX7_116 (c_isCS hr hv ei) (by first | assumption | rfl) rfl rfl rfl (Nat.le_of_ble_eq_true rfl) (Nat.le_of_ble_eq_true rfl) ?_
      dsimp only [Option.toList, List.cons_append, List.nil_append, Nat.reduceAdd]
      refine aw_if_eqN (tgt := 18) dX7_alter_5 (by decide) (by omega) (fun q => absurd q (by omega)) (fun _ => ?_)
      refine aw_iload_n dX7_alter_8 rfl rfl ?_
      refine aw_iconst (v := nI 0) dX7_alter_9 (by decide) ?_
      refine aw_bipush (v := nI 59) dX7_alter_10 (by decide) ?_
      refine aw_callSF dX7_alter_12 kX7_99 (c_wiN ex) rfl rfl rfl (Nat.le_of_ble_eq_true rfl) (Nat.le_of_ble_eq_true rfl) ?_
      dsimp only [Option.toList, List.cons_append, List.nil_append, Nat.reduceAdd]
      refine aw_if_neN (tgt := 20) dX7_alter_15 (by decide) (by omega) (fun q => absurd q (by omega)) (fun _ => ?_)
      refine aw_iconst (v := nI 4294967295) dX7_alter_18 (by decide) ?_
      refine aw_iret dX7_alter_19 rfl (by first | rfl | exact (pk_charN (by omega)).1 | decide) ?_
      exact QX.same hr
    | some x =>
      obtain ⟨rfl, hx1, hx2'⟩ := ix_s (by omega) (by omega) ex
      dsimp only
      have hv2 := pushX_ok hv
      have e18 : h 18 i = (xC X).2.1 i := (hr.2.1.2 i (by omega)).2
      refine aw_aload_n dX7_alter_0 rfl rfl ?_
      refine aw_iload_n dX7_alter_1 rfl rfl ?_
      refine aw_callVF dX7_alter_2 kX7_116 (c_isCS hr hv ei) (by first | assumption | rfl) rfl rfl rfl (Nat.le_of_ble_eq_true rfl) (Nat.le_of_ble_eq_true rfl) ?_
      dsimp only [Option.toList, List.cons_append, List.nil_append, Nat.reduceAdd]
      refine aw_if_eqN (tgt := 18) dX7_alter_5 (by decide) (by omega) (fun q => absurd q (by omega)) (fun _ => ?_)
      refine aw_iload_n dX7_alter_8 rfl rfl ?_
      refine aw_iconst (v := nI 0) dX7_alter_9 (by decide) ?_
      refine aw_bipush (v := nI 59) dX7_alter_10 (by decide) ?_
      refine aw_callSF dX7_alter_12 kX7_99 (c_wiS ex) rfl rfl rfl (Nat.le_of_ble_eq_true rfl) (Nat.le_of_ble_eq_true rfl) ?_
      dsimp only [Option.toList, List.cons_append, List.nil_append, Nat.reduceAdd]
      refine aw_if_neN (tgt := 20) dX7_alter_15 (by decide) (by omega) (fun _ => ?_) (fun q => absurd q (by omega))
      refine aw_aload_n dX7_alter_20 rfl rfl ?_
      refine aw_getR dX7_alter_21 fX7_29 (by first | assumption | rfl) (by rfl) ?_
      refine aw_iload_n dX7_alter_24 rfl rfl ?_
      refine aw_callVF dX7_alter_25 kX7_124 (c_S_birthdayOf (by first | assumption | exact ⟨rfl, rfl, rfl⟩) (by omega)) (by first | assumption | rfl) rfl rfl rfl (Nat.le_of_ble_eq_true rfl) (Nat.le_of_ble_eq_true rfl) ?_
      dsimp only [Option.toList, List.cons_append, List.nil_append, Nat.reduceAdd]
      rw [e18]
      refine aw_istore_n dX7_alter_28 rfl (Nat.le_of_ble_eq_true rfl) rfl ?_
      dsimp only [List.set]
      refine aw_aload_n dX7_alter_29 rfl rfl ?_
      refine aw_getR dX7_alter_30 fX7_41 (by first | assumption | rfl) (by rfl) ?_
      refine aw_aload_n dX7_alter_33 rfl rfl ?_
      refine aw_getR dX7_alter_34 fX7_29 (by first | assumption | rfl) (by rfl) ?_
      refine aw_callV dX7_alter_37 kX7_156 (c_Xpush hr hv) (by first | assumption | rfl) rfl rfl rfl (Nat.le_of_ble_eq_true rfl) (Nat.le_of_ble_eq_true rfl) ?_
      rintro _ h2 ⟨rfl, r2, f2⟩
      dsimp only [Option.toList, List.cons_append, List.nil_append, Nat.reduceAdd]
      refine aw_aload_n dX7_alter_40 rfl rfl ?_
      refine aw_getR dX7_alter_41 fX7_29 (by first | assumption | rfl) (by rfl) ?_
      refine aw_iload_n dX7_alter_44 rfl rfl ?_
      refine aw_iload_n dX7_alter_45 rfl rfl ?_
      refine aw_callVF dX7_alter_46 kX7_173 (c_S_setBirthday (by first | assumption | exact ⟨rfl, rfl, rfl⟩) (by omega)) (by first | assumption | rfl) rfl rfl rfl (Nat.le_of_ble_eq_true rfl) (Nat.le_of_ble_eq_true rfl) ?_
      dsimp only [Option.toList, List.cons_append, List.nil_append, Nat.reduceAdd]
      have s2 : SVt h2 (xn X) 16 (xC X) := r2.2.1
      have s3 : SVt (hw h2 18 i x) (xn X) 16 ((xC X).1, fu (xC X).2.1 i x, (xC X).2.2) := by
        refine ⟨by rw [hw_ne (by decide)]; exact s2.1, fun k hk => ⟨by rw [hw_ne (by decide)]; exact (s2.2 k hk).1, ?_⟩⟩
        show hw h2 18 i x 18 k = fu (xC X).2.1 i x k
        rw [hw_at]
        unfold fu
        split
        · rfl
        · exact (s2.2 k hk).2
      refine aw_iload_n dX7_alter_49 rfl rfl ?_
      refine aw_iret dX7_alter_50 rfl (by first | rfl | exact (pk_charN (by omega)).1 | decide) ?_
      refine ⟨rfl, r2.setC hv2 (fun o q1 q2 q3 q4 => hw_ne q3) s3, fun o ho => ?_⟩
      rw [hw_ne (by omega), f2 o (by omega)]
def a_undo (X : XS) : AX := if (xU X).1 = 0 then (aNO, X) else (nI ((xU X).1 - 1), setC (setU X ((xU X).1 - 1, (xU X).2)) ((xU X).2 ((xU X).1 - 1)))
theorem setU_ok {X : XS} {k : Nat} (hv : VX X) (hk : k ≤ (xU X).1) : VX (setU X (k, (xU X).2)) := by
  obtain ⟨v1, v2, v3, v4, v5, v6, v7⟩ := hv
  exact ⟨v1, v2, v3, ⟨by have := v4.1; show k ≤ 8; omega, fun j hj => v4.2 j (by have hj : j < k := hj; omega)⟩, v5, v6, v7⟩
theorem x_undo {d : Nat} {h : Hp} {X : XS} (hr : RX h X) (hv : VX X) : RT mX7_undo (d + 6) [.ref 0] h (QY h (a_undo X)) := by
  have hu := hv.2.2.2.1.1
  have e22 : h 22 1 = (xU X).1 := hr.2.2.2.1.1
  unfold a_undo
  change AW mX7_undo _ 0 [some (.ref 0)] [] h _
  by_cases hq : (xU X).1 = 0
  · rw [if_pos hq]
    refine aw_aload_n dX7_undo_0 rfl rfl ?_
    refine aw_getR dX7_undo_1 fX7_41 (by first | assumption | rfl) (by rfl) ?_
    refine aw_aload_n dX7_undo_4 rfl rfl ?_
    refine aw_getR dX7_undo_5 fX7_29 (by first | assumption | rfl) (by rfl) ?_
    refine aw_callVF dX7_undo_8 kX7_176 (c_L_popN (n := 8) (Or.inl ⟨rfl, rfl⟩) (e22.trans hq)) (by first | assumption | rfl) rfl rfl rfl (Nat.le_of_ble_eq_true rfl) (Nat.le_of_ble_eq_true rfl) ?_
    dsimp only [Option.toList, List.cons_append, List.nil_append, Nat.reduceAdd]
    refine aw_if_neN (tgt := 17) dX7_undo_11 (by decide) (by omega) (fun q => absurd q (by omega)) (fun _ => ?_)
    refine aw_bipush (v := nI 4294967294) dX7_undo_14 (by decide) ?_
    refine aw_iret dX7_undo_16 rfl (by first | rfl | exact (pk_charN (by omega)).1 | decide) ?_
    exact QX.same hr
  · rw [if_neg hq]
    obtain ⟨s, hs⟩ : ∃ s, (xU X).1 = s + 1 := ⟨(xU X).1 - 1, by omega⟩
    rw [hs, Nat.add_sub_cancel]
    refine aw_aload_n dX7_undo_0 rfl rfl ?_
    refine aw_getR dX7_undo_1 fX7_41 (by first | assumption | rfl) (by rfl) ?_
    refine aw_aload_n dX7_undo_4 rfl rfl ?_
    refine aw_getR dX7_undo_5 fX7_29 (by first | assumption | rfl) (by rfl) ?_
    refine aw_callV dX7_undo_8 kX7_176 (c_L_popS (s := s) (N := xn X) (n := 8) (U := (xU X).2) (Or.inl ⟨rfl, rfl⟩) (e22.trans hs) (by omega) hv.n.2 (fun k hk => hr.2.2.2.1.2 k (by omega))) (by first | assumption | rfl) rfl rfl rfl (Nat.le_of_ble_eq_true rfl) (Nat.le_of_ble_eq_true rfl) ?_
    rintro _ h2 ⟨rfl, q1, q2, q3⟩
    dsimp only [Option.toList, List.cons_append, List.nil_append, Nat.reduceAdd]
    refine aw_if_neN (tgt := 17) dX7_undo_11 (by decide) (by omega) (fun _ => ?_) (fun q => absurd q (by omega))
    refine aw_aload_n dX7_undo_17 rfl rfl ?_
    refine aw_getR dX7_undo_18 fX7_41 (by first | assumption | rfl) (by rfl) ?_
    refine aw_callVF dX7_undo_21 kX7_180 (c_L_size (n := 8) (by first | assumption | exact Or.inl ⟨rfl, rfl⟩)) (by first | assumption | rfl) rfl rfl rfl (Nat.le_of_ble_eq_true rfl) (Nat.le_of_ble_eq_true rfl) ?_
    dsimp only [Option.toList, List.cons_append, List.nil_append, Nat.reduceAdd]
    rw [q1]
    refine aw_iret dX7_undo_24 rfl (by first | rfl | exact (pk_charN (by omega)).1 | decide) ?_
    refine ⟨rfl, ?_, fun o ho => q3 o (by omega) (by omega) (by omega) (by omega)⟩
    obtain ⟨r1, r2, r3, ⟨r4, r5⟩, ⟨r6, r7⟩, ⟨zs, r8, r9⟩, r10, r11⟩ := hr
    have hw1 := hv.2.2.2.2.1.1
    have g : ∀ o, o < 16 ∨ (18 < o ∧ o < 22) ∨ 22 < o → h2 o = h o := fun o ho => q3 o (by omega) (by omega) (by omega) (by omega)
    refine ⟨?_, q2, r3.fr (g _ (by omega)) (g _ (by omega)) (g _ (by omega)), ⟨q1, fun k hk => (r5 k (by have hk : k < s := hk; omega)).fr (g _ (by omega)) (g _ (by omega)) (g _ (by omega))⟩, ⟨by rw [g 48 (by omega)]; exact r6, fun k (hk : k < (xV X).1) => (r7 k hk).fr (g _ (by omega)) (g _ (by omega)) (g _ (by omega))⟩, ⟨zs, ?_, r9⟩, by rw [g 1 (by omega)]; exact r10, fun k hk => by rw [g 2 (by omega)]; exact r11 k hk⟩
    · unfold HX
      rw [g 4 (by omega), g 5 (by omega), g 7 (by omega), g 8 (by omega), g 9 (by omega)]
      exact r1
    · unfold ZX
      rw [g 56 (by omega), g 57 (by omega), g 58 (by omega), g 59 (by omega)]
      exact r8
def a_keep (X : XS) : AX := if (xV X).1 = 2 then (aFULL, X) else (nI ((xV X).1 + 1), setV X ((xV X).1 + 1, fun k => if k = (xV X).1 then xC X else (xV X).2 k))
theorem x_keep {d : Nat} {h : Hp} {X : XS} (hr : RX h X) (hv : VX X) : RT mX7_keep (d + 6) [.ref 0] h (QY h (a_keep X)) := by
  have hu := hv.2.2.2.2.1.1
  have e48 : h 48 1 = (xV X).1 := hr.2.2.2.2.1.1
  unfold a_keep
  change AW mX7_keep _ 0 [some (.ref 0)] [] h _
  refine aw_aload_n dX7_keep_0 rfl rfl ?_
  refine aw_getR dX7_keep_1 fX7_45 (by first | assumption | rfl) (by rfl) ?_
  refine aw_callVF dX7_keep_4 kX7_254 (c_L_isFull (n := 2) (Or.inr ⟨rfl, rfl⟩) e48 hu) (by first | assumption | rfl) rfl rfl rfl (Nat.le_of_ble_eq_true rfl) (Nat.le_of_ble_eq_true rfl) ?_
  dsimp only [Option.toList, List.cons_append, List.nil_append, Nat.reduceAdd]
  by_cases hq : (xV X).1 = 2
  · rw [if_pos hq, if_pos hq]
    refine aw_if_eqN (tgt := 13) dX7_keep_7 (by decide) (by omega) (fun q => absurd q (by omega)) (fun _ => ?_)
    refine aw_bipush (v := nI 4294967293) dX7_keep_10 (by decide) ?_
    refine aw_iret dX7_keep_12 rfl (by first | rfl | exact (pk_charN (by omega)).1 | decide) ?_
    exact QX.same hr
  · rw [if_neg hq, if_neg hq]
    have ep : pus 2 (xV X).1 (xV X).2 (xC X) = ((xV X).1 + 1, fun k => if k = (xV X).1 then xC X else (xV X).2 k) := by unfold pus; rw [if_neg hq]
    refine aw_if_eqN (tgt := 13) dX7_keep_7 (by decide) (by omega) (fun _ => ?_) (fun q => absurd q (by omega))
    refine aw_aload_n dX7_keep_13 rfl rfl ?_
    refine aw_getR dX7_keep_14 fX7_45 (by first | assumption | rfl) (by rfl) ?_
    refine aw_aload_n dX7_keep_17 rfl rfl ?_
    refine aw_getR dX7_keep_18 fX7_29 (by first | assumption | rfl) (by rfl) ?_
    refine aw_callV dX7_keep_21 kX7_156 (c_L_push (n := 2) (N := xn X) (Or.inr ⟨rfl, rfl⟩) e48 hu hv.n.2 hr.2.2.2.2.1.2 hr.2.1) (by first | assumption | rfl) rfl rfl rfl (Nat.le_of_ble_eq_true rfl) (Nat.le_of_ble_eq_true rfl) ?_
    rintro _ h2 ⟨rfl, q1, q2, q3⟩
    dsimp only [Option.toList, List.cons_append, List.nil_append, Nat.reduceAdd]
    refine aw_aload_n dX7_keep_24 rfl rfl ?_
    refine aw_getR dX7_keep_25 fX7_45 (by first | assumption | rfl) (by rfl) ?_
    refine aw_callVF dX7_keep_28 kX7_180 (c_L_size (n := 2) (Or.inr ⟨rfl, rfl⟩)) (by first | assumption | rfl) rfl rfl rfl (Nat.le_of_ble_eq_true rfl) (Nat.le_of_ble_eq_true rfl) ?_
    dsimp only [Option.toList, List.cons_append, List.nil_append, Nat.reduceAdd]
    rw [ep] at q1 q2
    rw [q1]
    refine aw_iret dX7_keep_31 rfl (by first | rfl | exact (pk_charN (by omega)).1 | decide) ?_
    exact ⟨rfl, hr.setV hv (fun o ho => q3 o (by omega)) q1 q2, fun o ho => q3 o (by omega)⟩
def a_back (X : XS) : AX := if (xV X).1 = 0 then (aNO, X) else (nI ((xV X).1 - 1), setC (setV (setU X (0, (xU X).2)) ((xV X).1 - 1, (xV X).2)) ((xV X).2 ((xV X).1 - 1)))
theorem x_back {d : Nat} {h : Hp} {X : XS} (hr : RX h X) (hv : VX X) : RT mX7_back (d + 6) [.ref 0] h (QY h (a_back X)) := by
  have hu := hv.2.2.2.2.1.1
  have e48 : h 48 1 = (xV X).1 := hr.2.2.2.2.1.1
  unfold a_back
  change AW mX7_back _ 0 [some (.ref 0)] [] h _
  by_cases hq : (xV X).1 = 0
  · rw [if_pos hq]
    refine aw_aload_n dX7_back_0 rfl rfl ?_
    refine aw_getR dX7_back_1 fX7_45 (by first | assumption | rfl) (by rfl) ?_
    refine aw_aload_n dX7_back_4 rfl rfl ?_
    refine aw_getR dX7_back_5 fX7_29 (by first | assumption | rfl) (by rfl) ?_
    refine aw_callVF dX7_back_8 kX7_176 (c_L_popN (n := 2) (Or.inr ⟨rfl, rfl⟩) (e48.trans hq)) (by first | assumption | rfl) rfl rfl rfl (Nat.le_of_ble_eq_true rfl) (Nat.le_of_ble_eq_true rfl) ?_
    dsimp only [Option.toList, List.cons_append, List.nil_append, Nat.reduceAdd]
    refine aw_if_neN (tgt := 17) dX7_back_11 (by decide) (by omega) (fun q => absurd q (by omega)) (fun _ => ?_)
    refine aw_bipush (v := nI 4294967294) dX7_back_14 (by decide) ?_
    refine aw_iret dX7_back_16 rfl (by first | rfl | exact (pk_charN (by omega)).1 | decide) ?_
    exact QX.same hr
  · rw [if_neg hq]
    obtain ⟨s, hs⟩ : ∃ s, (xV X).1 = s + 1 := ⟨(xV X).1 - 1, by omega⟩
    rw [hs, Nat.add_sub_cancel]
    refine aw_aload_n dX7_back_0 rfl rfl ?_
    refine aw_getR dX7_back_1 fX7_45 (by first | assumption | rfl) (by rfl) ?_
    refine aw_aload_n dX7_back_4 rfl rfl ?_
    refine aw_getR dX7_back_5 fX7_29 (by first | assumption | rfl) (by rfl) ?_
    refine aw_callV dX7_back_8 kX7_176 (c_L_popS (s := s) (N := xn X) (n := 2) (U := (xV X).2) (Or.inr ⟨rfl, rfl⟩) (e48.trans hs) (by omega) hv.n.2 (fun k hk => hr.2.2.2.2.1.2 k (by omega))) (by first | assumption | rfl) rfl rfl rfl (Nat.le_of_ble_eq_true rfl) (Nat.le_of_ble_eq_true rfl) ?_
    rintro _ h2 ⟨rfl, q1, q2, q3⟩
    dsimp only [Option.toList, List.cons_append, List.nil_append, Nat.reduceAdd]
    refine aw_if_neN (tgt := 17) dX7_back_11 (by decide) (by omega) (fun _ => ?_) (fun q => absurd q (by omega))
    refine aw_aload_n dX7_back_17 rfl rfl ?_
    refine aw_getR dX7_back_18 fX7_41 (by first | assumption | rfl) (by rfl) ?_
    refine aw_callVF dX7_back_21 kX7_255 (c_L_clear (n := 8) (Or.inl ⟨rfl, rfl⟩)) (by first | assumption | rfl) rfl rfl rfl (Nat.le_of_ble_eq_true rfl) (Nat.le_of_ble_eq_true rfl) ?_
    dsimp only [Option.toList, List.cons_append, List.nil_append, Nat.reduceAdd]
    refine aw_aload_n dX7_back_24 rfl rfl ?_
    refine aw_getR dX7_back_25 fX7_45 (by first | assumption | rfl) (by rfl) ?_
    refine aw_callVF dX7_back_28 kX7_180 (c_L_size (n := 2) (Or.inr ⟨rfl, rfl⟩)) (by first | assumption | rfl) rfl rfl rfl (Nat.le_of_ble_eq_true rfl) (Nat.le_of_ble_eq_true rfl) ?_
    dsimp only [Option.toList, List.cons_append, List.nil_append, Nat.reduceAdd]
    rw [hw_ne (by decide), q1]
    refine aw_iret dX7_back_31 rfl (by first | rfl | exact (pk_charN (by omega)).1 | decide) ?_
    refine ⟨rfl, ?_, fun o ho => by rw [hw_ne (by omega)]; exact q3 o (by omega) (by omega) (by omega) (by omega)⟩
    obtain ⟨r1, r2, r3, ⟨r4, r5⟩, ⟨r6, r7⟩, ⟨zs, r8, r9⟩, r10, r11⟩ := hr
    have g : ∀ o, o < 16 ∨ (18 < o ∧ o < 22) ∨ (22 < o ∧ o < 48) ∨ 48 < o → hw h2 22 1 0 o = h o := fun o ho => by rw [hw_ne (by omega)]; exact q3 o (by omega) (by omega) (by omega) (by omega)
    refine ⟨?_, q2.fr (hw_ne (by omega)) (hw_ne (by omega)) (hw_ne (by omega)), r3.fr (g _ (by omega)) (g _ (by omega)) (g _ (by omega)), ⟨by rw [hw_at, if_pos rfl]; rfl, fun k hk => by have hk : k < 0 := hk; omega⟩, ⟨by rw [hw_ne (by decide)]; exact q1, fun k hk => (r7 k (by have hk : k < s := hk; omega)).fr (g _ (by omega)) (g _ (by omega)) (g _ (by omega))⟩, ⟨zs, ?_, r9⟩, by rw [g 1 (by omega)]; exact r10, fun k hk => by rw [g 2 (by omega)]; exact r11 k hk⟩
    · unfold HX
      rw [g 4 (by omega), g 5 (by omega), g 7 (by omega), g 8 (by omega), g 9 (by omega)]
      exact r1
    · unfold ZX
      rw [g 56 (by omega), g 57 (by omega), g 58 (by omega), g 59 (by omega)]
      exact r8
noncomputable def a_seen (X : XS) (i r t : Int32) : AX := match ix i 0 (xn X - 1) with
  | none => (aBAD, X)
  | some i => match ix r 0 (xn X - 1) with
    | none => (aBAD, X)
    | some r => match ix t 0 120 with
      | none => (aBAD, X)
      | some t => if (xZ X).1 = 8 then (aFULL, X) else (nI ((xZ X).1 + 1), setZ X ((xZ X).1 + 1, fun k => if k = (xZ X).1 then (i, r, t) else (xZ X).2 k))
theorem x_seen {d : Nat} {h : Hp} {X : XS} {i r t : Int32} (hr : RX h X) (hv : VX X) : RT mX7_seen (d + 6) [.ref 0, .int i, .int r, .int t] h (QY h (a_seen X i r t)) := by
  have hn := hv.n
  have hz8 := hv.2.2.2.2.2.1
  obtain ⟨zs, z1, z2⟩ := hr.2.2.2.2.2.1
  unfold a_seen
  change AW mX7_seen _ 0 [some (.ref 0), some (.int i), some (.int r), some (.int t)] [] h _
  cases ei : ix i 0 (xn X - 1) with
  | none =>
    refine aw_aload_n dX7_seen_0 rfl rfl ?_
    refine aw_iload_n dX7_seen_1 rfl rfl ?_
    refine aw_callVF dX7_seen_2 kX7_116 (c_isCN hr hv ei) (by first | assumption | rfl) rfl rfl rfl (Nat.le_of_ble_eq_true rfl) (Nat.le_of_ble_eq_true rfl) ?_
    dsimp only [Option.toList, List.cons_append, List.nil_append, Nat.reduceAdd]
    refine aw_if_eqN (tgt := 26) dX7_seen_5 (by decide) (by omega) (fun _ => ?_) (fun q => absurd q (by omega))
    refine aw_iconst (v := nI 4294967295) dX7_seen_26 (by decide) ?_
    refine aw_iret dX7_seen_27 rfl (by first | rfl | exact (pk_charN (by omega)).1 | decide) ?_
    exact QX.same hr
  | some i =>
    obtain ⟨rfl, hi1, hi2⟩ := ix_s (by omega) (by omega) ei
    dsimp only
    cases er : ix r 0 (xn X - 1) with
    | none =>
      refine aw_aload_n dX7_seen_0 rfl rfl ?_
      refine aw_iload_n dX7_seen_1 rfl rfl ?_
      refine aw_callVF dX7_seen_2 kX7_116 (c_isCS hr hv ei) (by first | assumption | rfl) rfl rfl rfl (Nat.le_of_ble_eq_true rfl) (Nat.le_of_ble_eq_true rfl) ?_
      dsimp only [Option.toList, List.cons_append, List.nil_append, Nat.reduceAdd]
      refine aw_if_eqN (tgt := 26) dX7_seen_5 (by decide) (by omega) (fun q => absurd q (by omega)) (fun _ => ?_)
      refine aw_aload_n dX7_seen_8 rfl rfl ?_
      refine aw_iload_n dX7_seen_9 rfl rfl ?_
      refine aw_callVF dX7_seen_10 kX7_140 (c_isRN hr hv er) (by first | assumption | rfl) rfl rfl rfl (Nat.le_of_ble_eq_true rfl) (Nat.le_of_ble_eq_true rfl) ?_
      dsimp only [Option.toList, List.cons_append, List.nil_append, Nat.reduceAdd]
      refine aw_if_eqN (tgt := 26) dX7_seen_13 (by decide) (by omega) (fun _ => ?_) (fun q => absurd q (by omega))
      refine aw_iconst (v := nI 4294967295) dX7_seen_26 (by decide) ?_
      refine aw_iret dX7_seen_27 rfl (by first | rfl | exact (pk_charN (by omega)).1 | decide) ?_
      exact QX.same hr
    | some r =>
      obtain ⟨rfl, hr1, hr2⟩ := ix_s (by omega) (by omega) er
      dsimp only
      cases et : ix t 0 120 with
      | none =>
        refine aw_aload_n dX7_seen_0 rfl rfl ?_
        refine aw_iload_n dX7_seen_1 rfl rfl ?_
        refine aw_callVF dX7_seen_2 kX7_116 (c_isCS hr hv ei) (by first | assumption | rfl) rfl rfl rfl (Nat.le_of_ble_eq_true rfl) (Nat.le_of_ble_eq_true rfl) ?_
        dsimp only [Option.toList, List.cons_append, List.nil_append, Nat.reduceAdd]
        refine aw_if_eqN (tgt := 26) dX7_seen_5 (by decide) (by omega) (fun q => absurd q (by omega)) (fun _ => ?_)
        refine aw_aload_n dX7_seen_8 rfl rfl ?_
        refine aw_iload_n dX7_seen_9 rfl rfl ?_
        refine aw_callVF dX7_seen_10 kX7_140 (c_isRS hr hv er) (by first | assumption | rfl) rfl rfl rfl (Nat.le_of_ble_eq_true rfl) (Nat.le_of_ble_eq_true rfl) ?_
        dsimp only [Option.toList, List.cons_append, List.nil_append, Nat.reduceAdd]
        refine aw_if_eqN (tgt := 26) dX7_seen_13 (by decide) (by omega) (fun q => absurd q (by omega)) (fun _ => ?_)
        refine aw_iload_n dX7_seen_16 rfl rfl ?_
        refine aw_iconst (v := nI 0) dX7_seen_17 (by decide) ?_
        refine aw_bipush (v := nI 120) dX7_seen_18 (by decide) ?_
        refine aw_callSF dX7_seen_20 kX7_99 (c_wiN et) rfl rfl rfl (Nat.le_of_ble_eq_true rfl) (Nat.le_of_ble_eq_true rfl) ?_
        dsimp only [Option.toList, List.cons_append, List.nil_append, Nat.reduceAdd]
        refine aw_if_neN (tgt := 28) dX7_seen_23 (by decide) (by omega) (fun q => absurd q (by omega)) (fun _ => ?_)
        refine aw_iconst (v := nI 4294967295) dX7_seen_26 (by decide) ?_
        refine aw_iret dX7_seen_27 rfl (by first | rfl | exact (pk_charN (by omega)).1 | decide) ?_
        exact QX.same hr
      | some t =>
        obtain ⟨rfl, ht1, ht2⟩ := ix_s (by omega) (by omega) et
        dsimp only
        have e56 := z1.1
        refine aw_aload_n dX7_seen_0 rfl rfl ?_
        refine aw_iload_n dX7_seen_1 rfl rfl ?_
        refine aw_callVF dX7_seen_2 kX7_116 (c_isCS hr hv ei) (by first | assumption | rfl) rfl rfl rfl (Nat.le_of_ble_eq_true rfl) (Nat.le_of_ble_eq_true rfl) ?_
        dsimp only [Option.toList, List.cons_append, List.nil_append, Nat.reduceAdd]
        refine aw_if_eqN (tgt := 26) dX7_seen_5 (by decide) (by omega) (fun q => absurd q (by omega)) (fun _ => ?_)
        refine aw_aload_n dX7_seen_8 rfl rfl ?_
        refine aw_iload_n dX7_seen_9 rfl rfl ?_
        refine aw_callVF dX7_seen_10 kX7_140 (c_isRS hr hv er) (by first | assumption | rfl) rfl rfl rfl (Nat.le_of_ble_eq_true rfl) (Nat.le_of_ble_eq_true rfl) ?_
        dsimp only [Option.toList, List.cons_append, List.nil_append, Nat.reduceAdd]
        refine aw_if_eqN (tgt := 26) dX7_seen_13 (by decide) (by omega) (fun q => absurd q (by omega)) (fun _ => ?_)
        refine aw_iload_n dX7_seen_16 rfl rfl ?_
        refine aw_iconst (v := nI 0) dX7_seen_17 (by decide) ?_
        refine aw_bipush (v := nI 120) dX7_seen_18 (by decide) ?_
        refine aw_callSF dX7_seen_20 kX7_99 (c_wiS et) rfl rfl rfl (Nat.le_of_ble_eq_true rfl) (Nat.le_of_ble_eq_true rfl) ?_
        dsimp only [Option.toList, List.cons_append, List.nil_append, Nat.reduceAdd]
        refine aw_if_neN (tgt := 28) dX7_seen_23 (by decide) (by omega) (fun _ => ?_) (fun q => absurd q (by omega))
        refine aw_aload_n dX7_seen_28 rfl rfl ?_
        refine aw_getR dX7_seen_29 fX7_51 (by first | assumption | rfl) (by rfl) ?_
        refine aw_callVF dX7_seen_32 kX7_226 (c_Z_isFull (by omega)) (by first | assumption | rfl) rfl rfl rfl (Nat.le_of_ble_eq_true rfl) (Nat.le_of_ble_eq_true rfl) ?_
        dsimp only [Option.toList, List.cons_append, List.nil_append, Nat.reduceAdd]
        rw [e56]
        by_cases hq : (xZ X).1 = 8
        · rw [if_pos hq, if_pos hq]
          refine aw_if_eqN (tgt := 41) dX7_seen_35 (by decide) (by omega) (fun q => absurd q (by omega)) (fun _ => ?_)
          refine aw_bipush (v := nI 4294967293) dX7_seen_38 (by decide) ?_
          refine aw_iret dX7_seen_40 rfl (by first | rfl | exact (pk_charN (by omega)).1 | decide) ?_
          exact QX.same hr
        · rw [if_neg hq, if_neg hq]
          have hb : ∀ k, k < (xZ X).1 → (zs k).2.2 ≤ 120 := fun k hk => by
            obtain ⟨j, hj, e⟩ := z2.1 k hk
            have := (hz8.2 j hj).2.2
            rw [e] at this
            exact this
          refine aw_if_eqN (tgt := 41) dX7_seen_35 (by decide) (by omega) (fun _ => ?_) (fun q => absurd q (by omega))
          refine aw_aload_n dX7_seen_41 rfl rfl ?_
          refine aw_getR dX7_seen_42 fX7_51 (by first | assumption | rfl) (by rfl) ?_
          refine aw_iload_n dX7_seen_45 rfl rfl ?_
          refine aw_iload_n dX7_seen_46 rfl rfl ?_
          refine aw_iload_n dX7_seen_47 rfl rfl ?_
          refine aw_callV dX7_seen_48 kX7_227 (c_Z_add z1 z2 (by omega) ht2 hb) (by first | assumption | rfl) rfl rfl rfl (Nat.le_of_ble_eq_true rfl) (Nat.le_of_ble_eq_true rfl) ?_
          rintro _ h2 ⟨rfl, ⟨zs2, q1, q2⟩, f2⟩
          dsimp only [Option.toList, List.cons_append, List.nil_append, Nat.reduceAdd]
          refine aw_aload_n dX7_seen_51 rfl rfl ?_
          refine aw_getR dX7_seen_52 fX7_51 (by first | assumption | rfl) (by rfl) ?_
          refine aw_callVF dX7_seen_55 kX7_230 (c_Z_size) (by first | assumption | rfl) rfl rfl rfl (Nat.le_of_ble_eq_true rfl) (Nat.le_of_ble_eq_true rfl) ?_
          dsimp only [Option.toList, List.cons_append, List.nil_append, Nat.reduceAdd]
          rw [q1.1]
          refine aw_iret dX7_seen_58 rfl (by first | rfl | exact (pk_charN (by omega)).1 | decide) ?_
          exact ⟨rfl, hr.setZ hv f2 ⟨zs2, q1, q2⟩, fun o ho => f2 o (by omega)⟩
def a_forget (X : XS) : AX := (nI (xZ X).1, setZ X (0, (xZ X).2))
theorem x_forget {d : Nat} {h : Hp} {X : XS} (hr : RX h X) (hv : VX X) : RT mX7_forget (d + 6) [.ref 0] h (QY h (a_forget X)) := by
  obtain ⟨zs, z1, z2⟩ := hr.2.2.2.2.2.1
  have e56 := z1.1
  change AW mX7_forget _ 0 [some (.ref 0), none] [] h _
  refine aw_aload_n dX7_forget_0 rfl rfl ?_
  refine aw_getR dX7_forget_1 fX7_51 (by first | assumption | rfl) (by rfl) ?_
  refine aw_callVF dX7_forget_4 kX7_230 (c_Z_size) (by first | assumption | rfl) rfl rfl rfl (Nat.le_of_ble_eq_true rfl) (Nat.le_of_ble_eq_true rfl) ?_
  dsimp only [Option.toList, List.cons_append, List.nil_append, Nat.reduceAdd]
  rw [e56]
  refine aw_istore_n dX7_forget_7 rfl (Nat.le_of_ble_eq_true rfl) rfl ?_
  dsimp only [List.set]
  refine aw_aload_n dX7_forget_8 rfl rfl ?_
  refine aw_getR dX7_forget_9 fX7_51 (by first | assumption | rfl) (by rfl) ?_
  refine aw_callVF dX7_forget_12 kX7_231 (c_Z_clear) (by first | assumption | rfl) rfl rfl rfl (Nat.le_of_ble_eq_true rfl) (Nat.le_of_ble_eq_true rfl) ?_
  dsimp only [Option.toList, List.cons_append, List.nil_append, Nat.reduceAdd]
  refine aw_iload_n dX7_forget_15 rfl rfl ?_
  refine aw_iret dX7_forget_16 rfl (by first | rfl | exact (pk_charN (by omega)).1 | decide) ?_
  exact ⟨rfl, hr.setZ hv (fun o ho => hw_ne (by omega)) ⟨zs, ⟨by rw [hw_at, if_pos rfl], fun k hk => by have hk : k < 0 := hk; omega⟩, fun k hk => by have hk : k < 0 := hk; omega, fun k hk => by have hk : k < 0 := hk; omega, fun k hk => by have hk : k + 1 < 0 := hk; omega⟩, fun o ho => hw_ne (by omega)⟩
