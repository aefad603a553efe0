/-! Piles of standings: 22 (eight) and 48 (two); standing k of pile P is object P + 2 + 3 * k -/
abbrev Sv : Type := Nat × (Nat → Nat) × (Nat → Nat)
def SVt (h : Hp) (n o : Nat) (c : Sv) : Prop := SV h n o c.1 c.2.1 c.2.2
theorem SVt.fr {h h' : Hp} {n o : Nat} {c : Sv} (hv : SVt h n o c) (e0 : h' o = h o) (e1 : h' (o + 1) = h (o + 1)) (e2 : h' (o + 2) = h (o + 2)) : SVt h' n o c := by
  unfold SVt SV
  rw [e0, e1, e2]
  exact hv
theorem SVt.cp {h : Hp} {n o p : Nat} {c : Sv} (hv : SVt h n p c) (hn : n ≤ 8) (hne : p + 2 < o ∨ o + 2 < p) : SVt (hcs h p o) n o c := by
  refine ⟨by rw [hcs_0]; exact hv.1, fun i hi => ⟨?_, ?_⟩⟩
  · rw [hcs_1 hne (by omega)]; exact (hv.2 i hi).1
  · rw [hcs_2 hne (by omega)]; exact (hv.2 i hi).2
def PL (P n : Nat) : Prop := (P = 22 ∧ n = 8) ∨ (P = 48 ∧ n = 2)
theorem PL.at {P n : Nat} (hp : PL P n) : lay[P]? = some (oO 0 [some (P + 1), none]) ∧ ∃ rs, lay[P + 1]? = some (oR rs) ∧ rs.length = n ∧ ∀ k, k < n → rs[k]? = some (P + 2 + 3 * k) ∧ SD (P + 2 + 3 * k) := by
  rcases hp with ⟨rfl, rfl⟩ | ⟨rfl, rfl⟩
  · refine ⟨rfl, _, rfl, rfl, ?_⟩
    intro k hk
    rcases (show k = 0 ∨ k = 1 ∨ k = 2 ∨ k = 3 ∨ k = 4 ∨ k = 5 ∨ k = 6 ∨ k = 7 by omega) with rfl | rfl | rfl | rfl | rfl | rfl | rfl | rfl <;> exact ⟨rfl, rfl, rfl, rfl⟩
  · refine ⟨rfl, _, rfl, rfl, ?_⟩
    intro k hk
    rcases (show k = 0 ∨ k = 1 by omega) with rfl | rfl <;> exact ⟨rfl, rfl, rfl, rfl⟩
theorem PL.n8 {P n : Nat} (hp : PL P n) : 2 ≤ n ∧ n ≤ 8 ∧ 22 ≤ P ∧ P ≤ 48 := by
  rcases hp with ⟨rfl, rfl⟩ | ⟨rfl, rfl⟩ <;> decide
theorem c_L_isFull {d P n s : Nat} {h : Hp} (hp : PL P n) (hs : h P 1 = s) (hsn : s ≤ n) : RT mX0_isFull d [.ref P] h (fun v h' => v = some (.int (nI (if s = n then 1 else 0))) ∧ h' = h) := by
  obtain ⟨l0, rs, l1, l2, l3⟩ := hp.at
  have hn8 := hp.n8
  change AW mX0_isFull _ 0 [some (.ref P)] [] h _
  refine aw_aload_n dX0_isFull_0 rfl rfl ?_
  refine aw_getI dX0_isFull_1 fX0_22 (by first | assumption | rfl) (by rfl) ?_
  refine aw_aload_n dX0_isFull_4 rfl rfl ?_
  refine aw_getR dX0_isFull_5 fX0_15 (by first | assumption | rfl) (by rfl) ?_
  refine aw_alenR dX0_isFull_8 (by first | assumption | rfl) ?_
  refine aw_icmp_ltN (tgt := 16) dX0_isFull_9 (by decide) (by omega) (by omega) (fun c9 => ?_) (fun c9 => ?_)
  · rw [if_neg (by omega)]
    refine aw_iconst (v := nI 0) dX0_isFull_16 (by decide) ?_
    refine aw_iret dX0_isFull_17 rfl (by first | rfl | exact (pk_charN (by omega)).1 | decide) ?_
    exact ⟨rfl, rfl⟩
  · rw [if_pos (by omega)]
    refine aw_iconst (v := nI 1) dX0_isFull_12 (by decide) ?_
    refine aw_goto (tgt := 17) dX0_isFull_13 (by decide) ?_
    refine aw_iret dX0_isFull_17 rfl (by first | rfl | exact (pk_charN (by omega)).1 | decide) ?_
    exact ⟨rfl, rfl⟩
theorem c_L_size {d P n : Nat} {h : Hp} (hp : PL P n) : RT mX0_size d [.ref P] h (fun v h' => v = some (.int (nI (h P 1))) ∧ h' = h) := by
  have l0 := hp.at.1
  change AW mX0_size _ 0 [some (.ref P)] [] h _
  refine aw_aload_n dX0_size_0 rfl rfl ?_
  refine aw_getI dX0_size_1 fX0_22 (by first | assumption | rfl) (by rfl) ?_
  refine aw_iret dX0_size_4 rfl (by first | rfl | exact (pk_charN (by omega)).1 | decide) ?_
  exact ⟨rfl, rfl⟩
theorem c_L_clear {d P n : Nat} {h : Hp} (hp : PL P n) : RT mX0_clear d [.ref P] h (fun v h' => v = none ∧ h' = hw h P 1 0) := by
  have l0 := hp.at.1
  change AW mX0_clear _ 0 [some (.ref P)] [] h _
  refine aw_aload_n dX0_clear_0 rfl rfl ?_
  refine aw_iconst (v := nI 0) dX0_clear_1 (by decide) ?_
  refine aw_putfield dX0_clear_2 gX0_22 (by first | assumption | rfl) (by rfl) ?_
  refine aw_vret dX0_clear_5 rfl ?_
  exact ⟨rfl, rfl⟩
theorem c_L_at {d P n k : Nat} {h : Hp} (hp : PL P n) (hk : k < n) : RT mX0_standingAt d [.ref P, .int (nI k)] h (fun v h' => v = some (.ref (P + 2 + 3 * k)) ∧ h' = h) := by
  obtain ⟨l0, rs, l1, l2, l3⟩ := hp.at
  have hn8 := hp.n8
  have hrk := (l3 k hk).1
  change AW mX0_standingAt _ 0 [some (.ref P), some (.int (nI k))] [] h _
  refine aw_iload_n dX0_standingAt_0 rfl rfl ?_
  refine aw_if_ltN (tgt := 22) dX0_standingAt_1 (by decide) (by omega) (fun q => absurd q (by omega)) (fun _ => ?_)
  refine aw_iload_n dX0_standingAt_4 rfl rfl ?_
  refine aw_aload_n dX0_standingAt_5 rfl rfl ?_
  refine aw_getR dX0_standingAt_6 fX0_15 (by first | assumption | rfl) (by rfl) ?_
  refine aw_alenR dX0_standingAt_9 (by first | assumption | rfl) ?_
  refine aw_icmp_geN (tgt := 22) dX0_standingAt_10 (by decide) (by omega) (by omega) (fun q => absurd q (by omega)) (fun _ => ?_)
  refine aw_aload_n dX0_standingAt_13 rfl rfl ?_
  refine aw_getR dX0_standingAt_14 fX0_15 (by first | assumption | rfl) (by rfl) ?_
  refine aw_iload_n dX0_standingAt_17 rfl rfl ?_
  refine aw_aaload dX0_standingAt_18 l1 hrk (by omega) ?_
  refine aw_goto (tgt := 23) dX0_standingAt_19 (by decide) ?_
  refine aw_aret dX0_standingAt_23 rfl (by first | exact Or.inl ⟨_, rfl⟩ | exact Or.inr ⟨_, rfl⟩) (by first | exact Or.inr ⟨_, rfl⟩ | exact Or.inl rfl) ?_
  exact ⟨rfl, rfl⟩
theorem c_L_atN {d P n : Nat} {h : Hp} (hp : PL P n) : RT mX0_standingAt d [.ref P, .int (nI 0 - nI 1)] h (fun v h' => v = some .null ∧ h' = h) := by
  obtain ⟨l0, rs, l1, l2, l3⟩ := hp.at
  change AW mX0_standingAt _ 0 [some (.ref P), some (.int (nI 0 - nI 1))] [] h _
  refine aw_iload_n dX0_standingAt_0 rfl rfl ?_
  refine aw_if_lt (tgt := 22) dX0_standingAt_1 (by decide) (fun q => ?_) (fun q => absurd (by decide) q)
  refine aw_null dX0_standingAt_22 ?_
  refine aw_aret dX0_standingAt_23 rfl (by first | exact Or.inl ⟨_, rfl⟩ | exact Or.inr ⟨_, rfl⟩) (by first | exact Or.inr ⟨_, rfl⟩ | exact Or.inl rfl) ?_
  exact ⟨rfl, rfl⟩
/-- outside the pile P of n nothing has changed -/
def FP (P n : Nat) (h h' : Hp) : Prop := ∀ o, o < P ∨ P + 2 + 3 * n ≤ o → h' o = h o
theorem c_L_loseLowest {d P n s N : Nat} {h : Hp} {U : Nat → Sv} (hp : PL P n) (hs : h P 1 = s) (hsn : s ≤ n) (hs1 : 1 ≤ s) (hN : N ≤ 8) (hu : ∀ k, k < s → SVt h N (P + 2 + 3 * k) (U k)) :
    RT mX0_loseLowest (d + 2) [.ref P] h (fun v h' => v = none ∧ h' P 1 = s - 1 ∧ (∀ k, k < s - 1 → SVt h' N (P + 2 + 3 * k) (U (k + 1))) ∧ FP P n h h') := by
  obtain ⟨l0, rs, l1, l2, l3⟩ := hp.at
  have hn8 := hp.n8
  have loop : ∀ u k hh, k + u + 1 = s → hh P 1 = s → (∀ j, j < k → SVt hh N (P + 2 + 3 * j) (U (j + 1))) → (∀ j, k ≤ j → j < s → SVt hh N (P + 2 + 3 * j) (U j)) → FP P n h hh → AW mX0_loseLowest (d + 2) 2 [some (.ref P), some (.int (nI k)), none, none] [] hh (fun v h' => v = none ∧ h' P 1 = s - 1 ∧ (∀ k, k < s - 1 → SVt h' N (P + 2 + 3 * k) (U (k + 1))) ∧ FP P n h h') := by
    intro u
    induction u with
    | zero =>
      intro k hh hk g1 g2 g3 g4
      refine aw_iload_n dX0_loseLowest_2 rfl rfl ?_
      refine aw_iconst (v := nI 1) dX0_loseLowest_3 (by decide) ?_
      refine aw_iaddN dX0_loseLowest_4 ?_
      refine aw_aload_n dX0_loseLowest_5 rfl rfl ?_
      refine aw_getI dX0_loseLowest_6 fX0_22 (by first | assumption | rfl) (by rfl) ?_
      rw [g1]
      refine aw_icmp_geN (tgt := 45) dX0_loseLowest_9 (by decide) (by omega) (by omega) (fun _ => ?_) (fun q => absurd q (by omega))
      refine aw_aload_n dX0_loseLowest_45 rfl rfl ?_
      refine aw_iconst (v := nI 0) dX0_loseLowest_46 (by decide) ?_
      refine aw_aload_n dX0_loseLowest_47 rfl rfl ?_
      refine aw_getI dX0_loseLowest_48 fX0_22 (by first | assumption | rfl) (by rfl) ?_
      rw [g1]
      refine aw_iconst (v := nI 1) dX0_loseLowest_51 (by decide) ?_
      refine aw_isubN dX0_loseLowest_52 (by omega) ?_
      refine aw_mmaxN dX0_loseLowest_53 kX0_7 (by omega) (by omega) (Nat.le_of_ble_eq_true rfl) ?_
      refine aw_putfield dX0_loseLowest_56 gX0_22 (by first | assumption | rfl) (by rfl) ?_
      refine aw_vret dX0_loseLowest_59 rfl ?_
      refine ⟨rfl, ?_, fun j hj => ?_, fun o ho => ?_⟩
      · rw [hw_at, if_pos rfl, Nat.max_eq_right (Nat.zero_le _)]
      · exact (g2 j (by omega)).fr (hw_ne (by omega)) (hw_ne (by omega)) (hw_ne (by omega))
      · rw [hw_ne (by omega)]; exact g4 o ho
    | succ u ih =>
      intro k hh hk g1 g2 g3 g4
      have sk := (l3 k (by omega)).2
      have sk1 := (l3 (k + 1) (by omega)).2
      have lk := sk.1
      refine aw_iload_n dX0_loseLowest_2 rfl rfl ?_
      refine aw_iconst (v := nI 1) dX0_loseLowest_3 (by decide) ?_
      refine aw_iaddN dX0_loseLowest_4 ?_
      refine aw_aload_n dX0_loseLowest_5 rfl rfl ?_
      refine aw_getI dX0_loseLowest_6 fX0_22 (by first | assumption | rfl) (by rfl) ?_
      rw [g1]
      refine aw_icmp_geN (tgt := 45) dX0_loseLowest_9 (by decide) (by omega) (by omega) (fun q => absurd q (by omega)) (fun _ => ?_)
      refine aw_aload_n dX0_loseLowest_12 rfl rfl ?_
      refine aw_iload_n dX0_loseLowest_13 rfl rfl ?_
      refine aw_callVF dX0_loseLowest_14 kX0_33 (c_L_at hp (by omega)) (by first | assumption | rfl) rfl rfl rfl (Nat.le_of_ble_eq_true rfl) (Nat.le_of_ble_eq_true rfl) ?_
      dsimp only [Option.toList, List.cons_append, List.nil_append, Nat.reduceAdd]
      refine aw_astore_n dX0_loseLowest_17 rfl (Nat.le_of_ble_eq_true rfl) rfl ?_
      dsimp only [List.set]
      refine aw_aload_n dX0_loseLowest_18 rfl rfl ?_
      refine aw_iload_n dX0_loseLowest_19 rfl rfl ?_
      refine aw_iconst (v := nI 1) dX0_loseLowest_20 (by decide) ?_
      refine aw_iaddN dX0_loseLowest_21 ?_
      refine aw_callVF dX0_loseLowest_22 kX0_33 (c_L_at hp (by omega)) (by first | assumption | rfl) rfl rfl rfl (Nat.le_of_ble_eq_true rfl) (Nat.le_of_ble_eq_true rfl) ?_
      dsimp only [Option.toList, List.cons_append, List.nil_append, Nat.reduceAdd]
      refine aw_astore_n dX0_loseLowest_25 rfl (Nat.le_of_ble_eq_true rfl) rfl ?_
      dsimp only [List.set]
      refine aw_aload_n dX0_loseLowest_26 rfl rfl ?_
      refine aw_ifnull dX0_loseLowest_27 ?_
      refine aw_aload_n dX0_loseLowest_30 rfl rfl ?_
      refine aw_ifnull dX0_loseLowest_31 ?_
      refine aw_aload_n dX0_loseLowest_34 rfl rfl ?_
      refine aw_aload_n dX0_loseLowest_35 rfl rfl ?_
      refine aw_callVF dX0_loseLowest_36 kX0_37 (c_S_copyFrom (by first | assumption | exact ⟨rfl, rfl, rfl⟩) (by first | assumption | exact ⟨rfl, rfl, rfl⟩) (by omega)) (by first | assumption | rfl) rfl rfl rfl (Nat.le_of_ble_eq_true rfl) (Nat.le_of_ble_eq_true rfl) ?_
      dsimp only [Option.toList, List.cons_append, List.nil_append, Nat.reduceAdd]
      refine aw_iincN (v := 1) dX0_loseLowest_39 rfl rfl ?_
      dsimp only [List.set]
      refine aw_goto (tgt := 2) dX0_loseLowest_42 (by decide) ?_
      refine aw_forget 2 ?_
      refine aw_forget 3 ?_
      dsimp only [List.set]
      refine ih (k + 1) _ (by omega) ?_ (fun j hj => ?_) (fun j hj1 hj2 => ?_) (fun o ho => ?_)
      · rw [hcs_ne (by omega) (by omega) (by omega)]; exact g1
      · by_cases z : j = k
        · subst z
          exact (g3 (j + 1) (by omega) (by omega)).cp hN (by omega)
        · exact (g2 j (by omega)).fr (hcs_ne (by omega) (by omega) (by omega)) (hcs_ne (by omega) (by omega) (by omega)) (hcs_ne (by omega) (by omega) (by omega))
      · exact (g3 j (by omega) hj2).fr (hcs_ne (by omega) (by omega) (by omega)) (hcs_ne (by omega) (by omega) (by omega)) (hcs_ne (by omega) (by omega) (by omega))
      · rw [hcs_ne (by omega) (by omega) (by omega)]; exact g4 o ho
  change AW mX0_loseLowest _ 0 [some (.ref P), none, none, none] [] h _
  refine aw_iconst (v := nI 0) dX0_loseLowest_0 (by decide) ?_
  refine aw_istore_n dX0_loseLowest_1 rfl (Nat.le_of_ble_eq_true rfl) rfl ?_
  dsimp only [List.set]
  exact loop (s - 1) 0 h (by omega) hs (fun j hj => by omega) (fun j _ hj => hu j hj) (fun o _ => rfl)
/-- one more on a pile of at most n -/
def pus (n s : Nat) (U : Nat → Sv) (c : Sv) : Nat × (Nat → Sv) := if s = n then (n, fun k => if k = n - 1 then c else U (k + 1)) else (s + 1, fun k => if k = s then c else U k)
theorem c_L_push {d P n s N : Nat} {h : Hp} {U : Nat → Sv} {c : Sv} (hp : PL P n) (hs : h P 1 = s) (hsn : s ≤ n) (hN : N ≤ 8) (hu : ∀ k, k < s → SVt h N (P + 2 + 3 * k) (U k)) (hc : SVt h N 16 c) :
    RT mX0_push (d + 3) [.ref P, .ref 16] h (fun v h' => v = none ∧ h' P 1 = (pus n s U c).1 ∧ (∀ k, k < (pus n s U c).1 → SVt h' N (P + 2 + 3 * k) ((pus n s U c).2 k)) ∧ FP P n h h') := by
  obtain ⟨l0, rs, l1, l2, l3⟩ := hp.at
  have hn8 := hp.n8
  have fin : ∀ (s2 : Nat) (U2 : Nat → Sv) (hh : Hp), s2 < n → hh P 1 = s2 → (∀ k, k < s2 → SVt hh N (P + 2 + 3 * k) (U2 k)) → FP P n h hh → AW mX0_push (d + 3) 11 [some (.ref P), some (.ref 16), none] [] hh (fun v h' => v = none ∧ h' P 1 = s2 + 1 ∧ (∀ k, k < s2 + 1 → SVt h' N (P + 2 + 3 * k) (if k = s2 then c else U2 k)) ∧ FP P n h h') := by
    intro s2 U2 hh h1 h2 h3 h4
    have ss := (l3 s2 h1).2
    have ls := ss.1
    have hc2 : SVt hh N 16 c := hc.fr (h4 16 (by omega)) (h4 17 (by omega)) (h4 18 (by omega))
    refine aw_aload_n dX0_push_11 rfl rfl ?_
    refine aw_aload_n dX0_push_12 rfl rfl ?_
    refine aw_getI dX0_push_13 fX0_22 (by first | assumption | rfl) (by rfl) ?_
    rw [h2]
    refine aw_callVF dX0_push_16 kX0_33 (c_L_at hp h1) (by first | assumption | rfl) rfl rfl rfl (Nat.le_of_ble_eq_true rfl) (Nat.le_of_ble_eq_true rfl) ?_
    dsimp only [Option.toList, List.cons_append, List.nil_append, Nat.reduceAdd]
    refine aw_astore_n dX0_push_19 rfl (Nat.le_of_ble_eq_true rfl) rfl ?_
    dsimp only [List.set]
    refine aw_aload_n dX0_push_20 rfl rfl ?_
    refine aw_ifnull dX0_push_21 ?_
    refine aw_aload_n dX0_push_24 rfl rfl ?_
    refine aw_aload_n dX0_push_25 rfl rfl ?_
    refine aw_callVF dX0_push_26 kX0_37 (c_S_copyFrom (by first | assumption | exact ⟨rfl, rfl, rfl⟩) (by first | assumption | exact ⟨rfl, rfl, rfl⟩) (by omega)) (by first | assumption | rfl) rfl rfl rfl (Nat.le_of_ble_eq_true rfl) (Nat.le_of_ble_eq_true rfl) ?_
    dsimp only [Option.toList, List.cons_append, List.nil_append, Nat.reduceAdd]
    refine aw_aload_n dX0_push_29 rfl rfl ?_
    refine aw_dup dX0_push_30 rfl ?_
    refine aw_getI dX0_push_31 fX0_22 (by first | assumption | rfl) (by rfl) ?_
    refine aw_iconst (v := nI 1) dX0_push_34 (by decide) ?_
    refine aw_iaddN dX0_push_35 ?_
    rw [hcs_ne (by omega) (by omega) (by omega), h2]
    refine aw_putfield dX0_push_36 gX0_22 (by first | assumption | rfl) (by rfl) ?_
    refine aw_vret dX0_push_39 rfl ?_
    refine ⟨rfl, by rw [hw_at, if_pos rfl], fun k hk => ?_, fun o ho => ?_⟩
    · by_cases z : k = s2
      · rw [if_pos z]
        subst z
        exact (hc2.cp hN (by omega)).fr (hw_ne (by omega)) (hw_ne (by omega)) (hw_ne (by omega))
      · rw [if_neg z]
        exact ((h3 k (by omega)).fr (hcs_ne (by omega) (by omega) (by omega)) (hcs_ne (by omega) (by omega) (by omega)) (hcs_ne (by omega) (by omega) (by omega))).fr (hw_ne (by omega)) (hw_ne (by omega)) (hw_ne (by omega))
    · rw [hw_ne (by omega), hcs_ne (by omega) (by omega) (by omega)]; exact h4 o ho
  change AW mX0_push _ 0 [some (.ref P), some (.ref 16), none] [] h _
  refine aw_aload_n dX0_push_0 rfl rfl ?_
  refine aw_callVF dX0_push_1 kX0_26 (c_L_isFull hp hs hsn) (by first | assumption | rfl) rfl rfl rfl (Nat.le_of_ble_eq_true rfl) (Nat.le_of_ble_eq_true rfl) ?_
  dsimp only [Option.toList, List.cons_append, List.nil_append, Nat.reduceAdd]
  by_cases hf : s = n
  · rw [if_pos hf]
    refine aw_if_eqN (tgt := 11) dX0_push_4 (by decide) (by omega) (fun q => absurd q (by omega)) (fun _ => ?_)
    refine aw_aload_n dX0_push_7 rfl rfl ?_
    refine aw_callV dX0_push_8 kX0_30 (c_L_loseLowest hp hs hsn (by omega) hN hu) (by first | assumption | rfl) rfl rfl rfl (Nat.le_of_ble_eq_true rfl) (Nat.le_of_ble_eq_true rfl) ?_
    rintro _ h2 ⟨rfl, g1, g2, g3⟩
    dsimp only [Option.toList, List.cons_append, List.nil_append, Nat.reduceAdd]
    have e1 : (pus n s U c).1 = s - 1 + 1 := by unfold pus; rw [if_pos hf]; dsimp only; omega
    have e2 : (pus n s U c).2 = fun k => if k = s - 1 then c else U (k + 1) := by unfold pus; rw [if_pos hf, hf]
    rw [e1, e2]
    exact fin (s - 1) (fun k => U (k + 1)) h2 (by omega) g1 g2 g3
  · rw [if_neg hf]
    refine aw_if_eqN (tgt := 11) dX0_push_4 (by decide) (by omega) (fun _ => ?_) (fun q => absurd q (by omega))
    have e1 : (pus n s U c).1 = s + 1 := by unfold pus; rw [if_neg hf]
    have e2 : (pus n s U c).2 = fun k => if k = s then c else U k := by unfold pus; rw [if_neg hf]
    rw [e1, e2]
    exact fin s U h (by omega) hs hu (fun o _ => rfl)
theorem c_L_popN {d P n : Nat} {h : Hp} (hp : PL P n) (hs : h P 1 = 0) : RT mX0_pop (d + 1) [.ref P, .ref 16] h (fun v h' => v = some (.int (nI 0)) ∧ h' = h) := by
  have l0 := hp.at.1
  change AW mX0_pop _ 0 [some (.ref P), some (.ref 16), none] [] h _
  refine aw_aload_n dX0_pop_0 rfl rfl ?_
  refine aw_aload_n dX0_pop_1 rfl rfl ?_
  refine aw_getI dX0_pop_2 fX0_22 (by first | assumption | rfl) (by rfl) ?_
  refine aw_iconst (v := nI 1) dX0_pop_5 (by decide) ?_
  rw [hs]
  refine aw_isub dX0_pop_6 ?_
  refine aw_callVF dX0_pop_7 kX0_33 (c_L_atN hp) (by first | assumption | rfl) rfl rfl rfl (Nat.le_of_ble_eq_true rfl) (Nat.le_of_ble_eq_true rfl) ?_
  dsimp only [Option.toList, List.cons_append, List.nil_append, Nat.reduceAdd]
  refine aw_astore_nN dX0_pop_10 rfl (Nat.le_of_ble_eq_true rfl) rfl ?_
  dsimp only [List.set]
  refine aw_aload_nN dX0_pop_11 rfl rfl ?_
  refine aw_ifnonnullN dX0_pop_12 ?_
  refine aw_iconst (v := nI 0) dX0_pop_15 (by decide) ?_
  refine aw_iret dX0_pop_16 rfl (by first | rfl | exact (pk_charN (by omega)).1 | decide) ?_
  exact ⟨rfl, rfl⟩
theorem c_L_popS {d P n s N : Nat} {h : Hp} {U : Nat → Sv} (hp : PL P n) (hs : h P 1 = s + 1) (hsn : s + 1 ≤ n) (hN : N ≤ 8) (hu : ∀ k, k < s + 1 → SVt h N (P + 2 + 3 * k) (U k)) :
    RT mX0_pop (d + 2) [.ref P, .ref 16] h (fun v h' => v = some (.int (nI 1)) ∧ h' P 1 = s ∧ SVt h' N 16 (U s) ∧ (∀ o, o ≠ 16 → o ≠ 17 → o ≠ 18 → o ≠ P → h' o = h o)) := by
  obtain ⟨l0, rs, l1, l2, l3⟩ := hp.at
  have hn8 := hp.n8
  have ss := (l3 s (by omega)).2
  change AW mX0_pop _ 0 [some (.ref P), some (.ref 16), none] [] h _
  refine aw_aload_n dX0_pop_0 rfl rfl ?_
  refine aw_aload_n dX0_pop_1 rfl rfl ?_
  refine aw_getI dX0_pop_2 fX0_22 (by first | assumption | rfl) (by rfl) ?_
  refine aw_iconst (v := nI 1) dX0_pop_5 (by decide) ?_
  rw [hs]
  refine aw_isubN dX0_pop_6 (by omega) ?_
  rw [Nat.add_sub_cancel]
  refine aw_callVF dX0_pop_7 kX0_33 (c_L_at hp (by omega)) (by first | assumption | rfl) rfl rfl rfl (Nat.le_of_ble_eq_true rfl) (Nat.le_of_ble_eq_true rfl) ?_
  dsimp only [Option.toList, List.cons_append, List.nil_append, Nat.reduceAdd]
  refine aw_astore_n dX0_pop_10 rfl (Nat.le_of_ble_eq_true rfl) rfl ?_
  dsimp only [List.set]
  refine aw_aload_n dX0_pop_11 rfl rfl ?_
  refine aw_ifnonnull (tgt := 17) dX0_pop_12 (by decide) ?_
  refine aw_aload_n dX0_pop_17 rfl rfl ?_
  refine aw_aload_n dX0_pop_18 rfl rfl ?_
  refine aw_callVF dX0_pop_19 kX0_37 (c_S_copyFrom (by first | assumption | exact ⟨rfl, rfl, rfl⟩) (by first | assumption | exact ⟨rfl, rfl, rfl⟩) (by omega)) (by first | assumption | rfl) rfl rfl rfl (Nat.le_of_ble_eq_true rfl) (Nat.le_of_ble_eq_true rfl) ?_
  dsimp only [Option.toList, List.cons_append, List.nil_append, Nat.reduceAdd]
  refine aw_aload_n dX0_pop_22 rfl rfl ?_
  refine aw_dup dX0_pop_23 rfl ?_
  refine aw_getI dX0_pop_24 fX0_22 (by first | assumption | rfl) (by rfl) ?_
  refine aw_iconst (v := nI 1) dX0_pop_27 (by decide) ?_
  rw [hcs_ne (by omega) (by omega) (by omega), hs]
  refine aw_isubN dX0_pop_28 (by omega) ?_
  refine aw_putfield dX0_pop_29 gX0_22 (by first | assumption | rfl) (by rfl) ?_
  refine aw_iconst (v := nI 1) dX0_pop_32 (by decide) ?_
  refine aw_iret dX0_pop_33 rfl (by first | rfl | exact (pk_charN (by omega)).1 | decide) ?_
  refine ⟨rfl, by rw [hw_at, if_pos rfl, Nat.add_sub_cancel], ?_, fun o h1 h2 h3 h4 => ?_⟩
  · exact ((hu s (by omega)).cp hN (by omega)).fr (hw_ne (by omega)) (hw_ne (by omega)) (hw_ne (by omega))
  · rw [hw_ne h4, hcs_ne h1 h2 h3]
