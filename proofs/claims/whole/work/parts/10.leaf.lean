/-! the static helpers of the class: at, put, copyRow, within, wrapped, floorMod -/
theorem c_at {d a n i : Nat} {h : Hp} (ho : lay[a]? = some (oI n)) (hi : i < n) (hn : n < 2 ^ 31) : RT mX7_at d [.ref a, .int (nI i)] h (fun v h' => v = some (.int (nI (h a i))) ∧ h' = h) := by
  change AW mX7_at _ 0 [some (.ref a), some (.int (nI i))] [] h _
  refine aw_iload_n dX7_at_0 rfl rfl ?_
  refine aw_if_ltN (tgt := 16) dX7_at_1 (by decide) (by omega) (fun q => absurd q (by omega)) (fun _ => ?_)
  refine aw_iload_n dX7_at_4 rfl rfl ?_
  refine aw_aload_n dX7_at_5 rfl rfl ?_
  refine aw_alen dX7_at_6 (by first | assumption | rfl) ?_
  refine aw_icmp_geN (tgt := 16) dX7_at_7 (by decide) (by omega) (by omega) (fun q => absurd q (by omega)) (fun _ => ?_)
  refine aw_aload_n dX7_at_10 rfl rfl ?_
  refine aw_iload_n dX7_at_11 rfl rfl ?_
  refine aw_iaload dX7_at_12 (by first | assumption | rfl) (by omega) (by omega) ?_
  refine aw_goto (tgt := 17) dX7_at_13 (by decide) ?_
  refine aw_iret dX7_at_17 rfl (by first | rfl | exact (pk_charN (by omega)).1 | decide) ?_
  exact ⟨rfl, rfl⟩
theorem c_put {d a n i x : Nat} {h : Hp} (ho : lay[a]? = some (oI n)) (hi : i < n) (hn : n < 2 ^ 31) : RT mX7_put d [.ref a, .int (nI i), .int (nI x)] h (fun v h' => v = none ∧ h' = hw h a i x) := by
  change AW mX7_put _ 0 [some (.ref a), some (.int (nI i)), some (.int (nI x))] [] h _
  refine aw_iload_n dX7_put_0 rfl rfl ?_
  refine aw_if_ltN (tgt := 14) dX7_put_1 (by decide) (by omega) (fun q => absurd q (by omega)) (fun _ => ?_)
  refine aw_iload_n dX7_put_4 rfl rfl ?_
  refine aw_aload_n dX7_put_5 rfl rfl ?_
  refine aw_alen dX7_put_6 (by first | assumption | rfl) ?_
  refine aw_icmp_geN (tgt := 14) dX7_put_7 (by decide) (by omega) (by omega) (fun q => absurd q (by omega)) (fun _ => ?_)
  refine aw_aload_n dX7_put_10 rfl rfl ?_
  refine aw_iload_n dX7_put_11 rfl rfl ?_
  refine aw_iload_n dX7_put_12 rfl rfl ?_
  refine aw_iastore dX7_put_13 (by first | assumption | rfl) (by omega) (by omega) ?_
  refine aw_vret dX7_put_14 rfl ?_
  exact ⟨rfl, rfl⟩
/-- the first n places of row b become those of row a -/
def hcp (h : Hp) (a b n : Nat) : Hp := fun o j => if o = b ∧ j < n then h a j else h o j
theorem hcp_succ {h : Hp} {a b k : Nat} (hab : a ≠ b) : hw (hcp h a b k) b k (h a k) = hcp h a b (k + 1) := by
  funext o j
  unfold hw hcp
  by_cases ho : o = b
  · subst ho
    by_cases hj : j = k
    · subst hj; simp
    · have e : (j < k + 1) = (j < k) := by apply propext; omega
      simp [hj, e]
  · simp [ho]
theorem c_copyRow {d a b n : Nat} {h : Hp} (ha : lay[a]? = some (oI n)) (hb : lay[b]? = some (oI n)) (hab : a ≠ b) (hn : n < 2 ^ 31) : RT mX7_copyRow d [.ref a, .ref b] h (fun v h' => v = none ∧ h' = hcp h a b n) := by
  change AW mX7_copyRow _ 0 [some (.ref a), some (.ref b), none] [] h _
  refine aw_iconst (v := nI 0) dX7_copyRow_0 (by decide) ?_
  refine aw_istore_n dX7_copyRow_1 rfl (Nat.le_of_ble_eq_true rfl) rfl ?_
  dsimp only [List.set]
  have loop : ∀ f k, k ≤ n → n < k + f → AW mX7_copyRow d 2 [some (.ref a), some (.ref b), some (.int (nI k))] [] (hcp h a b k) (fun v h' => v = none ∧ h' = hcp h a b n) := by
    intro f
    induction f with
    | zero => intro k h1 h2; omega
    | succ f ih =>
      intro k h1 h2
      refine aw_iload_n dX7_copyRow_2 rfl rfl ?_
      refine aw_aload_n dX7_copyRow_3 rfl rfl ?_
      refine aw_alen dX7_copyRow_4 (by first | assumption | rfl) ?_
      refine aw_icmp_geN (tgt := 26) dX7_copyRow_5 (by decide) (by omega) (by omega) (fun c5 => ?_) (fun c5 => ?_)
      · have e : k = n := by omega
        subst e
        refine aw_vret dX7_copyRow_26 rfl ?_
        exact ⟨rfl, rfl⟩
      · refine aw_iload_n dX7_copyRow_8 rfl rfl ?_
        refine aw_aload_n dX7_copyRow_9 rfl rfl ?_
        refine aw_alen dX7_copyRow_10 (by first | assumption | rfl) ?_
        refine aw_icmp_geN (tgt := 26) dX7_copyRow_11 (by decide) (by omega) (by omega) (fun q => absurd q (by omega)) (fun _ => ?_)
        refine aw_aload_n dX7_copyRow_14 rfl rfl ?_
        refine aw_iload_n dX7_copyRow_15 rfl rfl ?_
        refine aw_aload_n dX7_copyRow_16 rfl rfl ?_
        refine aw_iload_n dX7_copyRow_17 rfl rfl ?_
        refine aw_iaload dX7_copyRow_18 (by first | assumption | rfl) (by omega) (by omega) ?_
        refine aw_iastore dX7_copyRow_19 (by first | assumption | rfl) (by omega) (by omega) ?_
        refine aw_iincN (v := 1) dX7_copyRow_20 rfl rfl ?_
        dsimp only [List.set]
        refine aw_goto (tgt := 2) dX7_copyRow_23 (by decide) ?_
        have e : hcp h a b k a k = h a k := by simp [hcp, hab]
        rw [e, hcp_succ hab]
        exact ih (k + 1) (by omega) (by omega)
  have e : h = hcp h a b 0 := by funext o j; simp [hcp]
  have r := loop (n + 1) 0 (Nat.zero_le _) (by omega)
  rw [← e] at r
  exact r
theorem c_within {d : Nat} {x a b : Int32} {h : Hp} : RT mX7_within d [.int x, .int a, .int b] h (fun v h' => v = some (.int (nI (if a ≤ x ∧ x ≤ b then 1 else 0))) ∧ h' = h) := by
  change AW mX7_within _ 0 [some (.int x), some (.int a), some (.int b)] [] h _
  refine aw_iload_n dX7_within_0 rfl rfl ?_
  refine aw_iload_n dX7_within_1 rfl rfl ?_
  refine aw_icmp_lt (tgt := 14) dX7_within_2 (by decide) (fun c2 => ?_) (fun c2 => ?_)
  · refine aw_iconst (v := nI 0) dX7_within_14 (by decide) ?_
    refine aw_iret dX7_within_15 rfl (by first | rfl | exact (pk_charN (by omega)).1 | decide) ?_
    rw [if_neg (fun q => by
      have h1 := q.1
      have h2 := c2
      rw [Int32.le_iff_toInt_le] at h1
      rw [Int32.lt_iff_toInt_lt] at h2
      omega)]
    exact ⟨rfl, rfl⟩
  · refine aw_iload_n dX7_within_5 rfl rfl ?_
    refine aw_iload_n dX7_within_6 rfl rfl ?_
    refine aw_icmp_gt (tgt := 14) dX7_within_7 (by decide) (fun c7 => ?_) (fun c7 => ?_)
    · refine aw_iconst (v := nI 0) dX7_within_14 (by decide) ?_
      refine aw_iret dX7_within_15 rfl (by first | rfl | exact (pk_charN (by omega)).1 | decide) ?_
      rw [if_neg (fun q => by
        have h1 := q.2
        have h2 := c7
        rw [Int32.le_iff_toInt_le] at h1
        rw [Int32.lt_iff_toInt_lt] at h2
        omega)]
      exact ⟨rfl, rfl⟩
    · refine aw_iconst (v := nI 1) dX7_within_10 (by decide) ?_
      refine aw_goto (tgt := 15) dX7_within_11 (by decide) ?_
      refine aw_iret dX7_within_15 rfl (by first | rfl | exact (pk_charN (by omega)).1 | decide) ?_
      rw [if_pos ⟨by
        rw [Int32.le_iff_toInt_le]
        rw [Int32.lt_iff_toInt_lt] at c2
        omega, by
        rw [Int32.le_iff_toInt_le]
        rw [Int32.lt_iff_toInt_lt] at c7
        omega⟩]
      exact ⟨rfl, rfl⟩
theorem c_withinT {d : Nat} {x a b : Int32} {h : Hp} (q : a ≤ x ∧ x ≤ b) : RT mX7_within d [.int x, .int a, .int b] h (fun v h' => v = some (.int (nI 1)) ∧ h' = h) := c_within.imp (fun v h' e => by rw [if_pos q] at e; exact e)
theorem c_withinF {d : Nat} {x a b : Int32} {h : Hp} (q : ¬ (a ≤ x ∧ x ≤ b)) : RT mX7_within d [.int x, .int a, .int b] h (fun v h' => v = some (.int (nI 0)) ∧ h' = h) := c_within.imp (fun v h' e => by rw [if_neg q] at e; exact e)
/-- a number within its bounds, as a Nat or not at all -/
theorem wi_T {j a b : Nat} (h1 : a ≤ j) (h2 : j ≤ b) (hb : b < 2 ^ 31) : nI a ≤ nI j ∧ nI j ≤ nI b := ⟨nI_le h1 (by omega), nI_le h2 hb⟩
theorem wi_F {x : Int32} {a b : Nat} (ha : a < 2 ^ 31) (hb : b + 1 < 2 ^ 31) (h : ∀ j, a ≤ j → j ≤ b → x ≠ nI j) : ¬ (nI a ≤ x ∧ x ≤ nI b) := by
  rintro ⟨h1, h2⟩
  rw [Int32.le_iff_toInt_le, nI_toInt ha] at h1
  rw [Int32.le_iff_toInt_le, nI_toInt (by omega)] at h2
  rcases pk_ix x (n := b + 1) hb with h3 | h3 | ⟨j, hj, rfl⟩
  · rw [Int32.lt_iff_toInt_lt] at h3
    have : (0 : Int32).toInt = 0 := rfl
    omega
  · rw [Int32.le_iff_toInt_le, nI_toInt hb] at h3
    omega
  · rw [nI_toInt (by omega)] at h1
    exact h j (by omega) (by omega) rfl
theorem xor_neg {x y : Int32} (hy : ¬ y < 0) : x ^^^ y < 0 ↔ x < 0 := by
  have key : ∀ z : Int32, z < 0 ↔ z.toBitVec.msb = true := fun z => by
    rw [Int32.lt_iff_toBitVec_slt, BitVec.msb_eq_toInt]
    simp [BitVec.slt]
  rw [key, key, Int32.toBitVec_xor, BitVec.msb_xor]
  have h1 : y.toBitVec.msb = false := by
    cases hq : y.toBitVec.msb
    · rfl
    · exact absurd ((key y).mpr hq) hy
  rw [h1]
  simp
theorem zz_rem_toInt {x : Int32} {m : Nat} (hm : 0 < m) (hm2 : m < 2 ^ 30) : (x - x / nI m * nI m).toInt = x.toInt.tmod m := by
  rw [rem_toInt, nI_toInt (by omega)]
theorem c_floorMod {d m : Nat} {x : Int32} {h : Hp} (hm : 0 < m) (hm2 : m < 2 ^ 30) : RT mM_floorMod d [.int x, .int (nI m)] h (fun v h' => v = some (.int (nI (x.toInt % (m : Int)).toNat)) ∧ h' = h) := by
  have hx1 := x.toInt_lt
  have hx2 := x.le_toInt
  have hr : (x - x / nI m * nI m).toInt = x.toInt.tmod m := zz_rem_toInt hm hm2
  have hmi : (0 : Int) < m := by omega
  have hy : ¬ nI m < 0 := nI_pos (by omega)
  have e0 := Int.emod_nonneg x.toInt (show (m : Int) ≠ 0 by omega)
  have e1 := Int.emod_lt_of_pos x.toInt hmi
  change AW mM_floorMod _ 0 [some (.int x), some (.int (nI m)), none] [] h _
  refine aw_iload_n dM_floorMod_0 rfl rfl ?_
  refine aw_iload_n dM_floorMod_1 rfl rfl ?_
  refine aw_irem dM_floorMod_2 (nI_ne0 hm (by omega)) ?_
  generalize hg : x - x / nI m * nI m = r at hr
  refine aw_istore_n dM_floorMod_3 rfl (Nat.le_of_ble_eq_true rfl) rfl ?_
  dsimp only [List.set]
  refine aw_iload_n dM_floorMod_4 rfl rfl ?_
  refine aw_iload_n dM_floorMod_5 rfl rfl ?_
  refine aw_ixor dM_floorMod_6 ?_
  refine aw_if_ge (tgt := 18) dM_floorMod_7 (by decide) (fun c7 => ?_) (fun c7 => ?_)
  · have h1 : ¬ x < 0 := fun q => by
      have h2 := (xor_neg hy).mpr q
      rw [Int32.lt_iff_toInt_lt] at h2
      rw [Int32.le_iff_toInt_le] at c7
      omega
    have h3 : 0 ≤ x.toInt := by
      have h4 := h1
      rw [Int32.lt_iff_toInt_lt] at h4
      have : (0 : Int32).toInt = 0 := rfl
      omega
    refine aw_iload_n dM_floorMod_18 rfl rfl ?_
    refine aw_iret dM_floorMod_19 rfl (by first | rfl | exact (pk_charN (by omega)).1 | decide) ?_
    refine ⟨?_, rfl⟩
    congr 2
    apply Int32.toInt_inj.mp
    rw [hr, Int.tmod_eq_emod_of_nonneg h3, nI_toInt (by omega)]
    omega
  · have h1 : x < 0 := by
      refine (xor_neg hy).mp ?_
      rw [Int32.lt_iff_toInt_lt]
      rw [Int32.le_iff_toInt_le] at c7
      omega
    have h3 : x.toInt < 0 := by
      rw [Int32.lt_iff_toInt_lt] at h1
      exact h1
    refine aw_iload_n dM_floorMod_10 rfl rfl ?_
    refine aw_if_eq (tgt := 18) dM_floorMod_11 (by decide) (fun c11 => ?_) (fun c11 => ?_)
    · refine aw_iload_n dM_floorMod_18 rfl rfl ?_
      refine aw_iret dM_floorMod_19 rfl (by first | rfl | exact (pk_charN (by omega)).1 | decide) ?_
      refine ⟨?_, rfl⟩
      congr 2
      rw [c11] at hr ⊢
      have h4 : x.toInt.tmod m = 0 := hr.symm
      have h5 : (m : Int) ∣ x.toInt := Int.dvd_of_tmod_eq_zero h4
      rw [Int.emod_eq_zero_of_dvd h5]
      rfl
    · refine aw_iload_n dM_floorMod_14 rfl rfl ?_
      refine aw_iload_n dM_floorMod_15 rfl rfl ?_
      refine aw_iadd dM_floorMod_16 ?_
      refine aw_iret dM_floorMod_17 rfl rfl ?_
      refine ⟨?_, rfl⟩
      congr 2
      have h4 : ¬ x.toInt.tmod m = 0 := fun q => c11 (by
        apply Int32.toInt_inj.mp
        rw [hr, q]; rfl)
      have h5 : x.toInt % m = x.toInt.tmod m + m := by
        have h6 := Int.tmod_eq_emod (a := x.toInt) (b := (m : Int))
        have h7 : ¬ (0 ≤ x.toInt ∨ (m : Int) ∣ x.toInt) := by
          rintro (q | q)
          · omega
          · exact h4 (Int.tmod_eq_zero_of_dvd q)
        rw [if_neg h7] at h6
        have : ((m : Int).natAbs : Int) = m := by omega
        omega
      have h8 : r = nI m - nI (m - (x.toInt % m).toNat) - nI m := by
        apply Int32.toInt_inj.mp
        have h9 : (m - (x.toInt % m).toNat) ≤ m := by omega
        rw [pk_sub h9, pk_sub_toInt (by omega) (by omega), hr]
        omega
      rw [h8, Int32.sub_add_cancel, pk_sub (by omega)]
      congr 1
      omega
theorem c_wrapped {d m : Nat} {x : Int32} {h : Hp} (hm : 0 < m) (hm2 : m < 2 ^ 30) : RT mX7_wrapped (d + 1) [.int x, .int (nI m)] h (fun v h' => v = some (.int (nI (x.toInt % (m : Int)).toNat)) ∧ h' = h) := by
  change AW mX7_wrapped _ 0 [some (.int x), some (.int (nI m))] [] h _
  refine aw_iload_n dX7_wrapped_0 rfl rfl ?_
  refine aw_if_gtN (tgt := 8) dX7_wrapped_1 (by decide) (by omega) (fun _ => ?_) (fun q => absurd q (by omega))
  refine aw_iload_n dX7_wrapped_8 rfl rfl ?_
  refine aw_iload_n dX7_wrapped_9 rfl rfl ?_
  refine aw_callSF dX7_wrapped_10 kX7_275 (c_floorMod hm hm2) rfl rfl rfl (Nat.le_of_ble_eq_true rfl) (Nat.le_of_ble_eq_true rfl) ?_
  dsimp only [Option.toList, List.cons_append, List.nil_append, Nat.reduceAdd]
  refine aw_iret dX7_wrapped_13 rfl (by first | rfl | exact (pk_charN (by omega)).1 | decide) ?_
  exact ⟨rfl, rfl⟩
