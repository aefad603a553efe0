/-! THE REFERENCE: object 67; cousin 68, room 69, now 80, list 81 -/
theorem m_in {d : Nat} {x a b : Int32} {h : Hp} : RT mX8_in d [.int x, .int a, .int b] h (fun v h' => v = some (.int (nI (if a ≤ x ∧ x ≤ b then 1 else 0))) ∧ h' = h) := by
  change AW mX8_in _ 0 [some (.int x), some (.int a), some (.int b)] [] h _
  refine aw_iload_n dX8_in_0 rfl rfl ?_
  refine aw_iload_n dX8_in_1 rfl rfl ?_
  refine aw_icmp_lt (tgt := 14) dX8_in_2 (by decide) (fun c2 => ?_) (fun c2 => ?_)
  · refine aw_iconst (v := nI 0) dX8_in_14 (by decide) ?_
    refine aw_iret dX8_in_15 rfl (by first | rfl | exact (pk_charN (by omega)).1 | decide) ?_
    rw [if_neg (fun q => by
      have h1 := q.1
      have h2 := c2
      rw [Int32.le_iff_toInt_le] at h1
      rw [Int32.lt_iff_toInt_lt] at h2
      omega)]
    exact ⟨rfl, rfl⟩
  · refine aw_iload_n dX8_in_5 rfl rfl ?_
    refine aw_iload_n dX8_in_6 rfl rfl ?_
    refine aw_icmp_gt (tgt := 14) dX8_in_7 (by decide) (fun c7 => ?_) (fun c7 => ?_)
    · refine aw_iconst (v := nI 0) dX8_in_14 (by decide) ?_
      refine aw_iret dX8_in_15 rfl (by first | rfl | exact (pk_charN (by omega)).1 | decide) ?_
      rw [if_neg (fun q => by
        have h1 := q.2
        have h2 := c7
        rw [Int32.le_iff_toInt_le] at h1
        rw [Int32.lt_iff_toInt_lt] at h2
        omega)]
      exact ⟨rfl, rfl⟩
    · refine aw_iconst (v := nI 1) dX8_in_10 (by decide) ?_
      refine aw_goto (tgt := 15) dX8_in_11 (by decide) ?_
      refine aw_iret dX8_in_15 rfl (by first | rfl | exact (pk_charN (by omega)).1 | decide) ?_
      rw [if_pos ⟨by
        rw [Int32.le_iff_toInt_le]
        rw [Int32.lt_iff_toInt_lt] at c2
        omega, by
        rw [Int32.le_iff_toInt_le]
        rw [Int32.lt_iff_toInt_lt] at c7
        omega⟩]
      exact ⟨rfl, rfl⟩
theorem m_inN {d x a b : Nat} {h : Hp} (hx : x < 2 ^ 31) (ha : a < 2 ^ 31) (hb : b < 2 ^ 31) : RT mX8_in d [.int (nI x), .int (nI a), .int (nI b)] h (fun v h' => v = some (.int (nI (if a ≤ x ∧ x ≤ b then 1 else 0))) ∧ h' = h) := by
  refine m_in.imp (fun v h' e => ?_)
  by_cases q : a ≤ x ∧ x ≤ b
  · rw [if_pos q]
    rw [if_pos ⟨(nI_leI ha hx).mpr q.1, (nI_leI hx hb).mpr q.2⟩] at e
    exact e
  · rw [if_neg q]
    rw [if_neg (fun z => q ⟨(nI_leI ha hx).mp z.1, (nI_leI hx hb).mp z.2⟩)] at e
    exact e
theorem m_iS {d lo hi j : Nat} {x : Int32} {h : Hp} (e : ix x lo hi = some j) : RT mX8_in d [.int x, .int (nI lo), .int (nI hi)] h (fun v h' => v = some (.int (nI 1)) ∧ h' = h) := by
  refine m_in.imp (fun v h' z => ?_)
  unfold ix at e
  split at e
  · rename_i q
    rw [if_pos q] at z
    exact z
  · cases e
theorem m_iN {d lo hi : Nat} {x : Int32} {h : Hp} (e : ix x lo hi = none) : RT mX8_in d [.int x, .int (nI lo), .int (nI hi)] h (fun v h' => v = some (.int (nI 0)) ∧ h' = h) := m_in.imp (fun v h' z => by rw [if_neg (ix_n e)] at z; exact z)
def HM (h : Hp) (S : Hs) : Prop := h 67 0 = sn S ∧ ∀ i, i < sn S → h 68 (2 * i) = sK S i ∧ h 68 (2 * i + 1) = sW S i ∧ h 69 (2 * i) = sA S i ∧ h 69 (2 * i + 1) = sB S i
def NS (h : Hp) (S : Hs) (b L : Nat → Nat) (dd : Nat) (f : Nat → Nat) : Prop := HM h S ∧ h 80 0 = dd ∧ ∀ i, i < sn S → h 80 (1 + i) = f i ∧ h 80 (9 + i) = b i ∧ h 81 i = L i
def F81 (h h' : Hp) : Prop := ∀ o, o ≠ 80 → o ≠ 81 → h' o = h o
theorem F81.trans {h h1 h2 : Hp} (a : F81 h h1) (b : F81 h1 h2) : F81 h h2 := fun o p q => (b o p q).trans (a o p q)
theorem HM.fr {h h' : Hp} {S : Hs} (hm : HM h S) (hf : F81 h h') : HM h' S := by
  unfold HM
  rw [hf 67 (by decide) (by decide), hf 68 (by decide) (by decide), hf 69 (by decide) (by decide)]
  exact hm
/-- row c copied to places off .. of row a -/
def hcq (h : Hp) (c a off n : Nat) : Hp := fun o j => if o = a ∧ off ≤ j ∧ j < off + n then h c (j - off) else h o j
theorem hcq_ne {h : Hp} {c a off n o : Nat} (hne : o ≠ a) : hcq h c a off n o = h o := by
  funext j
  simp [hcq, hne]
theorem hcq_in {h : Hp} {c a off n j : Nat} (hj : j < n) : hcq h c a off n a (off + j) = h c j := by
  unfold hcq
  rw [if_pos ⟨rfl, by omega, by omega⟩, Nat.add_sub_cancel_left]
theorem hcq_out {h : Hp} {c a off n j : Nat} (hj : j < off ∨ off + n ≤ j) : hcq h c a off n a j = h a j := by
  unfold hcq
  rw [if_neg (by omega)]
theorem m_put {d a off c n na nc : Nat} {h : Hp} (ha : lay[a]? = some (oI na)) (hc : lay[c]? = some (oI nc)) (hac : c ≠ a) (h1 : off + n ≤ na) (h2 : n ≤ nc) (h3 : na < 2 ^ 20) (h4 : nc < 2 ^ 20) : RT mX8_put d [.ref a, .int (nI off), .ref c, .int (nI n)] h (fun v h' => v = none ∧ h' = hcq h c a off n) := by
  have loop : ∀ u k, k + u = n → AW mX8_put d 3 [some (.ref a), some (.int (nI off)), some (.ref c), some (.int (nI n)), some (.int (nI k))] [] (hcq h c a off k) (fun v h' => v = none ∧ h' = hcq h c a off n) := by
    intro u
    induction u with
    | zero =>
      intro k hk
      have ek : k = n := by omega
      subst ek
      refine aw_iload dX8_put_3 rfl ?_
      refine aw_iload_n dX8_put_5 rfl rfl ?_
      refine aw_icmp_geN (tgt := 25) dX8_put_6 (by decide) (by omega) (by omega) (fun _ => ?_) (fun q => absurd q (by omega))
      refine aw_vret dX8_put_25 rfl ?_
      exact ⟨rfl, rfl⟩
    | succ u ih =>
      intro k hk
      refine aw_iload dX8_put_3 rfl ?_
      refine aw_iload_n dX8_put_5 rfl rfl ?_
      refine aw_icmp_geN (tgt := 25) dX8_put_6 (by decide) (by omega) (by omega) (fun q => absurd q (by omega)) (fun _ => ?_)
      refine aw_aload_n dX8_put_9 rfl rfl ?_
      refine aw_iload_n dX8_put_10 rfl rfl ?_
      refine aw_iload dX8_put_11 rfl ?_
      refine aw_iaddN dX8_put_13 ?_
      refine aw_aload_n dX8_put_14 rfl rfl ?_
      refine aw_iload dX8_put_15 rfl ?_
      refine aw_iaload dX8_put_17 (by first | assumption | rfl) (by omega) (by omega) ?_
      rw [hcq_ne hac]
      refine aw_iastore dX8_put_18 (by first | assumption | rfl) (by omega) (by omega) ?_
      refine aw_iincN (v := 1) dX8_put_19 rfl rfl ?_
      dsimp only [List.set]
      refine aw_goto (tgt := 3) dX8_put_22 (by decide) ?_
      have e : hw (hcq h c a off k) a (off + k) (h c k) = hcq h c a off (k + 1) := by
        funext o j
        unfold hw hcq
        by_cases q1 : o = a
        · subst q1
          by_cases q2 : j = off + k
          · subst q2
            rw [if_pos ⟨rfl, rfl⟩, if_pos ⟨rfl, by omega, by omega⟩, Nat.add_sub_cancel_left]
          · rw [if_neg (fun z => q2 z.2)]
            by_cases q3 : off ≤ j ∧ j < off + k
            · rw [if_pos ⟨rfl, q3⟩, if_pos ⟨rfl, by omega, by omega⟩]
            · rw [if_neg (fun z => q3 z.2), if_neg (fun z => q3 ⟨z.2.1, by omega⟩)]
        · rw [if_neg (fun z => q1 z.1), if_neg (fun z => q1 z.1), if_neg (fun z => q1 z.1)]
      rw [e]
      exact ih (k + 1) (by omega)
  change AW mX8_put _ 0 [some (.ref a), some (.int (nI off)), some (.ref c), some (.int (nI n)), none] [] h _
  refine aw_iconst (v := nI 0) dX8_put_0 (by decide) ?_
  refine aw_istore dX8_put_1 (Nat.le_of_ble_eq_true rfl) rfl ?_
  dsimp only [List.set]
  have e : hcq h c a off 0 = h := by
    funext o j
    unfold hcq
    rw [if_neg (by omega)]
  have r := loop n 0 (by omega)
  rw [e] at r
  exact r
theorem m_swapped {d a na i j : Nat} {h : Hp} (ha : lay[a]? = some (oI na)) (hi : 1 + i < na) (hj : 1 + j < na) (hn : na < 2 ^ 20) : RT mX8_swapped d [.ref a, .int (nI i), .int (nI j)] h (fun v h' => v = none ∧ h' = hx2 h a (1 + i) (1 + j)) := by
  change AW mX8_swapped _ 0 [some (.ref a), some (.int (nI i)), some (.int (nI j)), none] [] h _
  refine aw_aload_n dX8_swapped_0 rfl rfl ?_
  refine aw_iconst (v := nI 1) dX8_swapped_1 (by decide) ?_
  refine aw_iload_n dX8_swapped_2 rfl rfl ?_
  refine aw_iaddN dX8_swapped_3 ?_
  refine aw_iaload dX8_swapped_4 (by first | assumption | rfl) (by omega) (by omega) ?_
  refine aw_istore_n dX8_swapped_5 rfl (Nat.le_of_ble_eq_true rfl) rfl ?_
  dsimp only [List.set]
  refine aw_aload_n dX8_swapped_6 rfl rfl ?_
  refine aw_iconst (v := nI 1) dX8_swapped_7 (by decide) ?_
  refine aw_iload_n dX8_swapped_8 rfl rfl ?_
  refine aw_iaddN dX8_swapped_9 ?_
  refine aw_aload_n dX8_swapped_10 rfl rfl ?_
  refine aw_iconst (v := nI 1) dX8_swapped_11 (by decide) ?_
  refine aw_iload_n dX8_swapped_12 rfl rfl ?_
  refine aw_iaddN dX8_swapped_13 ?_
  refine aw_iaload dX8_swapped_14 (by first | assumption | rfl) (by omega) (by omega) ?_
  refine aw_iastore dX8_swapped_15 (by first | assumption | rfl) (by omega) (by omega) ?_
  refine aw_aload_n dX8_swapped_16 rfl rfl ?_
  refine aw_iconst (v := nI 1) dX8_swapped_17 (by decide) ?_
  refine aw_iload_n dX8_swapped_18 rfl rfl ?_
  refine aw_iaddN dX8_swapped_19 ?_
  refine aw_iload_n dX8_swapped_20 rfl rfl ?_
  refine aw_iastore dX8_swapped_21 (by first | assumption | rfl) (by omega) (by omega) ?_
  refine aw_vret dX8_swapped_22 rfl ?_
  exact ⟨rfl, rfl⟩
theorem m_sunIn {d r day : Nat} {h : Hp} {S : Hs} (hm : HM h S) (hS : HsOk S) (hr : r < sn S) (hd0 : day < 2 ^ 30) : RT mX8_sunIn d [.ref 67, .int (nI r), .int (nI day)] h (fun v h' => v = some (.int (nI (sunR S day r))) ∧ h' = h) := by
  have h38 := hS.2.1
  have z := hm.2 r hr
  change AW mX8_sunIn _ 0 [some (.ref 67), some (.int (nI r)), some (.int (nI day))] [] h _
  refine aw_aload_n dX8_sunIn_0 rfl rfl ?_
  refine aw_getR dX8_sunIn_1 fX8_13 (by first | assumption | rfl) (by rfl) ?_
  refine aw_iconst (v := nI 2) dX8_sunIn_4 (by decide) ?_
  refine aw_iload_n dX8_sunIn_5 rfl rfl ?_
  refine aw_imulN dX8_sunIn_6 ?_
  refine aw_iload_n dX8_sunIn_7 rfl rfl ?_
  refine aw_bipush (v := nI 60) dX8_sunIn_8 (by decide) ?_
  refine aw_iremN dX8_sunIn_10 (by omega) (by omega) (by omega) ?_
  refine aw_bipush (v := nI 30) dX8_sunIn_11 (by decide) ?_
  refine aw_icmp_geN (tgt := 20) dX8_sunIn_13 (by decide) (by omega) (by omega) (fun c13 => ?_) (fun c13 => ?_)
  · refine aw_iconst (v := nI 1) dX8_sunIn_20 (by decide) ?_
    refine aw_iaddN dX8_sunIn_21 ?_
    refine aw_iaload dX8_sunIn_22 (by first | assumption | rfl) (by omega) (by omega) ?_
    rw [z.2.2.2]
    refine aw_iret dX8_sunIn_23 rfl (by first | rfl | exact (pk_charN (by omega)).1 | decide) ?_
    refine ⟨?_, rfl⟩
    unfold sunR
    rw [if_neg (by omega)]
  · refine aw_iconst (v := nI 0) dX8_sunIn_16 (by decide) ?_
    refine aw_goto (tgt := 21) dX8_sunIn_17 (by decide) ?_
    refine aw_iaddN dX8_sunIn_21 ?_
    refine aw_iaload dX8_sunIn_22 (by first | assumption | rfl) (by omega) (by omega) ?_
    rw [show h 69 (2 * r + 0) = sA S r from z.2.2.1]
    refine aw_iret dX8_sunIn_23 rfl (by first | rfl | exact (pk_charN (by omega)).1 | decide) ?_
    refine ⟨?_, rfl⟩
    unfold sunR
    rw [if_pos (by omega)]
theorem NS.swap {h : Hp} {S : Hs} {b L f : Nat → Nat} {dd i j : Nat} (hns : NS h S b L dd f) (hS : HsOk S) (hi : i < sn S) (hj : j < sn S) : NS (hx2 h 80 (1 + i) (1 + j)) S b L dd (swp f i j) ∧ F81 h (hx2 h 80 (1 + i) (1 + j)) := by
  obtain ⟨x1, x2, x3⟩ := hns
  have h38 := hS.2.1
  have hf : F81 h (hx2 h 80 (1 + i) (1 + j)) := fun o p _ => hx2_ne p
  refine ⟨⟨x1.fr hf, ?_, fun k hk => ⟨?_, ?_, ?_⟩⟩, hf⟩
  · rw [hx2_at]
    unfold swp
    rw [if_neg (by omega), if_neg (by omega)]
    exact x2
  · rw [hx2_at]
    unfold swp
    rw [(x3 i hi).1, (x3 j hj).1, (x3 k hk).1]
    by_cases q1 : k = j
    · rw [if_pos (by omega), if_pos q1]
    · rw [if_neg (by omega), if_neg q1]
      by_cases q2 : k = i
      · rw [if_pos (by omega), if_pos q2]
      · rw [if_neg (by omega), if_neg q2]
  · rw [hx2_at]
    unfold swp
    rw [if_neg (by omega), if_neg (by omega)]
    exact (x3 k hk).2.1
  · rw [hx2_ne (by decide)]
    exact (x3 k hk).2.2
theorem m_changes {d p dd : Nat} {h : Hp} {S : Hs} {b L f : Nat → Nat} (hns : NS h S b L dd f) (hok : WO S b L) (hpm : PM (sn S) f) (hp : p < sn S) (hdd : dd < 2 ^ 30) : RT mX8_changes (d + 1) [.ref 67, .int (nI p)] h (fun v h' => v = none ∧ NS h' S b L dd (ch1 S L dd p f) ∧ F81 h h') := by
  have hS := hok.1
  have h38 := hS.2.1
  have h37 := hS.1
  obtain ⟨x1, x2, x3⟩ := id hns
  have e67 := x1.1
  have hLp := (hok.2 p hp).2
  have lp := (x3 p hp).2.2
  have m1 : (p + 1) % sn S < sn S := Nat.mod_lt _ (by omega)
  have m2 : (p + 2) % sn S < sn S := Nat.mod_lt _ (by omega)
  have l1 := (x3 _ m1).2.2
  have l2 := (x3 _ m2).2.2
  have hL1 := (hok.2 _ m1).2
  have hL2 := (hok.2 _ m2).2
  have ek := (x1.2 _ hLp).1
  have hk3 := (hS.2.2 _ hLp).1
  have n1 : ∀ (z : sK S (L p) ≠ 2), nxo S L p = L ((p + 1) % sn S) := fun z => by unfold nxo; rw [if_neg z]
  have n2 : ∀ (z : sK S (L p) = 2), nxo S L p = L ((p + 2) % sn S) := fun z => by unfold nxo; rw [if_pos z]
  have hfp := hpm.1 _ hLp
  have hf1 := hpm.1 _ hL1
  change AW mX8_changes _ 0 [some (.ref 67), some (.int (nI p)), none, none] [] h _
  refine aw_aload_n dX8_changes_0 rfl rfl ?_
  refine aw_getR dX8_changes_1 fX8_49 (by first | assumption | rfl) (by rfl) ?_
  refine aw_iload_n dX8_changes_4 rfl rfl ?_
  refine aw_iaload dX8_changes_5 (by first | assumption | rfl) (by omega) (by omega) ?_
  rw [lp]
  refine aw_istore_n dX8_changes_6 rfl (Nat.le_of_ble_eq_true rfl) rfl ?_
  dsimp only [List.set]
  refine aw_aload_n dX8_changes_7 rfl rfl ?_
  refine aw_getR dX8_changes_8 fX8_49 (by first | assumption | rfl) (by rfl) ?_
  refine aw_iload_n dX8_changes_11 rfl rfl ?_
  refine aw_iconst (v := nI 1) dX8_changes_12 (by decide) ?_
  refine aw_iaddN dX8_changes_13 ?_
  refine aw_aload_n dX8_changes_14 rfl rfl ?_
  refine aw_getI dX8_changes_15 fX8_73 (by first | assumption | rfl) (by rfl) ?_
  rw [e67]
  refine aw_iremN dX8_changes_18 (by omega) (by omega) (by omega) ?_
  refine aw_iaload dX8_changes_19 (by first | assumption | rfl) (by omega) (by omega) ?_
  rw [l1]
  refine aw_istore_n dX8_changes_20 rfl (Nat.le_of_ble_eq_true rfl) rfl ?_
  dsimp only [List.set]
  refine aw_aload_n dX8_changes_21 rfl rfl ?_
  refine aw_getR dX8_changes_22 fX8_7 (by first | assumption | rfl) (by rfl) ?_
  refine aw_iconst (v := nI 2) dX8_changes_25 (by decide) ?_
  refine aw_iload_n dX8_changes_26 rfl rfl ?_
  refine aw_imulN dX8_changes_27 ?_
  refine aw_iaload dX8_changes_28 (by first | assumption | rfl) (by omega) (by omega) ?_
  rw [ek]
  rcases (show sK S (L p) = 0 ∨ sK S (L p) = 1 ∨ sK S (L p) = 2 ∨ sK S (L p) = 3 by omega) with hk | hk | hk | hk
  · rw [hk]
    refine aw_tableOut (tgt := 157) dX8_changes_29 (by decide) (by decide) ?_
    refine aw_aload_n dX8_changes_157 rfl rfl ?_
    refine aw_getR dX8_changes_158 fX8_46 (by first | assumption | rfl) (by rfl) ?_
    refine aw_iload_n dX8_changes_161 rfl rfl ?_
    refine aw_iload_n dX8_changes_162 rfl rfl ?_
    refine aw_callSF dX8_changes_163 kX8_133 (m_swapped (by first | assumption | rfl) (by omega) (by omega) (by decide)) rfl rfl rfl (Nat.le_of_ble_eq_true rfl) (Nat.le_of_ble_eq_true rfl) ?_
    dsimp only [Option.toList, List.cons_append, List.nil_append, Nat.reduceAdd]
    refine aw_vret dX8_changes_166 rfl ?_
    obtain ⟨w2, f2⟩ := hns.swap hS hLp hL1
    refine ⟨rfl, ?_, f2⟩
    have e : ch1 S L dd p f = swp f (L p) (L ((p + 1) % sn S)) := by
      unfold ch1
      rw [if_neg (by omega), n1 (by omega)]
    rw [e]
    exact w2
  · rw [hk]
    refine aw_tableIn (off := 27) (tgt := 56) dX8_changes_29 (by decide) (by decide) (by decide) (by decide) ?_
    refine aw_aload_n dX8_changes_56 rfl rfl ?_
    refine aw_getR dX8_changes_57 fX8_46 (by first | assumption | rfl) (by rfl) ?_
    refine aw_iconst (v := nI 0) dX8_changes_60 (by decide) ?_
    refine aw_iaload dX8_changes_61 (by first | assumption | rfl) (by omega) (by omega) ?_
    rw [x2]
    refine aw_bipush (v := nI 60) dX8_changes_62 (by decide) ?_
    refine aw_idivN dX8_changes_64 (by omega) (by omega) (by omega) ?_
    refine aw_iconst (v := nI 4) dX8_changes_65 (by decide) ?_
    refine aw_iremN dX8_changes_66 (by omega) (by omega) (by omega) ?_
    refine aw_if_neN (tgt := 166) dX8_changes_67 (by decide) (by omega) (fun c67 => ?_) (fun c67 => ?_)
    · have e : ch1 S L dd p f = f := by
        unfold ch1
        rw [if_pos (Or.inl ⟨hk, by omega⟩)]
      refine aw_vret dX8_changes_166 rfl ?_
      rw [e]
      exact ⟨rfl, hns, fun o _ _ => rfl⟩
    · have e : ch1 S L dd p f = swp f (L p) (L ((p + 1) % sn S)) := by
        unfold ch1
        rw [if_neg (by omega), n1 (by omega)]
      refine aw_aload_n dX8_changes_70 rfl rfl ?_
      refine aw_getR dX8_changes_71 fX8_46 (by first | assumption | rfl) (by rfl) ?_
      refine aw_iload_n dX8_changes_74 rfl rfl ?_
      refine aw_iload_n dX8_changes_75 rfl rfl ?_
      refine aw_callSF dX8_changes_76 kX8_133 (m_swapped (by first | assumption | rfl) (by omega) (by omega) (by decide)) rfl rfl rfl (Nat.le_of_ble_eq_true rfl) (Nat.le_of_ble_eq_true rfl) ?_
      dsimp only [Option.toList, List.cons_append, List.nil_append, Nat.reduceAdd]
      refine aw_goto (tgt := 166) dX8_changes_79 (by decide) ?_
      refine aw_vret dX8_changes_166 rfl ?_
      obtain ⟨w2, f2⟩ := hns.swap hS hLp hL1
      rw [e]
      exact ⟨rfl, w2, f2⟩
  · rw [hk]
    have e : ch1 S L dd p f = swp f (L p) (L ((p + 2) % sn S)) := by
      unfold ch1
      rw [if_neg (by omega), n2 hk]
    refine aw_tableIn (off := 53) (tgt := 82) dX8_changes_29 (by decide) (by decide) (by decide) (by decide) ?_
    refine aw_aload_n dX8_changes_82 rfl rfl ?_
    refine aw_getR dX8_changes_83 fX8_46 (by first | assumption | rfl) (by rfl) ?_
    refine aw_iload_n dX8_changes_86 rfl rfl ?_
    refine aw_aload_n dX8_changes_87 rfl rfl ?_
    refine aw_getR dX8_changes_88 fX8_49 (by first | assumption | rfl) (by rfl) ?_
    refine aw_iload_n dX8_changes_91 rfl rfl ?_
    refine aw_iconst (v := nI 2) dX8_changes_92 (by decide) ?_
    refine aw_iaddN dX8_changes_93 ?_
    refine aw_aload_n dX8_changes_94 rfl rfl ?_
    refine aw_getI dX8_changes_95 fX8_73 (by first | assumption | rfl) (by rfl) ?_
    rw [e67]
    refine aw_iremN dX8_changes_98 (by omega) (by omega) (by omega) ?_
    refine aw_iaload dX8_changes_99 (by first | assumption | rfl) (by omega) (by omega) ?_
    rw [l2]
    refine aw_callSF dX8_changes_100 kX8_133 (m_swapped (by first | assumption | rfl) (by omega) (by omega) (by decide)) rfl rfl rfl (Nat.le_of_ble_eq_true rfl) (Nat.le_of_ble_eq_true rfl) ?_
    dsimp only [Option.toList, List.cons_append, List.nil_append, Nat.reduceAdd]
    refine aw_goto (tgt := 166) dX8_changes_103 (by decide) ?_
    refine aw_vret dX8_changes_166 rfl ?_
    obtain ⟨w2, f2⟩ := hns.swap hS hLp hL2
    rw [e]
    exact ⟨rfl, w2, f2⟩
  · rw [hk]
    have s1 := sunR_le hS (day := dd) hf1
    have s2 := sunR_le hS (day := dd) hfp
    refine aw_tableIn (off := 77) (tgt := 106) dX8_changes_29 (by decide) (by decide) (by decide) (by decide) ?_
    refine aw_aload_n dX8_changes_106 rfl rfl ?_
    refine aw_aload_n dX8_changes_107 rfl rfl ?_
    refine aw_getR dX8_changes_108 fX8_46 (by first | assumption | rfl) (by rfl) ?_
    refine aw_iconst (v := nI 1) dX8_changes_111 (by decide) ?_
    refine aw_iload_n dX8_changes_112 rfl rfl ?_
    refine aw_iaddN dX8_changes_113 ?_
    refine aw_iaload dX8_changes_114 (by first | assumption | rfl) (by omega) (by omega) ?_
    rw [(x3 _ hL1).1]
    refine aw_aload_n dX8_changes_115 rfl rfl ?_
    refine aw_getR dX8_changes_116 fX8_46 (by first | assumption | rfl) (by rfl) ?_
    refine aw_iconst (v := nI 0) dX8_changes_119 (by decide) ?_
    refine aw_iaload dX8_changes_120 (by first | assumption | rfl) (by omega) (by omega) ?_
    rw [x2]
    refine aw_callVF dX8_changes_121 kX8_137 (m_sunIn x1 hS hf1 hdd) (by first | assumption | rfl) rfl rfl rfl (Nat.le_of_ble_eq_true rfl) (Nat.le_of_ble_eq_true rfl) ?_
    dsimp only [Option.toList, List.cons_append, List.nil_append, Nat.reduceAdd]
    refine aw_aload_n dX8_changes_124 rfl rfl ?_
    refine aw_aload_n dX8_changes_125 rfl rfl ?_
    refine aw_getR dX8_changes_126 fX8_46 (by first | assumption | rfl) (by rfl) ?_
    refine aw_iconst (v := nI 1) dX8_changes_129 (by decide) ?_
    refine aw_iload_n dX8_changes_130 rfl rfl ?_
    refine aw_iaddN dX8_changes_131 ?_
    refine aw_iaload dX8_changes_132 (by first | assumption | rfl) (by omega) (by omega) ?_
    rw [(x3 _ hLp).1]
    refine aw_aload_n dX8_changes_133 rfl rfl ?_
    refine aw_getR dX8_changes_134 fX8_46 (by first | assumption | rfl) (by rfl) ?_
    refine aw_iconst (v := nI 0) dX8_changes_137 (by decide) ?_
    refine aw_iaload dX8_changes_138 (by first | assumption | rfl) (by omega) (by omega) ?_
    rw [x2]
    refine aw_callVF dX8_changes_139 kX8_137 (m_sunIn x1 hS hfp hdd) (by first | assumption | rfl) rfl rfl rfl (Nat.le_of_ble_eq_true rfl) (Nat.le_of_ble_eq_true rfl) ?_
    dsimp only [Option.toList, List.cons_append, List.nil_append, Nat.reduceAdd]
    refine aw_icmp_leN (tgt := 166) dX8_changes_142 (by decide) (by omega) (by omega) (fun c142 => ?_) (fun c142 => ?_)
    · have e : ch1 S L dd p f = f := by
        unfold ch1
        rw [if_pos (Or.inr ⟨hk, by rw [n1 (by omega)]; omega⟩)]
      refine aw_vret dX8_changes_166 rfl ?_
      rw [e]
      exact ⟨rfl, hns, fun o _ _ => rfl⟩
    · have e : ch1 S L dd p f = swp f (L p) (L ((p + 1) % sn S)) := by
        unfold ch1
        rw [if_neg (by rw [n1 (by omega)]; omega), n1 (by omega)]
      refine aw_aload_n dX8_changes_145 rfl rfl ?_
      refine aw_getR dX8_changes_146 fX8_46 (by first | assumption | rfl) (by rfl) ?_
      refine aw_iload_n dX8_changes_149 rfl rfl ?_
      refine aw_iload_n dX8_changes_150 rfl rfl ?_
      refine aw_callSF dX8_changes_151 kX8_133 (m_swapped (by first | assumption | rfl) (by omega) (by omega) (by decide)) rfl rfl rfl (Nat.le_of_ble_eq_true rfl) (Nat.le_of_ble_eq_true rfl) ?_
      dsimp only [Option.toList, List.cons_append, List.nil_append, Nat.reduceAdd]
      refine aw_goto (tgt := 166) dX8_changes_154 (by decide) ?_
      refine aw_vret dX8_changes_166 rfl ?_
      obtain ⟨w2, f2⟩ := hns.swap hS hLp hL1
      rw [e]
      exact ⟨rfl, w2, f2⟩
theorem or_0 (c : Nat) : nI c ||| nI 0 = nI c := by rw [nI_0]; exact Int32.or_zero
theorem m_goes {d dd : Nat} {h : Hp} {S : Hs} {b L f : Nat → Nat} (hns : NS h S b L dd f) (hok : WO S b L) (hpm : PM (sn S) f) (hdd : dd + 1 < 2 ^ 30) : RT mX8_goes (d + 2) [.ref 67] h (fun v h' => v = some (.int (nI (cbN S dd (chR S b L dd f (sn S)) (sn S)))) ∧ NS h' S b L (dd + 1) (chR S b L dd f (sn S)) ∧ F81 h h') := by
  have hS := hok.1
  have h38 := hS.2.1
  have hLs : ∀ q, q < sn S → L q < sn S := fun q hq => (hok.2 q hq).2
  have fin : ∀ hh, NS hh S b L dd (chR S b L dd f (sn S)) → F81 h hh → ∀ u k, k + u = sn S → AW mX8_goes (d + 2) 51 [some (.ref 67), some (.int (nI (cbN S dd (chR S b L dd f (sn S)) k))), some (.int (nI k))] [] hh (fun v h' => v = some (.int (nI (cbN S dd (chR S b L dd f (sn S)) (sn S)))) ∧ NS h' S b L (dd + 1) (chR S b L dd f (sn S)) ∧ F81 h h') := by
    intro hh hns2 hf u
    obtain ⟨x1, x2, x3⟩ := id hns2
    have e67 := x1.1
    have hpc := PM_chR (b := b) (day := dd) hS hLs hpm (sn S) (Nat.le_refl _)
    generalize chR S b L dd f (sn S) = g at *
    induction u with
    | zero =>
      intro k hk
      have ek : k = sn S := by omega
      subst ek
      refine aw_iload_n dX8_goes_51 rfl rfl ?_
      refine aw_aload_n dX8_goes_52 rfl rfl ?_
      refine aw_getI dX8_goes_53 fX8_73 (by first | assumption | rfl) (by rfl) ?_
      rw [e67]
      refine aw_icmp_geN (tgt := 106) dX8_goes_56 (by decide) (by omega) (by omega) (fun _ => ?_) (fun q => absurd q (by omega))
      refine aw_aload_n dX8_goes_106 rfl rfl ?_
      refine aw_getR dX8_goes_107 fX8_46 (by first | assumption | rfl) (by rfl) ?_
      refine aw_iconst (v := nI 0) dX8_goes_110 (by decide) ?_
      refine aw_dup2 dX8_goes_111 rfl rfl ?_
      refine aw_iaload dX8_goes_112 (by first | assumption | rfl) (by omega) (by omega) ?_
      rw [x2]
      refine aw_iconst (v := nI 1) dX8_goes_113 (by decide) ?_
      refine aw_iaddN dX8_goes_114 ?_
      refine aw_iastore dX8_goes_115 (by first | assumption | rfl) (by omega) (by omega) ?_
      refine aw_iload_n dX8_goes_116 rfl rfl ?_
      refine aw_iret dX8_goes_117 rfl (by first | rfl | exact (pk_charN (by omega)).1 | decide) ?_
      have f2 : F81 hh (hw hh 80 0 (dd + 1)) := fun o p _ => hw_ne p
      refine ⟨rfl, ⟨x1.fr f2, by rw [hw_at, if_pos rfl], fun i hi => ?_⟩, hf.trans f2⟩
      rw [hw_at, if_neg (by omega), hw_at, if_neg (by omega), hw_ne (by decide)]
      exact x3 i hi
    | succ u ih =>
      intro k hk
      have hk8 : k < sn S := by omega
      have hgk := hpc.1 k hk8
      have hs1 := sunR_le hS (day := dd) hgk
      have eW := (x1.2 k hk8).2.1
      have hW9 := (hS.2.2 k hk8).2.1
      have hlt := cbN_lt (S := S) (day := dd) (f := g) k
      have hp8 : 2 ^ k ≤ 2 ^ 8 := Nat.pow_le_pow_right (by decide) (by omega)
      refine aw_iload_n dX8_goes_51 rfl rfl ?_
      refine aw_aload_n dX8_goes_52 rfl rfl ?_
      refine aw_getI dX8_goes_53 fX8_73 (by first | assumption | rfl) (by rfl) ?_
      rw [e67]
      refine aw_icmp_geN (tgt := 106) dX8_goes_56 (by decide) (by omega) (by omega) (fun q => absurd q (by omega)) (fun _ => ?_)
      refine aw_iload_n dX8_goes_59 rfl rfl ?_
      refine aw_aload_n dX8_goes_60 rfl rfl ?_
      refine aw_aload_n dX8_goes_61 rfl rfl ?_
      refine aw_getR dX8_goes_62 fX8_46 (by first | assumption | rfl) (by rfl) ?_
      refine aw_iconst (v := nI 1) dX8_goes_65 (by decide) ?_
      refine aw_iload_n dX8_goes_66 rfl rfl ?_
      refine aw_iaddN dX8_goes_67 ?_
      refine aw_iaload dX8_goes_68 (by first | assumption | rfl) (by omega) (by omega) ?_
      rw [(x3 k hk8).1]
      refine aw_aload_n dX8_goes_69 rfl rfl ?_
      refine aw_getR dX8_goes_70 fX8_46 (by first | assumption | rfl) (by rfl) ?_
      refine aw_iconst (v := nI 0) dX8_goes_73 (by decide) ?_
      refine aw_iaload dX8_goes_74 (by first | assumption | rfl) (by omega) (by omega) ?_
      rw [x2]
      refine aw_callVF dX8_goes_75 kX8_137 (m_sunIn x1 hS hgk (by omega)) (by first | assumption | rfl) rfl rfl rfl (Nat.le_of_ble_eq_true rfl) (Nat.le_of_ble_eq_true rfl) ?_
      dsimp only [Option.toList, List.cons_append, List.nil_append, Nat.reduceAdd]
      refine aw_aload_n dX8_goes_78 rfl rfl ?_
      refine aw_getR dX8_goes_79 fX8_7 (by first | assumption | rfl) (by rfl) ?_
      refine aw_iconst (v := nI 2) dX8_goes_82 (by decide) ?_
      refine aw_iload_n dX8_goes_83 rfl rfl ?_
      refine aw_imulN dX8_goes_84 ?_
      refine aw_iconst (v := nI 1) dX8_goes_85 (by decide) ?_
      refine aw_iaddN dX8_goes_86 ?_
      refine aw_iaload dX8_goes_87 (by first | assumption | rfl) (by omega) (by omega) ?_
      rw [eW]
      refine aw_icmp_geN (tgt := 97) dX8_goes_88 (by decide) (by omega) (by omega) (fun c88 => ?_) (fun c88 => ?_)
      · have ez : cbN S dd g (k + 1) = cbN S dd g k := by
          show cbN S dd g k + (if _ then _ else 0) = _
          rw [if_neg (by omega)]; rfl
        refine aw_iconst (v := nI 0) dX8_goes_97 (by decide) ?_
        refine aw_ior dX8_goes_98 ?_
        rw [or_0, ← ez]
        refine aw_istore_n dX8_goes_99 rfl (Nat.le_of_ble_eq_true rfl) rfl ?_
        dsimp only [List.set]
        refine aw_iincN (v := 1) dX8_goes_100 rfl rfl ?_
        dsimp only [List.set]
        refine aw_goto (tgt := 51) dX8_goes_103 (by decide) ?_
        exact ih (k + 1) (by omega)
      · have ez : cbN S dd g (k + 1) = cbN S dd g k + 2 ^ k := by
          show cbN S dd g k + (if _ then _ else 0) = _
          rw [if_pos (by omega)]
        refine aw_iconst (v := nI 1) dX8_goes_91 (by decide) ?_
        refine aw_iload_n dX8_goes_92 rfl rfl ?_
        refine aw_ishl dX8_goes_93 ?_
        refine aw_goto (tgt := 98) dX8_goes_94 (by decide) ?_
        refine aw_ior dX8_goes_98 ?_
        rw [or_bit k (by omega) _ (by omega) hlt, ← ez]
        refine aw_istore_n dX8_goes_99 rfl (Nat.le_of_ble_eq_true rfl) rfl ?_
        dsimp only [List.set]
        refine aw_iincN (v := 1) dX8_goes_100 rfl rfl ?_
        dsimp only [List.set]
        refine aw_goto (tgt := 51) dX8_goes_103 (by decide) ?_
        exact ih (k + 1) (by omega)
  have loop : ∀ u p hh, p + u = sn S → NS hh S b L dd (chR S b L dd f p) → F81 h hh → AW mX8_goes (d + 2) 2 [some (.ref 67), some (.int (nI p)), none] [] hh (fun v h' => v = some (.int (nI (cbN S dd (chR S b L dd f (sn S)) (sn S)))) ∧ NS h' S b L (dd + 1) (chR S b L dd f (sn S)) ∧ F81 h h') := by
    intro u
    induction u with
    | zero =>
      intro p hh hp hns2 hf
      have ep : p = sn S := by omega
      subst ep
      have e67 := hns2.1.1
      refine aw_iload_n dX8_goes_2 rfl rfl ?_
      refine aw_aload_n dX8_goes_3 rfl rfl ?_
      refine aw_getI dX8_goes_4 fX8_73 (by first | assumption | rfl) (by rfl) ?_
      rw [e67]
      refine aw_icmp_geN (tgt := 47) dX8_goes_7 (by decide) (by omega) (by omega) (fun _ => ?_) (fun q => absurd q (by omega))
      refine aw_iconst (v := nI 0) dX8_goes_47 (by decide) ?_
      refine aw_istore_n dX8_goes_48 rfl (Nat.le_of_ble_eq_true rfl) rfl ?_
      dsimp only [List.set]
      refine aw_iconst (v := nI 0) dX8_goes_49 (by decide) ?_
      refine aw_istore_n dX8_goes_50 rfl (Nat.le_of_ble_eq_true rfl) rfl ?_
      dsimp only [List.set]
      exact fin hh hns2 hf (sn S) 0 (by omega)
    | succ u ih =>
      intro p hh hp hns2 hf
      obtain ⟨x1, x2, x3⟩ := id hns2
      have e67 := x1.1
      have hp8 : p < sn S := by omega
      have lp := (x3 p hp8).2.2
      have hLp := hLs p hp8
      have bl := (x3 _ hLp).2.1
      have hb60 := (hok.2 _ hLp).1
      have hpm1 := PM_chR (b := b) (day := dd) hS hLs hpm p (by omega)
      refine aw_iload_n dX8_goes_2 rfl rfl ?_
      refine aw_aload_n dX8_goes_3 rfl rfl ?_
      refine aw_getI dX8_goes_4 fX8_73 (by first | assumption | rfl) (by rfl) ?_
      rw [e67]
      refine aw_icmp_geN (tgt := 47) dX8_goes_7 (by decide) (by omega) (by omega) (fun q => absurd q (by omega)) (fun _ => ?_)
      refine aw_aload_n dX8_goes_10 rfl rfl ?_
      refine aw_getR dX8_goes_11 fX8_46 (by first | assumption | rfl) (by rfl) ?_
      refine aw_bipush (v := nI 9) dX8_goes_14 (by decide) ?_
      refine aw_aload_n dX8_goes_16 rfl rfl ?_
      refine aw_getR dX8_goes_17 fX8_49 (by first | assumption | rfl) (by rfl) ?_
      refine aw_iload_n dX8_goes_20 rfl rfl ?_
      refine aw_iaload dX8_goes_21 (by first | assumption | rfl) (by omega) (by omega) ?_
      rw [lp]
      refine aw_iaddN dX8_goes_22 ?_
      refine aw_iaload dX8_goes_23 (by first | assumption | rfl) (by omega) (by omega) ?_
      rw [bl]
      refine aw_aload_n dX8_goes_24 rfl rfl ?_
      refine aw_getR dX8_goes_25 fX8_46 (by first | assumption | rfl) (by rfl) ?_
      refine aw_iconst (v := nI 0) dX8_goes_28 (by decide) ?_
      refine aw_iaload dX8_goes_29 (by first | assumption | rfl) (by omega) (by omega) ?_
      rw [x2]
      refine aw_bipush (v := nI 60) dX8_goes_30 (by decide) ?_
      refine aw_iremN dX8_goes_32 (by omega) (by omega) (by omega) ?_
      refine aw_icmp_neN (tgt := 41) dX8_goes_33 (by decide) (by omega) (by omega) (fun c33 => ?_) (fun c33 => ?_)
      · have ec : chR S b L dd f (p + 1) = chR S b L dd f p := by
          show (if b (L p) = dd % 60 then _ else _) = _
          rw [if_neg (by omega)]
        refine aw_iincN (v := 1) dX8_goes_41 rfl rfl ?_
        dsimp only [List.set]
        refine aw_goto (tgt := 2) dX8_goes_44 (by decide) ?_
        exact ih (p + 1) hh (by omega) (by rw [ec]; exact hns2) hf
      · have ec : chR S b L dd f (p + 1) = ch1 S L dd p (chR S b L dd f p) := by
          show (if b (L p) = dd % 60 then _ else _) = _
          rw [if_pos (by omega)]
        refine aw_aload_n dX8_goes_36 rfl rfl ?_
        refine aw_iload_n dX8_goes_37 rfl rfl ?_
        refine aw_callV dX8_goes_38 kX8_141 (m_changes hns2 hok hpm1 hp8 (by omega)) (by first | assumption | rfl) rfl rfl rfl (Nat.le_of_ble_eq_true rfl) (Nat.le_of_ble_eq_true rfl) ?_
        rintro _ h2 ⟨rfl, w2, f2⟩
        dsimp only [Option.toList, List.cons_append, List.nil_append, Nat.reduceAdd]
        refine aw_iincN (v := 1) dX8_goes_41 rfl rfl ?_
        dsimp only [List.set]
        refine aw_goto (tgt := 2) dX8_goes_44 (by decide) ?_
        exact ih (p + 1) h2 (by omega) (by rw [ec]; exact w2) (hf.trans f2)
  change AW mX8_goes _ 0 [some (.ref 67), none, none] [] h _
  refine aw_iconst (v := nI 0) dX8_goes_0 (by decide) ?_
  refine aw_istore_n dX8_goes_1 rfl (Nat.le_of_ble_eq_true rfl) rfl ?_
  dsimp only [List.set]
  exact loop (sn S) 0 h (by omega) hns (fun o _ _ => rfl)
theorem m_goesOn {d t dd : Nat} {h : Hp} {S : Hs} {b L f : Nat → Nat} (hns : NS h S b L dd f) (hok : WO S b L) (hpm : PM (sn S) f) (hdd : dd + t < 2 ^ 29) : RT mX8_goesOn (d + 3) [.ref 67, .int (nI t)] h (fun v h' => v = none ∧ NS h' S b L (dd + t) (rmF S b L dd f t) ∧ F81 h h') := by
  have hLs : ∀ q, q < sn S → L q < sn S := fun q hq => (hok.2 q hq).2
  have loop : ∀ u k hh, k + u = t → NS hh S b L (dd + k) (rmF S b L dd f k) → F81 h hh → AW mX8_goesOn (d + 3) 2 [some (.ref 67), some (.int (nI t)), some (.int (nI k))] [] hh (fun v h' => v = none ∧ NS h' S b L (dd + t) (rmF S b L dd f t) ∧ F81 h h') := by
    intro u
    induction u with
    | zero =>
      intro k hh hk hns2 hf
      have ek : k = t := by omega
      subst ek
      refine aw_iload_n dX8_goesOn_2 rfl rfl ?_
      refine aw_iload_n dX8_goesOn_3 rfl rfl ?_
      refine aw_icmp_geN (tgt := 18) dX8_goesOn_4 (by decide) (by omega) (by omega) (fun _ => ?_) (fun q => absurd q (by omega))
      refine aw_vret dX8_goesOn_18 rfl ?_
      exact ⟨rfl, hns2, hf⟩
    | succ u ih =>
      intro k hh hk hns2 hf
      refine aw_iload_n dX8_goesOn_2 rfl rfl ?_
      refine aw_iload_n dX8_goesOn_3 rfl rfl ?_
      refine aw_icmp_geN (tgt := 18) dX8_goesOn_4 (by decide) (by omega) (by omega) (fun q => absurd q (by omega)) (fun _ => ?_)
      refine aw_aload_n dX8_goesOn_7 rfl rfl ?_
      refine aw_callV dX8_goesOn_8 kX8_145 (m_goes hns2 hok (PM_rmF hok.1 hLs hpm k) (by omega)) (by first | assumption | rfl) rfl rfl rfl (Nat.le_of_ble_eq_true rfl) (Nat.le_of_ble_eq_true rfl) ?_
      rintro _ h2 ⟨rfl, w2, f2⟩
      dsimp only [Option.toList, List.cons_append, List.nil_append, Nat.reduceAdd]
      refine aw_pop dX8_goesOn_11 rfl ?_
      refine aw_iincN (v := 1) dX8_goesOn_12 rfl rfl ?_
      dsimp only [List.set]
      refine aw_goto (tgt := 2) dX8_goesOn_15 (by decide) ?_
      exact ih (k + 1) h2 (by omega) w2 (hf.trans f2)
  change AW mX8_goesOn _ 0 [some (.ref 67), some (.int (nI t)), none] [] h _
  refine aw_iconst (v := nI 0) dX8_goesOn_0 (by decide) ?_
  refine aw_istore_n dX8_goesOn_1 rfl (Nat.le_of_ble_eq_true rfl) rfl ?_
  dsimp only [List.set]
  exact loop t 0 h (by omega) hns (fun o _ _ => rfl)
theorem m_sunOn {d i t dd : Nat} {h : Hp} {S : Hs} {b L f : Nat → Nat} (hns : NS h S b L dd f) (hok : WO S b L) (hpm : PM (sn S) f) (hi : i < sn S) (hdd : dd + t < 2 ^ 29) : RT mX8_sunOn (d + 3) [.ref 67, .int (nI i), .int (nI t)] h (fun v h' => v = some (.int (nI (sunF S b L dd f i t))) ∧ NS h' S b L (dd + t) (rmF S b L dd f t) ∧ F81 h h') := by
  have hLs : ∀ q, q < sn S → L q < sn S := fun q hq => (hok.2 q hq).2
  have h38 := hok.1.2.1
  have loop : ∀ u k hh, k + u = t → NS hh S b L (dd + k) (rmF S b L dd f k) → F81 h hh → AW mX8_sunOn (d + 3) 5 [some (.ref 67), some (.int (nI i)), some (.int (nI t)), some (.int (nI (sunF S b L dd f i k))), some (.int (nI k))] [] hh (fun v h' => v = some (.int (nI (sunF S b L dd f i t))) ∧ NS h' S b L (dd + t) (rmF S b L dd f t) ∧ F81 h h') := by
    intro u
    induction u with
    | zero =>
      intro k hh hk hns2 hf
      have ek : k = t := by omega
      subst ek
      refine aw_iload dX8_sunOn_5 rfl ?_
      refine aw_iload_n dX8_sunOn_7 rfl rfl ?_
      refine aw_icmp_geN (tgt := 45) dX8_sunOn_8 (by decide) (by omega) (by omega) (fun _ => ?_) (fun q => absurd q (by omega))
      refine aw_iload_n dX8_sunOn_45 rfl rfl ?_
      refine aw_iret dX8_sunOn_46 rfl (by first | rfl | exact (pk_charN (by omega)).1 | decide) ?_
      exact ⟨rfl, hns2, hf⟩
    | succ u ih =>
      intro k hh hk hns2 hf
      refine aw_iload dX8_sunOn_5 rfl ?_
      refine aw_iload_n dX8_sunOn_7 rfl rfl ?_
      refine aw_icmp_geN (tgt := 45) dX8_sunOn_8 (by decide) (by omega) (by omega) (fun q => absurd q (by omega)) (fun _ => ?_)
      refine aw_aload_n dX8_sunOn_11 rfl rfl ?_
      refine aw_callV dX8_sunOn_12 kX8_145 (m_goes hns2 hok (PM_rmF hok.1 hLs hpm k) (by omega)) (by first | assumption | rfl) rfl rfl rfl (Nat.le_of_ble_eq_true rfl) (Nat.le_of_ble_eq_true rfl) ?_
      rintro _ h2 ⟨rfl, w2, f2⟩
      dsimp only [Option.toList, List.cons_append, List.nil_append, Nat.reduceAdd]
      refine aw_pop dX8_sunOn_15 rfl ?_
      refine aw_iload_n dX8_sunOn_16 rfl rfl ?_
      refine aw_aload_n dX8_sunOn_17 rfl rfl ?_
      refine aw_aload_n dX8_sunOn_18 rfl rfl ?_
      refine aw_getR dX8_sunOn_19 fX8_46 (by first | assumption | rfl) (by rfl) ?_
      refine aw_iconst (v := nI 1) dX8_sunOn_22 (by decide) ?_
      refine aw_iload_n dX8_sunOn_23 rfl rfl ?_
      refine aw_iaddN dX8_sunOn_24 ?_
      refine aw_iaload dX8_sunOn_25 (by first | assumption | rfl) (by omega) (by omega) ?_
      have hri := (PM_rmF (b := b) (day0 := dd) hok.1 hLs hpm (k + 1)).1 i hi
      have er : h2 80 (1 + i) = rmF S b L dd f (k + 1) i := (w2.2.2 i hi).1
      rw [er]
      refine aw_aload_n dX8_sunOn_26 rfl rfl ?_
      refine aw_getR dX8_sunOn_27 fX8_46 (by first | assumption | rfl) (by rfl) ?_
      refine aw_iconst (v := nI 0) dX8_sunOn_30 (by decide) ?_
      refine aw_iaload dX8_sunOn_31 (by first | assumption | rfl) (by omega) (by omega) ?_
      rw [w2.2.1]
      refine aw_iconst (v := nI 1) dX8_sunOn_32 (by decide) ?_
      refine aw_isubN dX8_sunOn_33 (by omega) ?_
      rw [Nat.add_sub_cancel]
      refine aw_callVF dX8_sunOn_34 kX8_137 (m_sunIn w2.1 hok.1 hri (by omega)) (by first | assumption | rfl) rfl rfl rfl (Nat.le_of_ble_eq_true rfl) (Nat.le_of_ble_eq_true rfl) ?_
      dsimp only [Option.toList, List.cons_append, List.nil_append, Nat.reduceAdd]
      refine aw_iaddN dX8_sunOn_37 ?_
      refine aw_istore_n dX8_sunOn_38 rfl (Nat.le_of_ble_eq_true rfl) rfl ?_
      dsimp only [List.set]
      refine aw_iincN (v := 1) dX8_sunOn_39 rfl rfl ?_
      dsimp only [List.set]
      refine aw_goto (tgt := 5) dX8_sunOn_42 (by decide) ?_
      exact ih (k + 1) h2 (by omega) w2 (hf.trans f2)
  change AW mX8_sunOn _ 0 [some (.ref 67), some (.int (nI i)), some (.int (nI t)), none, none] [] h _
  refine aw_iconst (v := nI 0) dX8_sunOn_0 (by decide) ?_
  refine aw_istore_n dX8_sunOn_1 rfl (Nat.le_of_ble_eq_true rfl) rfl ?_
  dsimp only [List.set]
  refine aw_iconst (v := nI 0) dX8_sunOn_2 (by decide) ?_
  refine aw_istore dX8_sunOn_3 (Nat.le_of_ble_eq_true rfl) rfl ?_
  dsimp only [List.set]
  exact loop t 0 h (by omega) hns (fun o _ _ => rfl)
/-- the bits of a set of eight -/
def pc8 (c : Nat) : Nat → Nat
  | 0 => 0
  | k + 1 => pc8 c k + c / 2 ^ k % 2
theorem sh_and : ∀ k, k < 8 → ∀ c, c < 256 → (nI c >>> (nI k &&& 31)) &&& nI 1 = nI (c / 2 ^ k % 2) := by decide +kernel
theorem m_bits {d c : Nat} {h : Hp} (hc : c < 256) : RT mX8_bits d [.int (nI c)] h (fun v h' => v = some (.int (nI (pc8 c 8))) ∧ h' = h) := by
  have loop : ∀ u k, k + u = 8 → AW mX8_bits d 4 [some (.int (nI c)), some (.int (nI (pc8 c k))), some (.int (nI k))] [] h (fun v h' => v = some (.int (nI (pc8 c 8))) ∧ h' = h) := by
    intro u
    induction u with
    | zero =>
      intro k hk
      have ek : k = 8 := by omega
      subst ek
      refine aw_iload_n dX8_bits_4 rfl rfl ?_
      refine aw_bipush (v := nI 8) dX8_bits_5 (by decide) ?_
      refine aw_icmp_geN (tgt := 24) dX8_bits_7 (by decide) (by omega) (by omega) (fun _ => ?_) (fun q => absurd q (by omega))
      refine aw_iload_n dX8_bits_24 rfl rfl ?_
      refine aw_iret dX8_bits_25 rfl (by first | rfl | exact (pk_charN (by omega)).1 | decide) ?_
      exact ⟨rfl, rfl⟩
    | succ u ih =>
      intro k hk
      refine aw_iload_n dX8_bits_4 rfl rfl ?_
      refine aw_bipush (v := nI 8) dX8_bits_5 (by decide) ?_
      refine aw_icmp_geN (tgt := 24) dX8_bits_7 (by decide) (by omega) (by omega) (fun q => absurd q (by omega)) (fun _ => ?_)
      refine aw_iload_n dX8_bits_10 rfl rfl ?_
      refine aw_iload_n dX8_bits_11 rfl rfl ?_
      refine aw_iload_n dX8_bits_12 rfl rfl ?_
      refine aw_ishr dX8_bits_13 ?_
      refine aw_iconst (v := nI 1) dX8_bits_14 (by decide) ?_
      refine aw_iand dX8_bits_15 ?_
      rw [sh_and k (by omega) c hc]
      refine aw_iaddN dX8_bits_16 ?_
      refine aw_istore_n dX8_bits_17 rfl (Nat.le_of_ble_eq_true rfl) rfl ?_
      dsimp only [List.set]
      refine aw_iincN (v := 1) dX8_bits_18 rfl rfl ?_
      dsimp only [List.set]
      refine aw_goto (tgt := 4) dX8_bits_21 (by decide) ?_
      exact ih (k + 1) (by omega)
  change AW mX8_bits _ 0 [some (.int (nI c)), none, none] [] h _
  refine aw_iconst (v := nI 0) dX8_bits_0 (by decide) ?_
  refine aw_istore_n dX8_bits_1 rfl (Nat.le_of_ble_eq_true rfl) rfl ?_
  dsimp only [List.set]
  refine aw_iconst (v := nI 0) dX8_bits_2 (by decide) ?_
  refine aw_istore_n dX8_bits_3 rfl (Nat.le_of_ble_eq_true rfl) rfl ?_
  dsimp only [List.set]
  exact loop 8 0 (by omega)
theorem pc8_add : ∀ k, k < 8 → ∀ c, c < 256 → c < 2 ^ k → pc8 (c + 2 ^ k) 8 = pc8 c 8 + 1 := by decide +kernel
theorem pc8_cb {S : Hs} {day : Nat} {f : Nat → Nat} : ∀ m, m ≤ 8 → pc8 (cbN S day f m) 8 = coldN S day f m := by
  intro m
  induction m with
  | zero => intro _; show pc8 0 8 = 0; decide
  | succ m ih =>
    intro hm
    have hlt := cbN_lt (S := S) (day := day) (f := f) m
    have hp8 : 2 ^ m ≤ 2 ^ 8 := Nat.pow_le_pow_right (by decide) (by omega)
    show pc8 (cbN S day f m + _) 8 = coldN S day f m + _
    split
    · rw [pc8_add m (by omega) _ (by omega) hlt, ih (by omega)]
    · exact ih (by omega)
theorem cb256 {S : Hs} {day : Nat} {f : Nat → Nat} (hS : HsOk S) : cbN S day f (sn S) < 256 := by
  have hlt := cbN_lt (S := S) (day := day) (f := f) (sn S)
  have hp8 : 2 ^ (sn S) ≤ 2 ^ 8 := Nat.pow_le_pow_right (by decide) hS.2.1
  omega
theorem m_wantOn {d t dd : Nat} {h : Hp} {S : Hs} {b L f : Nat → Nat} (hns : NS h S b L dd f) (hok : WO S b L) (hpm : PM (sn S) f) (hdd : dd + t < 2 ^ 29) : RT mX8_wantOn (d + 3) [.ref 67, .int (nI t)] h (fun v h' => v = some (.int (nI (coldF S b L dd f t))) ∧ NS h' S b L (dd + t) (rmF S b L dd f t) ∧ F81 h h') := by
  have hLs : ∀ q, q < sn S → L q < sn S := fun q hq => (hok.2 q hq).2
  have loop : ∀ u k hh, k + u = t → NS hh S b L (dd + k) (rmF S b L dd f k) → F81 h hh → AW mX8_wantOn (d + 3) 4 [some (.ref 67), some (.int (nI t)), some (.int (nI (coldF S b L dd f k))), some (.int (nI k))] [] hh (fun v h' => v = some (.int (nI (coldF S b L dd f t))) ∧ NS h' S b L (dd + t) (rmF S b L dd f t) ∧ F81 h h') := by
    intro u
    induction u with
    | zero =>
      intro k hh hk hns2 hf
      have ek : k = t := by omega
      subst ek
      refine aw_iload_n dX8_wantOn_4 rfl rfl ?_
      refine aw_iload_n dX8_wantOn_5 rfl rfl ?_
      refine aw_icmp_geN (tgt := 25) dX8_wantOn_6 (by decide) (by omega) (by omega) (fun _ => ?_) (fun q => absurd q (by omega))
      refine aw_iload_n dX8_wantOn_25 rfl rfl ?_
      refine aw_iret dX8_wantOn_26 rfl (by first | rfl | exact (pk_charN (by omega)).1 | decide) ?_
      exact ⟨rfl, hns2, hf⟩
    | succ u ih =>
      intro k hh hk hns2 hf
      refine aw_iload_n dX8_wantOn_4 rfl rfl ?_
      refine aw_iload_n dX8_wantOn_5 rfl rfl ?_
      refine aw_icmp_geN (tgt := 25) dX8_wantOn_6 (by decide) (by omega) (by omega) (fun q => absurd q (by omega)) (fun _ => ?_)
      refine aw_iload_n dX8_wantOn_9 rfl rfl ?_
      refine aw_aload_n dX8_wantOn_10 rfl rfl ?_
      refine aw_callV dX8_wantOn_11 kX8_145 (m_goes hns2 hok (PM_rmF hok.1 hLs hpm k) (by omega)) (by first | assumption | rfl) rfl rfl rfl (Nat.le_of_ble_eq_true rfl) (Nat.le_of_ble_eq_true rfl) ?_
      rintro _ h2 ⟨rfl, w2, f2⟩
      dsimp only [Option.toList, List.cons_append, List.nil_append, Nat.reduceAdd]
      refine aw_callSF dX8_wantOn_14 kX8_148 (m_bits (cb256 hok.1)) rfl rfl rfl (Nat.le_of_ble_eq_true rfl) (Nat.le_of_ble_eq_true rfl) ?_
      dsimp only [Option.toList, List.cons_append, List.nil_append, Nat.reduceAdd]
      rw [pc8_cb _ hok.1.2.1]
      refine aw_iaddN dX8_wantOn_17 ?_
      refine aw_istore_n dX8_wantOn_18 rfl (Nat.le_of_ble_eq_true rfl) rfl ?_
      dsimp only [List.set]
      refine aw_iincN (v := 1) dX8_wantOn_19 rfl rfl ?_
      dsimp only [List.set]
      refine aw_goto (tgt := 4) dX8_wantOn_22 (by decide) ?_
      exact ih (k + 1) h2 (by omega) w2 (hf.trans f2)
  change AW mX8_wantOn _ 0 [some (.ref 67), some (.int (nI t)), none, none] [] h _
  refine aw_iconst (v := nI 0) dX8_wantOn_0 (by decide) ?_
  refine aw_istore_n dX8_wantOn_1 rfl (Nat.le_of_ble_eq_true rfl) rfl ?_
  dsimp only [List.set]
  refine aw_iconst (v := nI 0) dX8_wantOn_2 (by decide) ?_
  refine aw_istore_n dX8_wantOn_3 rfl (Nat.le_of_ble_eq_true rfl) rfl ?_
  dsimp only [List.set]
  exact loop t 0 h (by omega) hns (fun o _ _ => rfl)
theorem m_whoseNow {d r dd : Nat} {h : Hp} {S : Hs} {b L f : Nat → Nat} (hns : NS h S b L dd f) (hS : HsOk S) (hpm : PM (sn S) f) (hr : r < sn S) : RT mX8_whoseNow d [.ref 67, .int (nI r)] h (fun v h' => v = some (.int (nI (own f r (sn S) 0))) ∧ h' = h) := by
  have h38 := hS.2.1
  have loop : ∀ u k, k + u = sn S → (∃ i, k ≤ i ∧ i < sn S ∧ f i = r) → AW mX8_whoseNow d 2 [some (.ref 67), some (.int (nI r)), some (.int (nI k))] [] h (fun v h' => v = some (.int (nI (own f r u k))) ∧ h' = h) := by
    intro u
    induction u with
    | zero => rintro k hk ⟨i, h1, h2, _⟩; omega
    | succ u ih =>
      rintro k hk ⟨i, h1, h2, h3⟩
      have hfk := hpm.1 k (by omega)
      refine aw_aload_n dX8_whoseNow_2 rfl rfl ?_
      refine aw_getR dX8_whoseNow_3 fX8_46 (by first | assumption | rfl) (by rfl) ?_
      refine aw_iconst (v := nI 1) dX8_whoseNow_6 (by decide) ?_
      refine aw_iload_n dX8_whoseNow_7 rfl rfl ?_
      refine aw_iaddN dX8_whoseNow_8 ?_
      refine aw_iaload dX8_whoseNow_9 (by first | assumption | rfl) (by omega) (by omega) ?_
      rw [(hns.2.2 k (by omega)).1]
      refine aw_iload_n dX8_whoseNow_10 rfl rfl ?_
      refine aw_icmp_eqN (tgt := 20) dX8_whoseNow_11 (by decide) (by omega) (by omega) (fun c11 => ?_) (fun c11 => ?_)
      · have e : own f r (u + 1) k = k := by rw [own, if_pos c11]
        rw [e]
        refine aw_iload_n dX8_whoseNow_20 rfl rfl ?_
        refine aw_iret dX8_whoseNow_21 rfl (by first | rfl | exact (pk_charN (by omega)).1 | decide) ?_
        exact ⟨rfl, rfl⟩
      · have e : own f r (u + 1) k = own f r u (k + 1) := by rw [own, if_neg c11]
        rw [e]
        refine aw_iincN (v := 1) dX8_whoseNow_14 rfl rfl ?_
        dsimp only [List.set]
        refine aw_goto (tgt := 2) dX8_whoseNow_17 (by decide) ?_
        exact ih (k + 1) (by omega) ⟨i, by
          by_cases z : i = k
          · subst z; exact absurd h3 c11
          · omega, h2, h3⟩
  change AW mX8_whoseNow _ 0 [some (.ref 67), some (.int (nI r)), none] [] h _
  refine aw_iconst (v := nI 0) dX8_whoseNow_0 (by decide) ?_
  refine aw_istore_n dX8_whoseNow_1 rfl (Nat.le_of_ble_eq_true rfl) rfl ?_
  dsimp only [List.set]
  obtain ⟨i, h1, h2⟩ := hpm.2 r hr
  exact loop (sn S) 0 (by omega) ⟨i, Nat.zero_le _, h1, h2⟩
theorem m_placeOf {d i : Nat} {h : Hp} {S : Hs} {b : Nat → Nat} (hm : h 67 0 = sn S) (hS : HsOk S) (hb : ∀ j, j < sn S → h 80 (9 + j) = b j ∧ b j < 60) (hi : i < sn S) : RT mX8_placeOf d [.ref 67, .int (nI i)] h (fun v h' => v = some (.int (nI (rkc b i (sn S)))) ∧ h' = h) := by
  have h38 := hS.2.1
  have ei := hb i hi
  have loop : ∀ u k, k + u = sn S → AW mX8_placeOf d 4 [some (.ref 67), some (.int (nI i)), some (.int (nI (rkc b i k))), some (.int (nI k))] [] h (fun v h' => v = some (.int (nI (rkc b i (sn S)))) ∧ h' = h) := by
    intro u
    induction u with
    | zero =>
      intro k hk
      have ek : k = sn S := by omega
      subst ek
      refine aw_iload_n dX8_placeOf_4 rfl rfl ?_
      refine aw_aload_n dX8_placeOf_5 rfl rfl ?_
      refine aw_getI dX8_placeOf_6 fX8_73 (by first | assumption | rfl) (by rfl) ?_
      rw [hm]
      refine aw_icmp_geN (tgt := 73) dX8_placeOf_9 (by decide) (by omega) (by omega) (fun _ => ?_) (fun q => absurd q (by omega))
      refine aw_iload_n dX8_placeOf_73 rfl rfl ?_
      refine aw_iret dX8_placeOf_74 rfl (by first | rfl | exact (pk_charN (by omega)).1 | decide) ?_
      exact ⟨rfl, rfl⟩
    | succ u ih =>
      intro k hk
      have ekk := hb k (by omega)
      have yes : b k < b i ∨ (b k = b i ∧ k < i) → AW mX8_placeOf d 60 [some (.ref 67), some (.int (nI i)), some (.int (nI (rkc b i k))), some (.int (nI k))] [.int (nI (rkc b i k))] h (fun v h' => v = some (.int (nI (rkc b i (sn S)))) ∧ h' = h) := fun q => by
        have e : rkc b i (k + 1) = rkc b i k + 1 := by rw [rkc_s, if_pos q]
        refine aw_iconst (v := nI 1) dX8_placeOf_60 (by decide) ?_
        refine aw_goto (tgt := 65) dX8_placeOf_61 (by decide) ?_
        refine aw_iaddN dX8_placeOf_65 ?_
        refine aw_istore_n dX8_placeOf_66 rfl (Nat.le_of_ble_eq_true rfl) rfl ?_
        dsimp only [List.set]
        refine aw_iincN (v := 1) dX8_placeOf_67 rfl rfl ?_
        dsimp only [List.set]
        refine aw_goto (tgt := 4) dX8_placeOf_70 (by decide) ?_
        rw [← e]
        exact ih (k + 1) (by omega)
      have no : ¬ (b k < b i ∨ (b k = b i ∧ k < i)) → AW mX8_placeOf d 64 [some (.ref 67), some (.int (nI i)), some (.int (nI (rkc b i k))), some (.int (nI k))] [.int (nI (rkc b i k))] h (fun v h' => v = some (.int (nI (rkc b i (sn S)))) ∧ h' = h) := fun q => by
        have e : rkc b i (k + 1) = rkc b i k + 0 := by rw [rkc_s, if_neg q]
        refine aw_iconst (v := nI 0) dX8_placeOf_64 (by decide) ?_
        refine aw_iaddN dX8_placeOf_65 ?_
        refine aw_istore_n dX8_placeOf_66 rfl (Nat.le_of_ble_eq_true rfl) rfl ?_
        dsimp only [List.set]
        refine aw_iincN (v := 1) dX8_placeOf_67 rfl rfl ?_
        dsimp only [List.set]
        refine aw_goto (tgt := 4) dX8_placeOf_70 (by decide) ?_
        rw [← e]
        exact ih (k + 1) (by omega)
      refine aw_iload_n dX8_placeOf_4 rfl rfl ?_
      refine aw_aload_n dX8_placeOf_5 rfl rfl ?_
      refine aw_getI dX8_placeOf_6 fX8_73 (by first | assumption | rfl) (by rfl) ?_
      rw [hm]
      refine aw_icmp_geN (tgt := 73) dX8_placeOf_9 (by decide) (by omega) (by omega) (fun q => absurd q (by omega)) (fun _ => ?_)
      refine aw_iload_n dX8_placeOf_12 rfl rfl ?_
      refine aw_aload_n dX8_placeOf_13 rfl rfl ?_
      refine aw_getR dX8_placeOf_14 fX8_46 (by first | assumption | rfl) (by rfl) ?_
      refine aw_bipush (v := nI 9) dX8_placeOf_17 (by decide) ?_
      refine aw_iload_n dX8_placeOf_19 rfl rfl ?_
      refine aw_iaddN dX8_placeOf_20 ?_
      refine aw_iaload dX8_placeOf_21 (by first | assumption | rfl) (by omega) (by omega) ?_
      refine aw_aload_n dX8_placeOf_22 rfl rfl ?_
      refine aw_getR dX8_placeOf_23 fX8_46 (by first | assumption | rfl) (by rfl) ?_
      refine aw_bipush (v := nI 9) dX8_placeOf_26 (by decide) ?_
      refine aw_iload_n dX8_placeOf_28 rfl rfl ?_
      refine aw_iaddN dX8_placeOf_29 ?_
      refine aw_iaload dX8_placeOf_30 (by first | assumption | rfl) (by omega) (by omega) ?_
      rw [ekk.1, ei.1]
      refine aw_icmp_ltN (tgt := 60) dX8_placeOf_31 (by decide) (by omega) (by omega) (fun c31 => ?_) (fun c31 => ?_)
      · exact yes (Or.inl c31)
      · refine aw_aload_n dX8_placeOf_34 rfl rfl ?_
        refine aw_getR dX8_placeOf_35 fX8_46 (by first | assumption | rfl) (by rfl) ?_
        refine aw_bipush (v := nI 9) dX8_placeOf_38 (by decide) ?_
        refine aw_iload_n dX8_placeOf_40 rfl rfl ?_
        refine aw_iaddN dX8_placeOf_41 ?_
        refine aw_iaload dX8_placeOf_42 (by first | assumption | rfl) (by omega) (by omega) ?_
        refine aw_aload_n dX8_placeOf_43 rfl rfl ?_
        refine aw_getR dX8_placeOf_44 fX8_46 (by first | assumption | rfl) (by rfl) ?_
        refine aw_bipush (v := nI 9) dX8_placeOf_47 (by decide) ?_
        refine aw_iload_n dX8_placeOf_49 rfl rfl ?_
        refine aw_iaddN dX8_placeOf_50 ?_
        refine aw_iaload dX8_placeOf_51 (by first | assumption | rfl) (by omega) (by omega) ?_
        rw [ekk.1, ei.1]
        refine aw_icmp_neN (tgt := 64) dX8_placeOf_52 (by decide) (by omega) (by omega) (fun c52 => ?_) (fun c52 => ?_)
        · exact no (by omega)
        · refine aw_iload_n dX8_placeOf_55 rfl rfl ?_
          refine aw_iload_n dX8_placeOf_56 rfl rfl ?_
          refine aw_icmp_geN (tgt := 64) dX8_placeOf_57 (by decide) (by omega) (by omega) (fun c57 => ?_) (fun c57 => ?_)
          · exact no (by omega)
          · exact yes (by omega)
  change AW mX8_placeOf _ 0 [some (.ref 67), some (.int (nI i)), none, none] [] h _
  refine aw_iconst (v := nI 0) dX8_placeOf_0 (by decide) ?_
  refine aw_istore_n dX8_placeOf_1 rfl (Nat.le_of_ble_eq_true rfl) rfl ?_
  dsimp only [List.set]
  refine aw_iconst (v := nI 0) dX8_placeOf_2 (by decide) ?_
  refine aw_istore_n dX8_placeOf_3 rfl (Nat.le_of_ble_eq_true rfl) rfl ?_
  dsimp only [List.set]
  exact loop (sn S) 0 (by omega)
theorem rk_in {b : Nat → Nat} {i n : Nat} (hi : i < n) : rkc b i n < n := by
  obtain ⟨l, hl⟩ := SR_ex b n
  have : ∀ m, i < m → rkc b i m < m := by
    intro m
    induction m with
    | zero => intro q; omega
    | succ m im =>
      intro q
      rw [rkc_s]
      by_cases z : i = m
      · subst z
        rw [if_neg (by omega)]
        have := rk_le b i i
        omega
      · have := im (by omega)
        split <;> omega
  exact this n hi
theorem m_findList {d dd : Nat} {h : Hp} {S : Hs} {b f : Nat → Nat} (hm : HM h S) (hS : HsOk S) (hd0 : h 80 0 = dd) (hb : ∀ j, j < sn S → h 80 (1 + j) = f j ∧ h 80 (9 + j) = b j ∧ b j < 60) : RT mX8_findList (d + 1) [.ref 67] h (fun v h' => v = none ∧ NS h' S b (lsB (sn S) b) dd f ∧ ∀ o, o ≠ 81 → h' o = h o) := by
  have h38 := hS.2.1
  have loop : ∀ u k hh, k + u = sn S → (∀ o, o ≠ 81 → hh o = h o) → (∀ j, j < k → hh 81 (rkc b j (sn S)) = j) → AW mX8_findList (d + 1) 2 [some (.ref 67), some (.int (nI k))] [] hh (fun v h' => v = none ∧ NS h' S b (lsB (sn S) b) dd f ∧ ∀ o, o ≠ 81 → h' o = h o) := by
    intro u
    induction u with
    | zero =>
      intro k hh hk hf hall
      have ek : k = sn S := by omega
      subst ek
      have e67 : hh 67 0 = sn S := by rw [hf 67 (by decide)]; exact hm.1
      refine aw_iload_n dX8_findList_2 rfl rfl ?_
      refine aw_aload_n dX8_findList_3 rfl rfl ?_
      refine aw_getI dX8_findList_4 fX8_73 (by first | assumption | rfl) (by rfl) ?_
      rw [e67]
      refine aw_icmp_geN (tgt := 27) dX8_findList_7 (by decide) (by omega) (by omega) (fun _ => ?_) (fun q => absurd q (by omega))
      refine aw_vret dX8_findList_27 rfl ?_
      refine ⟨rfl, ⟨?_, by rw [hf 80 (by decide)]; exact hd0, fun i hi => ?_⟩, hf⟩
      · unfold HM
        rw [hf 67 (by decide), hf 68 (by decide), hf 69 (by decide)]
        exact hm
      · rw [hf 80 (by decide)]
        have z := lsB_ok (b := b) i hi
        have y := hall _ z.1
        rw [z.2] at y
        exact ⟨(hb i hi).1, (hb i hi).2.1, y⟩
    | succ u ih =>
      intro k hh hk hf hall
      have e67 : hh 67 0 = sn S := by rw [hf 67 (by decide)]; exact hm.1
      have hk8 : k < sn S := by omega
      have hrk := rk_in (b := b) hk8
      refine aw_iload_n dX8_findList_2 rfl rfl ?_
      refine aw_aload_n dX8_findList_3 rfl rfl ?_
      refine aw_getI dX8_findList_4 fX8_73 (by first | assumption | rfl) (by rfl) ?_
      rw [e67]
      refine aw_icmp_geN (tgt := 27) dX8_findList_7 (by decide) (by omega) (by omega) (fun q => absurd q (by omega)) (fun _ => ?_)
      refine aw_aload_n dX8_findList_10 rfl rfl ?_
      refine aw_getR dX8_findList_11 fX8_49 (by first | assumption | rfl) (by rfl) ?_
      refine aw_aload_n dX8_findList_14 rfl rfl ?_
      refine aw_iload_n dX8_findList_15 rfl rfl ?_
      refine aw_callVF dX8_findList_16 kX8_130 (m_placeOf e67 hS (fun j hj => by rw [hf 80 (by decide)]; exact ⟨(hb j hj).2.1, (hb j hj).2.2⟩) hk8) (by first | assumption | rfl) rfl rfl rfl (Nat.le_of_ble_eq_true rfl) (Nat.le_of_ble_eq_true rfl) ?_
      dsimp only [Option.toList, List.cons_append, List.nil_append, Nat.reduceAdd]
      refine aw_iload_n dX8_findList_19 rfl rfl ?_
      refine aw_iastore dX8_findList_20 (by first | assumption | rfl) (by omega) (by omega) ?_
      refine aw_iincN (v := 1) dX8_findList_21 rfl rfl ?_
      dsimp only [List.set]
      refine aw_goto (tgt := 2) dX8_findList_24 (by decide) ?_
      refine ih (k + 1) _ (by omega) (fun o ho => by rw [hw_ne ho]; exact hf o ho) (fun j hj => ?_)
      rw [hw_at]
      by_cases z : j = k
      · subst z; rw [if_pos rfl]
      · rw [if_neg (fun q => z (rk_inj (by omega) hk8 q))]
        exact hall j (by omega)
  change AW mX8_findList _ 0 [some (.ref 67), none] [] h _
  refine aw_iconst (v := nI 0) dX8_findList_0 (by decide) ?_
  refine aw_istore_n dX8_findList_1 rfl (Nat.le_of_ble_eq_true rfl) rfl ?_
  dsimp only [List.set]
  exact loop (sn S) 0 h (by omega) (fun o _ => rfl) (fun j hj => by omega)
/-- row a holds standing c from place off on -/
def MV (h : Hp) (n a off : Nat) (c : Sv) : Prop := h a off = c.1 ∧ ∀ i, i < n → h a (off + (1 + i)) = c.2.2 i ∧ h a (off + (9 + i)) = c.2.1 i
theorem m_from {d a : Nat} {h : Hp} {S : Hs} {c : Sv} (hm : HM h S) (hS : HsOk S) (hv : MV h (sn S) a 0 c) (hc : ∀ i, i < sn S → c.2.1 i < 60) (ha : lay[a]? = some (oI 17)) (ha2 : a ≠ 80 ∧ a ≠ 81) : RT mX8_from (d + 2) [.ref 67, .ref a] h (fun v h' => v = none ∧ NS h' S c.2.1 (cL (sn S) c) c.1 c.2.2 ∧ F81 h h') := by
  have h38 := hS.2.1
  have n80 : a ≠ 80 := ha2.1
  change AW mX8_from _ 0 [some (.ref 67), some (.ref a)] [] h _
  refine aw_aload_n dX8_from_0 rfl rfl ?_
  refine aw_getR dX8_from_1 fX8_46 (by first | assumption | rfl) (by rfl) ?_
  refine aw_iconst (v := nI 0) dX8_from_4 (by decide) ?_
  refine aw_aload_n dX8_from_5 rfl rfl ?_
  refine aw_bipush (v := nI 17) dX8_from_6 (by decide) ?_
  refine aw_callSF dX8_from_8 kX8_114 (m_put (na := 17) (nc := 17) rfl ha n80 (by omega) (by omega) (by decide) (by decide)) rfl rfl rfl (Nat.le_of_ble_eq_true rfl) (Nat.le_of_ble_eq_true rfl) ?_
  dsimp only [Option.toList, List.cons_append, List.nil_append, Nat.reduceAdd]
  refine aw_aload_n dX8_from_11 rfl rfl ?_
  have g : ∀ o, o ≠ 80 → hcq h a 80 0 17 o = h o := fun o ho => hcq_ne ho
  have gi : ∀ j, j < 17 → hcq h a 80 0 17 80 j = h a j := fun j hj => by
    have := hcq_in (h := h) (c := a) (a := 80) (off := 0) hj
    rw [Nat.zero_add] at this
    exact this
  have hm2 : HM (hcq h a 80 0 17) S := by
    unfold HM
    rw [g 67 (by decide), g 68 (by decide), g 69 (by decide)]
    exact hm
  refine aw_callV dX8_from_12 kX8_127 (m_findList (dd := c.1) (f := c.2.2) hm2 hS (by rw [gi 0 (by omega)]; exact hv.1) (fun j hj => ⟨by rw [gi _ (by omega)]; have := (hv.2 j hj).1; rw [Nat.zero_add] at this; exact this, by rw [gi _ (by omega)]; have := (hv.2 j hj).2; rw [Nat.zero_add] at this; exact this, hc j hj⟩)) (by first | assumption | rfl) rfl rfl rfl (Nat.le_of_ble_eq_true rfl) (Nat.le_of_ble_eq_true rfl) ?_
  rintro _ h2 ⟨rfl, w2, f2⟩
  dsimp only [Option.toList, List.cons_append, List.nil_append, Nat.reduceAdd]
  refine aw_vret dX8_from_15 rfl ?_
  exact ⟨rfl, w2, fun o p q => by rw [f2 o q, g o p]⟩
