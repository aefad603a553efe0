section MORE
variable {M : MI} {d pc : Nat} {lv : List (Option Value)} {st : List Value} {h : Hp} {Q : Option Value → Hp → Prop}
theorem aw_getI {idx ci k a : Nat} {fs : List (Option Nat)} (hd : decode M.2.1 pc = .ok (.getfield idx, 3)) (hf : FL M.1.cls idx ci k) (ho : lay[a]? = some (oO ci fs)) (hk : fs[k]? = some none) (kk : AW M d (pc + 3) lv (.int (nI (h a k)) :: st) h Q) : AW M d pc lv (.ref a :: st) h Q := aw_getfield hd hf ho hk kk
theorem aw_getR {idx ci k a r : Nat} {fs : List (Option Nat)} (hd : decode M.2.1 pc = .ok (.getfield idx, 3)) (hf : FL M.1.cls idx ci k) (ho : lay[a]? = some (oO ci fs)) (hk : fs[k]? = some (some r)) (kk : AW M d (pc + 3) lv (.ref r :: st) h Q) : AW M d pc lv (.ref a :: st) h Q := aw_getfield hd hf ho hk kk
theorem aw_mmaxN {idx x y : Nat} (hd : decode M.2.1 pc = .ok (.invokestatic idx, 3)) (hk : Cond.methodLink M.1.cls idx Lib.Math.max.name ∈ bigW ∧ Cond.static Lib.Math.max.name ∈ bigW ∧ Cond.initialized "java/lang/Math" ∈ bigW ∧ Cond.code Lib.Math.max.name Lib.Math.max.code 2 (some .int) ∈ bigW) (hx : x < 2 ^ 31) (hy : y < 2 ^ 31) (hz : (st.map fun v => v.category).sum ≤ 8) (kk : AW M (d + 1) (pc + 3) lv (.int (nI (max x y)) :: st) h Q) : AW M (d + 1) pc lv (.int (nI y) :: .int (nI x) :: st) h Q := by
  refine aw_mmax hd hk hz ?_
  have : (if nI x < nI y then nI y else nI x) = nI (max x y) := by
    by_cases q : x < y
    · rw [if_pos ((nI_ltI hx hy).mpr q), Nat.max_eq_right (Nat.le_of_lt q)]
    · rw [if_neg (fun z => q ((nI_ltI hx hy).mp z)), Nat.max_eq_left (Nat.le_of_not_lt q)]
  rw [this]
  exact kk
theorem aw_mminN {idx x y : Nat} (hd : decode M.2.1 pc = .ok (.invokestatic idx, 3)) (hk : Cond.methodLink M.1.cls idx Lib.Math.min.name ∈ bigW ∧ Cond.static Lib.Math.min.name ∈ bigW ∧ Cond.initialized "java/lang/Math" ∈ bigW ∧ Cond.code Lib.Math.min.name Lib.Math.min.code 2 (some .int) ∈ bigW) (hx : x < 2 ^ 31) (hy : y < 2 ^ 31) (hz : (st.map fun v => v.category).sum ≤ 8) (kk : AW M (d + 1) (pc + 3) lv (.int (nI (min x y)) :: st) h Q) : AW M (d + 1) pc lv (.int (nI y) :: .int (nI x) :: st) h Q := by
  refine aw_mmin hd hk hz ?_
  have : (if nI y < nI x then nI y else nI x) = nI (min x y) := by
    by_cases q : y < x
    · rw [if_pos ((nI_ltI hy hx).mpr q), Nat.min_eq_right (Nat.le_of_lt q)]
    · rw [if_neg (fun z => q ((nI_ltI hy hx).mp z)), Nat.min_eq_left (Nat.le_of_not_lt q)]
  first | (rw [this]; exact kk) | (have this2 : (if nI x < nI y then nI x else nI y) = nI (min x y) := by
                                     by_cases q : x < y
                                     · rw [if_pos ((nI_ltI hx hy).mpr q), Nat.min_eq_left (Nat.le_of_lt q)]
                                     · rw [if_neg (fun z => q ((nI_ltI hx hy).mp z)), Nat.min_eq_right (Nat.le_of_not_lt q)]
                                   rw [this2]; exact kk)
/-- the same machine, another way to say what is left -/
theorem aw_imp {Q' : Option Value → Hp → Prop} (hq : ∀ v h', Q' v h' → Q v h') (kk : AW M d pc lv st h Q') : AW M d pc lv st h Q := by
  intro p l e s m args below meth c G H locs ls hc hwd hl T hT X
  obtain ⟨t, a1, o, b1, b2, ⟨v, h', c1, c2, c3⟩, b4⟩ := kk p l e s m args below meth c G H locs ls hc hwd hl T hT X
  exact ⟨t, a1, o, b1, b2, ⟨v, h', c1, hq v h' c2, c3⟩, b4⟩
theorem RT.imp {as : List Value} {Q' : Option Value → Hp → Prop} (kk : RT M d as h Q') (hq : ∀ v h', Q' v h' → Q v h') : RT M d as h Q := aw_imp hq kk
end MORE
/-- a callee whose answer and world are told outright -/
theorem aw_callSF {M M' : MI} {d pc idx n : Nat} {as st0 st : List Value} {h H' : Hp} {V : Option Value} {Q : Option Value → Hp → Prop} {lv : List (Option Value)} (hd : decode M.2.1 pc = .ok (.invokestatic idx, 3)) (hk : KS M.1.cls idx M' n) (hR : RT M' d as h (fun v h' => v = V ∧ h' = H'))
    (hst : st0 = as.reverse ++ st) (hn : as.length = n) (hcat0 : (as.all fun w => decide (w.category = 1)) = true) (hlen : as.length ≤ M'.2.2.1) (hz : (st.map fun v => v.category).sum ≤ 8)
    (kk : AW M (d + 1) (pc + 3) lv (V.toList ++ st) H' Q) : AW M (d + 1) pc lv st0 h Q :=
  aw_callS hd hk hR hst hn hcat0 hlen hz (fun v h' e => by rw [e.1, e.2]; exact kk)
theorem aw_callVF {M M' : MI} {d pc idx ci n b : Nat} {as st0 st : List Value} {h H' : Hp} {V : Option Value} {Q : Option Value → Hp → Prop} {lv : List (Option Value)} {fs : List (Option Nat)} (hd : decode M.2.1 pc = .ok (.invokevirtual idx, 3)) (hk : KV M.1.cls idx M' ci n) (hR : RT M' d (.ref b :: as) h (fun v h' => v = V ∧ h' = H')) (ho : lay[b]? = some (oO ci fs))
    (hst : st0 = as.reverse ++ .ref b :: st) (hn : as.length = n) (hcat0 : (as.all fun w => decide (w.category = 1)) = true) (hlen : as.length + 1 ≤ M'.2.2.1) (hz : (st.map fun v => v.category).sum ≤ 8)
    (kk : AW M (d + 1) (pc + 3) lv (V.toList ++ st) H' Q) : AW M (d + 1) pc lv st0 h Q :=
  aw_callV hd hk hR ho hst hn hcat0 hlen hz (fun v h' e => by rw [e.1, e.2]; exact kk)
/-- a local that is read no more -/
theorem aw_forget {M : MI} {d pc : Nat} {lv : List (Option Value)} {st : List Value} {h : Hp} {Q : Option Value → Hp → Prop} (i : Nat) (kk : AW M d pc (lv.set i none) st h Q) : AW M d pc lv st h Q := by
  intro p l e s m args below meth c G H locs ls hc hwd hl
  refine kk p l e s m args below meth c G H locs ls hc hwd ⟨by rw [List.length_set]; exact hl.1, hl.2.1, hl.2.2.1, ?_⟩
  rintro ⟨j, w⟩ hq
  obtain ⟨x, hx, rfl⟩ := prs_mem.mp hq
  rw [List.getElem?_set] at hx
  by_cases hj : i = j
  · rw [if_pos hj] at hx
    split at hx <;> cases hx
  · rw [if_neg hj] at hx
    exact hl.at hx
