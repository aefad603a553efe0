theorem lv_args_mem : ∀ (vs : List Value) (k i : Nat) (v : Value), (∀ w ∈ vs, w.category = 1) → vs[i]? = some v → (k + i, v) ∈ lv_args k vs
  | [], _, _, _, _, h => by simp at h
  | w :: vs, k, 0, v, hc, h => by
    have h1 : w = v := by simpa using h
    subst h1
    unfold lv_args
    exact List.mem_cons_self
  | w :: vs, k, i + 1, v, hc, h => by
    have h1 : vs[i]? = some v := by simpa using h
    have h2 := lv_args_mem vs (k + 1) i v (fun x hx => hc x (List.mem_cons_of_mem _ hx)) h1
    unfold lv_args
    rw [hc w List.mem_cons_self]
    refine List.mem_cons_of_mem _ ?_
    have : k + (i + 1) = k + 1 + i := by omega
    rw [this]
    exact h2
theorem lv0_at {n : Nat} {as : List Value} {i : Nat} {v : Value} (h : (lv0 n as)[i]? = some (some v)) : as[i]? = some v := by
  unfold lv0 at h
  rw [List.getElem?_append] at h
  split at h
  · simpa using h
  · rw [List.getElem?_replicate] at h
    split at h <;> cases h
def PcO (G : Gx) (as : List Value) (h : Hp) : Array Value → State → Prop := fun v U =>
  v = (as.map (cv (ga G))).toArray ∧ va_K G.1 vwCl (tysG G) U ∧ va_P G.1 vwCl (wl G h) U.heap ∧ va_D (gA G) (wl G h) ∧ (∀ q : Nat, U.heap.size ≤ q → gA G q) ∧ (∀ w ∈ nestW, va_Nw w U)
theorem PcO.blind (G : Gx) (as : List Value) (h : Hp) : FrameBlind (PcO G as h) := by
  rintro a U g mk ⟨q0, qK, qP, qD, qA, qN⟩
  refine ⟨q0, va_K.moved (u := U) (U := U.calling g mk a) (Vm.Alike.refl U.vm) qK, qP, qD, qA, fun w hw => ?_⟩
  have hm : isNest w = true := (List.mem_filter.mp hw).2
  cases w <;> first | (simp [isNest] at hm; done) | exact va_Nw.same rfl rfl (qN _ hw)
theorem PcO.pre {G : Gx} {as : List Value} {h : Hp} {s : State} {H : Heap} {locs : List Loc} (hwd : WD G h s H locs) (hns : ∀ w ∈ nestW, va_Nw w s) : ∀ U : State, U.heap = H → s.WarmedH U.vm → PcO G as h (as.map (cv (ga G))).toArray U := by
  obtain ⟨hK, hP, hD, hS, hA⟩ := hwd
  intro U hU hW
  refine ⟨rfl, va_K.moved hW.alike hK, by rw [hU]; exact hP, hD, fun q hq => hA q (Nat.le_trans hS.1 (by rw [hU] at hq; exact hq)), fun w hw => ?_⟩
  have hm : isNest w = true := (List.mem_filter.mp hw).2
  cases w <;> first | (simp [isNest] at hm; done) | exact va_Nw.warmM hW (hns _ hw)
theorem RT.met {M : MI} {d : Nat} {as : List Value} {h : Hp} {Q : Option Value → Hp → Prop} (hR : RT M d as h Q) (hpl : plainFor M.1 = true) (hcat : ∀ w ∈ as, w.category = 1) (hlen : as.length ≤ M.2.2.1) (l : Launch) (G : Gx) :
    Met l M.1 (mW M) (rmD d) (PcO G as h) (Qo G Q) 0 0 (gA G) := by
  refine va_MetF (cc := M.2.1) (maxL := M.2.2.1) (ret := M.2.2.2) hpl rfl ?_
  intro p e s m args below meth c s₁ B hml hv
  obtain ⟨rfl, hK, hP, hD, hA, hN⟩ := hv
  have hsl : (lg_sl (as.map (cv (ga G)))).length = as.length := by
    unfold lg_sl
    rw [List.length_flatMap]
    have : ∀ l : List Value, (∀ w ∈ l, w.category = 1) → ((l.map (cv (ga G))).map (fun v => (if v.category = 2 then [Slot.val v, .second] else [.val v]).length)).sum = l.length := by
      intro l
      induction l with
      | nil => intro _; rfl
      | cons w l ih =>
        intro hc
        have hw : (cv (ga G) w).category = 1 := by rw [cv_cat]; exact hc w List.mem_cons_self
        simp only [List.map_cons, List.sum_cons, hw]
        rw [ih (fun x hx => hc x (List.mem_cons_of_mem _ hx))]
        simp
        omega
    exact this as hcat
  have hl := lv_entry (as.map (cv (ga G))) (n := M.2.2.1) (by rw [hsl]; exact hlen)
  rw [lg_entry_eq]
  generalize (lg_sl (as.map (cv (ga G))) ++ List.replicate (M.2.2.1 - (lg_sl (as.map (cv (ga G)))).length) Slot.unset).toArray = ls at hl ⊢
  have hLV : LV G M.2.2.1 ls (lv0 M.2.2.1 as) := by
    refine ⟨by simp [lv0]; omega, hl.1, hl.2.1, ?_⟩
    rintro ⟨i, w⟩ hq
    obtain ⟨v, hv, rfl⟩ := prs_mem.mp hq
    have h1 := lv_args_mem (as.map (cv (ga G))) 0 i (cv (ga G) v) (fun w hw => by
      obtain ⟨x, hx, rfl⟩ := List.mem_map.mp hw
      rw [cv_cat]; exact hcat x hx) (by rw [List.getElem?_map, lv0_at hv]; rfl)
    rw [Nat.zero_add] at h1
    exact hl.2.2 _ h1
  exact hR p l e s m _ below meth c G s.heap [] ls ⟨B.exec, B.bytes, B.returns, hml, findClass_of_methodNamed B.named, atoms_spec (ws := mW M) B.pre, hN, B.notSynchronized⟩ ⟨hK, hP, hD, va_S.rf, hA⟩ hLV
theorem mW_good {M M' : MI} (hc : Cond.code M'.1 M'.2.1 M'.2.2.1 M'.2.2.2 ∈ bigW) : GoodIn (mW M) (mW M') := by
  intro w hw
  have h1 : w ∈ bigW := by
    rcases List.mem_cons.mp hw with rfl | h
    · exact hc
    · exact h
  exact ⟨List.mem_cons_of_mem _ h1, good_of_word (List.mem_filter.mp h1).2⟩
/-- what every callee needs -/
def KC (M' : MI) (n : Nat) : Prop := Cond.initialized M'.1.cls ∈ bigW ∧ Cond.code M'.1 M'.2.1 M'.2.2.1 M'.2.2.2 ∈ bigW ∧ plainFor M'.1 = true ∧ (M'.1.cls ≠ "java/lang/invoke/MethodHandle" ∧ M'.1.cls ≠ "java/lang/invoke/VarHandle" ∧ (parseMethodDescriptor M'.1.desc).map (fun d => d.parameters.length) = some n) ∧ M'.2.2.1 ≤ 17
def KS (own : String) (idx : Nat) (M' : MI) (n : Nat) : Prop := KC M' n ∧ Cond.static M'.1 ∈ bigW ∧ (Cond.methodLink own idx M'.1 ∈ bigW ∨ ∃ host, Cond.methodLinkNest own idx M'.1 host ∈ nestW)
def KV (own : String) (idx : Nat) (M' : MI) (ci n : Nat) : Prop := KC M' n ∧ Cond.instanceMethod M'.1 ∈ bigW ∧ Cond.selects M'.1.cls M'.1 M'.1 ∈ bigW ∧ (∃ T N, vwCl[ci]? = some (M'.1.cls, T, N)) ∧ (Cond.methodLink own idx M'.1 ∈ bigW ∨ ∃ host, Cond.methodLinkNest own idx M'.1 host ∈ nestW)
theorem aw_run {M : MI} {d pc : Nat} {st0 st : List Value} {h : Hp} {Q Q' : Option Value → Hp → Prop} {lv : List (Option Value)} {a : Array Value}
    (kk : ∀ v h', Q' v h' → AW M d (pc + 3) lv (v.toList ++ st) h' Q)
    {p : Program} {l : Launch} {e : Env} {s : State} {m : MethodId} {args : Array Value} {below : List Frame} {meth : Method} {c : Code} {G : Gx} {H : Heap} {locs : List Loc} {ls : Array Slot}
    (hc : CX M p s m args meth c) (hwd : WD G h s H locs) (hl : LV G M.2.2.1 ls lv)
    (hr : va_Run p l e (rmD d) s m args below meth c H locs 0 0 0 0 (F0 m pc ls st0) (st.map (cv (ga G))) (Qo G Q' a) (gA G)) :
    W p l e (rmD d) s m args below meth c H locs 0 0 (MQ below (Qo G Q) args s 0 0 (gA G)) (F0 m pc ls st0) := by
  obtain ⟨hK, hP, hD, hS, hA⟩ := hwd
  intro T hT X
  obtain ⟨v, st₀, t, T', L, h0, X', hL, e1, e2, ⟨v', h', hv, hq, hP', hD', hz, hk⟩, stp⟩ := hr T hT X
  have hv : v = v'.map (cv (ga G)) := Outcome.returned.inj hv
  subst hv
  rw [h0] at hz hk
  have hS' : va_S (gA G) s.heap T'.heap (locs ++ L) := by
    refine ⟨Nat.le_trans hS.1 (by rw [e1]; exact hz), fun q h1 h2 => ?_, fun q hq => ?_⟩
    · rw [e1, hk q (Nat.lt_of_lt_of_le h1 hS.1) h2]
      exact hS.2.1 q h1 h2
    · rcases List.mem_append.mp hq with h | h
      · exact hS.2.2 q h
      · exact hL q h
  obtain ⟨t2, a1, b1⟩ := kk v' h' hq p l e s m args below meth c G T'.heap (locs ++ L) ls hc ⟨hK, by rw [e1]; exact hP', hD', hS', hA⟩ hl T' rfl X'
  refine ⟨t2, stp t2 ?_, b1⟩
  cases v' <;> exact a1
theorem aw_callS {M M' : MI} {d pc idx n : Nat} {as st0 st : List Value} {h : Hp} {Q Q' : Option Value → Hp → Prop} {lv : List (Option Value)} (hd : decode M.2.1 pc = .ok (.invokestatic idx, 3)) (hk : KS M.1.cls idx M' n) (hR : RT M' d as h Q')
    (hst : st0 = as.reverse ++ st) (hn : as.length = n) (hcat0 : (as.all fun w => decide (w.category = 1)) = true) (hlen : as.length ≤ M'.2.2.1) (hz : (st.map fun v => v.category).sum ≤ 8)
    (kk : ∀ v h', Q' v h' → AW M (d + 1) (pc + 3) lv (v.toList ++ st) h' Q) : AW M (d + 1) pc lv st0 h Q := by
  have hcat : ∀ w ∈ as, w.category = 1 := fun w hw => of_decide_eq_true (List.all_eq_true.mp hcat0 w hw)
  intro p l e s m args below meth c G H locs ls hc hwd hl
  obtain ⟨hx, hb, hr, hml, hown, hts, hns, hlk⟩ := id hc
  obtain ⟨⟨k1, k2, k3, k4, k5⟩, k6, k7⟩ := hk
  subst hst
  have hM := hR.met k3 hcat hlen l G
  have hRR : (rmD d).frames + 1 ≤ (rmD (d + 1)).frames ∧ 8 + (M'.2.2.1 + 11) + (rmD d).locals ≤ (rmD (d + 1)).locals := by
    refine ⟨Nat.le_refl _, ?_⟩
    show 8 + (M'.2.2.1 + 11) + 36 * d ≤ 36 * (d + 1)
    omega
  have hW : 2 * (F0 m pc ls ((as.reverse ++ st).map (cv (ga G)))).monitorRoom + ((st.map (cv (ga G))).map fun v => v.category).sum ≤ 8 := lv_room (by rw [cats_cv]; exact hz)
  have hpre : PreS s H (PcO G as h) (as.map (cv (ga G))) := ⟨PcO.blind G as h, PcO.pre hwd hns⟩
  rcases k7 with k7 | ⟨host, k7⟩
  · refine aw_run kk hc hwd hl (va_runS (n := n) (As := as.map (cv (ga G))) (rest := st.map (cv (ga G))) ⟨hx, hb, hml, hown, hts⟩ hM ⟨callB_of n hts (mW_good k2) rfl rfl rfl (hbig hts k1) (hbig hts k7) k4 hRR, hbig hts k6⟩ hpre rfl (by rw [List.length_map]; exact hn) hl.2.1 (by simp) hW hd ⟨Nat.le_refl _, Nat.le_refl _⟩)
  · refine aw_run kk hc hwd hl (va_runSN (n := n) (As := as.map (cv (ga G))) (rest := st.map (cv (ga G))) ⟨hx, hb, hml, hown, hts⟩ hM ⟨va_cnB n hts (mW_good k2) rfl rfl rfl (hns _ k7) (hbig hts k1) k4 hRR, hbig hts k6, trivial⟩ hpre rfl (by rw [List.length_map]; exact hn) hl.2.1 (by simp) hW hd ⟨Nat.le_refl _, Nat.le_refl _⟩)
theorem aw_callV {M M' : MI} {d pc idx ci n b : Nat} {as st0 st : List Value} {h : Hp} {Q Q' : Option Value → Hp → Prop} {lv : List (Option Value)} {fs : List (Option Nat)} (hd : decode M.2.1 pc = .ok (.invokevirtual idx, 3)) (hk : KV M.1.cls idx M' ci n) (hR : RT M' d (.ref b :: as) h Q') (ho : lay[b]? = some (oO ci fs))
    (hst : st0 = as.reverse ++ .ref b :: st) (hn : as.length = n) (hcat0 : (as.all fun w => decide (w.category = 1)) = true) (hlen : as.length + 1 ≤ M'.2.2.1) (hz : (st.map fun v => v.category).sum ≤ 8)
    (kk : ∀ v h', Q' v h' → AW M (d + 1) (pc + 3) lv (v.toList ++ st) h' Q) : AW M (d + 1) pc lv st0 h Q := by
  have hcat : ∀ w ∈ as, w.category = 1 := fun w hw => of_decide_eq_true (List.all_eq_true.mp hcat0 w hw)
  intro p l e s m args below meth c G H locs ls hc hwd hl
  obtain ⟨hx, hb, hr, hml, hown, hts, hns, hlk⟩ := id hc
  obtain ⟨⟨k1, k2, k3, k4, k5⟩, k6, k8, ⟨T, N, kc⟩, k7⟩ := hk
  subst hst
  have hM := hR.met k3 (fun w hw => by
    rcases List.mem_cons.mp hw with rfl | hw
    · rfl
    · exact hcat w hw) hlen l G
  have hRR : (rmD d).frames + 1 ≤ (rmD (d + 1)).frames ∧ 8 + (M'.2.2.1 + 11) + (rmD d).locals ≤ (rmD (d + 1)).locals := by
    refine ⟨Nat.le_refl _, ?_⟩
    show 8 + (M'.2.2.1 + 11) + 36 * d ≤ 36 * (d + 1)
    omega
  have hW : 2 * (F0 m pc ls ((as.reverse ++ .ref b :: st).map (cv (ga G)))).monitorRoom + ((st.map (cv (ga G))).map fun v => v.category).sum ≤ 8 := lv_room (by rw [cats_cv]; exact hz)
  have hpre : PreV s H M'.1.cls (ga G b) (PcO G (.ref b :: as) h) (as.map (cv (ga G))) := ⟨PcO.blind G _ h, va_recv hwd.1 hwd.2.1 kc (wl_at ho), PcO.pre (as := .ref b :: as) hwd hns⟩
  rcases k7 with k7 | ⟨host, k7⟩
  · refine aw_run kk hc hwd hl (va_runV (n := n) (As := as.map (cv (ga G))) (b := ga G b) (rest := st.map (cv (ga G))) ⟨hx, hb, hml, hown, hts⟩ hM ⟨callB_of n hts (mW_good k2) rfl rfl rfl (hbig hts k1) (hbig hts k7) k4 hRR, hbig hts k6, hbig hts k8⟩ hpre rfl (by rw [List.length_map]; exact hn) hl.2.1 (by simp [cv]) hW hd ⟨Nat.le_refl _, Nat.le_refl _⟩)
  · refine aw_run kk hc hwd hl (va_runVN (n := n) (As := as.map (cv (ga G))) (b := ga G b) (rest := st.map (cv (ga G))) ⟨hx, hb, hml, hown, hts⟩ hM ⟨va_cnB n hts (mW_good k2) rfl rfl rfl (hns _ k7) (hbig hts k1) k4 hRR, hbig hts k6, hbig hts k8⟩ hpre rfl (by rw [List.length_map]; exact hn) hl.2.1 (by simp [cv]) hW hd ⟨Nat.le_refl _, Nat.le_refl _⟩)
