/-! the whole world of the run: 82 objects with numbers of their own; what they hold is one function -/
abbrev Hp : Type := Nat → Nat → Nat
abbrev Ly : Type := (Nat × Nat) ⊕ (List Nat) ⊕ (Nat × List (Option Nat))
abbrev oI (n : Nat) : Ly := .inl (0, n)
abbrev oC (n : Nat) : Ly := .inl (1, n)
abbrev oR (l : List Nat) : Ly := .inr (.inl l)
abbrev oO (c : Nat) (l : List (Option Nat)) : Ly := .inr (.inr (c, l))
def lay : List Ly := [
  oO 7 [some 1, some 4, some 10, some 16, some 19, some 22, some 48, some 56, some 60, some 66],
  oO 5 [some 2, some 3, none, none], oC 200, oI 3,
  oO 1 [some 5, some 6, some 7, some 8, some 9, none, none], oI 8, oI 8, oI 8, oI 8, oI 8,
  oO 1 [some 11, some 12, some 13, some 14, some 15, none, none], oI 8, oI 8, oI 8, oI 8, oI 8,
  oO 4 [some 17, some 18, none], oI 8, oI 8,
  oO 4 [some 20, some 21, none], oI 8, oI 8,
  oO 0 [some 23, none], oR [24, 27, 30, 33, 36, 39, 42, 45],
  oO 4 [some 25, some 26, none], oI 8, oI 8, oO 4 [some 28, some 29, none], oI 8, oI 8,
  oO 4 [some 31, some 32, none], oI 8, oI 8, oO 4 [some 34, some 35, none], oI 8, oI 8,
  oO 4 [some 37, some 38, none], oI 8, oI 8, oO 4 [some 40, some 41, none], oI 8, oI 8,
  oO 4 [some 43, some 44, none], oI 8, oI 8, oO 4 [some 46, some 47, none], oI 8, oI 8,
  oO 0 [some 49, none], oR [50, 53],
  oO 4 [some 51, some 52, none], oI 8, oI 8, oO 4 [some 54, some 55, none], oI 8, oI 8,
  oO 3 [some 57, some 58, some 59, none], oI 8, oI 8, oI 8,
  oO 6 [some 4, some 61, some 64, some 65, none], oO 4 [some 62, some 63, none], oI 8, oI 8, oI 8, oI 8,
  oO 2 [some 4, some 60, none, none, none],
  oO 8 [none, some 68, some 69, some 70, some 71, none, some 72, none, some 73, none, some 74, some 75, none, none, some 76, none, some 77, none, some 78, some 79, some 80, some 81, none, none, none],
  oI 16, oI 16, oI 17, oI 17, oI 136, oI 34, oI 24, oI 200, oI 3, oI 16, oI 16, oI 17, oI 17, oI 8]
abbrev Gx : Type := va_G × (ClassId × ClassId × ClassId) × (Nat → Nat) × (Nat → Prop)
abbrev gA (G : Gx) : Nat → Prop := G.2.2.2
abbrev ga (G : Gx) : Nat → Nat := G.2.2.1
def cv (ad : Nat → Nat) : Value → Value
  | .ref k => .ref (ad k)
  | v => v
def fvv (G : Gx) (h : Hp) (k : Nat) (j : Nat) (f : Option Nat) : Value := match f with
  | none => .int (nI (h k j))
  | some r => .ref (ga G r)
def cel (G : Gx) (h : Hp) (k : Nat) (L : Ly) : va_E := match L with
  | .inl q => .inl (if q.1 = 0 then G.2.1.1 else G.2.1.2.1, q.2, .inl (fun j => nI (h k j)))
  | .inr (.inl rs) => .inl (G.2.1.2.2, rs.length, .inr (.inr (.inr (.inr (fun j => (rs[j]?).map (ga G))))))
  | .inr (.inr q) => .inr (q.1, q.2.mapIdx (fvv G h k))
def wl (G : Gx) (h : Hp) : va_W := lay.mapIdx (fun k L => (ga G k, cel G h k L))
/-- one place of one object is written -/
def hw (h : Hp) (o k : Nat) (x : Nat) : Hp := fun a j => if a = o ∧ j = k then x else h a j
theorem wl_at {G : Gx} {h : Hp} {k : Nat} {L : Ly} (hk : lay[k]? = some L) : (wl G h)[k]? = some (ga G k, cel G h k L) := by
  simp [wl, hk]
theorem wl_hw {G : Gx} {h : Hp} {o k : Nat} {x : Nat} {L : Ly} {e : va_E} (hk : lay[o]? = some L) (he : cel G (hw h o k x) o L = e) : (wl G h).set o (ga G o, e) = wl G (hw h o k x) := by
  apply List.ext_getElem?
  intro i
  have ho : o < lay.length := (List.getElem?_eq_some_iff.mp hk).1
  rw [List.getElem?_set]
  by_cases hi : o = i
  · subst hi
    rw [if_pos rfl, wl_at hk, he]
    simp [wl, ho]
  · rw [if_neg hi]
    simp only [wl, List.getElem?_mapIdx]
    cases hl : lay[i]? with
    | none => rfl
    | some L' =>
      have hne : ¬ i = o := fun e => hi e.symm
      have h1 : hw h o k x i = h i := by funext j; simp [hw, hne]
      have h2 : ∀ j f, fvv G (hw h o k x) i j f = fvv G h i j f := fun j f => by cases f <;> simp [fvv, h1]
      simp only [Option.map_some]
      congr 2
      unfold cel
      match L' with
      | .inl q => simp [h1]
      | .inr (.inl rs) => rfl
      | .inr (.inr q) =>
        simp only
        congr 2
        exact congrArg (fun f => List.mapIdx f q.2) (funext fun j => funext fun f => (h2 j f).symm)
theorem cel_hwA {G : Gx} {h : Hp} {o k : Nat} {x : Nat} {q : Nat × Nat} : cel G (hw h o k x) o (.inl q) = .inl (if q.1 = 0 then G.2.1.1 else G.2.1.2.1, q.2, .inl (upd (fun j => nI (h o j)) k (nI x))) := by
  have e : (fun j => nI (hw h o k x o j)) = upd (fun j => nI (h o j)) k (nI x) := by
    funext j
    by_cases hj : j = k <;> simp [hw, upd, hj]
  simp only [cel, e]
theorem cel_hwO {G : Gx} {h : Hp} {o k c : Nat} {x : Nat} {fs : List (Option Nat)} (hk : fs[k]? = some none) : cel G (hw h o k x) o (.inr (.inr (c, fs))) = .inr (c, (fs.mapIdx (fvv G h o)).set k (.int (nI x))) := by
  simp only [cel]
  congr 2
  apply List.ext_getElem?
  intro i
  have hl : k < fs.length := (List.getElem?_eq_some_iff.mp hk).1
  rw [List.getElem?_set]
  by_cases hi : k = i
  · subst hi
    rw [if_pos rfl, if_pos (by simpa using hl)]
    simp only [List.getElem?_mapIdx, hk, Option.map_some, fvv, hw, and_self, if_true]
  · rw [if_neg hi]
    simp only [List.getElem?_mapIdx]
    cases fs[i]? with
    | none => rfl
    | some f =>
      have hne : ¬ i = k := fun e => hi e.symm
      cases f <;> simp [fvv, hw, hne]
/-! a method: its name, bytes, locals, return type -/
abbrev MI : Type := MethodName × ByteArray × Nat × Option FieldType
def bigW : List Cond := lw_tbl.filter goodWord
def isNest : Cond → Bool
  | .methodLinkNest .. => true
  | _ => false
def nestW : List Cond := lw_tbl.filter isNest
def mW (M : MI) : List Cond := .code M.1 M.2.1 M.2.2.1 M.2.2.2 :: bigW
def rmD (d : Nat) : Room := { frames := d, cells := 0, slots := 0, locals := 36 * d }
def CX (M : MI) (p : Program) (s : State) (m : MethodId) (args : Array Value) (meth : Method) (c : Code) : Prop :=
  p.tables.exec = Jvm.exec ∧ c.code = M.2.1 ∧ meth.sig.returnType = M.2.2.2 ∧ c.maxLocals = M.2.2.1 ∧ s.vm.findClass M.1.cls = some m.cls ∧ (∀ w ∈ mW M, w.before args s = true) ∧ (∀ w ∈ nestW, va_Nw w s) ∧ meth.locks = false
def tysG (G : Gx) : List (ClassId × FieldType) := [(G.2.1.1, .int), (G.2.1.2.1, .char), (G.2.1.2.2, .object RX4)]
def WD (G : Gx) (h : Hp) (s : State) (H : Heap) (locs : List Loc) : Prop :=
  va_K G.1 vwCl (tysG G) s ∧ va_P G.1 vwCl (wl G h) H ∧ va_D (gA G) (wl G h) ∧ va_S (gA G) s.heap H locs ∧ (∀ q : Nat, s.heap.size ≤ q → gA G q)
def prs (ad : Nat → Nat) (lv : List (Option Value)) : List (Nat × Value) := (List.range lv.length).filterMap (fun i => match lv[i]? with
  | some (some v) => some (i, cv ad v)
  | _ => none)
def LV (G : Gx) (n : Nat) (ls : Array Slot) (lv : List (Option Value)) : Prop := lv.length = n ∧ lv_has ls n (prs (ga G) lv)
theorem prs_mem {ad : Nat → Nat} {lv : List (Option Value)} {i : Nat} {w : Value} : (i, w) ∈ prs ad lv ↔ ∃ v, lv[i]? = some (some v) ∧ w = cv ad v := by
  unfold prs
  rw [List.mem_filterMap]
  constructor
  · rintro ⟨a, -, h⟩
    cases hh : lv[a]? with
    | none => rw [hh] at h; cases h
    | some o =>
      cases o with
      | none => rw [hh] at h; cases h
      | some v =>
        rw [hh] at h
        simp only [Option.some.injEq, Prod.mk.injEq] at h
        obtain ⟨rfl, rfl⟩ := h
        exact ⟨v, hh, rfl⟩
  · rintro ⟨v, h, rfl⟩
    exact ⟨i, List.mem_range.mpr (List.getElem?_eq_some_iff.mp h).1, by rw [h]⟩
theorem LV.at {G : Gx} {n : Nat} {ls : Array Slot} {lv : List (Option Value)} {i : Nat} {v : Value} (h : LV G n ls lv) (hv : lv[i]? = some (some v)) : ls[i]? = some (.val (cv (ga G) v)) :=
  h.2.2.2 (i, cv (ga G) v) (prs_mem.mpr ⟨v, hv, rfl⟩)
def nolong (lv : List (Option Value)) (i : Nat) : Bool := match i with
  | 0 => true
  | i + 1 => match lv[i]? with
    | some (some (.long _)) => false
    | some (some (.double _)) => false
    | _ => true
theorem cv_cat (ad : Nat → Nat) (v : Value) : (cv ad v).category = v.category := by cases v <;> rfl
theorem nolong_cat {lv : List (Option Value)} {i : Nat} {v : Value} (h : nolong lv (i + 1) = true) (hv : lv[i]? = some (some v)) : v.category = 1 := by
  simp only [nolong, hv] at h
  cases v <;> first | rfl | simp at h
theorem LV.set1 {G : Gx} {n : Nat} {ls ls' : Array Slot} {lv : List (Option Value)} {i : Nat} {v : Value} (h : LV G n ls lv) (hn : nolong lv i = true)
    (h' : lv_has ls' n ((i, cv (ga G) v) :: (prs (ga G) lv).filter (fun q => !(q.1 == i) && !(q.1 + 1 == i && q.2.category == 2)))) : LV G n ls' (lv.set i (some v)) := by
  refine ⟨by rw [List.length_set]; exact h.1, h'.1, h'.2.1, ?_⟩
  rintro ⟨j, w⟩ hq
  obtain ⟨x, hx, rfl⟩ := prs_mem.mp hq
  refine h'.2.2 _ ?_
  rw [List.getElem?_set] at hx
  by_cases hj : i = j
  · subst hj
    rw [if_pos rfl] at hx
    by_cases hl : i < lv.length
    · rw [if_pos hl] at hx
      cases hx
      exact List.mem_cons_self
    · rw [if_neg hl] at hx; cases hx
  · rw [if_neg hj] at hx
    refine List.mem_cons_of_mem _ (List.mem_filter.mpr ⟨prs_mem.mpr ⟨x, hx, rfl⟩, ?_⟩)
    have h1 : (j == i) = false := by simpa using fun e => hj e.symm
    simp only [h1, Bool.not_false, Bool.true_and, Bool.not_eq_true', Bool.and_eq_false_imp]
    intro h2
    have h2 : j + 1 = i := by simpa using h2
    subst h2
    rw [cv_cat, nolong_cat hn hx]
    rfl
theorem LV.set2 {G : Gx} {n : Nat} {ls ls' : Array Slot} {lv : List (Option Value)} {i : Nat} {v : Value} (h : LV G n ls lv) (hn : nolong lv i = true)
    (h' : lv_has ls' n ((i, cv (ga G) v) :: (prs (ga G) lv).filter (fun q => !(q.1 == i) && (!(q.1 == i + 1) && !(q.1 + 1 == i && q.2.category == 2))))) : LV G n ls' ((lv.set (i + 1) none).set i (some v)) := by
  refine ⟨by simp only [List.length_set]; exact h.1, h'.1, h'.2.1, ?_⟩
  rintro ⟨j, w⟩ hq
  obtain ⟨x, hx, rfl⟩ := prs_mem.mp hq
  refine h'.2.2 _ ?_
  rw [List.getElem?_set] at hx
  by_cases hj : i = j
  · subst hj
    rw [if_pos rfl] at hx
    by_cases hl : i < (lv.set (i + 1) none).length
    · rw [if_pos hl] at hx
      cases hx
      exact List.mem_cons_self
    · rw [if_neg hl] at hx; cases hx
  · rw [if_neg hj, List.getElem?_set] at hx
    by_cases hj2 : i + 1 = j
    · rw [if_pos hj2] at hx
      split at hx <;> cases hx
    · rw [if_neg hj2] at hx
      refine List.mem_cons_of_mem _ (List.mem_filter.mpr ⟨prs_mem.mpr ⟨x, hx, rfl⟩, ?_⟩)
      have h1 : (j == i) = false := by simpa using fun e => hj e.symm
      have h1' : (j == i + 1) = false := by simpa using fun e => hj2 e.symm
      simp only [h1, h1', Bool.not_false, Bool.true_and, Bool.not_eq_true', Bool.and_eq_false_imp]
      intro h2
      have h2 : j + 1 = i := by simpa using h2
      subst h2
      rw [cv_cat, nolong_cat hn hx]
      rfl
/-! the judgement: from pc, with locals lv, stack st, world h, the method returns with Q -/
def Qo (G : Gx) (Q : Option Value → Hp → Prop) : Array Value → State → Outcome → State → Prop := fun _ st o t =>
  ∃ (v : Option Value) (h : Hp), o = .returned (v.map (cv (ga G))) ∧ Q v h ∧ va_P G.1 vwCl (wl G h) t.heap ∧ va_D (gA G) (wl G h) ∧ va_F (gA G) st t
def AW (M : MI) (d pc : Nat) (lv : List (Option Value)) (st : List Value) (h : Hp) (Q : Option Value → Hp → Prop) : Prop :=
  ∀ (p : Program) (l : Launch) (e : Env) (s : State) (m : MethodId) (args : Array Value) (below : List Frame) (meth : Method) (c : Code) (G : Gx) (H : Heap) (locs : List Loc) (ls : Array Slot),
    CX M p s m args meth c → WD G h s H locs → LV G M.2.2.1 ls lv →
    W p l e (rmD d) s m args below meth c H locs 0 0 (MQ below (Qo G Q) args s 0 0 (gA G)) (F0 m pc ls (st.map (cv (ga G))))
def lv0 (n : Nat) (as : List Value) : List (Option Value) := as.map some ++ List.replicate (n - as.length) none
/-- a method called with these arguments in this world returns with Q -/
def RT (M : MI) (d : Nat) (as : List Value) (h : Hp) (Q : Option Value → Hp → Prop) : Prop := AW M d 0 (lv0 M.2.2.1 as) [] h Q
