/-! the world of the class alone -/
def zlay : List Ly := [
  oO 7 [some 1, some 4, some 10, some 16, some 19, some 22, some 48, some 56, some 60, some 66],
  oO 5 [some 2, some 3, none, none], oC 200, oI 3,
  oO 1 [some 5, some 6, some 7, some 8, some 9, none, none], oI 8, oI 8, oI 8, oI 8, oI 8,
  oO 1 [some 11, some 12, some 13, some 14, some 15, none, none], oI 8, oI 8, oI 8, oI 8, oI 8,
  oO 4 [some 17, some 18, none], oI 8, oI 8,
  oO 4 [some 20, some 21, none], oI 8, oI 8,
  oO 0 [some 23, none], oR [24, 27, 30, 33, 36, 39, 42, 45],
  oO 4 [some 25, some 26, none], oI 8, oI 8, oO 4 [some 28, some 29, none], oI 8, oI 8,
  oO 4 [some 31, some 32, none], oI 8, oI 8, oO 4 [some 34, some 35, none], oI 8, oI 8,
  oO 4 [some 37, some 38, none], oI 8, oI 8, oO 4 [some 40, some 41, none], oI 8, oI 8,
  oO 4 [some 43, some 44, none], oI 8, oI 8, oO 4 [some 46, some 47, none], oI 8, oI 8,
  oO 0 [some 49, none], oR [50, 53],
  oO 4 [some 51, some 52, none], oI 8, oI 8, oO 4 [some 54, some 55, none], oI 8, oI 8,
  oO 3 [some 57, some 58, some 59, none], oI 8, oI 8, oI 8,
  oO 6 [some 4, some 61, some 64, some 65, none], oO 4 [some 62, some 63, none], oI 8, oI 8, oI 8, oI 8,
  oO 2 [some 4, some 60, none, none, none]]
def zwl (G : Gx) (h : Hp) : va_W := zlay.mapIdx (fun k L => (ga G k, cel G h k L))
theorem zwl_at {G : Gx} {h : Hp} {k : Nat} {L : Ly} (hk : zlay[k]? = some L) : (zwl G h)[k]? = some (ga G k, cel G h k L) := by
  simp [zwl, hk]
theorem zwl_hw {G : Gx} {h : Hp} {o k : Nat} {x : Nat} {L : Ly} {e : va_E} (hk : zlay[o]? = some L) (he : cel G (hw h o k x) o L = e) : (zwl G h).set o (ga G o, e) = zwl G (hw h o k x) := by
  apply List.ext_getElem?
  intro i
  have ho : o < zlay.length := (List.getElem?_eq_some_iff.mp hk).1
  rw [List.getElem?_set]
  by_cases hi : o = i
  · subst hi
    rw [if_pos rfl, zwl_at hk, he]
    simp [zwl, ho]
  · rw [if_neg hi]
    simp only [zwl, List.getElem?_mapIdx]
    cases hl : zlay[i]? with
    | none => rfl
    | some L' =>
      have hne : ¬ i = o := fun e => hi e.symm
      have h1 : hw h o k x i = h i := by funext j; simp [hw, hne]
      have h2 : ∀ j f, fvv G (hw h o k x) i j f = fvv G h i j f := fun j f => by cases f <;> simp [fvv, h1]
      simp only [Option.map_some]
      congr 2
      unfold cel
      match L' with
      | .inl q => simp [h1]
      | .inr (.inl rs) => rfl
      | .inr (.inr q) =>
        simp only
        congr 2
        exact congrArg (fun f => List.mapIdx f q.2) (funext fun j => funext fun f => (h2 j f).symm)
def zWD (G : Gx) (h : Hp) (s : State) (H : Heap) (locs : List Loc) : Prop :=
  va_K G.1 vwCl (tysG G) s ∧ va_P G.1 vwCl (zwl G h) H ∧ va_D (gA G) (zwl G h) ∧ va_S (gA G) s.heap H locs ∧ (∀ q : Nat, s.heap.size ≤ q → gA G q)
def zQo (G : Gx) (Q : Option Value → Hp → Prop) : Array Value → State → Outcome → State → Prop := fun _ st o t =>
  ∃ (v : Option Value) (h : Hp), o = .returned (v.map (cv (ga G))) ∧ Q v h ∧ va_P G.1 vwCl (zwl G h) t.heap ∧ va_D (gA G) (zwl G h) ∧ va_F (gA G) st t
def zAW (M : MI) (d pc : Nat) (lv : List (Option Value)) (st : List Value) (h : Hp) (Q : Option Value → Hp → Prop) : Prop :=
  ∀ (p : Program) (l : Launch) (e : Env) (s : State) (m : MethodId) (args : Array Value) (below : List Frame) (meth : Method) (c : Code) (G : Gx) (H : Heap) (locs : List Loc) (ls : Array Slot),
    CX M p s m args meth c → zWD G h s H locs → LV G M.2.2.1 ls lv →
    W p l e (rmD d) s m args below meth c H locs 0 0 (MQ below (zQo G Q) args s 0 0 (gA G)) (F0 m pc ls (st.map (cv (ga G))))
/-- a method called with these arguments in this world returns with Q -/
def zRT (M : MI) (d : Nat) (as : List Value) (h : Hp) (Q : Option Value → Hp → Prop) : Prop := zAW M d 0 (lv0 M.2.2.1 as) [] h Q

section ZAWR
variable {M : MI} {d pc : Nat} {lv : List (Option Value)} {st : List Value} {h : Hp} {Q : Option Value → Hp → Prop}
theorem zaw_iconst {n : Int} {v : Int32} (hd : decode M.2.1 pc = .ok (.iconst n, 1)) (hv : Int32.ofInt n = v) (kk : zAW M d (pc + 1) lv (.int v :: st) h Q) : zAW M d (pc) lv (st) h Q := by
  intro p l e s m args below meth c G H locs ls hc hwd hl
  obtain ⟨hx, hb, hr, hml, hown, hts, hns, hlk⟩ := id hc
  exact lv_iconst hx hb hd hv (kk p l e s m args below meth c G H locs ls hc hwd hl)
theorem zaw_bipush {n : Int} {v : Int32} (hd : decode M.2.1 pc = .ok (.bipush n, 2)) (hv : (Int8.ofInt n).toInt32 = v) (kk : zAW M d (pc + 2) lv (.int v :: st) h Q) : zAW M d (pc) lv (st) h Q := by
  intro p l e s m args below meth c G H locs ls hc hwd hl
  obtain ⟨hx, hb, hr, hml, hown, hts, hns, hlk⟩ := id hc
  exact lv_bipush hx hb hd hv (kk p l e s m args below meth c G H locs ls hc hwd hl)
theorem zaw_sipush {n : Int} {v : Int32} (hd : decode M.2.1 pc = .ok (.sipush n, 3)) (hv : (Int16.ofInt n).toInt32 = v) (kk : zAW M d (pc + 3) lv (.int v :: st) h Q) : zAW M d (pc) lv (st) h Q := by
  intro p l e s m args below meth c G H locs ls hc hwd hl
  obtain ⟨hx, hb, hr, hml, hown, hts, hns, hlk⟩ := id hc
  exact lv_sipush hx hb hd hv (kk p l e s m args below meth c G H locs ls hc hwd hl)
theorem zaw_iload_n {k : Fin 4} {i : Nat} {x : Int32} (hd : decode M.2.1 pc = .ok (.iload_n k, 1)) (hi : (k : Nat) = i) (hv : lv[i]? = some (some (.int x))) (kk : zAW M d (pc + 1) lv (.int x :: st) h Q) : zAW M d (pc) lv (st) h Q := by
  intro p l e s m args below meth c G H locs ls hc hwd hl
  obtain ⟨hx, hb, hr, hml, hown, hts, hns, hlk⟩ := id hc
  exact lv_iload_n hx hb hd hi (hl.at hv) (kk p l e s m args below meth c G H locs ls hc hwd hl)
theorem zaw_iload {i : Nat} {x : Int32} (hd : decode M.2.1 pc = .ok (.iload i, 2)) (hv : lv[i]? = some (some (.int x))) (kk : zAW M d (pc + 2) lv (.int x :: st) h Q) : zAW M d (pc) lv (st) h Q := by
  intro p l e s m args below meth c G H locs ls hc hwd hl
  obtain ⟨hx, hb, hr, hml, hown, hts, hns, hlk⟩ := id hc
  exact lv_iload hx hb hd (hl.at hv) (kk p l e s m args below meth c G H locs ls hc hwd hl)
theorem zaw_aload_n {k : Fin 4} {i : Nat} {x : Nat} (hd : decode M.2.1 pc = .ok (.aload_n k, 1)) (hi : (k : Nat) = i) (hv : lv[i]? = some (some (.ref x))) (kk : zAW M d (pc + 1) lv (.ref x :: st) h Q) : zAW M d (pc) lv (st) h Q := by
  intro p l e s m args below meth c G H locs ls hc hwd hl
  obtain ⟨hx, hb, hr, hml, hown, hts, hns, hlk⟩ := id hc
  exact lv_aload_n hx hb hd hi (hl.at hv) (kk p l e s m args below meth c G H locs ls hc hwd hl)
theorem zaw_istore_n {k : Fin 4} {i : Nat} {x : Int32} (hd : decode M.2.1 pc = .ok (.istore_n k, 1)) (hi : (k : Nat) = i) (hn : i < lv.length) (hg : nolong lv i = true) (kk : zAW M d (pc + 1) (lv.set i (some (.int x))) (st) h Q) : zAW M d (pc) lv (.int x :: st) h Q := by
  intro p l e s m args below meth c G H locs ls hc hwd hl
  obtain ⟨hx, hb, hr, hml, hown, hts, hns, hlk⟩ := id hc
  exact lv_istore_n hx hb hd hi hl.2 (by rw [← hl.1]; exact hn) rfl (fun ls' hl' => kk p l e s m args below meth c G H locs ls' hc hwd (hl.set1 (v := .int x) hg hl'))
theorem zaw_istore {i : Nat} {x : Int32} (hd : decode M.2.1 pc = .ok (.istore i, 2)) (hn : i < lv.length) (hg : nolong lv i = true) (kk : zAW M d (pc + 2) (lv.set i (some (.int x))) (st) h Q) : zAW M d (pc) lv (.int x :: st) h Q := by
  intro p l e s m args below meth c G H locs ls hc hwd hl
  obtain ⟨hx, hb, hr, hml, hown, hts, hns, hlk⟩ := id hc
  exact lv_istore hx hb hd hl.2 (by rw [← hl.1]; exact hn) rfl (fun ls' hl' => kk p l e s m args below meth c G H locs ls' hc hwd (hl.set1 (v := .int x) hg hl'))
theorem zaw_iinc {i : Nat} {n : Int} {x v : Int32} (hd : decode M.2.1 pc = .ok (.iinc i n, 3)) (hv : lv[i]? = some (some (.int x))) (hs : x + Int32.ofInt n = v) (hg : nolong lv i = true) (kk : zAW M d (pc + 3) (lv.set i (some (.int v))) (st) h Q) : zAW M d (pc) lv (st) h Q := by
  intro p l e s m args below meth c G H locs ls hc hwd hl
  obtain ⟨hx, hb, hr, hml, hown, hts, hns, hlk⟩ := id hc
  have hm : (i, Value.int x) ∈ prs (ga G) lv := prs_mem.mpr ⟨_, hv, rfl⟩
  obtain ⟨k, hk⟩ := List.getElem?_of_mem hm
  exact lv_iinc hx hb hd hl.2 hk hs (by rw [← hl.1]; exact (List.getElem?_eq_some_iff.mp hv).1) rfl (fun ls' hl' => kk p l e s m args below meth c G H locs ls' hc hwd (hl.set1 (v := .int v) hg hl'))
theorem zaw_dup {v : Value} (hd : decode M.2.1 pc = .ok (.dup, 1)) (hv : v.category = 1) (kk : zAW M d (pc + 1) lv (v :: v :: st) h Q) : zAW M d (pc) lv (v :: st) h Q := by
  intro p l e s m args below meth c G H locs ls hc hwd hl
  obtain ⟨hx, hb, hr, hml, hown, hts, hns, hlk⟩ := id hc
  exact lv_dup hx hb hd (by rw [cv_cat]; exact hv) (kk p l e s m args below meth c G H locs ls hc hwd hl)
theorem zaw_if_eq {x : Int32} {off : Int} {tgt : Nat} (hd : decode M.2.1 pc = .ok (.ifCond .eq off, 3)) (ht : (pc : Int) + off = (tgt : Int)) (kt : x = 0 → zAW M d (tgt) lv (st) h Q) (kf : ¬ x = 0 → zAW M d (pc + 3) lv (st) h Q) : zAW M d (pc) lv (.int x :: st) h Q := by
  intro p l e s m args below meth c G H locs ls hc hwd hl
  obtain ⟨hx, hb, hr, hml, hown, hts, hns, hlk⟩ := id hc
  exact lv_if_eq hx hb hd ht (fun q => kt q p l e s m args below meth c G H locs ls hc hwd hl) (fun q => kf q p l e s m args below meth c G H locs ls hc hwd hl)
theorem zaw_icmp_eq {x y : Int32} {off : Int} {tgt : Nat} (hd : decode M.2.1 pc = .ok (.if_icmp .eq off, 3)) (ht : (pc : Int) + off = (tgt : Int)) (kt : x = y → zAW M d (tgt) lv (st) h Q) (kf : ¬ x = y → zAW M d (pc + 3) lv (st) h Q) : zAW M d (pc) lv (.int y :: .int x :: st) h Q := by
  intro p l e s m args below meth c G H locs ls hc hwd hl
  obtain ⟨hx, hb, hr, hml, hown, hts, hns, hlk⟩ := id hc
  exact lv_icmp_eq hx hb hd ht (fun q => kt q p l e s m args below meth c G H locs ls hc hwd hl) (fun q => kf q p l e s m args below meth c G H locs ls hc hwd hl)
theorem zaw_if_ne {x : Int32} {off : Int} {tgt : Nat} (hd : decode M.2.1 pc = .ok (.ifCond .ne off, 3)) (ht : (pc : Int) + off = (tgt : Int)) (kt : ¬ x = 0 → zAW M d (tgt) lv (st) h Q) (kf : x = 0 → zAW M d (pc + 3) lv (st) h Q) : zAW M d (pc) lv (.int x :: st) h Q := by
  intro p l e s m args below meth c G H locs ls hc hwd hl
  obtain ⟨hx, hb, hr, hml, hown, hts, hns, hlk⟩ := id hc
  exact lv_if_ne hx hb hd ht (fun q => kt q p l e s m args below meth c G H locs ls hc hwd hl) (fun q => kf q p l e s m args below meth c G H locs ls hc hwd hl)
theorem zaw_icmp_ne {x y : Int32} {off : Int} {tgt : Nat} (hd : decode M.2.1 pc = .ok (.if_icmp .ne off, 3)) (ht : (pc : Int) + off = (tgt : Int)) (kt : ¬ x = y → zAW M d (tgt) lv (st) h Q) (kf : x = y → zAW M d (pc + 3) lv (st) h Q) : zAW M d (pc) lv (.int y :: .int x :: st) h Q := by
  intro p l e s m args below meth c G H locs ls hc hwd hl
  obtain ⟨hx, hb, hr, hml, hown, hts, hns, hlk⟩ := id hc
  exact lv_icmp_ne hx hb hd ht (fun q => kt q p l e s m args below meth c G H locs ls hc hwd hl) (fun q => kf q p l e s m args below meth c G H locs ls hc hwd hl)
theorem zaw_if_lt {x : Int32} {off : Int} {tgt : Nat} (hd : decode M.2.1 pc = .ok (.ifCond .lt off, 3)) (ht : (pc : Int) + off = (tgt : Int)) (kt : x < 0 → zAW M d (tgt) lv (st) h Q) (kf : ¬ x < 0 → zAW M d (pc + 3) lv (st) h Q) : zAW M d (pc) lv (.int x :: st) h Q := by
  intro p l e s m args below meth c G H locs ls hc hwd hl
  obtain ⟨hx, hb, hr, hml, hown, hts, hns, hlk⟩ := id hc
  exact lv_if_lt hx hb hd ht (fun q => kt q p l e s m args below meth c G H locs ls hc hwd hl) (fun q => kf q p l e s m args below meth c G H locs ls hc hwd hl)
theorem zaw_icmp_lt {x y : Int32} {off : Int} {tgt : Nat} (hd : decode M.2.1 pc = .ok (.if_icmp .lt off, 3)) (ht : (pc : Int) + off = (tgt : Int)) (kt : x < y → zAW M d (tgt) lv (st) h Q) (kf : ¬ x < y → zAW M d (pc + 3) lv (st) h Q) : zAW M d (pc) lv (.int y :: .int x :: st) h Q := by
  intro p l e s m args below meth c G H locs ls hc hwd hl
  obtain ⟨hx, hb, hr, hml, hown, hts, hns, hlk⟩ := id hc
  exact lv_icmp_lt hx hb hd ht (fun q => kt q p l e s m args below meth c G H locs ls hc hwd hl) (fun q => kf q p l e s m args below meth c G H locs ls hc hwd hl)
theorem zaw_icmp_ge {x y : Int32} {off : Int} {tgt : Nat} (hd : decode M.2.1 pc = .ok (.if_icmp .ge off, 3)) (ht : (pc : Int) + off = (tgt : Int)) (kt : y ≤ x → zAW M d (tgt) lv (st) h Q) (kf : ¬ y ≤ x → zAW M d (pc + 3) lv (st) h Q) : zAW M d (pc) lv (.int y :: .int x :: st) h Q := by
  intro p l e s m args below meth c G H locs ls hc hwd hl
  obtain ⟨hx, hb, hr, hml, hown, hts, hns, hlk⟩ := id hc
  exact lv_icmp_ge hx hb hd ht (fun q => kt q p l e s m args below meth c G H locs ls hc hwd hl) (fun q => kf q p l e s m args below meth c G H locs ls hc hwd hl)
theorem zaw_icmp_gt {x y : Int32} {off : Int} {tgt : Nat} (hd : decode M.2.1 pc = .ok (.if_icmp .gt off, 3)) (ht : (pc : Int) + off = (tgt : Int)) (kt : y < x → zAW M d (tgt) lv (st) h Q) (kf : ¬ y < x → zAW M d (pc + 3) lv (st) h Q) : zAW M d (pc) lv (.int y :: .int x :: st) h Q := by
  intro p l e s m args below meth c G H locs ls hc hwd hl
  obtain ⟨hx, hb, hr, hml, hown, hts, hns, hlk⟩ := id hc
  exact lv_icmp_gt hx hb hd ht (fun q => kt q p l e s m args below meth c G H locs ls hc hwd hl) (fun q => kf q p l e s m args below meth c G H locs ls hc hwd hl)
theorem zaw_goto {off : Int} {tgt : Nat} (hd : decode M.2.1 pc = .ok (.goto off, 3)) (ht : (pc : Int) + off = (tgt : Int)) (kk : zAW M d (tgt) lv (st) h Q) : zAW M d (pc) lv (st) h Q := by
  intro p l e s m args below meth c G H locs ls hc hwd hl
  obtain ⟨hx, hb, hr, hml, hown, hts, hns, hlk⟩ := id hc
  exact lv_goto hx hb hd ht (kk p l e s m args below meth c G H locs ls hc hwd hl)
theorem zaw_getfield {idx ci k a : Nat} {fs : List (Option Nat)} {f : Option Nat} (hd : decode M.2.1 pc = .ok (.getfield idx, 3)) (hf : FL M.1.cls idx ci k) (ho : zlay[a]? = some (oO ci fs)) (hk : fs[k]? = some f) (kk : zAW M d (pc + 3) lv (fv h a k f :: st) h Q) : zAW M d (pc) lv (.ref a :: st) h Q := by
  intro p l e s m args below meth c G H locs ls hc hwd hl
  obtain ⟨hx, hb, hr, hml, hown, hts, hns, hlk⟩ := id hc
  obtain ⟨C, T, N, ty, hC, hkN, hlk2, hin, hty, hnm⟩ := hf
  obtain ⟨hK, hP, hD, hS, hA⟩   := id hwd
  refine va_get (ws := zwl G h) (T := T) (Ts := mW M) hx hb hts (fun w q => List.mem_cons_of_mem _ (hin w q)) hown hK hP a (zwl_at ho) hC k hkN (hbig hts hlk2) (fun _ h9 => h9) (v := fvv G h a k f) (by simp [hk]) hd ?_
  have := kk p l e s m args below meth c G H locs ls hc hwd hl
  simp only [List.map_cons, cv_fv] at this
  exact this
theorem zaw_putfield {idx ci k a x : Nat} {fs : List (Option Nat)} (hd : decode M.2.1 pc = .ok (.putfield idx, 3)) (hf : FW M.1.cls idx ci k) (ho : zlay[a]? = some (oO ci fs)) (hk : fs[k]? = some none) (kk : zAW M d (pc + 3) lv (st) (hw h a k x) Q) : zAW M d (pc) lv (.int (nI x) :: .ref a :: st) h Q := by
  intro p l e s m args below meth c G H locs ls hc hwd hl
  obtain ⟨hx, hb, hr, hml, hown, hts, hns, hlk⟩ := id hc
  obtain ⟨C, T, N, ty, hC, hkN, hlk2, hin, hty, hnm, hfin, htyi⟩ := hf
  obtain ⟨hK, hP, hD, hS, hA⟩   := id hwd
  refine va_put (ws := zwl G h) (T := T) (Ts := mW M) (ty := .int) (v := .int (nI x)) hx hb hts (fun w q => List.mem_cons_of_mem _ (hin w q)) ty hty hnm hown hK hP hD hS a (zwl_at ho) hC k hkN (hbig hts hlk2) (fun _ h9 => h9) hfin (by rw [hty k hkN, htyi]) rfl rfl (by simp [(List.getElem?_eq_some_iff.mp hk).1]) hd (fun H1 locs1 hP1 hD1 hS1 => ?_)
  rw [zwl_hw (x := x) (k := k) ho (cel_hwO hk)] at hP1 hD1
  exact kk p l e s m args below meth c G H1 locs1 ls hc ⟨hK, hP1, hD1, hS1, hA⟩ hl
theorem zaw_iaload {a n i : Nat} (hd : decode M.2.1 pc = .ok (.iaload, 1)) (ho : zlay[a]? = some (oI n)) (hi : i < n) (hn : n < 2 ^ 31) (kk : zAW M d (pc + 1) lv (.int (nI (h a i)) :: st) h Q) : zAW M d (pc) lv (.int (nI i) :: .ref a :: st) h Q := by
  intro p l e s m args below meth c G H locs ls hc hwd hl
  obtain ⟨hx, hb, hr, hml, hown, hts, hns, hlk⟩ := id hc
  obtain ⟨hK, hP, hD, hS, hA⟩   := id hwd
  refine va_iald (ws := zwl G h) hx hb hK hP a 0 (zwl_at ho) rfl (vp_in_nI hi hn) hd ?_
  rw [nI_clamp (Nat.lt_trans hi hn)]
  exact (kk p l e s m args below meth c G H locs ls hc hwd hl)
theorem zaw_caload {a n i : Nat} (hd : decode M.2.1 pc = .ok (.caload, 1)) (ho : zlay[a]? = some (oC n)) (hi : i < n) (hn : n < 2 ^ 31) (kk : zAW M d (pc + 1) lv (.int (nI (h a i)) :: st) h Q) : zAW M d (pc) lv (.int (nI i) :: .ref a :: st) h Q := by
  intro p l e s m args below meth c G H locs ls hc hwd hl
  obtain ⟨hx, hb, hr, hml, hown, hts, hns, hlk⟩ := id hc
  obtain ⟨hK, hP, hD, hS, hA⟩   := id hwd
  refine va_cald (ws := zwl G h) hx hb hK hP a 1 (zwl_at ho) rfl (vp_in_nI hi hn) hd ?_
  rw [nI_clamp (Nat.lt_trans hi hn)]
  exact (kk p l e s m args below meth c G H locs ls hc hwd hl)
theorem zaw_iastore {a n i x : Nat} (hd : decode M.2.1 pc = .ok (.iastore, 1)) (ho : zlay[a]? = some (oI n)) (hi : i < n) (hn : n < 2 ^ 31) (kk : zAW M d (pc + 1) lv (st) (hw h a i x) Q) : zAW M d (pc) lv (.int (nI x) :: .int (nI i) :: .ref a :: st) h Q := by
  intro p l e s m args below meth c G H locs ls hc hwd hl
  obtain ⟨hx, hb, hr, hml, hown, hts, hns, hlk⟩ := id hc
  obtain ⟨hK, hP, hD, hS, hA⟩ := id hwd
  refine va_iast (ws := zwl G h) hx hb hK hP hD hS a 0 (zwl_at ho) rfl (vp_in_nI hi hn) hd (fun H1 locs1 hP1 hD1 hS1 => ?_)
  rw [nI_clamp (Nat.lt_trans hi hn)] at hP1 hD1
  have he := zwl_hw (G := G) (h := h) (x := x) (k := i) ho cel_hwA
  have hP1 : va_P G.1 vwCl (zwl G (hw h a i x)) H1 := by rw [← he]; exact hP1
  have hD1 : va_D (gA G) (zwl G (hw h a i x)) := by rw [← he]; exact hD1
  exact kk p l e s m args below meth c G H1 locs1 ls hc ⟨hK, hP1, hD1, hS1, hA⟩ hl
theorem zaw_castore {a n i x : Nat} (hd : decode M.2.1 pc = .ok (.castore, 1)) (ho : zlay[a]? = some (oC n)) (hi : i < n) (hn : n < 2 ^ 31) (hx0 : x < 65536) (kk : zAW M d (pc + 1) lv (st) (hw h a i x) Q) : zAW M d (pc) lv (.int (nI x) :: .int (nI i) :: .ref a :: st) h Q := by
  intro p l e s m args below meth c G H locs ls hc hwd hl
  obtain ⟨hx, hb, hr, hml, hown, hts, hns, hlk⟩ := id hc
  obtain ⟨hK, hP, hD, hS, hA⟩ := id hwd
  refine va_cast (ws := zwl G h) hx hb hK hP hD hS a 1 (zwl_at ho) rfl (vp_in_nI hi hn) hd (fun H1 locs1 hP1 hD1 hS1 => ?_)
  have hnar : vp_nar .char (nI x) = nI x := by unfold vp_nar; rw [(pk_charN hx0).1]
  rw [nI_clamp (Nat.lt_trans hi hn), hnar] at hP1 hD1
  have he := zwl_hw (G := G) (h := h) (x := x) (k := i) ho cel_hwA
  have hP1 : va_P G.1 vwCl (zwl G (hw h a i x)) H1 := by rw [← he]; exact hP1
  have hD1 : va_D (gA G) (zwl G (hw h a i x)) := by rw [← he]; exact hD1
  exact kk p l e s m args below meth c G H1 locs1 ls hc ⟨hK, hP1, hD1, hS1, hA⟩ hl
theorem zaw_alen {a n : Nat} (hd : decode M.2.1 pc = .ok (.arraylength, 1)) (ho : zlay[a]? = some (oI n)) (kk : zAW M d (pc + 1) lv (.int (nI n) :: st) h Q) : zAW M d (pc) lv (.ref a :: st) h Q := by
  intro p l e s m args below meth c G H locs ls hc hwd hl
  obtain ⟨hx, hb, hr, hml, hown, hts, hns, hlk⟩ := id hc
  obtain ⟨hK, hP, hD, hS, hA⟩   := id hwd
  exact va_alen (ws := zwl G h) hx hb hK hP a 0 (zwl_at ho) rfl rfl hd (kk p l e s m args below meth c G H locs ls hc hwd hl)
theorem zaw_alenC {a n : Nat} (hd : decode M.2.1 pc = .ok (.arraylength, 1)) (ho : zlay[a]? = some (oC n)) (kk : zAW M d (pc + 1) lv (.int (nI n) :: st) h Q) : zAW M d (pc) lv (.ref a :: st) h Q := by
  intro p l e s m args below meth c G H locs ls hc hwd hl
  obtain ⟨hx, hb, hr, hml, hown, hts, hns, hlk⟩ := id hc
  obtain ⟨hK, hP, hD, hS, hA⟩   := id hwd
  exact va_alen (ws := zwl G h) hx hb hK hP a 1 (zwl_at ho) rfl rfl hd (kk p l e s m args below meth c G H locs ls hc hwd hl)
theorem zaw_iret {x : Int32} {ty : FieldType} (hd : decode M.2.1 pc = .ok (.ireturn, 1)) (hr0 : M.2.2.2 = some ty) (hn : narrow ty (.int x) = .int x) (hq : Q (some (.int x)) h) : zAW M d (pc) lv ([.int x]) h Q := by
  intro p l e s m args below meth c G H locs ls hc hwd hl
  obtain ⟨hx, hb, hr, hml, hown, hts, hns, hlk⟩ := id hc
  obtain ⟨hK, hP, hD, hS, hA⟩   := id hwd
  exact W.zret (v := x) hx hb (hr.trans hr0) hn (fun t ht hW => ⟨some (.int x), h, rfl, hq, by rw [ht]; exact hP, hD, hS.F ht⟩) hS.2.2 hd hlk
theorem zaw_vret (hd : decode M.2.1 pc = .ok (.return_, 1)) (hr0 : M.2.2.2 = none) (hq : Q none h) : zAW M d (pc) lv ([]) h Q := by
  intro p l e s m args below meth c G H locs ls hc hwd hl
  obtain ⟨hx, hb, hr, hml, hown, hts, hns, hlk⟩ := id hc
  obtain ⟨hK, hP, hD, hS, hA⟩   := id hwd
  exact W.vret hx hb (hr.trans hr0) (fun t ht hW => ⟨none, h, rfl, hq, by rw [ht]; exact hP, hD, hS.F ht⟩) hS.2.2 hd hlk
theorem zaw_iaddN {x y : Nat} (hd : decode M.2.1 pc = .ok (.iadd, 1)) (kk : zAW M d (pc + 1) lv (.int (nI (x + y)) :: st) h Q) : zAW M d (pc) lv (.int (nI y) :: .int (nI x) :: st) h Q := by
  intro p l e s m args below meth c G H locs ls hc hwd hl
  obtain ⟨hx, hb, hr, hml, hown, hts, hns, hlk⟩ := id hc
  refine lv_iadd hx hb hd ?_
  rw [nI_add]
  exact (kk p l e s m args below meth c G H locs ls hc hwd hl)
theorem zaw_imulN {x y : Nat} (hd : decode M.2.1 pc = .ok (.imul, 1)) (kk : zAW M d (pc + 1) lv (.int (nI (x * y)) :: st) h Q) : zAW M d (pc) lv (.int (nI y) :: .int (nI x) :: st) h Q := by
  intro p l e s m args below meth c G H locs ls hc hwd hl
  obtain ⟨hx, hb, hr, hml, hown, hts, hns, hlk⟩ := id hc
  refine lv_imul hx hb hd ?_
  rw [pk_mul]
  exact (kk p l e s m args below meth c G H locs ls hc hwd hl)
theorem zaw_isubN {x y : Nat} (hd : decode M.2.1 pc = .ok (.isub, 1)) (hle : y ≤ x) (kk : zAW M d (pc + 1) lv (.int (nI (x - y)) :: st) h Q) : zAW M d (pc) lv (.int (nI y) :: .int (nI x) :: st) h Q := by
  intro p l e s m args below meth c G H locs ls hc hwd hl
  obtain ⟨hx, hb, hr, hml, hown, hts, hns, hlk⟩ := id hc
  refine lv_isub hx hb hd ?_
  rw [pk_sub hle]
  exact (kk p l e s m args below meth c G H locs ls hc hwd hl)
theorem zaw_iincN {i v x : Nat} (hd : decode M.2.1 pc = .ok (.iinc i v, 3)) (hv : lv[i]? = some (some (.int (nI x)))) (hg : nolong lv i = true) (kk : zAW M d (pc + 3) (lv.set i (some (.int (nI (x + v))))) (st) h Q) : zAW M d (pc) lv (st) h Q := by
  intro p l e s m args below meth c G H locs ls hc hwd hl
  obtain ⟨hx, hb, hr, hml, hown, hts, hns, hlk⟩ := id hc
  exact zaw_iinc hd hv (by rw [show Int32.ofInt (v : Int) = nI v from rfl, nI_add]) hg kk p l e s m args below meth c G H locs ls hc hwd hl
theorem zaw_icmp_eqN {x y : Nat} {off : Int} {tgt : Nat} (hd : decode M.2.1 pc = .ok (.if_icmp .eq off, 3)) (ht : (pc : Int) + off = (tgt : Int)) (hx0 : x < 2 ^ 31) (hy0 : y < 2 ^ 31) (kt : x = y → zAW M d (tgt) lv (st) h Q) (kf : ¬ x = y → zAW M d (pc + 3) lv (st) h Q) : zAW M d (pc) lv (.int (nI y) :: .int (nI x) :: st) h Q := by
  intro p l e s m args below meth c G H locs ls hc hwd hl
  obtain ⟨hx, hb, hr, hml, hown, hts, hns, hlk⟩ := id hc
  exact zaw_icmp_eq hd ht (fun q => kt (by rw [nI_eq hx0 hy0] at q; exact q)) (fun q => kf (by rw [nI_eq hx0 hy0] at q; exact q)) p l e s m args below meth c G H locs ls hc hwd hl
theorem zaw_icmp_neN {x y : Nat} {off : Int} {tgt : Nat} (hd : decode M.2.1 pc = .ok (.if_icmp .ne off, 3)) (ht : (pc : Int) + off = (tgt : Int)) (hx0 : x < 2 ^ 31) (hy0 : y < 2 ^ 31) (kt : ¬ x = y → zAW M d (tgt) lv (st) h Q) (kf : x = y → zAW M d (pc + 3) lv (st) h Q) : zAW M d (pc) lv (.int (nI y) :: .int (nI x) :: st) h Q := by
  intro p l e s m args below meth c G H locs ls hc hwd hl
  obtain ⟨hx, hb, hr, hml, hown, hts, hns, hlk⟩ := id hc
  exact zaw_icmp_ne hd ht (fun q => kt (by rw [nI_eq hx0 hy0] at q; exact q)) (fun q => kf (by rw [nI_eq hx0 hy0] at q; exact q)) p l e s m args below meth c G H locs ls hc hwd hl
theorem zaw_icmp_ltN {x y : Nat} {off : Int} {tgt : Nat} (hd : decode M.2.1 pc = .ok (.if_icmp .lt off, 3)) (ht : (pc : Int) + off = (tgt : Int)) (hx0 : x < 2 ^ 31) (hy0 : y < 2 ^ 31) (kt : x < y → zAW M d (tgt) lv (st) h Q) (kf : ¬ x < y → zAW M d (pc + 3) lv (st) h Q) : zAW M d (pc) lv (.int (nI y) :: .int (nI x) :: st) h Q := by
  intro p l e s m args below meth c G H locs ls hc hwd hl
  obtain ⟨hx, hb, hr, hml, hown, hts, hns, hlk⟩ := id hc
  exact zaw_icmp_lt hd ht (fun q => kt (by rw [nI_ltI hx0 hy0] at q; exact q)) (fun q => kf (by rw [nI_ltI hx0 hy0] at q; exact q)) p l e s m args below meth c G H locs ls hc hwd hl
theorem zaw_icmp_geN {x y : Nat} {off : Int} {tgt : Nat} (hd : decode M.2.1 pc = .ok (.if_icmp .ge off, 3)) (ht : (pc : Int) + off = (tgt : Int)) (hx0 : x < 2 ^ 31) (hy0 : y < 2 ^ 31) (kt : y ≤ x → zAW M d (tgt) lv (st) h Q) (kf : ¬ y ≤ x → zAW M d (pc + 3) lv (st) h Q) : zAW M d (pc) lv (.int (nI y) :: .int (nI x) :: st) h Q := by
  intro p l e s m args below meth c G H locs ls hc hwd hl
  obtain ⟨hx, hb, hr, hml, hown, hts, hns, hlk⟩ := id hc
  exact zaw_icmp_ge hd ht (fun q => kt (by rw [nI_leI hy0 hx0] at q; exact q)) (fun q => kf (by rw [nI_leI hy0 hx0] at q; exact q)) p l e s m args below meth c G H locs ls hc hwd hl
theorem zaw_icmp_gtN {x y : Nat} {off : Int} {tgt : Nat} (hd : decode M.2.1 pc = .ok (.if_icmp .gt off, 3)) (ht : (pc : Int) + off = (tgt : Int)) (hx0 : x < 2 ^ 31) (hy0 : y < 2 ^ 31) (kt : y < x → zAW M d (tgt) lv (st) h Q) (kf : ¬ y < x → zAW M d (pc + 3) lv (st) h Q) : zAW M d (pc) lv (.int (nI y) :: .int (nI x) :: st) h Q := by
  intro p l e s m args below meth c G H locs ls hc hwd hl
  obtain ⟨hx, hb, hr, hml, hown, hts, hns, hlk⟩ := id hc
  exact zaw_icmp_gt hd ht (fun q => kt (by rw [nI_ltI hy0 hx0] at q; exact q)) (fun q => kf (by rw [nI_ltI hy0 hx0] at q; exact q)) p l e s m args below meth c G H locs ls hc hwd hl
theorem zaw_if_eqN {x : Nat} {off : Int} {tgt : Nat} (hd : decode M.2.1 pc = .ok (.ifCond .eq off, 3)) (ht : (pc : Int) + off = (tgt : Int)) (hx0 : x < 2 ^ 31) (kt : x = 0 → zAW M d (tgt) lv (st) h Q) (kf : ¬ x = 0 → zAW M d (pc + 3) lv (st) h Q) : zAW M d (pc) lv (.int (nI x) :: st) h Q := by
  intro p l e s m args below meth c G H locs ls hc hwd hl
  obtain ⟨hx, hb, hr, hml, hown, hts, hns, hlk⟩ := id hc
  exact zaw_if_eq hd ht (fun q => kt (by rw [← nI_0, nI_eq hx0 (by decide)] at q; exact q)) (fun q => kf (by rw [← nI_0, nI_eq hx0 (by decide)] at q; exact q)) p l e s m args below meth c G H locs ls hc hwd hl
theorem zaw_if_neN {x : Nat} {off : Int} {tgt : Nat} (hd : decode M.2.1 pc = .ok (.ifCond .ne off, 3)) (ht : (pc : Int) + off = (tgt : Int)) (hx0 : x < 2 ^ 31) (kt : ¬ x = 0 → zAW M d (tgt) lv (st) h Q) (kf : x = 0 → zAW M d (pc + 3) lv (st) h Q) : zAW M d (pc) lv (.int (nI x) :: st) h Q := by
  intro p l e s m args below meth c G H locs ls hc hwd hl
  obtain ⟨hx, hb, hr, hml, hown, hts, hns, hlk⟩ := id hc
  exact zaw_if_ne hd ht (fun q => kt (by rw [← nI_0, nI_eq hx0 (by decide)] at q; exact q)) (fun q => kf (by rw [← nI_0, nI_eq hx0 (by decide)] at q; exact q)) p l e s m args below meth c G H locs ls hc hwd hl
theorem zaw_if_ltN {x : Nat} {off : Int} {tgt : Nat} (hd : decode M.2.1 pc = .ok (.ifCond .lt off, 3)) (ht : (pc : Int) + off = (tgt : Int)) (hx0 : x < 2 ^ 31) (kt : x < 0 → zAW M d (tgt) lv (st) h Q) (kf : ¬ x < 0 → zAW M d (pc + 3) lv (st) h Q) : zAW M d (pc) lv (.int (nI x) :: st) h Q := by
  intro p l e s m args below meth c G H locs ls hc hwd hl
  obtain ⟨hx, hb, hr, hml, hown, hts, hns, hlk⟩ := id hc
  exact zaw_if_lt hd ht (fun q => kt (by rw [← nI_0, nI_ltI hx0 (by decide)] at q; exact q)) (fun q => kf (by rw [← nI_0, nI_ltI hx0 (by decide)] at q; exact q)) p l e s m args below meth c G H locs ls hc hwd hl
theorem zaw_mmax {idx : Nat} {x y : Int32} (hd : decode M.2.1 pc = .ok (.invokestatic idx, 3)) (hk : Cond.methodLink M.1.cls idx Lib.Math.max.name ∈ bigW ∧ Cond.static Lib.Math.max.name ∈ bigW ∧ Cond.initialized "java/lang/Math" ∈ bigW ∧ Cond.code Lib.Math.max.name Lib.Math.max.code 2 (some .int) ∈ bigW) (hz : (st.map fun v => v.category).sum ≤ 8) (kk : zAW M (d + 1) (pc + 3) lv (.int (if x < y then y else x) :: st) h Q) : zAW M (d + 1) pc lv (.int y :: .int x :: st) h Q := by
  intro p l e s m args below meth c G H locs ls hc hwd hl
  obtain ⟨hx, hb, hr, hml, hown, hts, hns, hlk⟩ := id hc
  have hz1 : ((st.map (cv (ga G))).map fun v => v.category).sum + 13 ≤ (rmD (d + 1)).locals := by
    rw [cats_cv]
    show _ + 13 ≤ 36 * (d + 1)
    omega
  have hz2 : 1 ≤ (rmD (d + 1)).frames := Nat.succ_le_succ (Nat.zero_le d)
  exact va_mmax (R := rmD (d + 1)) (rest := st.map (cv (ga G))) hx hb (by rw [hml]; exact hl.2.1.symm) hown (hbig hts hk.1) (hbig hts hk.2.1) (hbig hts hk.2.2.1) (hbig hts hk.2.2.2) hz2 hz1 (Nat.zero_le _) (Nat.zero_le _) hd (kk p l e s m args below meth c G H locs ls hc hwd hl)
end ZAWR

def zPcO (G : Gx) (as : List Value) (h : Hp) : Array Value → State → Prop := fun v U =>
  v = (as.map (cv (ga G))).toArray ∧ va_K G.1 vwCl (tysG G) U ∧ va_P G.1 vwCl (zwl G h) U.heap ∧ va_D (gA G) (zwl G h) ∧ (∀ q : Nat, U.heap.size ≤ q → gA G q) ∧ (∀ w ∈ nestW, va_Nw w U)
theorem zPcO.blind (G : Gx) (as : List Value) (h : Hp) : FrameBlind (zPcO G as h) := by
  rintro a U g mk ⟨q0, qK, qP, qD, qA, qN⟩
  refine ⟨q0, va_K.moved (u := U) (U := U.calling g mk a) (Vm.Alike.refl U.vm) qK, qP, qD, qA, fun w hw => ?_⟩
  have hm : isNest w = true := (List.mem_filter.mp hw).2
  cases w <;> first | (simp [isNest] at hm; done) | exact va_Nw.same rfl rfl (qN _ hw)
theorem zPcO.pre {G : Gx} {as : List Value} {h : Hp} {s : State} {H : Heap} {locs : List Loc} (hwd : zWD G h s H locs) (hns : ∀ w ∈ nestW, va_Nw w s) : ∀ U : State, U.heap = H → s.WarmedH U.vm → zPcO G as h (as.map (cv (ga G))).toArray U := by
  obtain ⟨hK, hP, hD, hS, hA⟩ := hwd
  intro U hU hW
  refine ⟨rfl, va_K.moved hW.alike hK, by rw [hU]; exact hP, hD, fun q hq => hA q (Nat.le_trans hS.1 (by rw [hU] at hq; exact hq)), fun w hw => ?_⟩
  have hm : isNest w = true := (List.mem_filter.mp hw).2
  cases w <;> first | (simp [isNest] at hm; done) | exact va_Nw.warmM hW (hns _ hw)
theorem zRT.met {M : MI} {d : Nat} {as : List Value} {h : Hp} {Q : Option Value → Hp → Prop} (hR : zRT M d as h Q) (hpl : plainFor M.1 = true) (hcat : ∀ w ∈ as, w.category = 1) (hlen : as.length ≤ M.2.2.1) (l : Launch) (G : Gx) :
    Met l M.1 (mW M) (rmD d) (zPcO G as h) (zQo G Q) 0 0 (gA G) := by
  refine va_MetF (cc := M.2.1) (maxL := M.2.2.1) (ret := M.2.2.2) hpl rfl ?_
  intro p e s m args below meth c s₁ B hml hv
  obtain ⟨rfl, hK, hP, hD, hA, hN⟩ := hv
  have hsl : (lg_sl (as.map (cv (ga G)))).length = as.length := by
    unfold lg_sl
    rw [List.length_flatMap]
    have : ∀ l : List Value, (∀ w ∈ l, w.category = 1) → ((l.map (cv (ga G))).map (fun v => (if v.category = 2 then [Slot.val v, .second] else [.val v]).length)).sum = l.length := by
      intro l
      induction l with
      | nil => intro _; rfl
      | cons w l ih =>
        intro hc
        have hw : (cv (ga G) w).category = 1 := by rw [cv_cat]; exact hc w List.mem_cons_self
        simp only [List.map_cons, List.sum_cons, hw]
        rw [ih (fun x hx => hc x (List.mem_cons_of_mem _ hx))]
        simp
        omega
    exact this as hcat
  have hl := lv_entry (as.map (cv (ga G))) (n := M.2.2.1) (by rw [hsl]; exact hlen)
  rw [lg_entry_eq]
  generalize (lg_sl (as.map (cv (ga G))) ++ List.replicate (M.2.2.1 - (lg_sl (as.map (cv (ga G)))).length) Slot.unset).toArray = ls at hl ⊢
  have hLV : LV G M.2.2.1 ls (lv0 M.2.2.1 as) := by
    refine ⟨by simp [lv0]; omega, hl.1, hl.2.1, ?_⟩
    rintro ⟨i, w⟩ hq
    obtain ⟨v, hv, rfl⟩ := prs_mem.mp hq
    have h1 := lv_args_mem (as.map (cv (ga G))) 0 i (cv (ga G) v) (fun w hw => by
      obtain ⟨x, hx, rfl⟩ := List.mem_map.mp hw
      rw [cv_cat]; exact hcat x hx) (by rw [List.getElem?_map, lv0_at hv]; rfl)
    rw [Nat.zero_add] at h1
    exact hl.2.2 _ h1
  exact hR p l e s m _ below meth c G s.heap [] ls ⟨B.exec, B.bytes, B.returns, hml, findClass_of_methodNamed B.named, atoms_spec (ws := mW M) B.pre, hN, B.notSynchronized⟩ ⟨hK, hP, hD, va_S.rf, hA⟩ hLV
theorem zaw_run {M : MI} {d pc : Nat} {st0 st : List Value} {h : Hp} {Q Q' : Option Value → Hp → Prop} {lv : List (Option Value)} {a : Array Value}
    (kk : ∀ v h', Q' v h' → zAW M d (pc + 3) lv (v.toList ++ st) h' Q)
    {p : Program} {l : Launch} {e : Env} {s : State} {m : MethodId} {args : Array Value} {below : List Frame} {meth : Method} {c : Code} {G : Gx} {H : Heap} {locs : List Loc} {ls : Array Slot}
    (hc : CX M p s m args meth c) (hwd : zWD G h s H locs) (hl : LV G M.2.2.1 ls lv)
    (hr : va_Run p l e (rmD d) s m args below meth c H locs 0 0 0 0 (F0 m pc ls st0) (st.map (cv (ga G))) (zQo G Q' a) (gA G)) :
    W p l e (rmD d) s m args below meth c H locs 0 0 (MQ below (zQo G Q) args s 0 0 (gA G)) (F0 m pc ls st0) := by
  obtain ⟨hK, hP, hD, hS, hA⟩ := hwd
  intro T hT X
  obtain ⟨v, st₀, t, T', L, h0, X', hL, e1, e2, ⟨v', h', hv, hq, hP', hD', hz, hk⟩, stp⟩ := hr T hT X
  have hv : v = v'.map (cv (ga G)) := Outcome.returned.inj hv
  subst hv
  rw [h0] at hz hk
  have hS' : va_S (gA G) s.heap T'.heap (locs ++ L) := by
    refine ⟨Nat.le_trans hS.1 (by rw [e1]; exact hz), fun q h1 h2 => ?_, fun q hq => ?_⟩
    · rw [e1, hk q (Nat.lt_of_lt_of_le h1 hS.1) h2]
      exact hS.2.1 q h1 h2
    · rcases List.mem_append.mp hq with h | h
      · exact hS.2.2 q h
      · exact hL q h
  obtain ⟨t2, a1, b1⟩ := kk v' h' hq p l e s m args below meth c G T'.heap (locs ++ L) ls hc ⟨hK, by rw [e1]; exact hP', hD', hS', hA⟩ hl T' rfl X'
  refine ⟨t2, stp t2 ?_, b1⟩
  cases v' <;> exact a1
theorem zaw_callS {M M' : MI} {d pc idx n : Nat} {as st0 st : List Value} {h : Hp} {Q Q' : Option Value → Hp → Prop} {lv : List (Option Value)} (hd : decode M.2.1 pc = .ok (.invokestatic idx, 3)) (hk : KS M.1.cls idx M' n) (hR : zRT M' d as h Q')
    (hst : st0 = as.reverse ++ st) (hn : as.length = n) (hcat0 : (as.all fun w => decide (w.category = 1)) = true) (hlen : as.length ≤ M'.2.2.1) (hz : (st.map fun v => v.category).sum ≤ 8)
    (kk : ∀ v h', Q' v h' → zAW M (d + 1) (pc + 3) lv (v.toList ++ st) h' Q) : zAW M (d + 1) pc lv st0 h Q := by
  have hcat : ∀ w ∈ as, w.category = 1 := fun w hw => of_decide_eq_true (List.all_eq_true.mp hcat0 w hw)
  intro p l e s m args below meth c G H locs ls hc hwd hl
  obtain ⟨hx, hb, hr, hml, hown, hts, hns, hlk⟩ := id hc
  obtain ⟨⟨k1, k2, k3, k4, k5⟩, k6, k7⟩ := hk
  subst hst
  have hM := hR.met k3 hcat hlen l G
  have hRR : (rmD d).frames + 1 ≤ (rmD (d + 1)).frames ∧ 8 + (M'.2.2.1 + 11) + (rmD d).locals ≤ (rmD (d + 1)).locals := by
    refine ⟨Nat.le_refl _, ?_⟩
    show 8 + (M'.2.2.1 + 11) + 36 * d ≤ 36 * (d + 1)
    omega
  have hW : 2 * (F0 m pc ls ((as.reverse ++ st).map (cv (ga G)))).monitorRoom + ((st.map (cv (ga G))).map fun v => v.category).sum ≤ 8 := lv_room (by rw [cats_cv]; exact hz)
  have hpre : PreS s H (zPcO G as h) (as.map (cv (ga G))) := ⟨zPcO.blind G as h, zPcO.pre hwd hns⟩
  rcases k7 with k7 | ⟨host, k7⟩
  · refine zaw_run kk hc hwd hl (va_runS (n := n) (As := as.map (cv (ga G))) (rest := st.map (cv (ga G))) ⟨hx, hb, hml, hown, hts⟩ hM ⟨callB_of n hts (mW_good k2) rfl rfl rfl (hbig hts k1) (hbig hts k7) k4 hRR, hbig hts k6⟩ hpre rfl (by rw [List.length_map]; exact hn) hl.2.1 (by simp) hW hd ⟨Nat.le_refl _, Nat.le_refl _⟩)
  · refine zaw_run kk hc hwd hl (va_runSN (n := n) (As := as.map (cv (ga G))) (rest := st.map (cv (ga G))) ⟨hx, hb, hml, hown, hts⟩ hM ⟨va_cnB n hts (mW_good k2) rfl rfl rfl (hns _ k7) (hbig hts k1) k4 hRR, hbig hts k6, trivial⟩ hpre rfl (by rw [List.length_map]; exact hn) hl.2.1 (by simp) hW hd ⟨Nat.le_refl _, Nat.le_refl _⟩)
theorem zaw_callV {M M' : MI} {d pc idx ci n b : Nat} {as st0 st : List Value} {h : Hp} {Q Q' : Option Value → Hp → Prop} {lv : List (Option Value)} {fs : List (Option Nat)} (hd : decode M.2.1 pc = .ok (.invokevirtual idx, 3)) (hk : KV M.1.cls idx M' ci n) (hR : zRT M' d (.ref b :: as) h Q') (ho : zlay[b]? = some (oO ci fs))
    (hst : st0 = as.reverse ++ .ref b :: st) (hn : as.length = n) (hcat0 : (as.all fun w => decide (w.category = 1)) = true) (hlen : as.length + 1 ≤ M'.2.2.1) (hz : (st.map fun v => v.category).sum ≤ 8)
    (kk : ∀ v h', Q' v h' → zAW M (d + 1) (pc + 3) lv (v.toList ++ st) h' Q) : zAW M (d + 1) pc lv st0 h Q := by
  have hcat : ∀ w ∈ as, w.category = 1 := fun w hw => of_decide_eq_true (List.all_eq_true.mp hcat0 w hw)
  intro p l e s m args below meth c G H locs ls hc hwd hl
  obtain ⟨hx, hb, hr, hml, hown, hts, hns, hlk⟩ := id hc
  obtain ⟨⟨k1, k2, k3, k4, k5⟩, k6, k8, ⟨T, N, kc⟩, k7⟩ := hk
  subst hst
  have hM := hR.met k3 (fun w hw => by
    rcases List.mem_cons.mp hw with rfl | hw
    · rfl
    · exact hcat w hw) hlen l G
  have hRR : (rmD d).frames + 1 ≤ (rmD (d + 1)).frames ∧ 8 + (M'.2.2.1 + 11) + (rmD d).locals ≤ (rmD (d + 1)).locals := by
    refine ⟨Nat.le_refl _, ?_⟩
    show 8 + (M'.2.2.1 + 11) + 36 * d ≤ 36 * (d + 1)
    omega
  have hW : 2 * (F0 m pc ls ((as.reverse ++ .ref b :: st).map (cv (ga G)))).monitorRoom + ((st.map (cv (ga G))).map fun v => v.category).sum ≤ 8 := lv_room (by rw [cats_cv]; exact hz)
  have hpre : PreV s H M'.1.cls (ga G b) (zPcO G (.ref b :: as) h) (as.map (cv (ga G))) := ⟨zPcO.blind G _ h, va_recv hwd.1 hwd.2.1 kc (zwl_at ho), zPcO.pre (as := .ref b :: as) hwd hns⟩
  rcases k7 with k7 | ⟨host, k7⟩
  · refine zaw_run kk hc hwd hl (va_runV (n := n) (As := as.map (cv (ga G))) (b := ga G b) (rest := st.map (cv (ga G))) ⟨hx, hb, hml, hown, hts⟩ hM ⟨callB_of n hts (mW_good k2) rfl rfl rfl (hbig hts k1) (hbig hts k7) k4 hRR, hbig hts k6, hbig hts k8⟩ hpre rfl (by rw [List.length_map]; exact hn) hl.2.1 (by simp [cv]) hW hd ⟨Nat.le_refl _, Nat.le_refl _⟩)
  · refine zaw_run kk hc hwd hl (va_runVN (n := n) (As := as.map (cv (ga G))) (b := ga G b) (rest := st.map (cv (ga G))) ⟨hx, hb, hml, hown, hts⟩ hM ⟨va_cnB n hts (mW_good k2) rfl rfl rfl (hns _ k7) (hbig hts k1) k4 hRR, hbig hts k6, hbig hts k8⟩ hpre rfl (by rw [List.length_map]; exact hn) hl.2.1 (by simp [cv]) hW hd ⟨Nat.le_refl _, Nat.le_refl _⟩)

section ZMORE
variable {M : MI} {d pc : Nat} {lv : List (Option Value)} {st : List Value} {h : Hp} {Q : Option Value → Hp → Prop}
theorem zaw_getI {idx ci k a : Nat} {fs : List (Option Nat)} (hd : decode M.2.1 pc = .ok (.getfield idx, 3)) (hf : FL M.1.cls idx ci k) (ho : zlay[a]? = some (oO ci fs)) (hk : fs[k]? = some none) (kk : zAW M d (pc + 3) lv (.int (nI (h a k)) :: st) h Q) : zAW M d pc lv (.ref a :: st) h Q := zaw_getfield hd hf ho hk kk
theorem zaw_getR {idx ci k a r : Nat} {fs : List (Option Nat)} (hd : decode M.2.1 pc = .ok (.getfield idx, 3)) (hf : FL M.1.cls idx ci k) (ho : zlay[a]? = some (oO ci fs)) (hk : fs[k]? = some (some r)) (kk : zAW M d (pc + 3) lv (.ref r :: st) h Q) : zAW M d pc lv (.ref a :: st) h Q := zaw_getfield hd hf ho hk kk
theorem zaw_mmaxN {idx x y : Nat} (hd : decode M.2.1 pc = .ok (.invokestatic idx, 3)) (hk : Cond.methodLink M.1.cls idx Lib.Math.max.name ∈ bigW ∧ Cond.static Lib.Math.max.name ∈ bigW ∧ Cond.initialized "java/lang/Math" ∈ bigW ∧ Cond.code Lib.Math.max.name Lib.Math.max.code 2 (some .int) ∈ bigW) (hx : x < 2 ^ 31) (hy : y < 2 ^ 31) (hz : (st.map fun v => v.category).sum ≤ 8) (kk : zAW M (d + 1) (pc + 3) lv (.int (nI (max x y)) :: st) h Q) : zAW M (d + 1) pc lv (.int (nI y) :: .int (nI x) :: st) h Q := by
  refine zaw_mmax hd hk hz ?_
  have : (if nI x < nI y then nI y else nI x) = nI (max x y) := by
    by_cases q : x < y
    · rw [if_pos ((nI_ltI hx hy).mpr q), Nat.max_eq_right (Nat.le_of_lt q)]
    · rw [if_neg (fun z => q ((nI_ltI hx hy).mp z)), Nat.max_eq_left (Nat.le_of_not_lt q)]
  rw [this]
  exact kk
/-- the same machine, another way to say what is left -/
theorem zaw_imp {Q' : Option Value → Hp → Prop} (hq : ∀ v h', Q' v h' → Q v h') (kk : zAW M d pc lv st h Q') : zAW M d pc lv st h Q := by
  intro p l e s m args below meth c G H locs ls hc hwd hl T hT X
  obtain ⟨t, a1, o, b1, b2, ⟨v, h', c1, c2, c3⟩, b4⟩ := kk p l e s m args below meth c G H locs ls hc hwd hl T hT X
  exact ⟨t, a1, o, b1, b2, ⟨v, h', c1, hq v h' c2, c3⟩, b4⟩
theorem zRT.imp {as : List Value} {Q' : Option Value → Hp → Prop} (kk : zRT M d as h Q') (hq : ∀ v h', Q' v h' → Q v h') : zRT M d as h Q := zaw_imp hq kk
end ZMORE
/-- a callee whose answer and world are told outright -/
theorem zaw_callSF {M M' : MI} {d pc idx n : Nat} {as st0 st : List Value} {h H' : Hp} {V : Option Value} {Q : Option Value → Hp → Prop} {lv : List (Option Value)} (hd : decode M.2.1 pc = .ok (.invokestatic idx, 3)) (hk : KS M.1.cls idx M' n) (hR : zRT M' d as h (fun v h' => v = V ∧ h' = H'))
    (hst : st0 = as.reverse ++ st) (hn : as.length = n) (hcat0 : (as.all fun w => decide (w.category = 1)) = true) (hlen : as.length ≤ M'.2.2.1) (hz : (st.map fun v => v.category).sum ≤ 8)
    (kk : zAW M (d + 1) (pc + 3) lv (V.toList ++ st) H' Q) : zAW M (d + 1) pc lv st0 h Q :=
  zaw_callS hd hk hR hst hn hcat0 hlen hz (fun v h' e => by rw [e.1, e.2]; exact kk)
theorem zaw_callVF {M M' : MI} {d pc idx ci n b : Nat} {as st0 st : List Value} {h H' : Hp} {V : Option Value} {Q : Option Value → Hp → Prop} {lv : List (Option Value)} {fs : List (Option Nat)} (hd : decode M.2.1 pc = .ok (.invokevirtual idx, 3)) (hk : KV M.1.cls idx M' ci n) (hR : zRT M' d (.ref b :: as) h (fun v h' => v = V ∧ h' = H')) (ho : zlay[b]? = some (oO ci fs))
    (hst : st0 = as.reverse ++ .ref b :: st) (hn : as.length = n) (hcat0 : (as.all fun w => decide (w.category = 1)) = true) (hlen : as.length + 1 ≤ M'.2.2.1) (hz : (st.map fun v => v.category).sum ≤ 8)
    (kk : zAW M (d + 1) (pc + 3) lv (V.toList ++ st) H' Q) : zAW M (d + 1) pc lv st0 h Q :=
  zaw_callV hd hk hR ho hst hn hcat0 hlen hz (fun v h' e => by rw [e.1, e.2]; exact kk)
/-- a local that is read no more -/
theorem zaw_forget {M : MI} {d pc : Nat} {lv : List (Option Value)} {st : List Value} {h : Hp} {Q : Option Value → Hp → Prop} (i : Nat) (kk : zAW M d pc (lv.set i none) st h Q) : zAW M d pc lv st h Q := by
  intro p l e s m args below meth c G H locs ls hc hwd hl
  refine kk p l e s m args below meth c G H locs ls hc hwd ⟨by rw [List.length_set]; exact hl.1, hl.2.1, hl.2.2.1, ?_⟩
  rintro ⟨j, w⟩ hq
  obtain ⟨x, hx, rfl⟩ := prs_mem.mp hq
  rw [List.getElem?_set] at hx
  by_cases hj : i = j
  · rw [if_pos hj] at hx
    split at hx <;> cases hx
  · rw [if_neg hj] at hx
    exact hl.at hx

theorem zc_at {d a n i : Nat} {h : Hp} (ho : zlay[a]? = some (oI n)) (hi : i < n) (hn : n < 2 ^ 31) : zRT mX7_at d [.ref a, .int (nI i)] h (fun v h' => v = some (.int (nI (h a i))) ∧ h' = h) := by
  change zAW mX7_at _ 0 [some (.ref a), some (.int (nI i))] [] h _
  refine zaw_iload_n dX7_at_0 rfl rfl ?_
  refine zaw_if_ltN (tgt := 16) dX7_at_1 (by decide) (by omega) (fun q => absurd q (by omega)) (fun _ => ?_)
  refine zaw_iload_n dX7_at_4 rfl rfl ?_
  refine zaw_aload_n dX7_at_5 rfl rfl ?_
  refine zaw_alen dX7_at_6 (by first | assumption | rfl) ?_
  refine zaw_icmp_geN (tgt := 16) dX7_at_7 (by decide) (by omega) (by omega) (fun q => absurd q (by omega)) (fun _ => ?_)
  refine zaw_aload_n dX7_at_10 rfl rfl ?_
  refine zaw_iload_n dX7_at_11 rfl rfl ?_
  refine zaw_iaload dX7_at_12 (by first | assumption | rfl) (by omega) (by omega) ?_
  refine zaw_goto (tgt := 17) dX7_at_13 (by decide) ?_
  refine zaw_iret dX7_at_17 rfl (by first | rfl | exact (pk_charN (by omega)).1 | decide) ?_
  exact ⟨rfl, rfl⟩
theorem zc_put {d a n i x : Nat} {h : Hp} (ho : zlay[a]? = some (oI n)) (hi : i < n) (hn : n < 2 ^ 31) : zRT mX7_put d [.ref a, .int (nI i), .int (nI x)] h (fun v h' => v = none ∧ h' = hw h a i x) := by
  change zAW mX7_put _ 0 [some (.ref a), some (.int (nI i)), some (.int (nI x))] [] h _
  refine zaw_iload_n dX7_put_0 rfl rfl ?_
  refine zaw_if_ltN (tgt := 14) dX7_put_1 (by decide) (by omega) (fun q => absurd q (by omega)) (fun _ => ?_)
  refine zaw_iload_n dX7_put_4 rfl rfl ?_
  refine zaw_aload_n dX7_put_5 rfl rfl ?_
  refine zaw_alen dX7_put_6 (by first | assumption | rfl) ?_
  refine zaw_icmp_geN (tgt := 14) dX7_put_7 (by decide) (by omega) (by omega) (fun q => absurd q (by omega)) (fun _ => ?_)
  refine zaw_aload_n dX7_put_10 rfl rfl ?_
  refine zaw_iload_n dX7_put_11 rfl rfl ?_
  refine zaw_iload_n dX7_put_12 rfl rfl ?_
  refine zaw_iastore dX7_put_13 (by first | assumption | rfl) (by omega) (by omega) ?_
  refine zaw_vret dX7_put_14 rfl ?_
  exact ⟨rfl, rfl⟩
theorem zc_copyRow {d a b n : Nat} {h : Hp} (ha : zlay[a]? = some (oI n)) (hb : zlay[b]? = some (oI n)) (hab : a ≠ b) (hn : n < 2 ^ 31) : zRT mX7_copyRow d [.ref a, .ref b] h (fun v h' => v = none ∧ h' = hcp h a b n) := by
  change zAW mX7_copyRow _ 0 [some (.ref a), some (.ref b), none] [] h _
  refine zaw_iconst (v := nI 0) dX7_copyRow_0 (by decide) ?_
  refine zaw_istore_n dX7_copyRow_1 rfl (Nat.le_of_ble_eq_true rfl) rfl ?_
  dsimp only [List.set]
  have loop : ∀ f k, k ≤ n → n < k + f → zAW mX7_copyRow d 2 [some (.ref a), some (.ref b), some (.int (nI k))] [] (hcp h a b k) (fun v h' => v = none ∧ h' = hcp h a b n) := by
    intro f
    induction f with
    | zero => intro k h1 h2; omega
    | succ f ih =>
      intro k h1 h2
      refine zaw_iload_n dX7_copyRow_2 rfl rfl ?_
      refine zaw_aload_n dX7_copyRow_3 rfl rfl ?_
      refine zaw_alen dX7_copyRow_4 (by first | assumption | rfl) ?_
      refine zaw_icmp_geN (tgt := 26) dX7_copyRow_5 (by decide) (by omega) (by omega) (fun c5 => ?_) (fun c5 => ?_)
      · have e : k = n := by omega
        subst e
        refine zaw_vret dX7_copyRow_26 rfl ?_
        exact ⟨rfl, rfl⟩
      · refine zaw_iload_n dX7_copyRow_8 rfl rfl ?_
        refine zaw_aload_n dX7_copyRow_9 rfl rfl ?_
        refine zaw_alen dX7_copyRow_10 (by first | assumption | rfl) ?_
        refine zaw_icmp_geN (tgt := 26) dX7_copyRow_11 (by decide) (by omega) (by omega) (fun q => absurd q (by omega)) (fun _ => ?_)
        refine zaw_aload_n dX7_copyRow_14 rfl rfl ?_
        refine zaw_iload_n dX7_copyRow_15 rfl rfl ?_
        refine zaw_aload_n dX7_copyRow_16 rfl rfl ?_
        refine zaw_iload_n dX7_copyRow_17 rfl rfl ?_
        refine zaw_iaload dX7_copyRow_18 (by first | assumption | rfl) (by omega) (by omega) ?_
        refine zaw_iastore dX7_copyRow_19 (by first | assumption | rfl) (by omega) (by omega) ?_
        refine zaw_iincN (v := 1) dX7_copyRow_20 rfl rfl ?_
        dsimp only [List.set]
        refine zaw_goto (tgt := 2) dX7_copyRow_23 (by decide) ?_
        have e : hcp h a b k a k = h a k := by simp [hcp, hab]
        rw [e, hcp_succ hab]
        exact ih (k + 1) (by omega) (by omega)
  have e : h = hcp h a b 0 := by funext o j; simp [hcp]
  have r := loop (n + 1) 0 (Nat.zero_le _) (by omega)
  rw [← e] at r
  exact r
theorem zc_within {d : Nat} {x a b : Int32} {h : Hp} : zRT mX7_within d [.int x, .int a, .int b] h (fun v h' => v = some (.int (nI (if a ≤ x ∧ x ≤ b then 1 else 0))) ∧ h' = h) := by
  change zAW mX7_within _ 0 [some (.int x), some (.int a), some (.int b)] [] h _
  refine zaw_iload_n dX7_within_0 rfl rfl ?_
  refine zaw_iload_n dX7_within_1 rfl rfl ?_
  refine zaw_icmp_lt (tgt := 14) dX7_within_2 (by decide) (fun c2 => ?_) (fun c2 => ?_)
  · refine zaw_iconst (v := nI 0) dX7_within_14 (by decide) ?_
    refine zaw_iret dX7_within_15 rfl (by first | rfl | exact (pk_charN (by omega)).1 | decide) ?_
    rw [if_neg (fun q => by
      have h1 := q.1
      have h2 := c2
      rw [Int32.le_iff_toInt_le] at h1
      rw [Int32.lt_iff_toInt_lt] at h2
      omega)]
    exact ⟨rfl, rfl⟩
  · refine zaw_iload_n dX7_within_5 rfl rfl ?_
    refine zaw_iload_n dX7_within_6 rfl rfl ?_
    refine zaw_icmp_gt (tgt := 14) dX7_within_7 (by decide) (fun c7 => ?_) (fun c7 => ?_)
    · refine zaw_iconst (v := nI 0) dX7_within_14 (by decide) ?_
      refine zaw_iret dX7_within_15 rfl (by first | rfl | exact (pk_charN (by omega)).1 | decide) ?_
      rw [if_neg (fun q => by
        have h1 := q.2
        have h2 := c7
        rw [Int32.le_iff_toInt_le] at h1
        rw [Int32.lt_iff_toInt_lt] at h2
        omega)]
      exact ⟨rfl, rfl⟩
    · refine zaw_iconst (v := nI 1) dX7_within_10 (by decide) ?_
      refine zaw_goto (tgt := 15) dX7_within_11 (by decide) ?_
      refine zaw_iret dX7_within_15 rfl (by first | rfl | exact (pk_charN (by omega)).1 | decide) ?_
      rw [if_pos ⟨by
        rw [Int32.le_iff_toInt_le]
        rw [Int32.lt_iff_toInt_lt] at c2
        omega, by
        rw [Int32.le_iff_toInt_le]
        rw [Int32.lt_iff_toInt_lt] at c7
        omega⟩]
      exact ⟨rfl, rfl⟩
def zSD (o : Nat) : Prop := zlay[o]? = some (oO 4 [some (o + 1), some (o + 2), none]) ∧ zlay[o + 1]? = some (oI 8) ∧ zlay[o + 2]? = some (oI 8)
theorem zc_S_copyFrom {d o p : Nat} {h : Hp} (hs : zSD o) (hp : zSD p) (hne : p + 2 < o ∨ o + 2 < p) : zRT mX4_copyFrom (d + 1) [.ref o, .ref p] h (fun v h' => v = none ∧ h' = hcs h p o) := by
  obtain ⟨ho, hr, hb⟩ := hs
  obtain ⟨ho2, hr2, hb2⟩ := hp
  have n1 : p + 1 ≠ o + 1 := by omega
  have n2 : p + 2 ≠ o + 2 := by omega
  change zAW mX4_copyFrom _ 0 [some (.ref o), some (.ref p)] [] h _
  refine zaw_aload_n dX4_copyFrom_0 rfl rfl ?_
  refine zaw_aload_n dX4_copyFrom_1 rfl rfl ?_
  refine zaw_getI dX4_copyFrom_2 fX4_18 (by first | assumption | rfl) (by rfl) ?_
  refine zaw_putfield dX4_copyFrom_5 gX4_18 (by first | assumption | rfl) (by rfl) ?_
  refine zaw_aload_n dX4_copyFrom_8 rfl rfl ?_
  refine zaw_getR dX4_copyFrom_9 fX4_9 (by first | assumption | rfl) (by rfl) ?_
  refine zaw_aload_n dX4_copyFrom_12 rfl rfl ?_
  refine zaw_getR dX4_copyFrom_13 fX4_9 (by first | assumption | rfl) (by rfl) ?_
  refine zaw_callSF dX4_copyFrom_16 kX4_32 (zc_copyRow (by first | assumption | rfl) (by first | assumption | rfl) (by first | assumption | decide) (by decide)) rfl rfl rfl (Nat.le_of_ble_eq_true rfl) (Nat.le_of_ble_eq_true rfl) ?_
  dsimp only [Option.toList, List.cons_append, List.nil_append, Nat.reduceAdd]
  refine zaw_aload_n dX4_copyFrom_19 rfl rfl ?_
  refine zaw_getR dX4_copyFrom_20 fX4_15 (by first | assumption | rfl) (by rfl) ?_
  refine zaw_aload_n dX4_copyFrom_23 rfl rfl ?_
  refine zaw_getR dX4_copyFrom_24 fX4_15 (by first | assumption | rfl) (by rfl) ?_
  refine zaw_callSF dX4_copyFrom_27 kX4_32 (zc_copyRow (by first | assumption | rfl) (by first | assumption | rfl) (by first | assumption | decide) (by decide)) rfl rfl rfl (Nat.le_of_ble_eq_true rfl) (Nat.le_of_ble_eq_true rfl) ?_
  dsimp only [Option.toList, List.cons_append, List.nil_append, Nat.reduceAdd]
  refine zaw_vret dX4_copyFrom_30 rfl ?_
  exact ⟨rfl, rfl⟩
theorem zc_P_birthdayAtFirst {d i : Nat} {h : Hp} (hi : i < 8) : zRT mX1_birthdayAtFirst (d + 1) [.ref 4, .int (nI i)] h (fun v h' => v = some (.int (nI (h 6 i))) ∧ h' = h) := by
  change zAW mX1_birthdayAtFirst _ 0 [some (.ref 4), some (.int (nI i))] [] h _
  refine zaw_aload_n dX1_birthdayAtFirst_0 rfl rfl ?_
  refine zaw_getR dX1_birthdayAtFirst_1 fX1_15 (by first | assumption | rfl) (by rfl) ?_
  refine zaw_iload_n dX1_birthdayAtFirst_4 rfl rfl ?_
  refine zaw_callSF dX1_birthdayAtFirst_5 kX1_46 (zc_at (by first | assumption | rfl) (by omega) (by decide)) rfl rfl rfl (Nat.le_of_ble_eq_true rfl) (Nat.le_of_ble_eq_true rfl) ?_
  dsimp only [Option.toList, List.cons_append, List.nil_append, Nat.reduceAdd]
  refine zaw_iret dX1_birthdayAtFirst_8 rfl (by first | rfl | exact (pk_charN (by omega)).1 | decide) ?_
  exact ⟨rfl, rfl⟩
theorem zc_withinN {d x a b : Nat} {h : Hp} (hx : x < 2 ^ 31) (ha : a < 2 ^ 31) (hb : b < 2 ^ 31) : zRT mX7_within d [.int (nI x), .int (nI a), .int (nI b)] h (fun v h' => v = some (.int (nI (if a ≤ x ∧ x ≤ b then 1 else 0))) ∧ h' = h) := by
  refine zc_within.imp (fun v h' e => ?_)
  by_cases q : a ≤ x ∧ x ≤ b
  · rw [if_pos q]
    rw [if_pos ⟨(nI_leI ha hx).mpr q.1, (nI_leI hx hb).mpr q.2⟩] at e
    exact e
  · rw [if_neg q]
    rw [if_neg (fun z => q ⟨(nI_leI ha hx).mp z.1, (nI_leI hx hb).mp z.2⟩)] at e
    exact e
theorem zc_T_letterHere {d n a : Nat} {h : Hp} {T : Nat → Nat} (ht : TXS h T n a) (hk : TOk T n) (ha : a < 2 ^ 30) : zRT mX5_letterHere d [.ref 1] h (fun v h' => v = some (.int (nI (ltr T n a))) ∧ h' = h) := by
  obtain ⟨e1, e2, e3⟩ := ht
  have hn := hk.1
  have hl := ltr_lt hk a
  change zAW mX5_letterHere _ 0 [some (.ref 1)] [] h _
  refine zaw_aload_n dX5_letterHere_0 rfl rfl ?_
  refine zaw_getI dX5_letterHere_1 fX5_28 (by first | assumption | rfl) (by rfl) ?_
  refine zaw_if_ltN (tgt := 42) dX5_letterHere_4 (by decide) (by omega) (fun q => absurd q (by omega)) (fun _ => ?_)
  refine zaw_aload_n dX5_letterHere_7 rfl rfl ?_
  refine zaw_getI dX5_letterHere_8 fX5_28 (by first | assumption | rfl) (by rfl) ?_
  refine zaw_aload_n dX5_letterHere_11 rfl rfl ?_
  refine zaw_getI dX5_letterHere_12 fX5_19 (by first | assumption | rfl) (by rfl) ?_
  refine zaw_icmp_geN (tgt := 42) dX5_letterHere_15 (by decide) (by omega) (by omega) (fun c15 => ?_) (fun c15 => ?_)
  · have ez : ltr T n a = 0 := by unfold ltr; rw [if_neg (by omega)]
    rw [ez]
    refine zaw_iconst (v := nI 0) dX5_letterHere_42 (by decide) ?_
    refine zaw_iret dX5_letterHere_43 rfl (by first | rfl | exact (pk_charN (by omega)).1 | decide) ?_
    exact ⟨rfl, rfl⟩
  · have e4 := e3 a (by omega)
    have ez : ltr T n a = T a := by unfold ltr; rw [if_pos (by omega)]
    have h5 := hk.2 a (by omega)
    refine zaw_aload_n dX5_letterHere_18 rfl rfl ?_
    refine zaw_getI dX5_letterHere_19 fX5_28 (by first | assumption | rfl) (by rfl) ?_
    refine zaw_aload_n dX5_letterHere_22 rfl rfl ?_
    refine zaw_getR dX5_letterHere_23 fX5_9 (by first | assumption | rfl) (by rfl) ?_
    refine zaw_alenC dX5_letterHere_26 (by first | assumption | rfl) ?_
    refine zaw_icmp_geN (tgt := 42) dX5_letterHere_27 (by decide) (by omega) (by omega) (fun q => absurd q (by omega)) (fun _ => ?_)
    refine zaw_aload_n dX5_letterHere_30 rfl rfl ?_
    refine zaw_getR dX5_letterHere_31 fX5_9 (by first | assumption | rfl) (by rfl) ?_
    refine zaw_aload_n dX5_letterHere_34 rfl rfl ?_
    refine zaw_getI dX5_letterHere_35 fX5_28 (by first | assumption | rfl) (by rfl) ?_
    refine zaw_caload dX5_letterHere_38 (by first | assumption | rfl) (by omega) (by omega) ?_
    rw [e2, e4, ez]
    refine zaw_goto (tgt := 43) dX5_letterHere_39 (by decide) ?_
    refine zaw_iret dX5_letterHere_43 rfl (by first | rfl | exact (pk_charN (by omega)).1 | decide) ?_
    exact ⟨rfl, rfl⟩
theorem zc_T_isFigure {d x : Nat} {h : Hp} (hx : x < 2 ^ 30) : zRT mX5_isFigure d [.int (nI x)] h (fun v h' => v = some (.int (nI (if 48 ≤ x ∧ x ≤ 57 then 1 else 0))) ∧ h' = h) := by
  change zAW mX5_isFigure _ 0 [some (.int (nI x))] [] h _
  refine zaw_iload_n dX5_isFigure_0 rfl rfl ?_
  refine zaw_bipush (v := nI 48) dX5_isFigure_1 (by decide) ?_
  refine zaw_icmp_ltN (tgt := 16) dX5_isFigure_3 (by decide) (by omega) (by omega) (fun c3 => ?_) (fun c3 => ?_)
  · rw [if_neg (by omega)]
    refine zaw_iconst (v := nI 0) dX5_isFigure_16 (by decide) ?_
    refine zaw_iret dX5_isFigure_17 rfl (by first | rfl | exact (pk_charN (by omega)).1 | decide) ?_
    exact ⟨rfl, rfl⟩
  · refine zaw_iload_n dX5_isFigure_6 rfl rfl ?_
    refine zaw_bipush (v := nI 57) dX5_isFigure_7 (by decide) ?_
    refine zaw_icmp_gtN (tgt := 16) dX5_isFigure_9 (by decide) (by omega) (by omega) (fun c9 => ?_) (fun c9 => ?_)
    · rw [if_neg (by omega)]
      refine zaw_iconst (v := nI 0) dX5_isFigure_16 (by decide) ?_
      refine zaw_iret dX5_isFigure_17 rfl (by first | rfl | exact (pk_charN (by omega)).1 | decide) ?_
      exact ⟨rfl, rfl⟩
    · rw [if_pos (by omega)]
      refine zaw_iconst (v := nI 1) dX5_isFigure_12 (by decide) ?_
      refine zaw_goto (tgt := 17) dX5_isFigure_13 (by decide) ?_
      refine zaw_iret dX5_isFigure_17 rfl (by first | rfl | exact (pk_charN (by omega)).1 | decide) ?_
      exact ⟨rfl, rfl⟩
theorem zc_T_readNumberN {d n a : Nat} {h : Hp} {T : Nat → Nat} (ht : TXS h T n a) (hk : TOk T n) (ha : a < 2 ^ 29) (hz : nu1 (ltr T n) a = none) : zRT mX5_readNumber (d + 1) [.ref 1] h (fun v h' => v = some (.int (nI 4294967295)) ∧ h' = h) := by
  have hl := ltr_lt hk a
  have hc : ¬ (48 ≤ ltr T n a ∧ ltr T n a ≤ 57) := fun q => by
    unfold nu1 at hz
    rw [if_pos q] at hz
    split at hz <;> cases hz
  change zAW mX5_readNumber _ 0 [some (.ref 1), none, none] [] h _
  refine zaw_iconst (v := nI 4294967295) dX5_readNumber_0 (by decide) ?_
  refine zaw_istore_n dX5_readNumber_1 rfl (Nat.le_of_ble_eq_true rfl) rfl ?_
  dsimp only [List.set]
  refine zaw_iconst (v := nI 0) dX5_readNumber_2 (by decide) ?_
  refine zaw_istore_n dX5_readNumber_3 rfl (Nat.le_of_ble_eq_true rfl) rfl ?_
  dsimp only [List.set]
  refine zaw_iload_n dX5_readNumber_4 rfl rfl ?_
  refine zaw_iconst (v := nI 2) dX5_readNumber_5 (by decide) ?_
  refine zaw_icmp_geN (tgt := 52) dX5_readNumber_6 (by decide) (by omega) (by omega) (fun q => absurd q (by omega)) (fun _ => ?_)
  refine zaw_aload_n dX5_readNumber_9 rfl rfl ?_
  refine zaw_callVF dX5_readNumber_10 kX5_35 (zc_T_letterHere ht hk (by omega)) (by first | assumption | rfl) rfl rfl rfl (Nat.le_of_ble_eq_true rfl) (Nat.le_of_ble_eq_true rfl) ?_
  dsimp only [Option.toList, List.cons_append, List.nil_append, Nat.reduceAdd]
  refine zaw_callSF dX5_readNumber_13 kX5_63 (zc_T_isFigure (by omega)) rfl rfl rfl (Nat.le_of_ble_eq_true rfl) (Nat.le_of_ble_eq_true rfl) ?_
  dsimp only [Option.toList, List.cons_append, List.nil_append, Nat.reduceAdd]
  rw [if_neg hc]
  refine zaw_if_eqN (tgt := 52) dX5_readNumber_16 (by decide) (by omega) (fun _ => ?_) (fun q => absurd q (by omega))
  refine zaw_iload_n dX5_readNumber_52 rfl rfl ?_
  refine zaw_iret dX5_readNumber_53 rfl (by first | rfl | exact (pk_charN (by omega)).1 | decide) ?_
  exact ⟨rfl, rfl⟩
theorem zc_T_readNumberS {d n a x a2 : Nat} {h : Hp} {T : Nat → Nat} (ht : TXS h T n a) (hk : TOk T n) (ha : a < 2 ^ 29) (hz : nu1 (ltr T n) a = some (x, a2)) : zRT mX5_readNumber (d + 1) [.ref 1] h (fun v h' => v = some (.int (nI x)) ∧ h' = hw h 1 3 a2) := by
  have hl := ltr_lt hk a
  have hl2 := ltr_lt hk (a + 1)
  have hc : (48 ≤ ltr T n a ∧ ltr T n a ≤ 57) := by
    unfold nu1 at hz
    by_cases q : 48 ≤ ltr T n a ∧ ltr T n a ≤ 57
    · exact q
    · rw [if_neg q] at hz; cases hz
  have e13 := ht.2.1
  have t2 : TXS (hw h 1 3 (a + 1)) T n (a + 1) := ht.go
  change zAW mX5_readNumber _ 0 [some (.ref 1), none, none] [] h _
  refine zaw_iconst (v := nI 4294967295) dX5_readNumber_0 (by decide) ?_
  refine zaw_istore_n dX5_readNumber_1 rfl (Nat.le_of_ble_eq_true rfl) rfl ?_
  dsimp only [List.set]
  refine zaw_iconst (v := nI 0) dX5_readNumber_2 (by decide) ?_
  refine zaw_istore_n dX5_readNumber_3 rfl (Nat.le_of_ble_eq_true rfl) rfl ?_
  dsimp only [List.set]
  refine zaw_iload_n dX5_readNumber_4 rfl rfl ?_
  refine zaw_iconst (v := nI 2) dX5_readNumber_5 (by decide) ?_
  refine zaw_icmp_geN (tgt := 52) dX5_readNumber_6 (by decide) (by omega) (by omega) (fun q => absurd q (by omega)) (fun _ => ?_)
  refine zaw_aload_n dX5_readNumber_9 rfl rfl ?_
  refine zaw_callVF dX5_readNumber_10 kX5_35 (zc_T_letterHere ht hk (by omega)) (by first | assumption | rfl) rfl rfl rfl (Nat.le_of_ble_eq_true rfl) (Nat.le_of_ble_eq_true rfl) ?_
  dsimp only [Option.toList, List.cons_append, List.nil_append, Nat.reduceAdd]
  refine zaw_callSF dX5_readNumber_13 kX5_63 (zc_T_isFigure (by omega)) rfl rfl rfl (Nat.le_of_ble_eq_true rfl) (Nat.le_of_ble_eq_true rfl) ?_
  dsimp only [Option.toList, List.cons_append, List.nil_append, Nat.reduceAdd]
  rw [if_pos hc]
  refine zaw_if_eqN (tgt := 52) dX5_readNumber_16 (by decide) (by omega) (fun q => absurd q (by omega)) (fun _ => ?_)
  refine zaw_bipush (v := nI 10) dX5_readNumber_19 (by decide) ?_
  refine zaw_iconst (v := nI 0) dX5_readNumber_21 (by decide) ?_
  refine zaw_iload_n dX5_readNumber_22 rfl rfl ?_
  refine zaw_mmax dX5_readNumber_23 kX5_67 (Nat.le_of_ble_eq_true rfl) ?_
  rw [mx0]
  refine zaw_imulN dX5_readNumber_26 ?_
  refine zaw_aload_n dX5_readNumber_27 rfl rfl ?_
  refine zaw_callVF dX5_readNumber_28 kX5_35 (zc_T_letterHere ht hk (by omega)) (by first | assumption | rfl) rfl rfl rfl (Nat.le_of_ble_eq_true rfl) (Nat.le_of_ble_eq_true rfl) ?_
  dsimp only [Option.toList, List.cons_append, List.nil_append, Nat.reduceAdd]
  refine zaw_bipush (v := nI 48) dX5_readNumber_31 (by decide) ?_
  refine zaw_isubN dX5_readNumber_33 (by omega) ?_
  refine zaw_iaddN dX5_readNumber_34 ?_
  refine zaw_istore_n dX5_readNumber_35 rfl (Nat.le_of_ble_eq_true rfl) rfl ?_
  dsimp only [List.set]
  refine zaw_aload_n dX5_readNumber_36 rfl rfl ?_
  refine zaw_dup dX5_readNumber_37 rfl ?_
  refine zaw_getI dX5_readNumber_38 fX5_28 (by first | assumption | rfl) (by rfl) ?_
  refine zaw_iconst (v := nI 1) dX5_readNumber_41 (by decide) ?_
  refine zaw_iaddN dX5_readNumber_42 ?_
  rw [e13]
  refine zaw_putfield dX5_readNumber_43 gX5_28 (by first | assumption | rfl) (by rfl) ?_
  refine zaw_iincN (v := 1) dX5_readNumber_46 rfl rfl ?_
  dsimp only [List.set]
  refine zaw_goto (tgt := 4) dX5_readNumber_49 (by decide) ?_
  refine zaw_iload_n dX5_readNumber_4 rfl rfl ?_
  refine zaw_iconst (v := nI 2) dX5_readNumber_5 (by decide) ?_
  refine zaw_icmp_geN (tgt := 52) dX5_readNumber_6 (by decide) (by omega) (by omega) (fun q => absurd q (by omega)) (fun _ => ?_)
  refine zaw_aload_n dX5_readNumber_9 rfl rfl ?_
  refine zaw_callVF dX5_readNumber_10 kX5_35 (zc_T_letterHere t2 hk (by omega)) (by first | assumption | rfl) rfl rfl rfl (Nat.le_of_ble_eq_true rfl) (Nat.le_of_ble_eq_true rfl) ?_
  dsimp only [Option.toList, List.cons_append, List.nil_append, Nat.reduceAdd]
  refine zaw_callSF dX5_readNumber_13 kX5_63 (zc_T_isFigure (by omega)) rfl rfl rfl (Nat.le_of_ble_eq_true rfl) (Nat.le_of_ble_eq_true rfl) ?_
  dsimp only [Option.toList, List.cons_append, List.nil_append, Nat.reduceAdd]
  unfold nu1 at hz
  rw [if_pos hc] at hz
  by_cases hc2 : 48 ≤ ltr T n (a + 1) ∧ ltr T n (a + 1) ≤ 57
  · rw [if_pos hc2] at hz ⊢
    have hz1 := Option.some.inj hz
    have hx : x = 10 * (ltr T n a - 48) + (ltr T n (a + 1) - 48) := (congrArg Prod.fst hz1).symm
    have hy : a2 = a + 2 := (congrArg Prod.snd hz1).symm
    refine zaw_if_eqN (tgt := 52) dX5_readNumber_16 (by decide) (by omega) (fun q => absurd q (by omega)) (fun _ => ?_)
    refine zaw_bipush (v := nI 10) dX5_readNumber_19 (by decide) ?_
    refine zaw_iconst (v := nI 0) dX5_readNumber_21 (by decide) ?_
    refine zaw_iload_n dX5_readNumber_22 rfl rfl ?_
    refine zaw_mmaxN dX5_readNumber_23 kX5_67 (by omega) (by omega) (Nat.le_of_ble_eq_true rfl) ?_
    refine zaw_imulN dX5_readNumber_26 ?_
    refine zaw_aload_n dX5_readNumber_27 rfl rfl ?_
    refine zaw_callVF dX5_readNumber_28 kX5_35 (zc_T_letterHere t2 hk (by omega)) (by first | assumption | rfl) rfl rfl rfl (Nat.le_of_ble_eq_true rfl) (Nat.le_of_ble_eq_true rfl) ?_
    dsimp only [Option.toList, List.cons_append, List.nil_append, Nat.reduceAdd]
    refine zaw_bipush (v := nI 48) dX5_readNumber_31 (by decide) ?_
    refine zaw_isubN dX5_readNumber_33 (by omega) ?_
    refine zaw_iaddN dX5_readNumber_34 ?_
    refine zaw_istore_n dX5_readNumber_35 rfl (Nat.le_of_ble_eq_true rfl) rfl ?_
    dsimp only [List.set]
    refine zaw_aload_n dX5_readNumber_36 rfl rfl ?_
    refine zaw_dup dX5_readNumber_37 rfl ?_
    refine zaw_getI dX5_readNumber_38 fX5_28 (by first | assumption | rfl) (by rfl) ?_
    refine zaw_iconst (v := nI 1) dX5_readNumber_41 (by decide) ?_
    refine zaw_iaddN dX5_readNumber_42 ?_
    rw [hw_at, if_pos rfl]
    refine zaw_putfield dX5_readNumber_43 gX5_28 (by first | assumption | rfl) (by rfl) ?_
    refine zaw_iincN (v := 1) dX5_readNumber_46 rfl rfl ?_
    dsimp only [List.set]
    refine zaw_goto (tgt := 4) dX5_readNumber_49 (by decide) ?_
    refine zaw_iload_n dX5_readNumber_4 rfl rfl ?_
    refine zaw_iconst (v := nI 2) dX5_readNumber_5 (by decide) ?_
    refine zaw_icmp_geN (tgt := 52) dX5_readNumber_6 (by decide) (by omega) (by omega) (fun _ => ?_) (fun q => absurd q (by omega))
    refine zaw_iload_n dX5_readNumber_52 rfl rfl ?_
    refine zaw_iret dX5_readNumber_53 rfl (by first | rfl | exact (pk_charN (by omega)).1 | decide) ?_
    refine ⟨?_, ?_⟩
    · rw [hx]
      congr 3
      omega
    · rw [hw_hw, hy]
  · rw [if_neg hc2] at hz ⊢
    have hz1 := Option.some.inj hz
    have hx : x = ltr T n a - 48 := (congrArg Prod.fst hz1).symm
    have hy : a2 = a + 1 := (congrArg Prod.snd hz1).symm
    refine zaw_if_eqN (tgt := 52) dX5_readNumber_16 (by decide) (by omega) (fun _ => ?_) (fun q => absurd q (by omega))
    refine zaw_iload_n dX5_readNumber_52 rfl rfl ?_
    refine zaw_iret dX5_readNumber_53 rfl (by first | rfl | exact (pk_charN (by omega)).1 | decide) ?_
    refine ⟨?_, ?_⟩
    · rw [hx]
      congr 3
      omega
    · rw [hy]
theorem zc_T_readNumbers {d n a many : Nat} {h : Hp} {T : Nat → Nat} (ht : TXS h T n a) (hk : TOk T n) (ha : a ≤ 200) (hm : many ≤ 3) : zRT mX5_readNumbers (d + 2) [.ref 1, .int (nI many)] h (rnQ (ltr T n) h 0 many a) := by
  have hl := ltr_lt hk
  have loop : ∀ r k aa hh, k + r = many → TXS hh T n aa → aa + 3 * r ≤ 2 ^ 28 → zAW mX5_readNumbers (d + 2) 2 [some (.ref 1), some (.int (nI many)), some (.int (nI k)), none, none] [] hh (rnQ (ltr T n) hh k r aa) := by
    intro r
    induction r with
    | zero =>
      intro k aa hh hkr htx hbd
      refine zaw_iload_n dX5_readNumbers_2 rfl rfl ?_
      refine zaw_iload_n dX5_readNumbers_3 rfl rfl ?_
      refine zaw_icmp_geN (tgt := 68) dX5_readNumbers_4 (by decide) (by omega) (by omega) (fun _ => ?_) (fun q => absurd q (by omega))
      refine zaw_iconst (v := nI 1) dX5_readNumbers_68 (by decide) ?_
      refine zaw_iret dX5_readNumbers_69 rfl (by first | rfl | exact (pk_charN (by omega)).1 | decide) ?_
      exact ⟨FT3.rf, rfl, htx.2.1, fun j hj => by omega, fun j _ => rfl⟩
    | succ r ih =>
      intro k aa hh hkr htx hbd
      have hla := ltr_lt hk
      cases hz : nu1 (ltr T n) aa with
      | none =>
        have hnm : nmL (ltr T n) (r + 1) aa = none := by
          unfold nmL nsp
          rw [hz]
        have fin : rnQ (ltr T n) hh k (r + 1) aa (some (.int (nI 0))) hh := ⟨FT3.rf, by rw [hnm]⟩
        refine zaw_iload_n dX5_readNumbers_2 rfl rfl ?_
        refine zaw_iload_n dX5_readNumbers_3 rfl rfl ?_
        refine zaw_icmp_geN (tgt := 68) dX5_readNumbers_4 (by decide) (by omega) (by omega) (fun q => absurd q (by omega)) (fun _ => ?_)
        refine zaw_aload_n dX5_readNumbers_7 rfl rfl ?_
        refine zaw_callVF dX5_readNumbers_8 kX5_55 (zc_T_readNumberN htx hk (by omega) hz) (by first | assumption | rfl) rfl rfl rfl (Nat.le_of_ble_eq_true rfl) (Nat.le_of_ble_eq_true rfl) ?_
        dsimp only [Option.toList, List.cons_append, List.nil_append, Nat.reduceAdd]
        refine zaw_istore_n dX5_readNumbers_11 rfl (Nat.le_of_ble_eq_true rfl) rfl ?_
        dsimp only [List.set]
        refine zaw_iload_n dX5_readNumbers_12 rfl rfl ?_
        refine zaw_iload_n dX5_readNumbers_13 rfl rfl ?_
        refine zaw_iconst (v := nI 1) dX5_readNumbers_14 (by decide) ?_
        refine zaw_isubN dX5_readNumbers_15 (by omega) ?_
        refine zaw_icmp_neN (tgt := 24) dX5_readNumbers_16 (by decide) (by omega) (by omega) (fun c16 => ?_) (fun c16 => ?_)
        · refine zaw_bipush (v := nI 44) dX5_readNumbers_24 (by decide) ?_
          refine zaw_istore dX5_readNumbers_26 (Nat.le_of_ble_eq_true rfl) rfl ?_
          dsimp only [List.set]
          refine zaw_iload_n dX5_readNumbers_28 rfl rfl ?_
          refine zaw_if_lt (tgt := 41) dX5_readNumbers_29 (by decide) (fun q => ?_) (fun q => absurd (by decide) q)
          refine zaw_iconst (v := nI 0) dX5_readNumbers_41 (by decide) ?_
          refine zaw_iret dX5_readNumbers_42 rfl (by first | rfl | exact (pk_charN (by omega)).1 | decide) ?_
          exact fin
        · refine zaw_bipush (v := nI 59) dX5_readNumbers_19 (by decide) ?_
          refine zaw_goto (tgt := 26) dX5_readNumbers_21 (by decide) ?_
          refine zaw_istore dX5_readNumbers_26 (Nat.le_of_ble_eq_true rfl) rfl ?_
          dsimp only [List.set]
          refine zaw_iload_n dX5_readNumbers_28 rfl rfl ?_
          refine zaw_if_lt (tgt := 41) dX5_readNumbers_29 (by decide) (fun q => ?_) (fun q => absurd (by decide) q)
          refine zaw_iconst (v := nI 0) dX5_readNumbers_41 (by decide) ?_
          refine zaw_iret dX5_readNumbers_42 rfl (by first | rfl | exact (pk_charN (by omega)).1 | decide) ?_
          exact fin
      | some q0 =>
        obtain ⟨x, a2⟩ := q0
        obtain ⟨hx99, ha2, ha3⟩ := nu1_lt (ltr_lt hk) hz
        have t2 : TXS (hw hh 1 3 a2) T n a2 := htx.go
        have hla2 := ltr_lt hk a2
        have tail : ∀ sep, sep = (if r = 0 then 59 else 44) → zAW mX5_readNumbers (d + 2) 28 [some (.ref 1), some (.int (nI many)), some (.int (nI k)), some (.int (nI x)), some (.int (nI sep))] [] (hw hh 1 3 a2) (rnQ (ltr T n) hh k (r + 1) aa) := by
          intro sep hsep
          have hs59 : sep ≤ 59 := by rw [hsep]; split <;> omega
          refine zaw_iload_n dX5_readNumbers_28 rfl rfl ?_
          refine zaw_if_ltN (tgt := 41) dX5_readNumbers_29 (by decide) (by omega) (fun q => absurd q (by omega)) (fun _ => ?_)
          refine zaw_aload_n dX5_readNumbers_32 rfl rfl ?_
          refine zaw_callVF dX5_readNumbers_33 kX5_35 (zc_T_letterHere t2 hk (by omega)) (by first | assumption | rfl) rfl rfl rfl (Nat.le_of_ble_eq_true rfl) (Nat.le_of_ble_eq_true rfl) ?_
          dsimp only [Option.toList, List.cons_append, List.nil_append, Nat.reduceAdd]
          refine zaw_iload dX5_readNumbers_36 rfl ?_
          refine zaw_icmp_eqN (tgt := 43) dX5_readNumbers_38 (by decide) (by omega) (by omega) (fun c38 => ?_) (fun c38 => ?_)
          · have hns : nsp (ltr T n) (if r = 0 then 59 else 44) aa = some (x, a2 + 1) := by
              unfold nsp
              rw [hz]
              dsimp only
              rw [← hsep, if_pos c38]
            have e13 : hw (hw hh 1 3 a2) 3 k x 1 3 = a2 := by rw [hw_ne (by decide), hw_at, if_pos rfl]
            refine zaw_aload_n dX5_readNumbers_43 rfl rfl ?_
            refine zaw_getR dX5_readNumbers_44 fX5_15 (by first | assumption | rfl) (by rfl) ?_
            refine zaw_iload_n dX5_readNumbers_47 rfl rfl ?_
            refine zaw_iload_n dX5_readNumbers_48 rfl rfl ?_
            refine zaw_callSF dX5_readNumbers_49 kX5_59 (zc_put (by first | assumption | rfl) (by omega) (by decide)) rfl rfl rfl (Nat.le_of_ble_eq_true rfl) (Nat.le_of_ble_eq_true rfl) ?_
            dsimp only [Option.toList, List.cons_append, List.nil_append, Nat.reduceAdd]
            refine zaw_aload_n dX5_readNumbers_52 rfl rfl ?_
            refine zaw_dup dX5_readNumbers_53 rfl ?_
            refine zaw_getI dX5_readNumbers_54 fX5_28 (by first | assumption | rfl) (by rfl) ?_
            refine zaw_iconst (v := nI 1) dX5_readNumbers_57 (by decide) ?_
            refine zaw_iaddN dX5_readNumbers_58 ?_
            rw [e13]
            have t3 : TXS (hw (hw (hw hh 1 3 a2) 3 k x) 1 3 (a2 + 1)) T n (a2 + 1) := by
              obtain ⟨y1, y2, y3⟩ := t2
              refine ⟨?_, by rw [hw_at, if_pos rfl], fun j hj => ?_⟩
              · rw [hw_at, if_neg (by decide), hw_ne (by decide)]; exact y1
              · rw [hw_ne (by decide), hw_ne (by decide)]; exact y3 j hj
            refine zaw_putfield dX5_readNumbers_59 gX5_28 (by first | assumption | rfl) (by rfl) ?_
            refine zaw_iincN (v := 1) dX5_readNumbers_62 rfl rfl ?_
            dsimp only [List.set]
            refine zaw_goto (tgt := 2) dX5_readNumbers_65 (by decide) ?_
            refine zaw_forget 3 ?_
            refine zaw_forget 4 ?_
            dsimp only [List.set]
            refine zaw_imp ?_ (ih (k + 1) (a2 + 1) _ (by omega) t3 (by omega))
            intro v h2 hq
            obtain ⟨g1, g2⟩ := hq
            refine ⟨((FT3.place.trans FT3.num).trans FT3.place).trans g1, ?_⟩
            have hnm : nmL (ltr T n) (r + 1) aa = (match nmL (ltr T n) r (a2 + 1) with
              | none => none
              | some w => some (x :: w.1, w.2)) := by
              conv => lhs; unfold nmL
              rw [hns]
              try rfl
            rw [hnm]
            cases hz2 : nmL (ltr T n) r (a2 + 1) with
            | none =>
              rw [hz2] at g2
              exact g2
            | some w =>
              rw [hz2] at g2
              obtain ⟨y1, y2, y3, y4⟩ := g2
              refine ⟨y1, y2, fun j hj => ?_, fun j hj => ?_⟩
              · cases j with
                | zero =>
                  rw [Nat.add_zero, y4 k (by omega), hw_ne (by decide), hw_at, if_pos rfl]
                  rfl
                | succ j =>
                  have := y3 j (by omega)
                  rw [show k + (j + 1) = k + 1 + j by omega, this]
                  rfl
              · rw [y4 j (by omega), hw_ne (by decide), hw_at, if_neg (by omega), hw_ne (by decide)]
          · have hns : nmL (ltr T n) (r + 1) aa = none := by
              unfold nmL nsp
              rw [hz]
              dsimp only
              rw [← hsep, if_neg c38]
            refine zaw_iconst (v := nI 0) dX5_readNumbers_41 (by decide) ?_
            refine zaw_iret dX5_readNumbers_42 rfl (by first | rfl | exact (pk_charN (by omega)).1 | decide) ?_
            exact ⟨FT3.place, by rw [hns]⟩
        refine zaw_iload_n dX5_readNumbers_2 rfl rfl ?_
        refine zaw_iload_n dX5_readNumbers_3 rfl rfl ?_
        refine zaw_icmp_geN (tgt := 68) dX5_readNumbers_4 (by decide) (by omega) (by omega) (fun q => absurd q (by omega)) (fun _ => ?_)
        refine zaw_aload_n dX5_readNumbers_7 rfl rfl ?_
        refine zaw_callVF dX5_readNumbers_8 kX5_55 (zc_T_readNumberS htx hk (by omega) hz) (by first | assumption | rfl) rfl rfl rfl (Nat.le_of_ble_eq_true rfl) (Nat.le_of_ble_eq_true rfl) ?_
        dsimp only [Option.toList, List.cons_append, List.nil_append, Nat.reduceAdd]
        refine zaw_istore_n dX5_readNumbers_11 rfl (Nat.le_of_ble_eq_true rfl) rfl ?_
        dsimp only [List.set]
        refine zaw_iload_n dX5_readNumbers_12 rfl rfl ?_
        refine zaw_iload_n dX5_readNumbers_13 rfl rfl ?_
        refine zaw_iconst (v := nI 1) dX5_readNumbers_14 (by decide) ?_
        refine zaw_isubN dX5_readNumbers_15 (by omega) ?_
        refine zaw_icmp_neN (tgt := 24) dX5_readNumbers_16 (by decide) (by omega) (by omega) (fun c16 => ?_) (fun c16 => ?_)
        · refine zaw_bipush (v := nI 44) dX5_readNumbers_24 (by decide) ?_
          refine zaw_istore dX5_readNumbers_26 (Nat.le_of_ble_eq_true rfl) rfl ?_
          dsimp only [List.set]
          exact tail _ (by rw [if_neg (by omega)])
        · refine zaw_bipush (v := nI 59) dX5_readNumbers_19 (by decide) ?_
          refine zaw_goto (tgt := 26) dX5_readNumbers_21 (by decide) ?_
          refine zaw_istore dX5_readNumbers_26 (Nat.le_of_ble_eq_true rfl) rfl ?_
          dsimp only [List.set]
          exact tail _ (by rw [if_pos (by omega)])
  change zAW mX5_readNumbers _ 0 [some (.ref 1), some (.int (nI many)), none, none, none] [] h _
  refine zaw_iconst (v := nI 0) dX5_readNumbers_0 (by decide) ?_
  refine zaw_istore_n dX5_readNumbers_1 rfl (Nat.le_of_ble_eq_true rfl) rfl ?_
  dsimp only [List.set]
  exact loop many 0 a h (by omega) ht (by omega)

theorem zc_P_clear {d : Nat} {h : Hp} : zRT mX1_clear d [.ref 10] h (fun v h' => v = none ∧ h' = hw (hw h 10 5 0) 10 6 0) := by
  change zAW mX1_clear _ 0 [some (.ref 10)] [] h _
  refine zaw_aload_n dX1_clear_0 rfl rfl ?_
  refine zaw_iconst (v := nI 0) dX1_clear_1 (by decide) ?_
  refine zaw_putfield dX1_clear_2 gX1_27 (by first | assumption | rfl) (by rfl) ?_
  refine zaw_aload_n dX1_clear_5 rfl rfl ?_
  refine zaw_iconst (v := nI 0) dX1_clear_6 (by decide) ?_
  refine zaw_putfield dX1_clear_7 gX1_31 (by first | assumption | rfl) (by rfl) ?_
  refine zaw_vret dX1_clear_10 rfl ?_
  exact ⟨rfl, rfl⟩
theorem zc_P_addCousin {d x y z : Nat} {h : Hp} {P : PS} (hd0 : DR h P) (hP : PSOk P) (hx : x ≤ 99) (hy : y ≤ 99) (hz : z ≤ 99) : zRT mX1_addCousin (d + 1) [.ref 10, .int (nI x), .int (nI y), .int (nI z)] h (fun v h' => (okC P x y z ∧ v = some (.int (nI 1)) ∧ DR h' (addC P x y z) ∧ FD h h') ∨ (¬ okC P x y z ∧ v = some (.int (nI 0)) ∧ h' = h)) := by
  obtain ⟨e1, e2, e3, e4⟩ := id hd0
  obtain ⟨a1, a2, _, _⟩ := hP
  have bad : ¬ okC P x y z → zAW mX1_addCousin (d + 1) 38 [some (.ref 10), some (.int (nI x)), some (.int (nI y)), some (.int (nI z))] [] h (fun v h' => (okC P x y z ∧ v = some (.int (nI 1)) ∧ DR h' (addC P x y z) ∧ FD h h') ∨ (¬ okC P x y z ∧ v = some (.int (nI 0)) ∧ h' = h)) := by
    intro hb
    refine zaw_iconst (v := nI 0) dX1_addCousin_38 (by decide) ?_
    refine zaw_iret dX1_addCousin_39 rfl (by first | rfl | exact (pk_charN (by omega)).1 | decide) ?_
    exact Or.inr ⟨hb, rfl, rfl⟩
  change zAW mX1_addCousin _ 0 [some (.ref 10), some (.int (nI x)), some (.int (nI y)), some (.int (nI z))] [] h _
  refine zaw_aload_n dX1_addCousin_0 rfl rfl ?_
  refine zaw_getI dX1_addCousin_1 fX1_27 (by first | assumption | rfl) (by rfl) ?_
  refine zaw_bipush (v := nI 8) dX1_addCousin_4 (by decide) ?_
  refine zaw_icmp_geN (tgt := 38) dX1_addCousin_6 (by decide) (by omega) (by omega) (fun c6 => ?_) (fun c6 => ?_)
  · exact bad (fun q => by have := q.1; omega)
  · refine zaw_iload_n dX1_addCousin_9 rfl rfl ?_
    refine zaw_iconst (v := nI 0) dX1_addCousin_10 (by decide) ?_
    refine zaw_iconst (v := nI 3) dX1_addCousin_11 (by decide) ?_
    refine zaw_callSF dX1_addCousin_12 kX1_34 (zc_withinN (by omega) (by omega) (by omega)) rfl rfl rfl (Nat.le_of_ble_eq_true rfl) (Nat.le_of_ble_eq_true rfl) ?_
    dsimp only [Option.toList, List.cons_append, List.nil_append, Nat.reduceAdd]
    by_cases q1 : x ≤ 3
    · rw [if_pos ⟨Nat.zero_le _, q1⟩]
      refine zaw_if_eqN (tgt := 38) dX1_addCousin_15 (by decide) (by omega) (fun q => absurd q (by omega)) (fun _ => ?_)
      refine zaw_iload_n dX1_addCousin_18 rfl rfl ?_
      refine zaw_iconst (v := nI 0) dX1_addCousin_19 (by decide) ?_
      refine zaw_bipush (v := nI 59) dX1_addCousin_20 (by decide) ?_
      refine zaw_callSF dX1_addCousin_22 kX1_34 (zc_withinN (by omega) (by omega) (by omega)) rfl rfl rfl (Nat.le_of_ble_eq_true rfl) (Nat.le_of_ble_eq_true rfl) ?_
      dsimp only [Option.toList, List.cons_append, List.nil_append, Nat.reduceAdd]
      by_cases q2 : y ≤ 59
      · rw [if_pos ⟨Nat.zero_le _, q2⟩]
        refine zaw_if_eqN (tgt := 38) dX1_addCousin_25 (by decide) (by omega) (fun q => absurd q (by omega)) (fun _ => ?_)
        refine zaw_iload_n dX1_addCousin_28 rfl rfl ?_
        refine zaw_iconst (v := nI 0) dX1_addCousin_29 (by decide) ?_
        refine zaw_bipush (v := nI 9) dX1_addCousin_30 (by decide) ?_
        refine zaw_callSF dX1_addCousin_32 kX1_34 (zc_withinN (by omega) (by omega) (by omega)) rfl rfl rfl (Nat.le_of_ble_eq_true rfl) (Nat.le_of_ble_eq_true rfl) ?_
        dsimp only [Option.toList, List.cons_append, List.nil_append, Nat.reduceAdd]
        by_cases q3 : z ≤ 9
        · rw [if_pos ⟨Nat.zero_le _, q3⟩]
          refine zaw_if_neN (tgt := 40) dX1_addCousin_35 (by decide) (by omega) (fun _ => ?_) (fun q => absurd q (by omega))
          refine zaw_aload_n dX1_addCousin_40 rfl rfl ?_
          refine zaw_getR dX1_addCousin_41 fX1_9 (by first | assumption | rfl) (by rfl) ?_
          refine zaw_aload_n dX1_addCousin_44 rfl rfl ?_
          refine zaw_getI dX1_addCousin_45 fX1_27 (by first | assumption | rfl) (by rfl) ?_
          refine zaw_iload_n dX1_addCousin_48 rfl rfl ?_
          rw [e1]
          refine zaw_callSF dX1_addCousin_49 kX1_38 (zc_put (by first | assumption | rfl) (by omega) (by decide)) rfl rfl rfl (Nat.le_of_ble_eq_true rfl) (Nat.le_of_ble_eq_true rfl) ?_
          dsimp only [Option.toList, List.cons_append, List.nil_append, Nat.reduceAdd]
          refine zaw_aload_n dX1_addCousin_52 rfl rfl ?_
          refine zaw_getR dX1_addCousin_53 fX1_15 (by first | assumption | rfl) (by rfl) ?_
          refine zaw_aload_n dX1_addCousin_56 rfl rfl ?_
          refine zaw_getI dX1_addCousin_57 fX1_27 (by first | assumption | rfl) (by rfl) ?_
          refine zaw_iload_n dX1_addCousin_60 rfl rfl ?_
          rw [hw_ne (by decide), e1]
          refine zaw_callSF dX1_addCousin_61 kX1_38 (zc_put (by first | assumption | rfl) (by omega) (by decide)) rfl rfl rfl (Nat.le_of_ble_eq_true rfl) (Nat.le_of_ble_eq_true rfl) ?_
          dsimp only [Option.toList, List.cons_append, List.nil_append, Nat.reduceAdd]
          refine zaw_aload_n dX1_addCousin_64 rfl rfl ?_
          refine zaw_getR dX1_addCousin_65 fX1_18 (by first | assumption | rfl) (by rfl) ?_
          refine zaw_aload_n dX1_addCousin_68 rfl rfl ?_
          refine zaw_getI dX1_addCousin_69 fX1_27 (by first | assumption | rfl) (by rfl) ?_
          refine zaw_iload_n dX1_addCousin_72 rfl rfl ?_
          rw [hw_ne (by decide), hw_ne (by decide), e1]
          refine zaw_callSF dX1_addCousin_73 kX1_38 (zc_put (by first | assumption | rfl) (by omega) (by decide)) rfl rfl rfl (Nat.le_of_ble_eq_true rfl) (Nat.le_of_ble_eq_true rfl) ?_
          dsimp only [Option.toList, List.cons_append, List.nil_append, Nat.reduceAdd]
          refine zaw_aload_n dX1_addCousin_76 rfl rfl ?_
          refine zaw_dup dX1_addCousin_77 rfl ?_
          refine zaw_getI dX1_addCousin_78 fX1_27 (by first | assumption | rfl) (by rfl) ?_
          refine zaw_iconst (v := nI 1) dX1_addCousin_81 (by decide) ?_
          refine zaw_iaddN dX1_addCousin_82 ?_
          rw [hw_ne (by decide), hw_ne (by decide), hw_ne (by decide), e1]
          refine zaw_putfield dX1_addCousin_83 gX1_27 (by first | assumption | rfl) (by rfl) ?_
          refine zaw_iconst (v := nI 1) dX1_addCousin_86 (by decide) ?_
          refine zaw_iret dX1_addCousin_87 rfl (by first | rfl | exact (pk_charN (by omega)).1 | decide) ?_
          refine Or.inl ⟨⟨by omega, q1, q2, q3⟩, rfl, ⟨?_, ?_, fun i hi => ?_, fun r hr => ?_⟩, fun o ho => ?_⟩
          · rw [hw_at, if_pos rfl]; rfl
          · rw [hw_at, if_neg (by decide), hw_ne (by decide), hw_ne (by decide), hw_ne (by decide)]; exact e2
          · have hi : i < pn P + 1 := hi
            show _ = fu (pK P) (pn P) x i ∧ _ = fu (pb P) (pn P) y i ∧ _ = fu (pW P) (pn P) z i
            unfold fu
            by_cases qi : i = pn P
            · subst qi
              rw [if_pos rfl, if_pos rfl, if_pos rfl]
              refine ⟨?_, ?_, ?_⟩
              · rw [hw_ne (by decide), hw_ne (by decide), hw_ne (by decide), hw_at, if_pos rfl]
              · rw [hw_ne (by decide), hw_ne (by decide), hw_at, if_pos rfl]
              · rw [hw_ne (by decide), hw_at, if_pos rfl]
            · rw [if_neg qi, if_neg qi, if_neg qi]
              have := e3 i (by omega)
              refine ⟨?_, ?_, ?_⟩
              · rw [hw_ne (by decide), hw_ne (by decide), hw_ne (by decide), hw_at, if_neg qi]; exact this.1
              · rw [hw_ne (by decide), hw_ne (by decide), hw_at, if_neg qi, hw_ne (by decide)]; exact this.2.1
              · rw [hw_ne (by decide), hw_at, if_neg qi, hw_ne (by decide), hw_ne (by decide)]; exact this.2.2
          · have := e4 r hr
            show _ = pA P r ∧ _ = pB P r
            rw [hw_ne (a := 14) (by decide), hw_ne (a := 14) (by decide), hw_ne (a := 14) (by decide), hw_ne (a := 14) (by decide), hw_ne (a := 15) (by decide), hw_ne (a := 15) (by decide), hw_ne (a := 15) (by decide), hw_ne (a := 15) (by decide)]
            exact this
          · rw [hw_ne (by omega), hw_ne (by omega), hw_ne (by omega), hw_ne (by omega)]
        · rw [if_neg (by omega)]
          refine zaw_if_neN (tgt := 40) dX1_addCousin_35 (by decide) (by omega) (fun q => absurd q (by omega)) (fun _ => ?_)
          exact bad (fun q => by have := q.2.2.2; omega)
      · rw [if_neg (by omega)]
        refine zaw_if_eqN (tgt := 38) dX1_addCousin_25 (by decide) (by omega) (fun _ => ?_) (fun q => absurd q (by omega))
        exact bad (fun q => by have := q.2.2.1; omega)
    · rw [if_neg (by omega)]
      refine zaw_if_eqN (tgt := 38) dX1_addCousin_15 (by decide) (by omega) (fun _ => ?_) (fun q => absurd q (by omega))
      exact bad (fun q => by have := q.2.1; omega)
theorem zc_P_addRoom {d x y : Nat} {h : Hp} {P : PS} (hd0 : DR h P) (hP : PSOk P) (hx : x ≤ 99) (hy : y ≤ 99) : zRT mX1_addRoom (d + 1) [.ref 10, .int (nI x), .int (nI y)] h (fun v h' => (okR P x y ∧ v = some (.int (nI 1)) ∧ DR h' (addR P x y) ∧ FD h h') ∨ (¬ okR P x y ∧ v = some (.int (nI 0)) ∧ h' = h)) := by
  obtain ⟨e1, e2, e3, e4⟩ := id hd0
  obtain ⟨a1, a2, _, _⟩ := hP
  have bad : ¬ okR P x y → zAW mX1_addRoom (d + 1) 29 [some (.ref 10), some (.int (nI x)), some (.int (nI y))] [] h (fun v h' => (okR P x y ∧ v = some (.int (nI 1)) ∧ DR h' (addR P x y) ∧ FD h h') ∨ (¬ okR P x y ∧ v = some (.int (nI 0)) ∧ h' = h)) := by
    intro hb
    refine zaw_iconst (v := nI 0) dX1_addRoom_29 (by decide) ?_
    refine zaw_iret dX1_addRoom_30 rfl (by first | rfl | exact (pk_charN (by omega)).1 | decide) ?_
    exact Or.inr ⟨hb, rfl, rfl⟩
  change zAW mX1_addRoom _ 0 [some (.ref 10), some (.int (nI x)), some (.int (nI y))] [] h _
  refine zaw_aload_n dX1_addRoom_0 rfl rfl ?_
  refine zaw_getI dX1_addRoom_1 fX1_31 (by first | assumption | rfl) (by rfl) ?_
  refine zaw_bipush (v := nI 8) dX1_addRoom_4 (by decide) ?_
  refine zaw_icmp_geN (tgt := 29) dX1_addRoom_6 (by decide) (by omega) (by omega) (fun c6 => ?_) (fun c6 => ?_)
  · exact bad (fun q => by have := q.1; omega)
  · refine zaw_iload_n dX1_addRoom_9 rfl rfl ?_
    refine zaw_iconst (v := nI 0) dX1_addRoom_10 (by decide) ?_
    refine zaw_bipush (v := nI 9) dX1_addRoom_11 (by decide) ?_
    refine zaw_callSF dX1_addRoom_13 kX1_34 (zc_withinN (by omega) (by omega) (by omega)) rfl rfl rfl (Nat.le_of_ble_eq_true rfl) (Nat.le_of_ble_eq_true rfl) ?_
    dsimp only [Option.toList, List.cons_append, List.nil_append, Nat.reduceAdd]
    by_cases q1 : x ≤ 9
    · rw [if_pos ⟨Nat.zero_le _, q1⟩]
      refine zaw_if_eqN (tgt := 29) dX1_addRoom_16 (by decide) (by omega) (fun q => absurd q (by omega)) (fun _ => ?_)
      refine zaw_iload_n dX1_addRoom_19 rfl rfl ?_
      refine zaw_iconst (v := nI 0) dX1_addRoom_20 (by decide) ?_
      refine zaw_bipush (v := nI 9) dX1_addRoom_21 (by decide) ?_
      refine zaw_callSF dX1_addRoom_23 kX1_34 (zc_withinN (by omega) (by omega) (by omega)) rfl rfl rfl (Nat.le_of_ble_eq_true rfl) (Nat.le_of_ble_eq_true rfl) ?_
      dsimp only [Option.toList, List.cons_append, List.nil_append, Nat.reduceAdd]
      by_cases q2 : y ≤ 9
      · rw [if_pos ⟨Nat.zero_le _, q2⟩]
        refine zaw_if_neN (tgt := 31) dX1_addRoom_26 (by decide) (by omega) (fun _ => ?_) (fun q => absurd q (by omega))
        refine zaw_aload_n dX1_addRoom_31 rfl rfl ?_
        refine zaw_getR dX1_addRoom_32 fX1_21 (by first | assumption | rfl) (by rfl) ?_
        refine zaw_aload_n dX1_addRoom_35 rfl rfl ?_
        refine zaw_getI dX1_addRoom_36 fX1_31 (by first | assumption | rfl) (by rfl) ?_
        refine zaw_iload_n dX1_addRoom_39 rfl rfl ?_
        rw [e2]
        refine zaw_callSF dX1_addRoom_40 kX1_38 (zc_put (by first | assumption | rfl) (by omega) (by decide)) rfl rfl rfl (Nat.le_of_ble_eq_true rfl) (Nat.le_of_ble_eq_true rfl) ?_
        dsimp only [Option.toList, List.cons_append, List.nil_append, Nat.reduceAdd]
        refine zaw_aload_n dX1_addRoom_43 rfl rfl ?_
        refine zaw_getR dX1_addRoom_44 fX1_24 (by first | assumption | rfl) (by rfl) ?_
        refine zaw_aload_n dX1_addRoom_47 rfl rfl ?_
        refine zaw_getI dX1_addRoom_48 fX1_31 (by first | assumption | rfl) (by rfl) ?_
        refine zaw_iload_n dX1_addRoom_51 rfl rfl ?_
        rw [hw_ne (by decide), e2]
        refine zaw_callSF dX1_addRoom_52 kX1_38 (zc_put (by first | assumption | rfl) (by omega) (by decide)) rfl rfl rfl (Nat.le_of_ble_eq_true rfl) (Nat.le_of_ble_eq_true rfl) ?_
        dsimp only [Option.toList, List.cons_append, List.nil_append, Nat.reduceAdd]
        refine zaw_aload_n dX1_addRoom_55 rfl rfl ?_
        refine zaw_dup dX1_addRoom_56 rfl ?_
        refine zaw_getI dX1_addRoom_57 fX1_31 (by first | assumption | rfl) (by rfl) ?_
        refine zaw_iconst (v := nI 1) dX1_addRoom_60 (by decide) ?_
        refine zaw_iaddN dX1_addRoom_61 ?_
        rw [hw_ne (by decide), hw_ne (by decide), e2]
        refine zaw_putfield dX1_addRoom_62 gX1_31 (by first | assumption | rfl) (by rfl) ?_
        refine zaw_iconst (v := nI 1) dX1_addRoom_65 (by decide) ?_
        refine zaw_iret dX1_addRoom_66 rfl (by first | rfl | exact (pk_charN (by omega)).1 | decide) ?_
        refine Or.inl ⟨⟨by omega, q1, q2⟩, rfl, ⟨?_, ?_, fun i hi => ?_, fun r hr => ?_⟩, fun o ho => ?_⟩
        · rw [hw_at, if_neg (by decide), hw_ne (by decide), hw_ne (by decide)]; exact e1
        · rw [hw_at, if_pos rfl]; rfl
        · have := e3 i hi
          show _ = pK P i ∧ _ = pb P i ∧ _ = pW P i
          rw [hw_ne (a := 11) (by decide), hw_ne (a := 11) (by decide), hw_ne (a := 11) (by decide), hw_ne (a := 12) (by decide), hw_ne (a := 12) (by decide), hw_ne (a := 12) (by decide), hw_ne (a := 13) (by decide), hw_ne (a := 13) (by decide), hw_ne (a := 13) (by decide)]
          exact this
        · have hr : r < pm P + 1 := hr
          show _ = fu (pA P) (pm P) x r ∧ _ = fu (pB P) (pm P) y r
          unfold fu
          by_cases qi : r = pm P
          · subst qi
            rw [if_pos rfl, if_pos rfl]
            refine ⟨?_, ?_⟩
            · rw [hw_ne (by decide), hw_ne (by decide), hw_at, if_pos rfl]
            · rw [hw_ne (by decide), hw_at, if_pos rfl]
          · rw [if_neg qi, if_neg qi]
            have := e4 r (by omega)
            refine ⟨?_, ?_⟩
            · rw [hw_ne (by decide), hw_ne (by decide), hw_at, if_neg qi]; exact this.1
            · rw [hw_ne (by decide), hw_at, if_neg qi, hw_ne (by decide)]; exact this.2
        · rw [hw_ne (by omega), hw_ne (by omega), hw_ne (by omega)]
      · rw [if_neg (by omega)]
        refine zaw_if_neN (tgt := 31) dX1_addRoom_26 (by decide) (by omega) (fun q => absurd q (by omega)) (fun _ => ?_)
        exact bad (fun q => by have := q.2.2; omega)
    · rw [if_neg (by omega)]
      refine zaw_if_eqN (tgt := 29) dX1_addRoom_16 (by decide) (by omega) (fun _ => ?_) (fun q => absurd q (by omega))
      exact bad (fun q => by have := q.2.1; omega)
theorem zc_T_readItem {d n a : Nat} {h : Hp} {T : Nat → Nat} {P : PS} (ht : TXS h T n a) (hk : TOk T n) (ha : a < n) (hd0 : DR h P) (hP : PSOk P) : zRT mX5_readItem (d + 3) [.ref 1, .ref 10] h (riQ (ltr T n) h a P) := by
  have hn := hk.1
  have hl := ltr_lt hk
  have hla := hl a
  have e13 := ht.2.1
  have t2 : TXS (hw h 1 3 (a + 1)) T n (a + 1) := ht.go
  have f2 : FT3 h (hw h 1 3 (a + 1)) := FT3.place
  have d2 : DR (hw h 1 3 (a + 1)) P := hd0.fr3 f2
  change zAW mX5_readItem _ 0 [some (.ref 1), some (.ref 10), none] [] h _
  refine zaw_aload_n dX5_readItem_0 rfl rfl ?_
  refine zaw_callVF dX5_readItem_1 kX5_35 (zc_T_letterHere ht hk (by omega)) (by first | assumption | rfl) rfl rfl rfl (Nat.le_of_ble_eq_true rfl) (Nat.le_of_ble_eq_true rfl) ?_
  dsimp only [Option.toList, List.cons_append, List.nil_append, Nat.reduceAdd]
  refine zaw_istore_n dX5_readItem_4 rfl (Nat.le_of_ble_eq_true rfl) rfl ?_
  dsimp only [List.set]
  refine zaw_aload_n dX5_readItem_5 rfl rfl ?_
  refine zaw_dup dX5_readItem_6 rfl ?_
  refine zaw_getI dX5_readItem_7 fX5_28 (by first | assumption | rfl) (by rfl) ?_
  refine zaw_iconst (v := nI 1) dX5_readItem_10 (by decide) ?_
  refine zaw_iaddN dX5_readItem_11 ?_
  rw [e13]
  refine zaw_putfield dX5_readItem_12 gX5_28 (by first | assumption | rfl) (by rfl) ?_
  refine zaw_iload_n dX5_readItem_15 rfl rfl ?_
  refine zaw_bipush (v := nI 99) dX5_readItem_16 (by decide) ?_
  refine zaw_icmp_neN (tgt := 66) dX5_readItem_18 (by decide) (by omega) (by omega) (fun c18 => ?_) (fun c18 => ?_)
  · -- no cousin
    refine zaw_iload_n dX5_readItem_66 rfl rfl ?_
    refine zaw_bipush (v := nI 114) dX5_readItem_67 (by decide) ?_
    refine zaw_icmp_neN (tgt := 109) dX5_readItem_69 (by decide) (by omega) (by omega) (fun c69 => ?_) (fun c69 => ?_)
    · -- nothing known
      have ez : itS (ltr T n) a P = none := by unfold itS; rw [if_neg c18, if_neg c69]
      refine zaw_iconst (v := nI 0) dX5_readItem_109 (by decide) ?_
      refine zaw_iret dX5_readItem_110 rfl (by first | rfl | exact (pk_charN (by omega)).1 | decide) ?_
      exact ⟨FTD.of3 f2, by rw [ez]⟩
    · have hc : ltr T n a = 114 := by omega
      refine zaw_aload_n dX5_readItem_72 rfl rfl ?_
      refine zaw_iconst (v := nI 2) dX5_readItem_73 (by decide) ?_
      refine zaw_callV dX5_readItem_74 kX5_39 (zc_T_readNumbers t2 hk (by omega) (by omega)) (by first | assumption | rfl) rfl rfl rfl (Nat.le_of_ble_eq_true rfl) (Nat.le_of_ble_eq_true rfl) ?_
      rintro v h3 ⟨f3, hq⟩
      dsimp only [Option.toList, List.cons_append, List.nil_append, Nat.reduceAdd]
      cases hz : nmL (ltr T n) 2 (a + 1) with
      | none =>
        rw [hz] at hq
        dsimp only at hq
        subst hq
        have ez : itS (ltr T n) a P = none := by unfold itS; rw [if_neg c18, if_pos hc, hz]
        refine zaw_if_eqN (tgt := 107) dX5_readItem_77 (by decide) (by omega) (fun _ => ?_) (fun q => absurd q (by omega))
        refine zaw_iconst (v := nI 0) dX5_readItem_107 (by decide) ?_
        refine zaw_iret dX5_readItem_108 rfl (by first | rfl | exact (pk_charN (by omega)).1 | decide) ?_
        exact ⟨FTD.of3 (f2.trans f3), by rw [ez]⟩
      | some w =>
        rw [hz] at hq
        obtain ⟨rfl, q2, q3, q4⟩ := hq
        have q30 : h3 3 0 = w.1.getD 0 0 := q3 0 (by decide)
        have q31 : h3 3 1 = w.1.getD 1 0 := q3 1 (by decide)
        have hb := (nmL_lt hl 2 _ w hz).2.2
        have d3 : DR h3 P := d2.fr3 f3
        refine zaw_if_eqN (tgt := 107) dX5_readItem_77 (by decide) (by omega) (fun q => absurd q (by omega)) (fun _ => ?_)
        refine zaw_aload_n dX5_readItem_80 rfl rfl ?_
        refine zaw_aload_n dX5_readItem_81 rfl rfl ?_
        refine zaw_getR dX5_readItem_82 fX5_15 (by first | assumption | rfl) (by rfl) ?_
        refine zaw_iconst (v := nI 0) dX5_readItem_85 (by decide) ?_
        refine zaw_callSF dX5_readItem_86 kX5_43 (zc_at (by first | assumption | rfl) (by omega) (by decide)) rfl rfl rfl (Nat.le_of_ble_eq_true rfl) (Nat.le_of_ble_eq_true rfl) ?_
        dsimp only [Option.toList, List.cons_append, List.nil_append, Nat.reduceAdd]
        refine zaw_aload_n dX5_readItem_89 rfl rfl ?_
        refine zaw_getR dX5_readItem_90 fX5_15 (by first | assumption | rfl) (by rfl) ?_
        refine zaw_iconst (v := nI 1) dX5_readItem_93 (by decide) ?_
        refine zaw_callSF dX5_readItem_94 kX5_43 (zc_at (by first | assumption | rfl) (by omega) (by decide)) rfl rfl rfl (Nat.le_of_ble_eq_true rfl) (Nat.le_of_ble_eq_true rfl) ?_
        dsimp only [Option.toList, List.cons_append, List.nil_append, Nat.reduceAdd]
        rw [q30, q31]
        refine zaw_callV dX5_readItem_97 kX5_51 (zc_P_addRoom d3 hP (hb 0) (hb 1)) (by first | assumption | rfl) rfl rfl rfl (Nat.le_of_ble_eq_true rfl) (Nat.le_of_ble_eq_true rfl) ?_
        rintro v h4 hq4
        dsimp only [Option.toList, List.cons_append, List.nil_append, Nat.reduceAdd]
        rcases hq4 with ⟨o1, rfl, o3, o4⟩ | ⟨o1, rfl, rfl⟩
        · have ez : itS (ltr T n) a P = some (addR P (w.1.getD 0 0) (w.1.getD 1 0), w.2) := by
            unfold itS
            rw [if_neg c18, if_pos hc, hz]
            dsimp only
            rw [if_pos o1]
          refine zaw_if_eqN (tgt := 107) dX5_readItem_100 (by decide) (by omega) (fun q => absurd q (by omega)) (fun _ => ?_)
          refine zaw_iconst (v := nI 1) dX5_readItem_103 (by decide) ?_
          refine zaw_goto (tgt := 108) dX5_readItem_104 (by decide) ?_
          refine zaw_iret dX5_readItem_108 rfl (by first | rfl | exact (pk_charN (by omega)).1 | decide) ?_
          refine ⟨(FTD.of3 (f2.trans f3)).trans (FTD.ofD o4), ?_⟩
          rw [ez]
          exact ⟨rfl, o3, by rw [o4 1 (by decide)]; exact q2⟩
        · have ez : itS (ltr T n) a P = none := by
            unfold itS
            rw [if_neg c18, if_pos hc, hz]
            dsimp only
            rw [if_neg o1]
          refine zaw_if_eqN (tgt := 107) dX5_readItem_100 (by decide) (by omega) (fun _ => ?_) (fun q => absurd q (by omega))
          refine zaw_iconst (v := nI 0) dX5_readItem_107 (by decide) ?_
          refine zaw_iret dX5_readItem_108 rfl (by first | rfl | exact (pk_charN (by omega)).1 | decide) ?_
          exact ⟨FTD.of3 (f2.trans f3), by rw [ez]⟩
  · have hc : ltr T n a = 99 := by omega
    refine zaw_aload_n dX5_readItem_21 rfl rfl ?_
    refine zaw_iconst (v := nI 3) dX5_readItem_22 (by decide) ?_
    refine zaw_callV dX5_readItem_23 kX5_39 (zc_T_readNumbers t2 hk (by omega) (by omega)) (by first | assumption | rfl) rfl rfl rfl (Nat.le_of_ble_eq_true rfl) (Nat.le_of_ble_eq_true rfl) ?_
    rintro v h3 ⟨f3, hq⟩
    dsimp only [Option.toList, List.cons_append, List.nil_append, Nat.reduceAdd]
    cases hz : nmL (ltr T n) 3 (a + 1) with
    | none =>
      rw [hz] at hq
      dsimp only at hq
      subst hq
      have ez : itS (ltr T n) a P = none := by unfold itS; rw [if_pos hc, hz]
      refine zaw_if_eqN (tgt := 64) dX5_readItem_26 (by decide) (by omega) (fun _ => ?_) (fun q => absurd q (by omega))
      refine zaw_iconst (v := nI 0) dX5_readItem_64 (by decide) ?_
      refine zaw_iret dX5_readItem_65 rfl (by first | rfl | exact (pk_charN (by omega)).1 | decide) ?_
      exact ⟨FTD.of3 (f2.trans f3), by rw [ez]⟩
    | some w =>
      rw [hz] at hq
      obtain ⟨rfl, q2, q3, q4⟩ := hq
      have q30 : h3 3 0 = w.1.getD 0 0 := q3 0 (by decide)
      have q31 : h3 3 1 = w.1.getD 1 0 := q3 1 (by decide)
      have q32 : h3 3 2 = w.1.getD 2 0 := q3 2 (by decide)
      have hb := (nmL_lt hl 3 _ w hz).2.2
      have d3 : DR h3 P := d2.fr3 f3
      refine zaw_if_eqN (tgt := 64) dX5_readItem_26 (by decide) (by omega) (fun q => absurd q (by omega)) (fun _ => ?_)
      refine zaw_aload_n dX5_readItem_29 rfl rfl ?_
      refine zaw_aload_n dX5_readItem_30 rfl rfl ?_
      refine zaw_getR dX5_readItem_31 fX5_15 (by first | assumption | rfl) (by rfl) ?_
      refine zaw_iconst (v := nI 0) dX5_readItem_34 (by decide) ?_
      refine zaw_callSF dX5_readItem_35 kX5_43 (zc_at (by first | assumption | rfl) (by omega) (by decide)) rfl rfl rfl (Nat.le_of_ble_eq_true rfl) (Nat.le_of_ble_eq_true rfl) ?_
      dsimp only [Option.toList, List.cons_append, List.nil_append, Nat.reduceAdd]
      refine zaw_aload_n dX5_readItem_38 rfl rfl ?_
      refine zaw_getR dX5_readItem_39 fX5_15 (by first | assumption | rfl) (by rfl) ?_
      refine zaw_iconst (v := nI 1) dX5_readItem_42 (by decide) ?_
      refine zaw_callSF dX5_readItem_43 kX5_43 (zc_at (by first | assumption | rfl) (by omega) (by decide)) rfl rfl rfl (Nat.le_of_ble_eq_true rfl) (Nat.le_of_ble_eq_true rfl) ?_
      dsimp only [Option.toList, List.cons_append, List.nil_append, Nat.reduceAdd]
      refine zaw_aload_n dX5_readItem_46 rfl rfl ?_
      refine zaw_getR dX5_readItem_47 fX5_15 (by first | assumption | rfl) (by rfl) ?_
      refine zaw_iconst (v := nI 2) dX5_readItem_50 (by decide) ?_
      refine zaw_callSF dX5_readItem_51 kX5_43 (zc_at (by first | assumption | rfl) (by omega) (by decide)) rfl rfl rfl (Nat.le_of_ble_eq_true rfl) (Nat.le_of_ble_eq_true rfl) ?_
      dsimp only [Option.toList, List.cons_append, List.nil_append, Nat.reduceAdd]
      rw [q30, q31, q32]
      refine zaw_callV dX5_readItem_54 kX5_47 (zc_P_addCousin d3 hP (hb 0) (hb 1) (hb 2)) (by first | assumption | rfl) rfl rfl rfl (Nat.le_of_ble_eq_true rfl) (Nat.le_of_ble_eq_true rfl) ?_
      rintro v h4 hq4
      dsimp only [Option.toList, List.cons_append, List.nil_append, Nat.reduceAdd]
      rcases hq4 with ⟨o1, rfl, o3, o4⟩ | ⟨o1, rfl, rfl⟩
      · have ez : itS (ltr T n) a P = some (addC P (w.1.getD 0 0) (w.1.getD 1 0) (w.1.getD 2 0), w.2) := by
          unfold itS
          rw [if_pos hc, hz]
          dsimp only
          rw [if_pos o1]
        refine zaw_if_eqN (tgt := 64) dX5_readItem_57 (by decide) (by omega) (fun q => absurd q (by omega)) (fun _ => ?_)
        refine zaw_iconst (v := nI 1) dX5_readItem_60 (by decide) ?_
        refine zaw_goto (tgt := 65) dX5_readItem_61 (by decide) ?_
        refine zaw_iret dX5_readItem_65 rfl (by first | rfl | exact (pk_charN (by omega)).1 | decide) ?_
        refine ⟨(FTD.of3 (f2.trans f3)).trans (FTD.ofD o4), ?_⟩
        rw [ez]
        exact ⟨rfl, o3, by rw [o4 1 (by decide)]; exact q2⟩
      · have ez : itS (ltr T n) a P = none := by
          unfold itS
          rw [if_pos hc, hz]
          dsimp only
          rw [if_neg o1]
        refine zaw_if_eqN (tgt := 64) dX5_readItem_57 (by decide) (by omega) (fun _ => ?_) (fun q => absurd q (by omega))
        refine zaw_iconst (v := nI 0) dX5_readItem_64 (by decide) ?_
        refine zaw_iret dX5_readItem_65 rfl (by first | rfl | exact (pk_charN (by omega)).1 | decide) ?_
        exact ⟨FTD.of3 (f2.trans f3), by rw [ez]⟩
theorem zc_T_readInto {d n a0 : Nat} {h : Hp} {T : Nat → Nat} (ht : TXS h T n a0) (hk : TOk T n) : zRT mX5_readInto (d + 4) [.ref 1, .ref 10] h (rdQ (psr (ltr T n) n 200 0 P00) h) := by
  have hn := hk.1
  have hl := ltr_lt hk
  have loop : ∀ u k a P hh, k + u = 200 → a ≤ 2 ^ 20 → TXS hh T n a → DR hh P → PSOk P → FTD h hh → zAW mX5_readInto (d + 4) 11 [some (.ref 1), some (.ref 10), some (.int (nI k)), none] [] hh (rdQ (psr (ltr T n) n u a P) h) := by
    intro u
    induction u with
    | zero =>
      intro k a P hh hku ha htx hdr hP hf
      refine zaw_iload_n dX5_readInto_11 rfl rfl ?_
      refine zaw_sipush (v := nI 200) dX5_readInto_12 (by decide) ?_
      refine zaw_icmp_geN (tgt := 50) dX5_readInto_15 (by decide) (by omega) (by omega) (fun _ => ?_) (fun q => absurd q (by omega))
      refine zaw_bipush (v := nI 4294967292) dX5_readInto_50 (by decide) ?_
      refine zaw_iret dX5_readInto_52 rfl (by first | rfl | exact (pk_charN (by omega)).1 | decide) ?_
      exact ⟨hf, rfl, hdr⟩
    | succ u ih =>
      intro k a P hh hku ha htx hdr hP hf
      obtain ⟨e1, e2, e3⟩ := id htx
      refine zaw_iload_n dX5_readInto_11 rfl rfl ?_
      refine zaw_sipush (v := nI 200) dX5_readInto_12 (by decide) ?_
      refine zaw_icmp_geN (tgt := 50) dX5_readInto_15 (by decide) (by omega) (by omega) (fun q => absurd q (by omega)) (fun _ => ?_)
      refine zaw_aload_n dX5_readInto_18 rfl rfl ?_
      refine zaw_getI dX5_readInto_19 fX5_28 (by first | assumption | rfl) (by rfl) ?_
      refine zaw_aload_n dX5_readInto_22 rfl rfl ?_
      refine zaw_getI dX5_readInto_23 fX5_19 (by first | assumption | rfl) (by rfl) ?_
      rw [e1, e2]
      refine zaw_icmp_geN (tgt := 50) dX5_readInto_26 (by decide) (by omega) (by omega) (fun c26 => ?_) (fun c26 => ?_)
      · have ez : psr (ltr T n) n (u + 1) a P = .inr P := by unfold psr; rw [if_neg (by omega)]
        rw [ez]
        refine zaw_bipush (v := nI 4294967292) dX5_readInto_50 (by decide) ?_
        refine zaw_iret dX5_readInto_52 rfl (by first | rfl | exact (pk_charN (by omega)).1 | decide) ?_
        exact ⟨hf, rfl, hdr⟩
      · have han : a < n := by omega
        refine zaw_aload_n dX5_readInto_29 rfl rfl ?_
        refine zaw_getI dX5_readInto_30 fX5_28 (by first | assumption | rfl) (by rfl) ?_
        rw [e2]
        refine zaw_istore_n dX5_readInto_33 rfl (Nat.le_of_ble_eq_true rfl) rfl ?_
        dsimp only [List.set]
        refine zaw_aload_n dX5_readInto_34 rfl rfl ?_
        refine zaw_aload_n dX5_readInto_35 rfl rfl ?_
        refine zaw_callV dX5_readInto_36 kX5_31 (zc_T_readItem htx hk han hdr hP) (by first | assumption | rfl) rfl rfl rfl (Nat.le_of_ble_eq_true rfl) (Nat.le_of_ble_eq_true rfl) ?_
        rintro v h2 ⟨f2, hq⟩
        dsimp only [Option.toList, List.cons_append, List.nil_append, Nat.reduceAdd]
        cases hz : itS (ltr T n) a P with
        | none =>
          rw [hz] at hq
          dsimp only at hq
          subst hq
          have ez : psr (ltr T n) n (u + 1) a P = .inl a := by unfold psr; rw [if_pos han, hz]
          rw [ez]
          refine zaw_if_neN (tgt := 44) dX5_readInto_39 (by decide) (by omega) (fun q => absurd q (by omega)) (fun _ => ?_)
          refine zaw_iload_n dX5_readInto_42 rfl rfl ?_
          refine zaw_iret dX5_readInto_43 rfl (by first | rfl | exact (pk_charN (by omega)).1 | decide) ?_
          exact ⟨hf.trans f2, rfl⟩
        | some q =>
          rw [hz] at hq
          obtain ⟨rfl, q2, q3⟩ := hq
          have ez : psr (ltr T n) n (u + 1) a P = psr (ltr T n) n u q.2 q.1 := by
            conv => lhs; unfold psr
            rw [if_pos han, hz]
          rw [ez]
          obtain ⟨i1, i2, i3⟩ := itS_lt hl hP hz
          refine zaw_if_neN (tgt := 44) dX5_readInto_39 (by decide) (by omega) (fun _ => ?_) (fun q => absurd q (by omega))
          refine zaw_iincN (v := 1) dX5_readInto_44 rfl rfl ?_
          dsimp only [List.set]
          refine zaw_goto (tgt := 11) dX5_readInto_47 (by decide) ?_
          refine zaw_forget 3 ?_
          dsimp only [List.set]
          exact ih (k + 1) q.2 q.1 h2 (by omega) (by omega) (htx.fr f2 q3) q2 i3 (hf.trans f2)
  change zAW mX5_readInto _ 0 [some (.ref 1), some (.ref 10), none, none] [] h _
  refine zaw_aload_n dX5_readInto_0 rfl rfl ?_
  refine zaw_callVF dX5_readInto_1 kX5_23 (zc_P_clear) (by first | assumption | rfl) rfl rfl rfl (Nat.le_of_ble_eq_true rfl) (Nat.le_of_ble_eq_true rfl) ?_
  dsimp only [Option.toList, List.cons_append, List.nil_append, Nat.reduceAdd]
  refine zaw_aload_n dX5_readInto_4 rfl rfl ?_
  refine zaw_iconst (v := nI 0) dX5_readInto_5 (by decide) ?_
  refine zaw_putfield dX5_readInto_6 gX5_28 (by first | assumption | rfl) (by rfl) ?_
  refine zaw_iconst (v := nI 0) dX5_readInto_9 (by decide) ?_
  refine zaw_istore_n dX5_readInto_10 rfl (Nat.le_of_ble_eq_true rfl) rfl ?_
  dsimp only [List.set]
  refine loop 200 0 0 P00 _ (by omega) (by omega) ?_ ?_ P00_ok ?_
  · refine ⟨?_, by rw [hw_at, if_pos rfl], fun k hk2 => ?_⟩
    · rw [hw_at, if_neg (by decide), hw_ne (by decide), hw_ne (by decide)]; exact ht.1
    · rw [hw_ne (by decide), hw_ne (by decide), hw_ne (by decide)]; exact ht.2.2 k hk2
  · refine ⟨?_, ?_, fun i hi => by have hi : i < 0 := hi; omega, fun i hi => by have hi : i < 0 := hi; omega⟩
    · rw [hw_ne (by decide), hw_at, if_neg (by decide), hw_at, if_pos rfl]; rfl
    · rw [hw_ne (by decide), hw_at, if_pos rfl]; rfl
  · refine ⟨?_, fun o p q r => ?_⟩
    · rw [hw_at, if_neg (by decide), hw_ne (by decide), hw_ne (by decide)]
    · rw [hw_ne p, hw_ne (by omega), hw_ne (by omega)]

theorem PL.zat {P n : Nat} (hp : PL P n) : zlay[P]? = some (oO 0 [some (P + 1), none]) ∧ ∃ rs, zlay[P + 1]? = some (oR rs) ∧ rs.length = n ∧ ∀ k, k < n → rs[k]? = some (P + 2 + 3 * k) ∧ zSD (P + 2 + 3 * k) := by
  rcases hp with ⟨rfl, rfl⟩ | ⟨rfl, rfl⟩
  · refine ⟨rfl, _, rfl, rfl, ?_⟩
    intro k hk
    rcases (show k = 0 ∨ k = 1 ∨ k = 2 ∨ k = 3 ∨ k = 4 ∨ k = 5 ∨ k = 6 ∨ k = 7 by omega) with rfl | rfl | rfl | rfl | rfl | rfl | rfl | rfl <;> exact ⟨rfl, rfl, rfl, rfl⟩
  · refine ⟨rfl, _, rfl, rfl, ?_⟩
    intro k hk
    rcases (show k = 0 ∨ k = 1 by omega) with rfl | rfl <;> exact ⟨rfl, rfl, rfl, rfl⟩
theorem zc_L_clear {d P n : Nat} {h : Hp} (hp : PL P n) : zRT mX0_clear d [.ref P] h (fun v h' => v = none ∧ h' = hw h P 1 0) := by
  have l0 := hp.zat.1
  change zAW mX0_clear _ 0 [some (.ref P)] [] h _
  refine zaw_aload_n dX0_clear_0 rfl rfl ?_
  refine zaw_iconst (v := nI 0) dX0_clear_1 (by decide) ?_
  refine zaw_putfield dX0_clear_2 gX0_22 (by first | assumption | rfl) (by rfl) ?_
  refine zaw_vret dX0_clear_5 rfl ?_
  exact ⟨rfl, rfl⟩
theorem zc_Z_clear {d : Nat} {h : Hp} : zRT mX3_clear d [.ref 56] h (fun v h' => v = none ∧ h' = hw h 56 3 0) := by
  change zAW mX3_clear _ 0 [some (.ref 56)] [] h _
  refine zaw_aload_n dX3_clear_0 rfl rfl ?_
  refine zaw_iconst (v := nI 0) dX3_clear_1 (by decide) ?_
  refine zaw_putfield dX3_clear_2 gX3_21 (by first | assumption | rfl) (by rfl) ?_
  refine zaw_vret dX3_clear_5 rfl ?_
  exact ⟨rfl, rfl⟩
theorem zc_T_clear {d : Nat} {h : Hp} : zRT mX5_clear d [.ref 1] h (fun v h' => v = none ∧ h' = hw h 1 2 0) := by
  change zAW mX5_clear _ 0 [some (.ref 1)] [] h _
  refine zaw_aload_n dX5_clear_0 rfl rfl ?_
  refine zaw_iconst (v := nI 0) dX5_clear_1 (by decide) ?_
  refine zaw_putfield dX5_clear_2 gX5_19 (by first | assumption | rfl) (by rfl) ?_
  refine zaw_vret dX5_clear_5 rfl ?_
  exact ⟨rfl, rfl⟩
theorem zc_T_add {d x : Nat} {h : Hp} (hq : h 1 2 < 200) (hx : x ≤ 126) : zRT mX5_add d [.ref 1, .int (nI x)] h (fun v h' => v = none ∧ h' = hw (hw h 2 (h 1 2) x) 1 2 (h 1 2 + 1)) := by
  change zAW mX5_add _ 0 [some (.ref 1), some (.int (nI x))] [] h _
  refine zaw_aload_n dX5_add_0 rfl rfl ?_
  refine zaw_getI dX5_add_1 fX5_19 (by first | assumption | rfl) (by rfl) ?_
  refine zaw_if_ltN (tgt := 39) dX5_add_4 (by decide) (by omega) (fun q => absurd q (by omega)) (fun _ => ?_)
  refine zaw_aload_n dX5_add_7 rfl rfl ?_
  refine zaw_getI dX5_add_8 fX5_19 (by first | assumption | rfl) (by rfl) ?_
  refine zaw_aload_n dX5_add_11 rfl rfl ?_
  refine zaw_getR dX5_add_12 fX5_9 (by first | assumption | rfl) (by rfl) ?_
  refine zaw_alenC dX5_add_15 (by first | assumption | rfl) ?_
  refine zaw_icmp_geN (tgt := 39) dX5_add_16 (by decide) (by omega) (by omega) (fun q => absurd q (by omega)) (fun _ => ?_)
  refine zaw_aload_n dX5_add_19 rfl rfl ?_
  refine zaw_getR dX5_add_20 fX5_9 (by first | assumption | rfl) (by rfl) ?_
  refine zaw_aload_n dX5_add_23 rfl rfl ?_
  refine zaw_getI dX5_add_24 fX5_19 (by first | assumption | rfl) (by rfl) ?_
  refine zaw_iload_n dX5_add_27 rfl rfl ?_
  refine zaw_castore dX5_add_28 (by first | assumption | rfl) (by omega) (by omega) (by omega) ?_
  refine zaw_aload_n dX5_add_29 rfl rfl ?_
  refine zaw_dup dX5_add_30 rfl ?_
  refine zaw_getI dX5_add_31 fX5_19 (by first | assumption | rfl) (by rfl) ?_
  refine zaw_iconst (v := nI 1) dX5_add_34 (by decide) ?_
  refine zaw_iaddN dX5_add_35 ?_
  rw [hw_ne (by decide)]
  refine zaw_putfield dX5_add_36 gX5_19 (by first | assumption | rfl) (by rfl) ?_
  refine zaw_vret dX5_add_39 rfl ?_
  exact ⟨rfl, rfl⟩
theorem zc_P_copyFrom {d : Nat} {h : Hp} : zRT mX1_copyFrom (d + 1) [.ref 4, .ref 10] h (fun v h' => v = none ∧ h' = hcp (hcp (hcp (hcp (hcp (hw (hw h 4 5 (h 10 5)) 4 6 (h 10 6)) 11 5 8) 12 6 8) 13 7 8) 14 8 8) 15 9 8) := by
  change zAW mX1_copyFrom _ 0 [some (.ref 4), some (.ref 10)] [] h _
  refine zaw_aload_n dX1_copyFrom_0 rfl rfl ?_
  refine zaw_aload_n dX1_copyFrom_1 rfl rfl ?_
  refine zaw_getI dX1_copyFrom_2 fX1_27 (by first | assumption | rfl) (by rfl) ?_
  refine zaw_putfield dX1_copyFrom_5 gX1_27 (by first | assumption | rfl) (by rfl) ?_
  refine zaw_aload_n dX1_copyFrom_8 rfl rfl ?_
  refine zaw_aload_n dX1_copyFrom_9 rfl rfl ?_
  refine zaw_getI dX1_copyFrom_10 fX1_31 (by first | assumption | rfl) (by rfl) ?_
  rw [hw_ne (by decide)]
  refine zaw_putfield dX1_copyFrom_13 gX1_31 (by first | assumption | rfl) (by rfl) ?_
  refine zaw_aload_n dX1_copyFrom_16 rfl rfl ?_
  refine zaw_getR dX1_copyFrom_17 fX1_9 (by first | assumption | rfl) (by rfl) ?_
  refine zaw_aload_n dX1_copyFrom_20 rfl rfl ?_
  refine zaw_getR dX1_copyFrom_21 fX1_9 (by first | assumption | rfl) (by rfl) ?_
  refine zaw_callSF dX1_copyFrom_24 kX1_42 (zc_copyRow (by first | assumption | rfl) (by first | assumption | rfl) (by first | assumption | decide) (by decide)) rfl rfl rfl (Nat.le_of_ble_eq_true rfl) (Nat.le_of_ble_eq_true rfl) ?_
  dsimp only [Option.toList, List.cons_append, List.nil_append, Nat.reduceAdd]
  refine zaw_aload_n dX1_copyFrom_27 rfl rfl ?_
  refine zaw_getR dX1_copyFrom_28 fX1_15 (by first | assumption | rfl) (by rfl) ?_
  refine zaw_aload_n dX1_copyFrom_31 rfl rfl ?_
  refine zaw_getR dX1_copyFrom_32 fX1_15 (by first | assumption | rfl) (by rfl) ?_
  refine zaw_callSF dX1_copyFrom_35 kX1_42 (zc_copyRow (by first | assumption | rfl) (by first | assumption | rfl) (by first | assumption | decide) (by decide)) rfl rfl rfl (Nat.le_of_ble_eq_true rfl) (Nat.le_of_ble_eq_true rfl) ?_
  dsimp only [Option.toList, List.cons_append, List.nil_append, Nat.reduceAdd]
  refine zaw_aload_n dX1_copyFrom_38 rfl rfl ?_
  refine zaw_getR dX1_copyFrom_39 fX1_18 (by first | assumption | rfl) (by rfl) ?_
  refine zaw_aload_n dX1_copyFrom_42 rfl rfl ?_
  refine zaw_getR dX1_copyFrom_43 fX1_18 (by first | assumption | rfl) (by rfl) ?_
  refine zaw_callSF dX1_copyFrom_46 kX1_42 (zc_copyRow (by first | assumption | rfl) (by first | assumption | rfl) (by first | assumption | decide) (by decide)) rfl rfl rfl (Nat.le_of_ble_eq_true rfl) (Nat.le_of_ble_eq_true rfl) ?_
  dsimp only [Option.toList, List.cons_append, List.nil_append, Nat.reduceAdd]
  refine zaw_aload_n dX1_copyFrom_49 rfl rfl ?_
  refine zaw_getR dX1_copyFrom_50 fX1_21 (by first | assumption | rfl) (by rfl) ?_
  refine zaw_aload_n dX1_copyFrom_53 rfl rfl ?_
  refine zaw_getR dX1_copyFrom_54 fX1_21 (by first | assumption | rfl) (by rfl) ?_
  refine zaw_callSF dX1_copyFrom_57 kX1_42 (zc_copyRow (by first | assumption | rfl) (by first | assumption | rfl) (by first | assumption | decide) (by decide)) rfl rfl rfl (Nat.le_of_ble_eq_true rfl) (Nat.le_of_ble_eq_true rfl) ?_
  dsimp only [Option.toList, List.cons_append, List.nil_append, Nat.reduceAdd]
  refine zaw_aload_n dX1_copyFrom_60 rfl rfl ?_
  refine zaw_getR dX1_copyFrom_61 fX1_24 (by first | assumption | rfl) (by rfl) ?_
  refine zaw_aload_n dX1_copyFrom_64 rfl rfl ?_
  refine zaw_getR dX1_copyFrom_65 fX1_24 (by first | assumption | rfl) (by rfl) ?_
  refine zaw_callSF dX1_copyFrom_68 kX1_42 (zc_copyRow (by first | assumption | rfl) (by first | assumption | rfl) (by first | assumption | decide) (by decide)) rfl rfl rfl (Nat.le_of_ble_eq_true rfl) (Nat.le_of_ble_eq_true rfl) ?_
  dsimp only [Option.toList, List.cons_append, List.nil_append, Nat.reduceAdd]
  refine zaw_vret dX1_copyFrom_71 rfl ?_
  exact ⟨rfl, rfl⟩
theorem zc_S_beginAs {d o : Nat} {h : Hp} (hs : zSD o) (ho2 : 9 < o) : zRT mX4_beginAs (d + 2) [.ref o, .ref 4] h (fun v h' => v = none ∧ h' o 2 = 0 ∧ (∀ j, j < 8 → h' (o + 1) j = j ∧ h' (o + 2) j = h 6 j) ∧ ∀ a, a ≠ o → a ≠ o + 1 → a ≠ o + 2 → h' a = h a) := by
  obtain ⟨l0, l1, l2⟩ := id hs
  have loop : ∀ u k hh, k + u = 8 → hh o 2 = 0 → (∀ j, j < k → hh (o + 1) j = j ∧ hh (o + 2) j = h 6 j) → (∀ a, a ≠ o → a ≠ o + 1 → a ≠ o + 2 → hh a = h a) → zAW mX4_beginAs (d + 2) 7 [some (.ref o), some (.ref 4), some (.int (nI k))] [] hh (fun v h' => v = none ∧ h' o 2 = 0 ∧ (∀ j, j < 8 → h' (o + 1) j = j ∧ h' (o + 2) j = h 6 j) ∧ ∀ a, a ≠ o → a ≠ o + 1 → a ≠ o + 2 → h' a = h a) := by
    intro u
    induction u with
    | zero =>
      intro k hh hk g1 g2 g3
      have ek : k = 8 := by omega
      subst ek
      refine zaw_iload_n dX4_beginAs_7 rfl rfl ?_
      refine zaw_bipush (v := nI 8) dX4_beginAs_8 (by decide) ?_
      refine zaw_icmp_geN (tgt := 41) dX4_beginAs_10 (by decide) (by omega) (by omega) (fun _ => ?_) (fun q => absurd q (by omega))
      refine zaw_vret dX4_beginAs_41 rfl ?_
      exact ⟨rfl, g1, g2, g3⟩
    | succ u ih =>
      intro k hh hk g1 g2 g3
      refine zaw_iload_n dX4_beginAs_7 rfl rfl ?_
      refine zaw_bipush (v := nI 8) dX4_beginAs_8 (by decide) ?_
      refine zaw_icmp_geN (tgt := 41) dX4_beginAs_10 (by decide) (by omega) (by omega) (fun q => absurd q (by omega)) (fun _ => ?_)
      refine zaw_aload_n dX4_beginAs_13 rfl rfl ?_
      refine zaw_getR dX4_beginAs_14 fX4_9 (by first | assumption | rfl) (by rfl) ?_
      refine zaw_iload_n dX4_beginAs_17 rfl rfl ?_
      refine zaw_iload_n dX4_beginAs_18 rfl rfl ?_
      refine zaw_callSF dX4_beginAs_19 kX4_22 (zc_put (by first | assumption | rfl) (by omega) (by decide)) rfl rfl rfl (Nat.le_of_ble_eq_true rfl) (Nat.le_of_ble_eq_true rfl) ?_
      dsimp only [Option.toList, List.cons_append, List.nil_append, Nat.reduceAdd]
      refine zaw_aload_n dX4_beginAs_22 rfl rfl ?_
      refine zaw_getR dX4_beginAs_23 fX4_15 (by first | assumption | rfl) (by rfl) ?_
      refine zaw_iload_n dX4_beginAs_26 rfl rfl ?_
      refine zaw_aload_n dX4_beginAs_27 rfl rfl ?_
      refine zaw_iload_n dX4_beginAs_28 rfl rfl ?_
      refine zaw_callVF dX4_beginAs_29 kX4_26 (zc_P_birthdayAtFirst (by omega)) (by first | assumption | rfl) rfl rfl rfl (Nat.le_of_ble_eq_true rfl) (Nat.le_of_ble_eq_true rfl) ?_
      dsimp only [Option.toList, List.cons_append, List.nil_append, Nat.reduceAdd]
      rw [hw_ne (by omega), g3 6 (by omega) (by omega) (by omega)]
      refine zaw_callSF dX4_beginAs_32 kX4_22 (zc_put (by first | assumption | rfl) (by omega) (by decide)) rfl rfl rfl (Nat.le_of_ble_eq_true rfl) (Nat.le_of_ble_eq_true rfl) ?_
      dsimp only [Option.toList, List.cons_append, List.nil_append, Nat.reduceAdd]
      refine zaw_iincN (v := 1) dX4_beginAs_35 rfl rfl ?_
      dsimp only [List.set]
      refine zaw_goto (tgt := 7) dX4_beginAs_38 (by decide) ?_
      refine ih (k + 1) _ (by omega) (by rw [hw_ne (by omega), hw_ne (by omega)]; exact g1) (fun j hj => ⟨?_, ?_⟩) (fun a q1 q2 q3 => by rw [hw_ne q3, hw_ne q2]; exact g3 a q1 q2 q3)
      · rw [hw_ne (by omega), hw_at]
        split
        · omega
        · exact (g2 j (by omega)).1
      · rw [hw_at]
        split
        · rename_i z; rw [z]
        · rw [hw_ne (by omega)]; exact (g2 j (by omega)).2
  change zAW mX4_beginAs _ 0 [some (.ref o), some (.ref 4), none] [] h _
  refine zaw_aload_n dX4_beginAs_0 rfl rfl ?_
  refine zaw_iconst (v := nI 0) dX4_beginAs_1 (by decide) ?_
  refine zaw_putfield dX4_beginAs_2 gX4_18 (by first | assumption | rfl) (by rfl) ?_
  refine zaw_iconst (v := nI 0) dX4_beginAs_5 (by decide) ?_
  refine zaw_istore_n dX4_beginAs_6 rfl (Nat.le_of_ble_eq_true rfl) rfl ?_
  dsimp only [List.set]
  exact loop 8 0 _ (by omega) (by rw [hw_at, if_pos rfl]) (fun j hj => by omega) (fun a q1 _ _ => hw_ne q1)
theorem zc_X_moveIn {d : Nat} {h : Hp} {X : XS} {P : PS} (hd0 : DR h P) (hP : PSOk P) (h1 : 1 ≤ pn P ∧ pm P = pn P) (ht : h 1 2 = (xT X).1 ∧ ∀ k, k < (xT X).1 → h 2 k = (xT X).2 k) : zRT mX7_moveIn (d + 3) [.ref 0] h (fun v h' => v = none ∧ RX h' (layX X P) ∧ FX h h') := by
  obtain ⟨e1, e2, e3, e4⟩ := hd0
  obtain ⟨a1, a2, a3, a4⟩ := hP
  change zAW mX7_moveIn _ 0 [some (.ref 0)] [] h _
  refine zaw_aload_n dX7_moveIn_0 rfl rfl ?_
  refine zaw_getR dX7_moveIn_1 fX7_19 (by first | assumption | rfl) (by rfl) ?_
  refine zaw_aload_n dX7_moveIn_4 rfl rfl ?_
  refine zaw_getR dX7_moveIn_5 fX7_23 (by first | assumption | rfl) (by rfl) ?_
  refine zaw_callVF dX7_moveIn_8 kX7_256 (zc_P_copyFrom) (by first | assumption | rfl) rfl rfl rfl (Nat.le_of_ble_eq_true rfl) (Nat.le_of_ble_eq_true rfl) ?_
  dsimp only [Option.toList, List.cons_append, List.nil_append, Nat.reduceAdd]
  refine zaw_aload_n dX7_moveIn_11 rfl rfl ?_
  refine zaw_getR dX7_moveIn_12 fX7_33 (by first | assumption | rfl) (by rfl) ?_
  refine zaw_aload_n dX7_moveIn_15 rfl rfl ?_
  refine zaw_getR dX7_moveIn_16 fX7_19 (by first | assumption | rfl) (by rfl) ?_
  obtain ⟨hh, hhe⟩ : ∃ hh, hh = hcp (hcp (hcp (hcp (hcp (hw (hw h 4 5 (h 10 5)) 4 6 (h 10 6)) 11 5 8) 12 6 8) 13 7 8) 14 8 8) 15 9 8 := ⟨_, rfl⟩
  rw [← hhe]
  have n1 : hh 4 5 = pn P := by
    rw [hhe, hcp_ne (by decide), hcp_ne (by decide), hcp_ne (by decide), hcp_ne (by decide), hcp_ne (by decide), hw_at, if_neg (by decide), hw_at, if_pos rfl]; exact e1
  have n2 : hh 4 6 = pn P := by
    rw [hhe, hcp_ne (by decide), hcp_ne (by decide), hcp_ne (by decide), hcp_ne (by decide), hcp_ne (by decide), hw_at, if_pos rfl, e2]; exact h1.2
  have n5 : ∀ i, i < 8 → hh 5 i = h 11 i := fun i hi => by
    rw [hhe, hcp_ne (by decide), hcp_ne (by decide), hcp_ne (by decide), hcp_ne (by decide), hcp_at hi, hw_ne (by decide), hw_ne (by decide)]
  have n6 : ∀ i, i < 8 → hh 6 i = h 12 i := fun i hi => by
    rw [hhe, hcp_ne (by decide), hcp_ne (by decide), hcp_ne (by decide), hcp_at hi, hcp_ne (by decide), hw_ne (by decide), hw_ne (by decide)]
  have n7 : ∀ i, i < 8 → hh 7 i = h 13 i := fun i hi => by
    rw [hhe, hcp_ne (by decide), hcp_ne (by decide), hcp_at hi, hcp_ne (by decide), hcp_ne (by decide), hw_ne (by decide), hw_ne (by decide)]
  have n8 : ∀ i, i < 8 → hh 8 i = h 14 i := fun i hi => by
    rw [hhe, hcp_ne (by decide), hcp_at hi, hcp_ne (by decide), hcp_ne (by decide), hcp_ne (by decide), hw_ne (by decide), hw_ne (by decide)]
  have n9 : ∀ i, i < 8 → hh 9 i = h 15 i := fun i hi => by
    rw [hhe, hcp_at hi, hcp_ne (by decide), hcp_ne (by decide), hcp_ne (by decide), hcp_ne (by decide), hw_ne (by decide), hw_ne (by decide)]
  have nf : ∀ o, o < 4 ∨ 9 < o → hh o = h o := fun o ho => by
    rw [hhe, hcp_ne (by omega), hcp_ne (by omega), hcp_ne (by omega), hcp_ne (by omega), hcp_ne (by omega), hw_ne (by omega), hw_ne (by omega)]
  refine zaw_callV dX7_moveIn_19 kX7_258 (zc_S_beginAs ⟨rfl, rfl, rfl⟩ (by decide)) (by first | assumption | rfl) rfl rfl rfl (Nat.le_of_ble_eq_true rfl) (Nat.le_of_ble_eq_true rfl) ?_
  rintro _ h2 ⟨rfl, b1, b2, b3⟩
  dsimp only [Option.toList, List.cons_append, List.nil_append, Nat.reduceAdd]
  refine zaw_aload_n dX7_moveIn_22 rfl rfl ?_
  refine zaw_getR dX7_moveIn_23 fX7_29 (by first | assumption | rfl) (by rfl) ?_
  refine zaw_aload_n dX7_moveIn_26 rfl rfl ?_
  refine zaw_getR dX7_moveIn_27 fX7_33 (by first | assumption | rfl) (by rfl) ?_
  refine zaw_callVF dX7_moveIn_30 kX7_166 (zc_S_copyFrom (by first | assumption | exact ⟨rfl, rfl, rfl⟩) (by first | assumption | exact ⟨rfl, rfl, rfl⟩) (by omega)) (by first | assumption | rfl) rfl rfl rfl (Nat.le_of_ble_eq_true rfl) (Nat.le_of_ble_eq_true rfl) ?_
  dsimp only [Option.toList, List.cons_append, List.nil_append, Nat.reduceAdd]
  refine zaw_aload_n dX7_moveIn_33 rfl rfl ?_
  refine zaw_getR dX7_moveIn_34 fX7_51 (by first | assumption | rfl) (by rfl) ?_
  refine zaw_callVF dX7_moveIn_37 kX7_231 (zc_Z_clear) (by first | assumption | rfl) rfl rfl rfl (Nat.le_of_ble_eq_true rfl) (Nat.le_of_ble_eq_true rfl) ?_
  dsimp only [Option.toList, List.cons_append, List.nil_append, Nat.reduceAdd]
  refine zaw_aload_n dX7_moveIn_40 rfl rfl ?_
  refine zaw_getR dX7_moveIn_41 fX7_41 (by first | assumption | rfl) (by rfl) ?_
  refine zaw_callVF dX7_moveIn_44 kX7_255 (zc_L_clear (n := 8) (Or.inl ⟨rfl, rfl⟩)) (by first | assumption | rfl) rfl rfl rfl (Nat.le_of_ble_eq_true rfl) (Nat.le_of_ble_eq_true rfl) ?_
  dsimp only [Option.toList, List.cons_append, List.nil_append, Nat.reduceAdd]
  refine zaw_aload_n dX7_moveIn_47 rfl rfl ?_
  refine zaw_getR dX7_moveIn_48 fX7_45 (by first | assumption | rfl) (by rfl) ?_
  refine zaw_callVF dX7_moveIn_51 kX7_255 (zc_L_clear (n := 2) (Or.inr ⟨rfl, rfl⟩)) (by first | assumption | rfl) rfl rfl rfl (Nat.le_of_ble_eq_true rfl) (Nat.le_of_ble_eq_true rfl) ?_
  dsimp only [Option.toList, List.cons_append, List.nil_append, Nat.reduceAdd]
  refine zaw_vret dX7_moveIn_54 rfl ?_
  have g1 : ∀ o, o ≠ 16 → o ≠ 17 → o ≠ 18 → o ≠ 19 → o ≠ 20 → o ≠ 21 → o ≠ 22 → o ≠ 48 → o ≠ 56 → hw (hw (hw (hcs h2 19 16) 56 3 0) 22 1 0) 48 1 0 o = hh o := fun o q1 q2 q3 q4 q5 q6 q7 q8 q9 => by
    rw [hw_ne q8, hw_ne q7, hw_ne q9, hcs_ne q1 q2 q3, b3 o q4 q5 q6]
  have sv19 : SVt h2 (pn P) 19 (0, pb P, fun i => i) := ⟨b1, fun i hi => ⟨(b2 i (by omega)).1, by
    rw [(b2 i (by omega)).2, n6 i (by omega)]; exact (e3 i hi).2.1⟩⟩
  refine ⟨rfl, ⟨⟨?_, ?_, fun i hi => ?_⟩, ?_, ?_, ⟨?_, fun k hk => by have hk : k < 0 := hk; omega⟩, ⟨?_, fun k hk => by have hk : k < 0 := hk; omega⟩, ⟨fun _ => (0, 0, 0), ⟨?_, fun k hk => by have hk : k < 0 := hk; omega⟩, fun k hk => by have hk : k < 0 := hk; omega, fun k hk => by have hk : k < 0 := hk; omega, fun k hk => by have hk : k + 1 < 0 := hk; omega⟩, ?_, fun k hk => ?_⟩, fun o ho => ?_⟩
  · rw [g1 4 (by decide) (by decide) (by decide) (by decide) (by decide) (by decide) (by decide) (by decide) (by decide)]; exact n1
  · rw [g1 4 (by decide) (by decide) (by decide) (by decide) (by decide) (by decide) (by decide) (by decide) (by decide)]; exact n2
  · have hi : i < pn P := hi
    rw [g1 5 (by decide) (by decide) (by decide) (by decide) (by decide) (by decide) (by decide) (by decide) (by decide), g1 7 (by decide) (by decide) (by decide) (by decide) (by decide) (by decide) (by decide) (by decide) (by decide), g1 8 (by decide) (by decide) (by decide) (by decide) (by decide) (by decide) (by decide) (by decide) (by decide), g1 9 (by decide) (by decide) (by decide) (by decide) (by decide) (by decide) (by decide) (by decide) (by decide), n5 i (by omega), n7 i (by omega), n8 i (by omega), n9 i (by omega)]
    have z1 := e3 i hi
    have z2 := e4 i (by omega)
    exact ⟨z1.1, z1.2.2, z2.1, z2.2⟩
  · exact (((sv19.cp (o := 16) a1 (by omega)).fr (hw_ne (by decide)) (hw_ne (by decide)) (hw_ne (by decide))).fr (hw_ne (by decide)) (hw_ne (by decide)) (hw_ne (by decide))).fr (hw_ne (by decide)) (hw_ne (by decide)) (hw_ne (by decide))
  · refine sv19.fr ?_ ?_ ?_
    · rw [hw_ne (by decide), hw_ne (by decide), hw_ne (by decide), hcs_ne (by decide) (by decide) (by decide)]
    · rw [hw_ne (by decide), hw_ne (by decide), hw_ne (by decide), hcs_ne (by decide) (by decide) (by decide)]
    · rw [hw_ne (by decide), hw_ne (by decide), hw_ne (by decide), hcs_ne (by decide) (by decide) (by decide)]
  · rw [hw_ne (by decide), hw_at, if_pos rfl]; rfl
  · rw [hw_at, if_pos rfl]; rfl
  · rw [hw_ne (by decide), hw_ne (by decide), hw_at, if_pos rfl]; rfl
  · rw [g1 1 (by decide) (by decide) (by decide) (by decide) (by decide) (by decide) (by decide) (by decide) (by decide), nf 1 (by decide)]; exact ht.1
  · rw [g1 2 (by decide) (by decide) (by decide) (by decide) (by decide) (by decide) (by decide) (by decide) (by decide), nf 2 (by decide)]; exact ht.2 k hk
  · rw [g1 o (by omega) (by omega) (by omega) (by omega) (by omega) (by omega) (by omega) (by omega) (by omega), nf o (by omega)]
