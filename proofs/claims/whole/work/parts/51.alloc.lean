/-! FRAMES THAT ALLOCATE: an explicit list of cells ws, in the order in which they were made -/
abbrev BG : Type := va_G × (ClassId × ClassId × ClassId) × (Nat → Prop)
def tysB (B : BG) : List (ClassId × FieldType) := [(B.2.1.1, .int), (B.2.1.2.1, .char), (B.2.1.2.2, .object RX4)]
def BD (B : BG) (ws : va_W) (s : State) (H : Heap) (locs : List Loc) : Prop := va_K B.1 vwCl (tysB B) s ∧ va_P B.1 vwCl ws H ∧ va_D B.2.2 ws ∧ va_S B.2.2 s.heap H locs ∧ ∀ q : Nat, s.heap.size ≤ q → B.2.2 q
def BQ (B : BG) (Q : va_W → Prop) : Array Value → State → Outcome → State → Prop := fun _ st o t => ∃ ws : va_W, o = .returned none ∧ Q ws ∧ va_P B.1 vwCl ws t.heap ∧ va_D B.2.2 ws ∧ va_F B.2.2 st t
def rmB (d mc ms : Nat) : Room := { frames := d, cells := mc, slots := ms, locals := 36 * d }
def BW (M : MI) (B : BG) (d mc ms pc : Nat) (lv : List (Nat × Value)) (st : List Value) (ws : va_W) (cells slots : Nat) (Q : va_W → Prop) : Prop :=
  ∀ (p : Program) (l : Launch) (e : Env) (s : State) (m : MethodId) (args : Array Value) (below : List Frame) (meth : Method) (c : Code) (H : Heap) (locs : List Loc) (ls : Array Slot),
    CX M p s m args meth c → meth.name = "<init>" → BD B ws s H locs → lv_has ls M.2.2.1 lv →
    W p l e (rmB d mc ms) s m args below meth c H locs cells slots (MQ below (BQ B Q) args s mc ms B.2.2) (F0 m pc ls st)
def ia (B : BG) (n : Nat) : va_E := .inl (B.2.1.1, n, .inl (fun _ => nI 0))
def ca (B : BG) (n : Nat) : va_E := .inl (B.2.1.2.1, n, .inl (fun _ => nI 0))
section ALLOC
variable {M : MI} {B : BG} {d mc ms pc : Nat} {lv : List (Nat × Value)} {st : List Value} {ws : va_W} {cells slots : Nat} {Q : va_W → Prop}
theorem bw_aload {k : Fin 4} {x : Nat} (j : Nat) (hd : decode M.2.1 pc = .ok (.aload_n k, 1)) (hj : lv[j]? = some ((k : Nat), .ref x)) (kk : BW M B d mc ms (pc + 1) lv (.ref x :: st) ws cells slots Q) : BW M B d mc ms pc lv st ws cells slots Q := by
  intro p l e s m args below meth c H locs ls hc hin hbd hl
  exact lv_aload_n hc.1 hc.2.1 hd rfl (lv_at hl j hj) (kk p l e s m args below meth c H locs ls hc hin hbd hl)
theorem bw_iconst {n : Int} (v : Int32) (hd : decode M.2.1 pc = .ok (.iconst n, 1)) (hv : Int32.ofInt n = v) (kk : BW M B d mc ms (pc + 1) lv (.int v :: st) ws cells slots Q) : BW M B d mc ms pc lv st ws cells slots Q := by
  intro p l e s m args below meth c H locs ls hc hin hbd hl
  exact lv_iconst hc.1 hc.2.1 hd hv (kk p l e s m args below meth c H locs ls hc hin hbd hl)
theorem bw_bipush {n : Int} (v : Int32) (hd : decode M.2.1 pc = .ok (.bipush n, 2)) (hv : (Int8.ofInt n).toInt32 = v) (kk : BW M B d mc ms (pc + 2) lv (.int v :: st) ws cells slots Q) : BW M B d mc ms pc lv st ws cells slots Q := by
  intro p l e s m args below meth c H locs ls hc hin hbd hl
  exact lv_bipush hc.1 hc.2.1 hd hv (kk p l e s m args below meth c H locs ls hc hin hbd hl)
theorem bw_sipush {n : Int} (v : Int32) (hd : decode M.2.1 pc = .ok (.sipush n, 3)) (hv : (Int16.ofInt n).toInt32 = v) (kk : BW M B d mc ms (pc + 3) lv (.int v :: st) ws cells slots Q) : BW M B d mc ms pc lv st ws cells slots Q := by
  intro p l e s m args below meth c H locs ls hc hin hbd hl
  exact lv_sipush hc.1 hc.2.1 hd hv (kk p l e s m args below meth c H locs ls hc hin hbd hl)
theorem bw_vret (hd : decode M.2.1 pc = .ok (.return_, 1)) (hr : M.2.2.2 = none) (hcs : cells ≤ mc ∧ slots ≤ ms) (hq : Q ws) : BW M B d mc ms pc lv [] ws cells slots Q := by
  intro p l e s m args below meth c H locs ls hc hin hbd hl
  obtain ⟨hK, hP, hD, hS, hA⟩ := hbd
  have hlocks : meth.locks = false := hc.2.2.2.2.2.2.2
  refine W.widen (k := mc) (n := ms) hcs.1 hcs.2 ?_
  exact W.vret hc.1 hc.2.1 (hc.2.2.1.trans hr) (fun t ht hW => ⟨ws, rfl, hq, by rw [ht]; exact hP, hD, hS.F ht⟩) hS.2.2 hd
theorem bw_newI {n : Nat} (hd : decode M.2.1 pc = .ok (.newarray .int, 2)) (hn : n ≤ 1000) (hcs : cells + 1 ≤ mc ∧ slots + n ≤ ms) (kk : ∀ q : Nat, BW M B d mc ms (pc + 2) lv (.ref q :: st) (ws ++ [(q, ia B n)]) (cells + 1) (slots + n) Q) : BW M B d mc ms pc lv (.int (nI n) :: st) ws cells slots Q := by
  intro p l e s m args below meth c H locs ls hc hin hbd hl
  obtain ⟨hK, hP, hD, hS, hA⟩ := hbd
  refine va_newa (ty := .int) (a0 := (n, .inl (fun _ => nI 0))) hc.1 hc.2.1 (hbig hc.2.2.2.2.2.1 (bigI 89 (by decide +kernel) rfl)) rfl hK hP hD hS hA (fun _ => rfl) (nI_pos (by omega)) (nI_clamp (by omega)) (by show n * 4 ≤ 536870912; omega) hcs.1 hcs.2 hd (fun q cA H1 hK1 hP1 hD1 hS1 => ?_)
  have e0 := (hK1.2 0 (B.2.1.1, .int) rfl).2
  have e3 := (hK1.2 3 (cA, .int) rfl).2
  have ec : cA = B.2.1.1 := Option.some.inj (e3.symm.trans e0)
  subst ec
  exact kk q p l e s m args below meth c H1 locs ls hc hin ⟨hK, hP1, hD1, hS1, hA⟩ hl
theorem bw_newC {n : Nat} (hd : decode M.2.1 pc = .ok (.newarray .char, 2)) (hn : n ≤ 1000) (hcs : cells + 1 ≤ mc ∧ slots + n ≤ ms) (kk : ∀ q : Nat, BW M B d mc ms (pc + 2) lv (.ref q :: st) (ws ++ [(q, ca B n)]) (cells + 1) (slots + n) Q) : BW M B d mc ms pc lv (.int (nI n) :: st) ws cells slots Q := by
  intro p l e s m args below meth c H locs ls hc hin hbd hl
  obtain ⟨hK, hP, hD, hS, hA⟩ := hbd
  refine va_newa (ty := .char) (a0 := (n, .inl (fun _ => nI 0))) hc.1 hc.2.1 (hbig hc.2.2.2.2.2.1 (bigI 88 (by decide +kernel) rfl)) rfl hK hP hD hS hA (fun _ => rfl) (nI_pos (by omega)) (nI_clamp (by omega)) (by show n * 2 ≤ 536870912; omega) hcs.1 hcs.2 hd (fun q cA H1 hK1 hP1 hD1 hS1 => ?_)
  have e0 := (hK1.2 1 (B.2.1.2.1, .char) rfl).2
  have e3 := (hK1.2 3 (cA, .char) rfl).2
  have ec : cA = B.2.1.2.1 := Option.some.inj (e3.symm.trans e0)
  subst ec
  exact kk q p l e s m args below meth c H1 locs ls hc hin ⟨hK, hP1, hD1, hS1, hA⟩ hl
theorem bw_obj {idx x : Nat} (hd : decode M.2.1 pc = .ok (.invokespecial idx, 3)) (hlk : Cond.methodLink M.1.cls idx objectInit ∈ bigW) (hz : (st.map fun v => v.category).sum ≤ 8) (kk : BW M B (d + 1) mc ms (pc + 3) lv st ws cells slots Q) : BW M B (d + 1) mc ms pc lv (.ref x :: st) ws cells slots Q := by
  intro p l e s m args below meth c H locs ls hc hin hbd hl
  obtain ⟨hx, hb, hr, hml, hown, hts, hns, hlk2⟩ := id hc
  refine W.objInit (rest := st) hx hb hown (hbig hts hlk) (hbig hts (bigI 67 (by decide +kernel) rfl)) (hbig hts (bigI 68 (by decide +kernel) rfl)) rfl (by rw [hml]; exact hl.1) rfl hd ?_ ?_ ?_
  · show _ ≤ d + 1
    omega
  · have hW : 2 * (F0 m pc ls (.ref x :: st)).monitorRoom + (st.map fun v => v.category).sum ≤ 8 := lv_room hz
    show _ ≤ 36 * (d + 1)
    omega
  · exact kk p l e s m args below meth c H locs ls hc hin hbd hl
theorem bw_putF {C : String} {T : u_T} {N ci index k q0 a : Nat} {v : Value} {fs : List Value} {ty : FieldType} (hd : decode M.2.1 pc = .ok (.putfield index, 3)) (hcl : vwCl[ci]? = some (C, T, N)) (hk : k < N) (hlink : Cond.fieldLink M.1.cls index (T k).1 (T k).2.1 (T k).2.2.1 ∈ bigW) (hin : ∀ w ∈ u_ws C T N, w ∈ bigW) (ty0 : Nat → FieldType) (hty : ∀ k, k < N → parseFieldDescriptor (T k).2.2.1 = some (ty0 k)) (hnm : ∀ a, a < N → ∀ b, b < N → a ≠ b → (T a).2.1 ≠ (T b).2.1)
    (hfin : (T k).2.2.2 = true) (hdecl : (T k).1 = M.1.cls) (hpd : parseFieldDescriptor (T k).2.2.1 = some ty) (hn : narrow ty v = v) (hfit : fits ty v = true) (he : ws[q0]? = some (a, .inr (ci, fs))) (hlen : k < fs.length)
    (kk : BW M B d mc ms (pc + 3) lv st (ws.set q0 (a, .inr (ci, fs.set k v))) cells slots Q) : BW M B d mc ms pc lv (v :: .ref a :: st) ws cells slots Q := by
  intro p l e s m args below meth c H locs ls hc hin2 hbd hl
  obtain ⟨hx, hb, hr, hml, hown, hts, hns, hlk2⟩ := id hc
  obtain ⟨hK, hP, hD, hS, hA⟩ := hbd
  exact va_putF (D := B.1) (ci := ci) (v := v) (ty := ty) (C := C) (T := T) (N := N) hx hb hts (fun w hw => List.mem_cons_of_mem _ (hin w hw)) ty0 hty hnm hown hK hP hD hS q0 he hcl k hk (hbig hts hlink) (fun _ h9 => h9) hfin hin2 hdecl hpd hn hfit hlen hd (fun H1 locs1 hP1 hD1 hS1 => kk p l e s m args below meth c H1 locs1 ls hc hin2 ⟨hK, hP1, hD1, hS1, hA⟩ hl)
end ALLOC
