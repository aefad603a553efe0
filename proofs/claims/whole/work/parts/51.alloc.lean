/-! FRAMES THAT ALLOCATE: an explicit list of cells ws, in the order in which they were made -/
def SKE (A : Nat → Prop) (s : State) : Prop := ∃ K : Nat × Nat × Value, SK A K s s.heap
theorem SKE.same {A : Nat → Prop} {s U : State} (hv : U.vm = s.vm) (hh : U.heap = s.heap) (hsk : SKE A s) : SKE A U := by
  obtain ⟨K, hK⟩ := hsk
  exact ⟨K, SK.same hv hh hK⟩
theorem SKE.warm {A : Nat → Prop} {s U : State} (hW : s.WarmedH U.vm) (hsk : SKE A s) (hq : ∀ a : Nat, a < s.heap.size → ¬ A a → U.heap[a]? = s.heap[a]?) : SKE A U := by
  obtain ⟨K, hK⟩ := hsk
  exact ⟨K, SK.warm hW hK hq⟩
abbrev BG : Type := va_G × (ClassId × ClassId × ClassId) × (Nat → Prop)
def tysB (B : BG) : List (ClassId × FieldType) := [(B.2.1.1, .int), (B.2.1.2.1, .char), (B.2.1.2.2, .object RX4)]
def BD (B : BG) (ws : va_W) (s : State) (H : Heap) (locs : List Loc) : Prop := va_K B.1 vwCl (tysB B) s ∧ va_P B.1 vwCl ws H ∧ va_D B.2.2 ws ∧ va_S B.2.2 s.heap H locs ∧ (∀ q : Nat, s.heap.size ≤ q → B.2.2 q) ∧ va_AO RX4 s ∧ SKE B.2.2 s
def BQ (B : BG) (Q : va_W → Prop) : Array Value → State → Outcome → State → Prop := fun _ st o t => ∃ ws : va_W, o = .returned none ∧ Q ws ∧ va_P B.1 vwCl ws t.heap ∧ va_D B.2.2 ws ∧ va_F B.2.2 st t
def rmB (d mc ms : Nat) : Room := { frames := d, cells := mc, slots := ms, locals := 36 * d }
def BW (M : MI) (B : BG) (d mc ms pc : Nat) (lv : List (Nat × Value)) (st : List Value) (ws : va_W) (cells slots : Nat) (Q : va_W → Prop) : Prop :=
  ∀ (p : Program) (l : Launch) (e : Env) (s : State) (m : MethodId) (args : Array Value) (below : List Frame) (meth : Method) (c : Code) (H : Heap) (locs : List Loc) (ls : Array Slot),
    CX M p s m args meth c → meth.name = "<init>" → BD B ws s H locs → lv_has ls M.2.2.1 lv →
    W p l e (rmB d mc ms) s m args below meth c H locs cells slots (MQ below (BQ B Q) args s mc ms B.2.2) (F0 m pc ls st)
def ia (B : BG) (n : Nat) : va_E := .inl (B.2.1.1, n, .inl (fun _ => nI 0))
def ca (B : BG) (n : Nat) : va_E := .inl (B.2.1.2.1, n, .inl (fun _ => nI 0))
section ALLOC
variable {M : MI} {B : BG} {d mc ms pc : Nat} {lv : List (Nat × Value)} {st : List Value} {ws : va_W} {cells slots : Nat} {Q : va_W → Prop}
theorem bw_aload {k : Fin 4} {x : Nat} (j : Nat) (hd : decode M.2.1 pc = .ok (.aload_n k, 1)) (hj : lv[j]? = some ((k : Nat), .ref x)) (kk : BW M B d mc ms (pc + 1) lv (.ref x :: st) ws cells slots Q) : BW M B d mc ms pc lv st ws cells slots Q := by
  intro p l e s m args below meth c H locs ls hc hin hbd hl
  exact lv_aload_n hc.1 hc.2.1 hd rfl (lv_at hl j hj) (kk p l e s m args below meth c H locs ls hc hin hbd hl)
theorem bw_iconst {n : Int} (v : Int32) (hd : decode M.2.1 pc = .ok (.iconst n, 1)) (hv : Int32.ofInt n = v) (kk : BW M B d mc ms (pc + 1) lv (.int v :: st) ws cells slots Q) : BW M B d mc ms pc lv st ws cells slots Q := by
  intro p l e s m args below meth c H locs ls hc hin hbd hl
  exact lv_iconst hc.1 hc.2.1 hd hv (kk p l e s m args below meth c H locs ls hc hin hbd hl)
theorem bw_bipush {n : Int} (v : Int32) (hd : decode M.2.1 pc = .ok (.bipush n, 2)) (hv : (Int8.ofInt n).toInt32 = v) (kk : BW M B d mc ms (pc + 2) lv (.int v :: st) ws cells slots Q) : BW M B d mc ms pc lv st ws cells slots Q := by
  intro p l e s m args below meth c H locs ls hc hin hbd hl
  exact lv_bipush hc.1 hc.2.1 hd hv (kk p l e s m args below meth c H locs ls hc hin hbd hl)
theorem bw_sipush {n : Int} (v : Int32) (hd : decode M.2.1 pc = .ok (.sipush n, 3)) (hv : (Int16.ofInt n).toInt32 = v) (kk : BW M B d mc ms (pc + 3) lv (.int v :: st) ws cells slots Q) : BW M B d mc ms pc lv st ws cells slots Q := by
  intro p l e s m args below meth c H locs ls hc hin hbd hl
  exact lv_sipush hc.1 hc.2.1 hd hv (kk p l e s m args below meth c H locs ls hc hin hbd hl)
theorem bw_vret (hd : decode M.2.1 pc = .ok (.return_, 1)) (hr : M.2.2.2 = none) (hcs : cells ≤ mc ∧ slots ≤ ms) (hq : Q ws) : BW M B d mc ms pc lv [] ws cells slots Q := by
  intro p l e s m args below meth c H locs ls hc hin hbd hl
  obtain ⟨hK, hP, hD, hS, hA, hO⟩ := hbd
  have hlocks : meth.locks = false := hc.2.2.2.2.2.2.2
  refine W.widen (k := mc) (n := ms) hcs.1 hcs.2 ?_
  exact W.vret hc.1 hc.2.1 (hc.2.2.1.trans hr) (fun t ht hW => ⟨ws, rfl, hq, by rw [ht]; exact hP, hD, hS.F ht⟩) hS.2.2 hd
theorem bw_newI {n : Nat} (hd : decode M.2.1 pc = .ok (.newarray .int, 2)) (hn : n ≤ 1000) (hcs : cells + 1 ≤ mc ∧ slots + n ≤ ms) (kk : ∀ q : Nat, BW M B d mc ms (pc + 2) lv (.ref q :: st) (ws ++ [(q, ia B n)]) (cells + 1) (slots + n) Q) : BW M B d mc ms pc lv (.int (nI n) :: st) ws cells slots Q := by
  intro p l e s m args below meth c H locs ls hc hin hbd hl
  obtain ⟨hK, hP, hD, hS, hA, hO⟩ := hbd
  refine va_newa (ty := .int) (a0 := (n, .inl (fun _ => nI 0))) hc.1 hc.2.1 (hbig hc.2.2.2.2.2.1 (bigI 89 (by decide +kernel) rfl)) rfl hK hP hD hS hA (fun _ => rfl) (nI_pos (by omega)) (nI_clamp (by omega)) (by show n * 4 ≤ 536870912; omega) hcs.1 hcs.2 hd (fun q cA H1 hK1 hP1 hD1 hS1 => ?_)
  have e0 := (hK1.2 0 (B.2.1.1, .int) rfl).2
  have e3 := (hK1.2 3 (cA, .int) rfl).2
  have ec : cA = B.2.1.1 := Option.some.inj (e3.symm.trans e0)
  subst ec
  exact kk q p l e s m args below meth c H1 locs ls hc hin ⟨hK, hP1, hD1, hS1, hA, hO⟩ hl
theorem bw_newC {n : Nat} (hd : decode M.2.1 pc = .ok (.newarray .char, 2)) (hn : n ≤ 1000) (hcs : cells + 1 ≤ mc ∧ slots + n ≤ ms) (kk : ∀ q : Nat, BW M B d mc ms (pc + 2) lv (.ref q :: st) (ws ++ [(q, ca B n)]) (cells + 1) (slots + n) Q) : BW M B d mc ms pc lv (.int (nI n) :: st) ws cells slots Q := by
  intro p l e s m args below meth c H locs ls hc hin hbd hl
  obtain ⟨hK, hP, hD, hS, hA, hO⟩ := hbd
  refine va_newa (ty := .char) (a0 := (n, .inl (fun _ => nI 0))) hc.1 hc.2.1 (hbig hc.2.2.2.2.2.1 (bigI 88 (by decide +kernel) rfl)) rfl hK hP hD hS hA (fun _ => rfl) (nI_pos (by omega)) (nI_clamp (by omega)) (by show n * 2 ≤ 536870912; omega) hcs.1 hcs.2 hd (fun q cA H1 hK1 hP1 hD1 hS1 => ?_)
  have e0 := (hK1.2 1 (B.2.1.2.1, .char) rfl).2
  have e3 := (hK1.2 3 (cA, .char) rfl).2
  have ec : cA = B.2.1.2.1 := Option.some.inj (e3.symm.trans e0)
  subst ec
  exact kk q p l e s m args below meth c H1 locs ls hc hin ⟨hK, hP1, hD1, hS1, hA, hO⟩ hl
/-- a row of n standings, none there yet -/
def ra (B : BG) (n : Nat) (f : Nat → Option Nat) : va_E := .inl (B.2.1.2.2, n, .inr (.inr (.inr (.inr f))))
theorem bw_newR {n index : Nat} (hd : decode M.2.1 pc = .ok (.anewarray index, 3)) (hlk : Cond.classLink M.1.cls index RX4 ∈ bigW) (hn : n ≤ 1000) (hcs : cells + 1 ≤ mc ∧ slots + n ≤ ms) (kk : ∀ q : Nat, BW M B d mc ms (pc + 3) lv (.ref q :: st) (ws ++ [(q, ra B n (fun _ => none))]) (cells + 1) (slots + n) Q) : BW M B d mc ms pc lv (.int (nI n) :: st) ws cells slots Q := by
  intro p l e s m args below meth c H locs ls hc hin hbd hl
  obtain ⟨hK, hP, hD, hS, hA, hO⟩ := hbd
  refine va_newq (C := RX4) hc.1 hc.2.1 hc.2.2.2.2.1 (hbig hc.2.2.2.2.2.1 hlk) hO.1 hK hP hD hS hA (nI_pos (by omega)) (nI_clamp (by omega)) (by omega) hcs.1 hcs.2 hd (fun q cA H1 hK1 hP1 hD1 hS1 => ?_)
  obtain ⟨_, _, _, _, _, e0⟩ := (hK1.2 2 (B.2.1.2.2, .object RX4) rfl).2
  obtain ⟨_, _, _, _, _, e3⟩ := (hK1.2 3 (cA, .object RX4) rfl).2
  have ec : cA = B.2.1.2.2 := Option.some.inj (e3.symm.trans e0)
  subst ec
  exact kk q p l e s m args below meth c H1 locs ls hc hin ⟨hK, hP1, hD1, hS1, hA, hO⟩ hl
theorem bw_aast {n a v i q0 qk : Nat} {f : Nat → Option Nat} {vs : List Value} (hd : decode M.2.1 pc = .ok (.aastore, 1)) (ha : ws[q0]? = some (a, ra B n f)) (hv : ws[qk]? = some (v, .inr (4, vs))) (hi : i < n) (hn : n ≤ 1000) (kk : BW M B d mc ms (pc + 1) lv st (ws.set q0 (a, ra B n (va_up f i (some v)))) cells slots Q) : BW M B d mc ms pc lv (.ref v :: .int (nI i) :: .ref a :: st) ws cells slots Q := by
  intro p l e s m args below meth c H locs ls hc hin hbd hl
  obtain ⟨hK, hP, hD, hS, hA, hO⟩ := hbd
  refine va_astq (r := (RX4, TX4, 3)) hc.1 hc.2.1 hK hP hD hS q0 2 qk 4 ha rfl hv rfl (nI_in hi (by omega)) hd (fun H1 locs1 hP1 hD1 hS1 => ?_)
  rw [nI_clamp (by omega)] at hP1 hD1
  exact kk p l e s m args below meth c H1 locs1 ls hc hin ⟨hK, hP1, hD1, hS1, hA, hO⟩ hl
theorem bw_get {idx ci k q0 a : Nat} {fs : List Value} {v : Value} (hd : decode M.2.1 pc = .ok (.getfield idx, 3)) (hf : FL M.1.cls idx ci k) (he : ws[q0]? = some (a, .inr (ci, fs))) (hv : fs[k]? = some v) (kk : BW M B d mc ms (pc + 3) lv (v :: st) ws cells slots Q) : BW M B d mc ms pc lv (.ref a :: st) ws cells slots Q := by
  intro p l e s m args below meth c H locs ls hc hin2 hbd hl
  obtain ⟨hx, hb, hr, hml, hown, hts, hns, hlk⟩ := id hc
  obtain ⟨C, T, N, ty, hC, hkN, hlk2, hin, hty, hnm⟩ := hf
  obtain ⟨hK, hP, hD, hS, hA, hO⟩ := id hbd
  exact va_get (T := T) (Ts := mW M) hx hb hts (fun w q => List.mem_cons_of_mem _ (hin w q)) hown hK hP q0 he hC k hkN (hbig hts hlk2) (fun _ h9 => h9) (v := v) hv hd (kk p l e s m args below meth c H locs ls hc hin2 hbd hl)
theorem bw_alenR {a q0 n : Nat} {f : Nat → Option Nat} (hd : decode M.2.1 pc = .ok (.arraylength, 1)) (ha : ws[q0]? = some (a, ra B n f)) (kk : BW M B d mc ms (pc + 1) lv (.int (nI n) :: st) ws cells slots Q) : BW M B d mc ms pc lv (.ref a :: st) ws cells slots Q := by
  intro p l e s m args below meth c H locs ls hc hin2 hbd hl
  exact va_alen hc.1 hc.2.1 hbd.1 hbd.2.1 q0 2 ha rfl rfl hd (kk p l e s m args below meth c H locs ls hc hin2 hbd hl)
theorem bw_iload {k : Fin 4} {x : Int32} (j : Nat) (hd : decode M.2.1 pc = .ok (.iload_n k, 1)) (hj : lv[j]? = some ((k : Nat), .int x)) (kk : BW M B d mc ms (pc + 1) lv (.int x :: st) ws cells slots Q) : BW M B d mc ms pc lv st ws cells slots Q := by
  intro p l e s m args below meth c H locs ls hc hin hbd hl
  exact lv_iload_n hc.1 hc.2.1 hd rfl (lv_at hl j hj) (kk p l e s m args below meth c H locs ls hc hin hbd hl)
theorem bw_istore {k : Fin 4} {x : Int32} {lv' : List (Nat × Value)} (hd : decode M.2.1 pc = .ok (.istore_n k, 1)) (hn : (k : Nat) < M.2.2.1) (hl2 : ((k : Nat), Value.int x) :: lv.filter (fun q => !(q.1 == (k : Nat)) && !(q.1 + 1 == (k : Nat) && q.2.category == 2)) = lv') (kk : BW M B d mc ms (pc + 1) lv' st ws cells slots Q) : BW M B d mc ms pc lv (.int x :: st) ws cells slots Q := by
  intro p l e s m args below meth c H locs ls hc hin hbd hl
  exact lv_istore_n hc.1 hc.2.1 hd rfl hl hn hl2 (fun ls2 h2 => kk p l e s m args below meth c H locs ls2 hc hin hbd h2)
theorem bw_iinc {i k : Nat} {n : Int} {x v : Int32} {lv' : List (Nat × Value)} (hd : decode M.2.1 pc = .ok (.iinc i n, 3)) (hk : lv[k]? = some (i, .int x)) (hv : x + Int32.ofInt n = v) (hn : i < M.2.2.1) (hl2 : (i, Value.int v) :: lv.filter (fun q => !(q.1 == i) && !(q.1 + 1 == i && q.2.category == 2)) = lv') (kk : BW M B d mc ms (pc + 3) lv' st ws cells slots Q) : BW M B d mc ms pc lv st ws cells slots Q := by
  intro p l e s m args below meth c H locs ls hc hin hbd hl
  exact lv_iinc hc.1 hc.2.1 hd hl hk hv hn hl2 (fun ls2 h2 => kk p l e s m args below meth c H locs ls2 hc hin hbd h2)
theorem bw_goto {off : Int} {tgt : Nat} (hd : decode M.2.1 pc = .ok (.goto off, 3)) (ht : (pc : Int) + off = (tgt : Int)) (kk : BW M B d mc ms tgt lv st ws cells slots Q) : BW M B d mc ms pc lv st ws cells slots Q := by
  intro p l e s m args below meth c H locs ls hc hin hbd hl
  exact lv_goto hc.1 hc.2.1 hd ht (kk p l e s m args below meth c H locs ls hc hin hbd hl)
theorem bw_icmp_ge {x y : Nat} {off : Int} {tgt : Nat} (hd : decode M.2.1 pc = .ok (.if_icmp .ge off, 3)) (ht : (pc : Int) + off = (tgt : Int)) (hx0 : x < 2 ^ 31) (hy0 : y < 2 ^ 31) (kt : y ≤ x → BW M B d mc ms tgt lv st ws cells slots Q) (kf : ¬ y ≤ x → BW M B d mc ms (pc + 3) lv st ws cells slots Q) : BW M B d mc ms pc lv (.int (nI y) :: .int (nI x) :: st) ws cells slots Q := by
  intro p l e s m args below meth c H locs ls hc hin hbd hl
  exact lv_icmp_ge hc.1 hc.2.1 hd ht (fun q => kt (by rw [nI_leI hy0 hx0] at q; exact q) p l e s m args below meth c H locs ls hc hin hbd hl) (fun q => kf (by rw [nI_leI hy0 hx0] at q; exact q) p l e s m args below meth c H locs ls hc hin hbd hl)
theorem bw_mmax {idx : Nat} {x y : Int32} (hd : decode M.2.1 pc = .ok (.invokestatic idx, 3)) (hk : Cond.methodLink M.1.cls idx Lib.Math.max.name ∈ bigW ∧ Cond.static Lib.Math.max.name ∈ bigW ∧ Cond.initialized "java/lang/Math" ∈ bigW ∧ Cond.code Lib.Math.max.name Lib.Math.max.code 2 (some .int) ∈ bigW) (hz : (st.map fun v => v.category).sum ≤ 8) (hcs : cells ≤ mc ∧ slots ≤ ms) (kk : BW M B (d + 1) mc ms (pc + 3) lv (.int (if x < y then y else x) :: st) ws cells slots Q) : BW M B (d + 1) mc ms pc lv (.int y :: .int x :: st) ws cells slots Q := by
  intro p l e s m args below meth c H locs ls hc hin hbd hl
  obtain ⟨hx, hb, hr, hml, hown, hts, hns, hlk⟩ := id hc
  have hz1 : (st.map fun v => v.category).sum + 13 ≤ (rmB (d + 1) mc ms).locals := by
    show _ + 13 ≤ 36 * (d + 1)
    omega
  have hz2 : 1 ≤ (rmB (d + 1) mc ms).frames := Nat.succ_le_succ (Nat.zero_le d)
  exact va_mmax (R := rmB (d + 1) mc ms) (rest := st) hx hb (by rw [hml]; exact hl.1.symm) hown (hbig hts hk.1) (hbig hts hk.2.1) (hbig hts hk.2.2.1) (hbig hts hk.2.2.2) hz2 hz1 hcs.1 hcs.2 hd (kk p l e s m args below meth c H locs ls hc hin hbd hl)
theorem bw_obj {idx x : Nat} (hd : decode M.2.1 pc = .ok (.invokespecial idx, 3)) (hlk : Cond.methodLink M.1.cls idx objectInit ∈ bigW) (hz : (st.map fun v => v.category).sum ≤ 8) (kk : BW M B (d + 1) mc ms (pc + 3) lv st ws cells slots Q) : BW M B (d + 1) mc ms pc lv (.ref x :: st) ws cells slots Q := by
  intro p l e s m args below meth c H locs ls hc hin hbd hl
  obtain ⟨hx, hb, hr, hml, hown, hts, hns, hlk2⟩ := id hc
  refine W.objInit (rest := st) hx hb hown (hbig hts hlk) (hbig hts (bigI 67 (by decide +kernel) rfl)) (hbig hts (bigI 68 (by decide +kernel) rfl)) rfl (by rw [hml]; exact hl.1) rfl hd ?_ ?_ ?_
  · show _ ≤ d + 1
    omega
  · have hW : 2 * (F0 m pc ls (.ref x :: st)).monitorRoom + (st.map fun v => v.category).sum ≤ 8 := lv_room hz
    show _ ≤ 36 * (d + 1)
    omega
  · exact kk p l e s m args below meth c H locs ls hc hin hbd hl
theorem bw_putF {C : String} {T : u_T} {N ci index k q0 a : Nat} {v : Value} {fs : List Value} {ty : FieldType} (hd : decode M.2.1 pc = .ok (.putfield index, 3)) (hcl : vwCl[ci]? = some (C, T, N)) (hk : k < N) (hlink : Cond.fieldLink M.1.cls index (T k).1 (T k).2.1 (T k).2.2.1 ∈ bigW) (hin : ∀ w ∈ u_ws C T N, w ∈ bigW) (ty0 : Nat → FieldType) (hty : ∀ k, k < N → parseFieldDescriptor (T k).2.2.1 = some (ty0 k)) (hnm : ∀ a, a < N → ∀ b, b < N → a ≠ b → (T a).2.1 ≠ (T b).2.1)
    (hfin : (T k).2.2.2 = true) (hdecl : (T k).1 = M.1.cls) (hpd : parseFieldDescriptor (T k).2.2.1 = some ty) (hn : narrow ty v = v) (hfit : fits ty v = true) (he : ws[q0]? = some (a, .inr (ci, fs))) (hlen : k < fs.length)
    (kk : BW M B d mc ms (pc + 3) lv st (ws.set q0 (a, .inr (ci, fs.set k v))) cells slots Q) : BW M B d mc ms pc lv (v :: .ref a :: st) ws cells slots Q := by
  intro p l e s m args below meth c H locs ls hc hin2 hbd hl
  obtain ⟨hx, hb, hr, hml, hown, hts, hns, hlk2⟩ := id hc
  obtain ⟨hK, hP, hD, hS, hA, hO⟩ := hbd
  exact va_putF (D := B.1) (ci := ci) (v := v) (ty := ty) (C := C) (T := T) (N := N) hx hb hts (fun w hw => List.mem_cons_of_mem _ (hin w hw)) ty0 hty hnm hown hK hP hD hS q0 he hcl k hk (hbig hts hlink) (fun _ h9 => h9) hfin hin2 hdecl hpd hn hfit hlen hd (fun H1 locs1 hP1 hD1 hS1 => kk p l e s m args below meth c H1 locs1 ls hc hin2 ⟨hK, hP1, hD1, hS1, hA, hO⟩ hl)
theorem bw_dup {x : Nat} (hd : decode M.2.1 pc = .ok (.dup, 1)) (kk : BW M B d mc ms (pc + 1) lv (.ref x :: .ref x :: st) ws cells slots Q) : BW M B d mc ms pc lv (.ref x :: st) ws cells slots Q := by
  intro p l e s m args below meth c H locs ls hc hin hbd hl
  exact lv_dup hc.1 hc.2.1 hd rfl (kk p l e s m args below meth c H locs ls hc hin hbd hl)
theorem bw_new {C : String} {T : u_T} {N ci index : Nat} {fs : List Value} (hd : decode M.2.1 pc = .ok (.new index, 3)) (hcl : vwCl[ci]? = some (C, T, N)) (hin : ∀ w ∈ u_ws C T N, w ∈ bigW) (ty : Nat → FieldType) (hty : ∀ k, k < N → parseFieldDescriptor (T k).2.2.1 = some (ty k)) (h1 : Cond.classLink M.1.cls index C ∈ bigW) (h2 : Cond.instantiable C N ∈ bigW) (h3 : Cond.initialized C ∈ bigW) (hfs : ∀ j, j < N → defaultValue (ty j) = vp_V fs j) (hcs : cells + 1 ≤ mc ∧ slots + N ≤ ms)
    (kk : ∀ q : Nat, BW M B d mc ms (pc + 3) lv (.ref q :: st) (ws ++ [(q, .inr (ci, fs))]) (cells + 1) (slots + N) Q) : BW M B d mc ms pc lv st ws cells slots Q := by
  intro p l e s m args below meth c H locs ls hc hin2 hbd hl
  obtain ⟨hx, hb, hr, hml, hown, hts, hns, hlk2⟩ := id hc
  obtain ⟨hK, hP, hD, hS, hA, hO⟩ := hbd
  exact va_new (ci := ci) (fs := fs) (C := C) (T := T) (N := N) hx hb hts (fun w hw => List.mem_cons_of_mem _ (hin w hw)) ty hty hown (hbig hts h1) (hbig hts h2) (hbig hts h3) hK hP hD hS hA hcl hfs hcs.1 hcs.2 hd (fun q H1 hP1 hD1 hS1 => kk q p l e s m args below meth c H1 locs ls hc hin2 ⟨hK, hP1, hD1, hS1, hA, hO⟩ hl)
end ALLOC
def PcB (B : BG) (as : List Value) (ws : va_W) : Array Value → State → Prop := fun v U =>
  v = as.toArray ∧ va_K B.1 vwCl (tysB B) U ∧ va_P B.1 vwCl ws U.heap ∧ va_D B.2.2 ws ∧ (∀ q : Nat, U.heap.size ≤ q → B.2.2 q) ∧ (va_AO RX4 U ∧ SKE B.2.2 U) ∧ (∀ w ∈ nestW, va_Nw w U)
theorem PcB.blind (B : BG) (as : List Value) (ws : va_W) : FrameBlind (PcB B as ws) := by
  rintro a U g mk ⟨q0, qK, qP, qD, qA, qO, qN⟩
  refine ⟨q0, va_K.moved (u := U) (U := U.calling g mk a) (Vm.Alike.refl U.vm) qK, qP, qD, qA, ⟨va_AO.moved (u := U) (U := U.calling g mk a) (Vm.Alike.refl U.vm) qO.1, SKE.same (s := U) (U := U.calling g mk a) rfl rfl qO.2⟩, fun w hw => ?_⟩
  have hm : isNest w = true := (List.mem_filter.mp hw).2
  cases w <;> first | (simp [isNest] at hm; done) | exact va_Nw.same rfl rfl (qN _ hw)
theorem PcB.pre {B : BG} {as : List Value} {ws : va_W} {s : State} {H : Heap} {locs : List Loc} (hbd : BD B ws s H locs) (hns : ∀ w ∈ nestW, va_Nw w s) : ∀ U : State, U.heap = H → s.WarmedH U.vm → PcB B as ws as.toArray U := by
  obtain ⟨hK, hP, hD, hS, hA, hO⟩ := hbd
  intro U hU hW
  refine ⟨rfl, va_K.moved hW.alike hK, by rw [hU]; exact hP, hD, fun q hq => hA q (Nat.le_trans hS.1 (by rw [hU] at hq; exact hq)), ⟨va_AO.moved hW.alike hO.1, SKE.warm hW hO.2 (by rw [hU]; exact hS.2.1)⟩, fun w hw => ?_⟩
  have hm : isNest w = true := (List.mem_filter.mp hw).2
  cases w <;> first | (simp [isNest] at hm; done) | exact va_Nw.warmM hW (hns _ hw)
theorem BW.met {M : MI} {B : BG} {d mc ms : Nat} {as : List Value} {ws : va_W} {Q : va_W → Prop} (hR : BW M B d mc ms 0 (lv_args 0 as) [] ws 0 0 Q) (hpl : plainFor M.1 = true) (hnm : M.1.name = "<init>") (hlen : (lg_sl as).length ≤ M.2.2.1) (l : Launch) :
    Met l M.1 (mW M) (rmB d mc ms) (PcB B as ws) (BQ B Q) mc ms B.2.2 := by
  refine va_MetF (cc := M.2.1) (maxL := M.2.2.1) (ret := M.2.2.2) hpl rfl ?_
  intro p e s m args below meth c s₁ Bd hml hv
  obtain ⟨rfl, hK, hP, hD, hA, hO, hN⟩ := hv
  have hl := lv_entry as (n := M.2.2.1) hlen
  rw [lg_entry_eq]
  generalize (lg_sl as ++ List.replicate (M.2.2.1 - (lg_sl as).length) Slot.unset).toArray = ls at hl ⊢
  exact hR p l e s m _ below meth c s.heap [] ls ⟨Bd.exec, Bd.bytes, Bd.returns, hml, findClass_of_methodNamed Bd.named, atoms_spec (ws := mW M) Bd.pre, hN, Bd.notSynchronized⟩ ((name_of_methodNamed Bd.named Bd.method).1.trans hnm) ⟨hK, hP, hD, va_S.rf, hA, hO⟩ hl
def KI (own : String) (idx : Nat) (M' : MI) (n : Nat) : Prop := KC M' n ∧ M'.1.name = "<init>" ∧ Cond.instanceMethod M'.1 ∈ bigW ∧ (Cond.methodLink own idx M'.1 ∈ bigW ∨ ∃ host, Cond.methodLinkNest own idx M'.1 host ∈ nestW)
theorem bw_callI {M : MI} {y : MethodName} {cc : ByteArray} {maxL : Nat} {B : BG} {d mc ms mc' ms' pc idx n b cells slots : Nat} {as st0 st : List Value} {lv : List (Nat × Value)} {ws : va_W} {Q Q' : va_W → Prop} (hd : decode M.2.1 pc = .ok (.invokespecial idx, 3)) (hk : KI M.1.cls idx (y, cc, maxL, none) n) (hR : BW (y, cc, maxL, none) B d mc' ms' 0 (lv_args 0 (.ref b :: as)) [] ws 0 0 Q')
    (hst : st0 = as.reverse ++ .ref b :: st) (hn : as.length = n) (hlen : (lg_sl (.ref b :: as)).length ≤ maxL) (hz : (st.map fun v => v.category).sum ≤ 8) (hcs : cells + mc' ≤ mc ∧ slots + ms' ≤ ms)
    (kk : ∀ ws2, Q' ws2 → BW M B (d + 1) mc ms (pc + 3) lv st ws2 (cells + mc') (slots + ms') Q) : BW M B (d + 1) mc ms pc lv st0 ws cells slots Q := by
  intro p l e s m args below meth c H locs ls hc hin hbd hl
  obtain ⟨hx, hb, hr, hml, hown, hts, hns, hlk⟩ := id hc
  obtain ⟨⟨k1, k2, k3, k4, k5⟩, k9, k6, k7⟩ := hk
  subst hst
  have hM := hR.met k3 k9 hlen l
  have hRR : (rmB d mc' ms').frames + 1 ≤ (rmB (d + 1) mc ms).frames ∧ 8 + (maxL + 11) + (rmB d mc' ms').locals ≤ (rmB (d + 1) mc ms).locals := by
    refine ⟨Nat.le_refl _, ?_⟩
    have k5 : maxL ≤ 17 := k5
    show 8 + (maxL + 11) + 36 * d ≤ 36 * (d + 1)
    omega
  have hW : 2 * (F0 m pc ls (as.reverse ++ .ref b :: st)).monitorRoom + (st.map fun v => v.category).sum ≤ 8 := lv_room hz
  have hpre : PreS s H (PcB B (.ref b :: as) ws) (.ref b :: as) := ⟨PcB.blind B _ ws, PcB.pre hbd hns⟩
  have hr : va_Run p l e (rmB (d + 1) mc ms) s m args below meth c H locs cells slots mc' ms' (F0 m pc ls (as.reverse ++ .ref b :: st)) st (BQ B Q' (Value.ref b :: as).toArray) B.2.2 := by
    rcases k7 with k7 | ⟨host, k7⟩
    · exact va_runI (n := n) (As := as) (b := b) (rest := st) ⟨hx, hb, hml, hown, hts⟩ hM ⟨callB_of n hts (mW_good k2) rfl rfl rfl (hbig hts k1) (hbig hts k7) k4 hRR, k9, hbig hts k6⟩ hpre rfl hn hl.1 rfl hW hd hcs
    · exact va_runIN (n := n) (As := as) (b := b) (rest := st) ⟨hx, hb, hml, hown, hts⟩ hM ⟨va_cnB n hts (mW_good k2) rfl rfl rfl (hns _ k7) (hbig hts k1) k4 hRR, k9, hbig hts k6⟩ hpre rfl hn hl.1 rfl hW hd hcs
  obtain ⟨hK, hP, hD, hS, hA, hO⟩ := hbd
  intro T0 hT X0
  obtain ⟨v, st₀, t, T', L0, h0, X', hL, e1, e2, ⟨ws2, hv, hq, hP', hD', hz1, hk1⟩, stp⟩ := hr T0 hT X0
  cases hv
  rw [h0] at hz1 hk1
  have hS' : va_S B.2.2 s.heap T'.heap (locs ++ L0) := by
    refine ⟨Nat.le_trans hS.1 (by rw [e1]; exact hz1), fun q h1 h2 => ?_, fun q hq => ?_⟩
    · rw [e1, hk1 q (Nat.lt_of_lt_of_le h1 hS.1) h2]
      exact hS.2.1 q h1 h2
    · rcases List.mem_append.mp hq with h | h
      · exact hS.2.2 q h
      · exact hL q h
  obtain ⟨t2, a1, b1⟩ := kk ws2 hq p l e s m args below meth c T'.heap (locs ++ L0) ls hc hin ⟨hK, by rw [e1]; exact hP', hD', hS', hA, hO⟩ hl T' rfl X'
  exact ⟨t2, stp t2 a1, b1⟩
theorem plain_X4i : plainFor yX4_init = true := by decide +kernel
