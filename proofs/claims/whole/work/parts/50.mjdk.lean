/-! THE TEXT CONSTANT, AND THE JDK's METHODS THAT READ IT -/
def fhL : List Nat := [99, 48, 44, 53, 44, 52, 59, 99, 49, 44, 49, 55, 44, 51, 59, 99, 50, 44, 51, 48, 44, 54, 59, 99, 48, 44, 52, 52, 44, 50, 59, 99, 51, 44, 53, 50, 44, 53, 59, 99, 48, 44, 51, 48, 44, 49, 59, 114, 50, 44, 56, 59, 114, 53, 44, 53, 59, 114, 49, 44, 57, 59, 114, 54, 44, 51, 59, 114, 51, 44, 52, 59, 114, 48, 44, 55, 59]
def FHn (k : Nat) : Nat := fhL.getD k 0
def fhT : String := "c0,5,4;c1,17,3;c2,30,6;c0,44,2;c3,52,5;c0,30,1;r2,8;r5,5;r1,9;r6,3;r3,4;r0,7;"
def yS_len : MethodName := ⟨"java/lang/String", "length", "()I"⟩
abbrev mS_len : MI := (yS_len, prog_12_method_54_code, 1, some .int)
theorem dS_len_0 : decode prog_12_method_54_code 0 = .ok (.aload_n 0, 1) := by decide +kernel
theorem dS_len_1 : decode prog_12_method_54_code 1 = .ok (.getfield 9, 3) := by decide +kernel
theorem dS_len_4 : decode prog_12_method_54_code 4 = .ok (.arraylength, 1) := by decide +kernel
theorem dS_len_5 : decode prog_12_method_54_code 5 = .ok (.aload_n 0, 1) := by decide +kernel
theorem dS_len_6 : decode prog_12_method_54_code 6 = .ok (.invokevirtual 335, 3) := by decide +kernel
theorem dS_len_9 : decode prog_12_method_54_code 9 = .ok (.ishr, 1) := by decide +kernel
theorem dS_len_10 : decode prog_12_method_54_code 10 = .ok (.ireturn, 1) := by decide +kernel
def yS_cod : MethodName := ⟨"java/lang/String", "coder", "()B"⟩
abbrev mS_cod : MI := (yS_cod, prog_12_method_152_code, 1, some .byte)
theorem dS_cod_0 : decode prog_12_method_152_code 0 = .ok (.getstatic 38, 3) := by decide +kernel
theorem dS_cod_3 : decode prog_12_method_152_code 3 = .ok (.ifCond .eq 10, 3) := by decide +kernel
theorem dS_cod_6 : decode prog_12_method_152_code 6 = .ok (.aload_n 0, 1) := by decide +kernel
theorem dS_cod_7 : decode prog_12_method_152_code 7 = .ok (.getfield 15, 3) := by decide +kernel
theorem dS_cod_10 : decode prog_12_method_152_code 10 = .ok (.goto 4, 3) := by decide +kernel
theorem dS_cod_13 : decode prog_12_method_152_code 13 = .ok (.iconst 1, 1) := by decide +kernel
theorem dS_cod_14 : decode prog_12_method_152_code 14 = .ok (.ireturn, 1) := by decide +kernel
def yS_chr : MethodName := ⟨"java/lang/String", "charAt", "(I)C"⟩
abbrev mS_chr : MI := (yS_chr, prog_12_method_56_code, 2, some .char)
theorem dS_chr_0 : decode prog_12_method_56_code 0 = .ok (.aload_n 0, 1) := by decide +kernel
theorem dS_chr_1 : decode prog_12_method_56_code 1 = .ok (.invokevirtual 492, 3) := by decide +kernel
theorem dS_chr_4 : decode prog_12_method_56_code 4 = .ok (.ifCond .eq 12, 3) := by decide +kernel
theorem dS_chr_7 : decode prog_12_method_56_code 7 = .ok (.aload_n 0, 1) := by decide +kernel
theorem dS_chr_8 : decode prog_12_method_56_code 8 = .ok (.getfield 9, 3) := by decide +kernel
theorem dS_chr_11 : decode prog_12_method_56_code 11 = .ok (.iload_n 1, 1) := by decide +kernel
theorem dS_chr_12 : decode prog_12_method_56_code 12 = .ok (.invokestatic 495, 3) := by decide +kernel
theorem dS_chr_15 : decode prog_12_method_56_code 15 = .ok (.ireturn, 1) := by decide +kernel
theorem dS_chr_16 : decode prog_12_method_56_code 16 = .ok (.aload_n 0, 1) := by decide +kernel
theorem dS_chr_17 : decode prog_12_method_56_code 17 = .ok (.getfield 9, 3) := by decide +kernel
theorem dS_chr_20 : decode prog_12_method_56_code 20 = .ok (.iload_n 1, 1) := by decide +kernel
theorem dS_chr_21 : decode prog_12_method_56_code 21 = .ok (.invokestatic 498, 3) := by decide +kernel
theorem dS_chr_24 : decode prog_12_method_56_code 24 = .ok (.ireturn, 1) := by decide +kernel
def yS_isl : MethodName := ⟨"java/lang/String", "isLatin1", "()Z"⟩
abbrev mS_isl : MI := (yS_isl, prog_12_method_154_code, 1, some .boolean)
theorem dS_isl_0 : decode prog_12_method_154_code 0 = .ok (.getstatic 38, 3) := by decide +kernel
theorem dS_isl_3 : decode prog_12_method_154_code 3 = .ok (.ifCond .eq 14, 3) := by decide +kernel
theorem dS_isl_6 : decode prog_12_method_154_code 6 = .ok (.aload_n 0, 1) := by decide +kernel
theorem dS_isl_7 : decode prog_12_method_154_code 7 = .ok (.getfield 15, 3) := by decide +kernel
theorem dS_isl_10 : decode prog_12_method_154_code 10 = .ok (.ifCond .ne 7, 3) := by decide +kernel
theorem dS_isl_13 : decode prog_12_method_154_code 13 = .ok (.iconst 1, 1) := by decide +kernel
theorem dS_isl_14 : decode prog_12_method_154_code 14 = .ok (.goto 4, 3) := by decide +kernel
theorem dS_isl_17 : decode prog_12_method_154_code 17 = .ok (.iconst 0, 1) := by decide +kernel
theorem dS_isl_18 : decode prog_12_method_154_code 18 = .ok (.ireturn, 1) := by decide +kernel
def yS_lat : MethodName := ⟨"java/lang/StringLatin1", "charAt", "([BI)C"⟩
abbrev mS_lat : MI := (yS_lat, prog_13_method_2_code, 2, some .char)
theorem dS_lat_0 : decode prog_13_method_2_code 0 = .ok (.iload_n 1, 1) := by decide +kernel
theorem dS_lat_1 : decode prog_13_method_2_code 1 = .ok (.aload_n 0, 1) := by decide +kernel
theorem dS_lat_2 : decode prog_13_method_2_code 2 = .ok (.arraylength, 1) := by decide +kernel
theorem dS_lat_3 : decode prog_13_method_2_code 3 = .ok (.invokestatic 9, 3) := by decide +kernel
theorem dS_lat_6 : decode prog_13_method_2_code 6 = .ok (.aload_n 0, 1) := by decide +kernel
theorem dS_lat_7 : decode prog_13_method_2_code 7 = .ok (.iload_n 1, 1) := by decide +kernel
theorem dS_lat_8 : decode prog_13_method_2_code 8 = .ok (.baload, 1) := by decide +kernel
theorem dS_lat_9 : decode prog_13_method_2_code 9 = .ok (.sipush 255, 3) := by decide +kernel
theorem dS_lat_12 : decode prog_13_method_2_code 12 = .ok (.iand, 1) := by decide +kernel
theorem dS_lat_13 : decode prog_13_method_2_code 13 = .ok (.i2c, 1) := by decide +kernel
theorem dS_lat_14 : decode prog_13_method_2_code 14 = .ok (.ireturn, 1) := by decide +kernel
def yS_chk : MethodName := ⟨"java/lang/String", "checkIndex", "(II)V"⟩
abbrev mS_chk : MI := (yS_chk, prog_12_method_155_code, 2, none)
theorem dS_chk_0 : decode prog_12_method_155_code 0 = .ok (.iload_n 0, 1) := by decide +kernel
theorem dS_chk_1 : decode prog_12_method_155_code 1 = .ok (.iload_n 1, 1) := by decide +kernel
theorem dS_chk_2 : decode prog_12_method_155_code 2 = .ok (.getstatic 1053, 3) := by decide +kernel
theorem dS_chk_5 : decode prog_12_method_155_code 5 = .ok (.invokestatic 1059, 3) := by decide +kernel
theorem dS_chk_8 : decode prog_12_method_155_code 8 = .ok (.pop, 1) := by decide +kernel
theorem dS_chk_9 : decode prog_12_method_155_code 9 = .ok (.return_, 1) := by decide +kernel
def yS_pre : MethodName := ⟨"jdk/internal/util/Preconditions", "checkIndex", "(IILjava/util/function/BiFunction;)I"⟩
abbrev mS_pre : MI := (yS_pre, prog_15_method_11_code, 3, some .int)
theorem dS_pre_0 : decode prog_15_method_11_code 0 = .ok (.iload_n 0, 1) := by decide +kernel
theorem dS_pre_1 : decode prog_15_method_11_code 1 = .ok (.ifCond .lt 8, 3) := by decide +kernel
theorem dS_pre_4 : decode prog_15_method_11_code 4 = .ok (.iload_n 0, 1) := by decide +kernel
theorem dS_pre_5 : decode prog_15_method_11_code 5 = .ok (.iload_n 1, 1) := by decide +kernel
theorem dS_pre_6 : decode prog_15_method_11_code 6 = .ok (.if_icmp .lt 10, 3) := by decide +kernel
theorem dS_pre_9 : decode prog_15_method_11_code 9 = .ok (.aload_n 2, 1) := by decide +kernel
theorem dS_pre_10 : decode prog_15_method_11_code 10 = .ok (.iload_n 0, 1) := by decide +kernel
theorem dS_pre_11 : decode prog_15_method_11_code 11 = .ok (.iload_n 1, 1) := by decide +kernel
theorem dS_pre_12 : decode prog_15_method_11_code 12 = .ok (.invokestatic 95, 3) := by decide +kernel
theorem dS_pre_15 : decode prog_15_method_11_code 15 = .ok (.athrow, 1) := by decide +kernel
theorem dS_pre_16 : decode prog_15_method_11_code 16 = .ok (.iload_n 0, 1) := by decide +kernel
theorem dS_pre_17 : decode prog_15_method_11_code 17 = .ok (.ireturn, 1) := by decide +kernel
set_option maxRecDepth 20000 in
theorem kcS_len : KC mS_len 0 := ⟨bigI 56 (by decide +kernel) rfl, bigI 222 rfl rfl, by decide +kernel, ⟨by decide +kernel, by decide +kernel, by decide +kernel⟩, by decide⟩
set_option maxRecDepth 20000 in
theorem kcS_cod : KC mS_cod 0 := ⟨bigI 56 (by decide +kernel) rfl, bigI 226 rfl rfl, by decide +kernel, ⟨by decide +kernel, by decide +kernel, by decide +kernel⟩, by decide⟩
set_option maxRecDepth 20000 in
theorem kcS_chr : KC mS_chr 1 := ⟨bigI 56 (by decide +kernel) rfl, bigI 232 rfl rfl, by decide +kernel, ⟨by decide +kernel, by decide +kernel, by decide +kernel⟩, by decide⟩
set_option maxRecDepth 20000 in
theorem kcS_isl : KC mS_isl 0 := ⟨bigI 56 (by decide +kernel) rfl, bigI 236 rfl rfl, by decide +kernel, ⟨by decide +kernel, by decide +kernel, by decide +kernel⟩, by decide⟩
set_option maxRecDepth 20000 in
theorem kcS_lat : KC mS_lat 2 := ⟨bigI 57 (by decide +kernel) rfl, bigI 239 rfl rfl, by decide +kernel, ⟨by decide +kernel, by decide +kernel, by decide +kernel⟩, by decide⟩
set_option maxRecDepth 20000 in
theorem kcS_chk : KC mS_chk 2 := ⟨bigI 56 (by decide +kernel) rfl, bigI 242 rfl rfl, by decide +kernel, ⟨by decide +kernel, by decide +kernel, by decide +kernel⟩, by decide⟩
set_option maxRecDepth 20000 in
theorem kcS_pre : KC mS_pre 3 := ⟨bigI 58 (by decide +kernel) rfl, bigI 247 rfl rfl, by decide +kernel, ⟨by decide +kernel, by decide +kernel, by decide +kernel⟩, by decide⟩
/-- the constant: its place, its coder, its bytes; the two statics that its methods read -/
def SK (A : Nat → Prop) (K : Nat × Nat × Value) (U : State) (H : Heap) : Prop :=
  vk_R RX7 73 fhT K.1 U ∧ va_O "java/lang/String" K.1 A U H ∧ va_OF "java/lang/String" "coder" "B" (.int 0) K.1 A U H ∧ va_OF "java/lang/String" "value" "[B" (.ref K.2.1) K.1 A U H ∧ va_T .byte K.2.1 77 (fun j => .int (nI (FHn j))) A U H ∧ va_Z "java/lang/String" "COMPACT_STRINGS" "Z" (.int 1) A U H ∧ va_Z "jdk/internal/util/Preconditions" "SIOOBE_FORMATTER" "Ljava/util/function/BiFunction;" K.2.2 A U H ∧ (K.2.2.category = 1)
theorem SK.warm {A : Nat → Prop} {K : Nat × Nat × Value} {s U : State} (hW : s.WarmedH U.vm) (hsk : SK A K s s.heap) (hq : ∀ a : Nat, a < s.heap.size → ¬ A a → U.heap[a]? = s.heap[a]?) : SK A K U U.heap := by
  obtain ⟨h1, h2, h3, h4, h5, h6, h7, h8⟩ := hsk
  exact ⟨vk_R.warm hW h1, (va_O.moved hW.alike h2).kept hq, (va_OF.moved hW.alike h3).kept hq, (va_OF.moved hW.alike h4).kept hq, (va_T.moved hW.alike h5).kept hq, (va_Z.moved hW.alike h6).kept hq, (va_Z.moved hW.alike h7).kept hq, h8⟩
theorem SK.same {A : Nat → Prop} {K : Nat × Nat × Value} {s U : State} (hv : U.vm = s.vm) (hh : U.heap = s.heap) (hsk : SK A K s s.heap) : SK A K U U.heap := by
  obtain ⟨h1, h2, h3, h4, h5, h6, h7, h8⟩ := hsk
  have ha : s.vm.Alike U.vm := by rw [hv]; exact Vm.Alike.refl s.vm
  rw [hh]
  exact ⟨vk_R.same hv h1, va_O.moved ha h2, va_OF.moved ha h3, va_OF.moved ha h4, va_T.moved ha h5, va_Z.moved ha h6, va_Z.moved ha h7, h8⟩
/-- frames that only read -/
def JQ (Q : Option Value → Prop) : Array Value → State → Outcome → State → Prop := fun _ st o t => ∃ v : Option Value, o = .returned v ∧ Q v ∧ t.heap = st.heap
def JW (M : MI) (A : Nat → Prop) (K : Nat × Nat × Value) (d pc : Nat) (lv : List (Nat × Value)) (st : List Value) (Q : Option Value → Prop) : Prop :=
  ∀ (p : Program) (l : Launch) (e : Env) (s : State) (m : MethodId) (args : Array Value) (below : List Frame) (meth : Method) (c : Code) (locs : List Loc) (ls : Array Slot),
    CX M p s m args meth c → SK A K s s.heap → va_S A s.heap s.heap locs → lv_has ls M.2.2.1 lv →
    W p l e (rmD d) s m args below meth c s.heap locs 0 0 (MQ below (JQ Q) args s 0 0 A) (F0 m pc ls st)
def PcJ (A : Nat → Prop) (K : Nat × Nat × Value) (as : List Value) : Array Value → State → Prop := fun v U => v = as.toArray ∧ SK A K U U.heap ∧ (∀ w ∈ nestW, va_Nw w U)
theorem PcJ.blind (A : Nat → Prop) (K : Nat × Nat × Value) (as : List Value) : FrameBlind (PcJ A K as) := by
  rintro a U g mk ⟨q0, qK, qN⟩
  refine ⟨q0, SK.same (s := U) (U := U.calling g mk a) rfl rfl qK, fun w hw => ?_⟩
  have hm : isNest w = true := (List.mem_filter.mp hw).2
  cases w <;> first | (simp [isNest] at hm; done) | exact va_Nw.same rfl rfl (qN _ hw)
theorem PcJ.pre {A : Nat → Prop} {K : Nat × Nat × Value} {as : List Value} {s : State} {H : Heap} {locs : List Loc} (hsk : SK A K s s.heap) (hS : va_S A s.heap H locs) (hns : ∀ w ∈ nestW, va_Nw w s) : ∀ U : State, U.heap = H → s.WarmedH U.vm → PcJ A K as as.toArray U := by
  intro U hU hW
  refine ⟨rfl, SK.warm hW hsk (by rw [hU]; exact hS.2.1), fun w hw => ?_⟩
  have hm : isNest w = true := (List.mem_filter.mp hw).2
  cases w <;> first | (simp [isNest] at hm; done) | exact va_Nw.warmM hW (hns _ hw)
theorem JW.met {M : MI} {A : Nat → Prop} {K : Nat × Nat × Value} {d : Nat} {as : List Value} {Q : Option Value → Prop} (hR : JW M A K d 0 (lv_args 0 as) [] Q) (hpl : plainFor M.1 = true) (hlen : (lg_sl as).length ≤ M.2.2.1) (l : Launch) :
    Met l M.1 (mW M) (rmD d) (PcJ A K as) (JQ Q) 0 0 A := by
  refine va_MetF (cc := M.2.1) (maxL := M.2.2.1) (ret := M.2.2.2) hpl rfl ?_
  intro p e s m args below meth c s₁ Bd hml hv
  obtain ⟨rfl, hK, hN⟩ := hv
  have hl := lv_entry as (n := M.2.2.1) hlen
  rw [lg_entry_eq]
  generalize (lg_sl as ++ List.replicate (M.2.2.1 - (lg_sl as).length) Slot.unset).toArray = ls at hl ⊢
  exact hR p l e s m _ below meth c [] ls ⟨Bd.exec, Bd.bytes, Bd.returns, hml, findClass_of_methodNamed Bd.named, atoms_spec (ws := mW M) Bd.pre, hN, Bd.notSynchronized⟩ hK va_S.rf hl
/-- what the call of an instance method of the JDK needs -/
def KJ (own : String) (idx : Nat) (M' : MI) (n : Nat) : Prop := KC M' n ∧ Cond.instanceMethod M'.1 ∈ bigW ∧ Cond.selects M'.1.cls M'.1 M'.1 ∈ bigW ∧ Cond.methodLink own idx M'.1 ∈ bigW
theorem jw_run {M : MI} {A : Nat → Prop} {K : Nat × Nat × Value} {d pc : Nat} {st0 st : List Value} {lv : List (Nat × Value)} {Q Q' : Option Value → Prop} {a : Array Value}
    (kk : ∀ v, Q' v → JW M A K d (pc + 3) lv (v.toList ++ st) Q)
    {p : Program} {l : Launch} {e : Env} {s : State} {m : MethodId} {args : Array Value} {below : List Frame} {meth : Method} {c : Code} {locs : List Loc} {ls : Array Slot}
    (hc : CX M p s m args meth c) (hsk : SK A K s s.heap) (hS : va_S A s.heap s.heap locs) (hl : lv_has ls M.2.2.1 lv)
    (hr : va_Run p l e (rmD d) s m args below meth c s.heap locs 0 0 0 0 (F0 m pc ls st0) st (JQ Q' a) A) :
    W p l e (rmD d) s m args below meth c s.heap locs 0 0 (MQ below (JQ Q) args s 0 0 A) (F0 m pc ls st0) := by
  intro T hT X
  obtain ⟨v, st₀, t, T', L, h0, X', hL, e1, e2, ⟨v', hv, hq, hh⟩, stp⟩ := hr T hT X
  have hv : v = v' := Outcome.returned.inj hv
  subst hv
  have hS' : va_S A s.heap s.heap (locs ++ L) := by
    refine ⟨Nat.le_refl _, fun q _ _ => rfl, fun q hq => ?_⟩
    rcases List.mem_append.mp hq with h | h
    · exact hS.2.2 q h
    · exact hL q h
  obtain ⟨t2, a1, b1⟩ := kk v hq p l e s m args below meth c (locs ++ L) ls hc hsk hS' hl T' (by rw [e1, hh, h0]) X'
  exact ⟨t2, stp t2 a1, b1⟩
theorem jw_callS {M M' : MI} {A : Nat → Prop} {K : Nat × Nat × Value} {d pc idx n : Nat} {as st0 st : List Value} {lv : List (Nat × Value)} {Q Q' : Option Value → Prop} (hd : decode M.2.1 pc = .ok (.invokestatic idx, 3)) (hk : KS M.1.cls idx M' n) (hR : JW M' A K d 0 (lv_args 0 as) [] Q')
    (hst : st0 = as.reverse ++ st) (hn : as.length = n) (hlen : (lg_sl as).length ≤ M'.2.2.1) (hz : (st.map fun v => v.category).sum ≤ 8)
    (kk : ∀ v, Q' v → JW M A K (d + 1) (pc + 3) lv (v.toList ++ st) Q) : JW M A K (d + 1) pc lv st0 Q := by
  intro p l e s m args below meth c locs ls hc hsk hS hl
  obtain ⟨hx, hb, hr, hml, hown, hts, hns, hlk⟩ := id hc
  obtain ⟨⟨k1, k2, k3, k4, k5⟩, k6, k7⟩ := hk
  subst hst
  have hM := hR.met k3 hlen l
  have hRR : (rmD d).frames + 1 ≤ (rmD (d + 1)).frames ∧ 8 + (M'.2.2.1 + 11) + (rmD d).locals ≤ (rmD (d + 1)).locals := by
    refine ⟨Nat.le_refl _, ?_⟩
    show 8 + (M'.2.2.1 + 11) + 36 * d ≤ 36 * (d + 1)
    omega
  have hW : 2 * (F0 m pc ls (as.reverse ++ st)).monitorRoom + (st.map fun v => v.category).sum ≤ 8 := lv_room hz
  have hpre : PreS s s.heap (PcJ A K as) as := ⟨PcJ.blind A K as, PcJ.pre hsk hS hns⟩
  rcases k7 with k7 | ⟨host, k7⟩
  · exact jw_run kk hc hsk hS hl (va_runS (n := n) (As := as) (rest := st) ⟨hx, hb, hml, hown, hts⟩ hM ⟨callB_of n hts (mW_good k2) rfl rfl rfl (hbig hts k1) (hbig hts k7) k4 hRR, hbig hts k6⟩ hpre rfl hn hl.1 rfl hW hd ⟨Nat.le_refl _, Nat.le_refl _⟩)
  · exact jw_run kk hc hsk hS hl (va_runSN (n := n) (As := as) (rest := st) ⟨hx, hb, hml, hown, hts⟩ hM ⟨va_cnB n hts (mW_good k2) rfl rfl rfl (hns _ k7) (hbig hts k1) k4 hRR, hbig hts k6, trivial⟩ hpre rfl hn hl.1 rfl hW hd ⟨Nat.le_refl _, Nat.le_refl _⟩)
theorem SK.recv {A : Nat → Prop} {K : Nat × Nat × Value} {s : State} {H : Heap} {locs : List Loc} (hsk : SK A K s s.heap) (hS : va_S A s.heap H locs) : ∃ cell : Cell, H[K.1]? = some cell ∧ cell.vm.isStatics = false ∧ s.vm.findClass "java/lang/String" = some cell.cls := by
  obtain ⟨cell, h1, h2, h3, -⟩ := hsk.2.1.kept hS.2.1
  exact ⟨cell, h1, h2, h3⟩
theorem jw_callV {M M' : MI} {A : Nat → Prop} {K : Nat × Nat × Value} {d pc idx n : Nat} {as st0 st : List Value} {lv : List (Nat × Value)} {Q Q' : Option Value → Prop} (hd : decode M.2.1 pc = .ok (.invokevirtual idx, 3)) (hk : KJ M.1.cls idx M' n) (hcl : M'.1.cls = "java/lang/String") (hR : JW M' A K d 0 (lv_args 0 (.ref K.1 :: as)) [] Q')
    (hst : st0 = as.reverse ++ .ref K.1 :: st) (hn : as.length = n) (hlen : (lg_sl (.ref K.1 :: as)).length ≤ M'.2.2.1) (hz : (st.map fun v => v.category).sum ≤ 8)
    (kk : ∀ v, Q' v → JW M A K (d + 1) (pc + 3) lv (v.toList ++ st) Q) : JW M A K (d + 1) pc lv st0 Q := by
  intro p l e s m args below meth c locs ls hc hsk hS hl
  obtain ⟨hx, hb, hr, hml, hown, hts, hns, hlk⟩ := id hc
  obtain ⟨⟨k1, k2, k3, k4, k5⟩, k6, k8, k7⟩ := hk
  subst hst
  have hM := hR.met k3 hlen l
  have hRR : (rmD d).frames + 1 ≤ (rmD (d + 1)).frames ∧ 8 + (M'.2.2.1 + 11) + (rmD d).locals ≤ (rmD (d + 1)).locals := by
    refine ⟨Nat.le_refl _, ?_⟩
    show 8 + (M'.2.2.1 + 11) + 36 * d ≤ 36 * (d + 1)
    omega
  have hW : 2 * (F0 m pc ls (as.reverse ++ .ref K.1 :: st)).monitorRoom + (st.map fun v => v.category).sum ≤ 8 := lv_room hz
  have hpre : PreV s s.heap M'.1.cls K.1 (PcJ A K (.ref K.1 :: as)) as := ⟨PcJ.blind A K _, by rw [hcl]; exact SK.recv hsk hS, PcJ.pre (as := .ref K.1 :: as) hsk hS hns⟩
  exact jw_run kk hc hsk hS hl (va_runV (n := n) (As := as) (b := K.1) (rest := st) ⟨hx, hb, hml, hown, hts⟩ hM ⟨callB_of n hts (mW_good k2) rfl rfl rfl (hbig hts k1) (hbig hts k7) k4 hRR, hbig hts k6, hbig hts k8⟩ hpre rfl hn hl.1 rfl hW hd ⟨Nat.le_refl _, Nat.le_refl _⟩)

theorem kjS_335 : KJ "java/lang/String" 335 mS_cod 0 := ⟨kcS_cod, bigI 224 (by decide +kernel) rfl, bigI 225 (by decide +kernel) rfl, bigI 223 (by decide +kernel) rfl⟩
theorem kjS_492 : KJ "java/lang/String" 492 mS_isl 0 := ⟨kcS_isl, bigI 234 (by decide +kernel) rfl, bigI 235 (by decide +kernel) rfl, bigI 233 (by decide +kernel) rfl⟩
theorem kjX7_75 : KJ "BirthdayRooms" 75 mS_len 0 := ⟨kcS_len, bigI 220 (by decide +kernel) rfl, bigI 221 (by decide +kernel) rfl, bigI 219 (by decide +kernel) rfl⟩
theorem kjX7_81 : KJ "BirthdayRooms" 81 mS_chr 1 := ⟨kcS_chr, bigI 230 (by decide +kernel) rfl, bigI 231 (by decide +kernel) rfl, bigI 229 (by decide +kernel) rfl⟩
theorem ksS_495 : KS "java/lang/String" 495 mS_lat 2 := ⟨kcS_lat, bigI 238 (by decide +kernel) rfl, Or.inl (bigI 237 (by decide +kernel) rfl)⟩
theorem ksL_9 : KS "java/lang/StringLatin1" 9 mS_chk 2 := ⟨kcS_chk, bigI 241 (by decide +kernel) rfl, Or.inl (bigI 240 (by decide +kernel) rfl)⟩
theorem ksS_1059 : KS "java/lang/String" 1059 mS_pre 3 := ⟨kcS_pre, bigI 246 (by decide +kernel) rfl, Or.inl (bigI 245 (by decide +kernel) rfl)⟩
section JDK
variable {A : Nat → Prop} {K : Nat × Nat × Value} {d : Nat}
theorem j_pre {k n : Nat} {fv : Value} (hk : k < n) (hn : n < 2 ^ 31) : JW mS_pre A K d 0 [(0, .int (nI k)), (1, .int (nI n)), (2, fv)] [] (fun v => v = some (.int (nI k))) := by
  intro p l e s m args below meth c locs ls hc hsk hS hl
  obtain ⟨hx, hb, hr, hml, hown, hts, hns, hlk⟩ := id hc
  refine lv_iload_n hx hb dS_pre_0 rfl (lv_at hl 0 rfl) ?_
  refine lv_if_lt (tgt := 9) hx hb dS_pre_1 (by decide) (fun q => absurd q (nI_pos (by omega))) (fun _ => ?_)
  refine lv_iload_n hx hb dS_pre_4 rfl (lv_at hl 0 rfl) ?_
  refine lv_iload_n hx hb dS_pre_5 rfl (lv_at hl 1 rfl) ?_
  refine lv_icmp_lt (tgt := 16) hx hb dS_pre_6 (by decide) (fun _ => ?_) (fun q => absurd (nI_lt hk hn) q)
  refine lv_iload_n hx hb dS_pre_16 rfl (lv_at hl 0 rfl) ?_
  exact W.zret (v := nI k) (ty := .int) hx hb hr rfl (fun t ht hW => ⟨_, rfl, rfl, ht⟩) hS.2.2 dS_pre_17 hlk
theorem jq_gets {M : MI} {C n dd : String} {pc index : Nat} {v : Value} {lv : List (Nat × Value)} {st : List Value} {Q : Option Value → Prop} (hZ : ∀ s : State, SK A K s s.heap → va_Z C n dd v A s s.heap) (hd : decode M.2.1 pc = .ok (.getstatic index, 3)) (hf : Cond.fieldLink M.1.cls index C n dd ∈ bigW) (kk : JW M A K d (pc + 3) lv (v :: st) Q) : JW M A K d pc lv st Q := by
  intro p l e s m args below meth c locs ls hc hsk hS hl
  obtain ⟨hx, hb, hr, hml, hown, hts, hns, hlk⟩ := id hc
  exact va_gets hx hb (hZ s hsk) hS hown (hbig hts hf) (fun _ h9 => h9) hd (kk p l e s m args below meth c locs ls hc hsk hS hl)
theorem jq_iload {M : MI} {pc : Nat} {lv : List (Nat × Value)} {st : List Value} {Q : Option Value → Prop} {k : Fin 4} {x : Int32} (j : Nat) (hd : decode M.2.1 pc = .ok (.iload_n k, 1)) (hj : lv[j]? = some ((k : Nat), .int x)) (kk : JW M A K d (pc + 1) lv (.int x :: st) Q) : JW M A K d pc lv st Q := by
  intro p l e s m args below meth c locs ls hc hsk hS hl
  exact lv_iload_n hc.1 hc.2.1 hd rfl (lv_at hl j hj) (kk p l e s m args below meth c locs ls hc hsk hS hl)
theorem jq_aload {M : MI} {pc : Nat} {lv : List (Nat × Value)} {st : List Value} {Q : Option Value → Prop} {k : Fin 4} {x : Nat} (j : Nat) (hd : decode M.2.1 pc = .ok (.aload_n k, 1)) (hj : lv[j]? = some ((k : Nat), .ref x)) (kk : JW M A K d (pc + 1) lv (.ref x :: st) Q) : JW M A K d pc lv st Q := by
  intro p l e s m args below meth c locs ls hc hsk hS hl
  exact lv_aload_n hc.1 hc.2.1 hd rfl (lv_at hl j hj) (kk p l e s m args below meth c locs ls hc hsk hS hl)
theorem jq_getf {M : MI} {n dd : String} {pc index : Nat} {v : Value} {lv : List (Nat × Value)} {st : List Value} {Q : Option Value → Prop} (hZ : ∀ s : State, SK A K s s.heap → va_OF "java/lang/String" n dd v K.1 A s s.heap) (hd : decode M.2.1 pc = .ok (.getfield index, 3)) (hf : Cond.fieldLink M.1.cls index "java/lang/String" n dd ∈ bigW) (kk : JW M A K d (pc + 3) lv (v :: st) Q) : JW M A K d pc lv (.ref K.1 :: st) Q := by
  intro p l e s m args below meth c locs ls hc hsk hS hl
  obtain ⟨hx, hb, hr, hml, hown, hts, hns, hlk⟩ := id hc
  exact vk_getf hx hb (hZ s hsk) hS hown (hbig hts hf) (fun _ h9 => h9) hd (kk p l e s m args below meth c locs ls hc hsk hS hl)
theorem jq_tlen {M : MI} {pc : Nat} {lv : List (Nat × Value)} {st : List Value} {Q : Option Value → Prop} (hd : decode M.2.1 pc = .ok (.arraylength, 1)) (kk : JW M A K d (pc + 1) lv (.int (nI 77) :: st) Q) : JW M A K d pc lv (.ref K.2.1 :: st) Q := by
  intro p l e s m args below meth c locs ls hc hsk hS hl
  exact va_tlen hc.1 hc.2.1 hsk.2.2.2.2.1 hS rfl hd (kk p l e s m args below meth c locs ls hc hsk hS hl)
theorem jq_pop {M : MI} {pc : Nat} {v : Value} {lv : List (Nat × Value)} {st : List Value} {Q : Option Value → Prop} (hd : decode M.2.1 pc = .ok (.pop, 1)) (hv : v.category = 1) (kk : JW M A K d (pc + 1) lv st Q) : JW M A K d pc lv (v :: st) Q := by
  intro p l e s m args below meth c locs ls hc hsk hS hl
  exact lv_pop hc.1 hc.2.1 hd hv (kk p l e s m args below meth c locs ls hc hsk hS hl)
theorem jq_vret {M : MI} {pc : Nat} {lv : List (Nat × Value)} {Q : Option Value → Prop} (hd : decode M.2.1 pc = .ok (.return_, 1)) (hr0 : M.2.2.2 = none) (hq : Q none) : JW M A K d pc lv [] Q := by
  intro p l e s m args below meth c locs ls hc hsk hS hl
  obtain ⟨hx, hb, hr, hml, hown, hts, hns, hlk⟩ := id hc
  exact W.vret hx hb (hr.trans hr0) (fun t ht hW => ⟨_, rfl, hq, ht⟩) hS.2.2 hd hlk
theorem jq_iret {M : MI} {pc : Nat} {x : Int32} {ty : FieldType} {lv : List (Nat × Value)} {Q : Option Value → Prop} (hd : decode M.2.1 pc = .ok (.ireturn, 1)) (hr0 : M.2.2.2 = some ty) (hn : narrow ty (.int x) = .int x) (hq : Q (some (.int x))) : JW M A K d pc lv [.int x] Q := by
  intro p l e s m args below meth c locs ls hc hsk hS hl
  obtain ⟨hx, hb, hr, hml, hown, hts, hns, hlk⟩ := id hc
  exact W.zret (v := x) hx hb (hr.trans hr0) hn (fun t ht hW => ⟨_, rfl, hq, ht⟩) hS.2.2 hd hlk
theorem cat1_ne {v : Value} (h1 : v.category = 1) : ¬ v.category = 2 := by omega
theorem j_chk {k : Nat} (hk : k < 77) (hcat : K.2.2.category = 1) : JW mS_chk A K (d + 1) 0 [(0, .int (nI k)), (1, .int (nI 77))] [] (fun v => v = none) := by
  refine jq_iload 0 dS_chk_0 rfl ?_
  refine jq_iload 1 dS_chk_1 rfl ?_
  refine jq_gets (fun s hsk => hsk.2.2.2.2.2.2.1) dS_chk_2 (bigI 243 (by decide +kernel) rfl) ?_
  refine jw_callS (as := [.int (nI k), .int (nI 77), K.2.2]) (st := []) dS_chk_5 ksS_1059 (j_pre hk (by decide)) rfl rfl ?_ (Nat.zero_le _) ?_
  · unfold lg_sl
    simp only [List.flatMap_cons, List.flatMap_nil, hcat]
    exact Nat.le_of_ble_eq_true rfl
  · rintro _ rfl
    refine jq_pop dS_chk_8 rfl ?_
    exact jq_vret dS_chk_9 rfl rfl
theorem and255 {x : Nat} (hx : x < 128) : nI x &&& nI 255 = nI x ∧ ((nI x).toUInt32 % 65536).toInt32 = nI x ∧ narrow .char (.int (nI x)) = .int (nI x) := by
  have hall : ∀ x : Fin 128, nI x.val &&& nI 255 = nI x.val ∧ ((nI x.val).toUInt32 % 65536).toInt32 = nI x.val ∧ narrow .char (.int (nI x.val)) = .int (nI x.val) := by decide +kernel
  exact hall ⟨x, hx⟩
theorem FHn_lt (k : Nat) (hk : k < 77) : 32 ≤ FHn k ∧ FHn k < 126 := by
  have hall : ∀ k : Fin 77, 32 ≤ FHn k.val ∧ FHn k.val < 126 := by decide +kernel
  exact hall ⟨k, hk⟩
/-- StringLatin1.charAt -/
theorem j_lat {k : Nat} (hk : k < 77) (hcat : K.2.2.category = 1) : JW mS_lat A K (d + 2) 0 [(0, .ref K.2.1), (1, .int (nI k))] [] (fun v => v = some (.int (nI (FHn k)))) := by
  refine jq_iload 1 dS_lat_0 rfl ?_
  refine jq_aload 0 dS_lat_1 rfl ?_
  refine jq_tlen dS_lat_2 ?_
  refine jw_callS (as := [.int (nI k), .int (nI 77)]) (st := []) dS_lat_3 ksL_9 (j_chk hk hcat) rfl rfl (Nat.le_of_ble_eq_true rfl) (Nat.zero_le _) ?_
  rintro _ rfl
  refine jq_aload 0 dS_lat_6 rfl ?_
  refine jq_iload 1 dS_lat_7 rfl ?_
  intro p l e s m args below meth c locs ls hc hsk hS hl
  obtain ⟨hx, hb, hr, hml, hown, hts, hns, hlk⟩ := id hc
  have h9 := FHn_lt k hk
  obtain ⟨z1, z2, z3⟩ := and255 (show FHn k < 128 by omega)
  refine va_tb hx hb hsk.2.2.2.2.1 hS (nI_in hk (by decide)) (v := .int (nI (FHn k))) (by rw [nI_clamp (by omega)]) dS_lat_8 ?_
  refine lv_sipush (v := nI 255) hx hb dS_lat_9 (by decide) ?_
  refine lv_iand hx hb dS_lat_12 ?_
  rw [z1]
  refine lv_i2c (v := nI (FHn k)) hx hb dS_lat_13 z2 ?_
  exact W.zret (v := nI (FHn k)) (ty := .char) hx hb hr z3 (fun t ht hW => ⟨_, rfl, rfl, ht⟩) hS.2.2 dS_lat_14 hlk
theorem jq_if_eq1 {M : MI} {pc tgt : Nat} {off : Int} {lv : List (Nat × Value)} {st : List Value} {Q : Option Value → Prop} (hd : decode M.2.1 pc = .ok (.ifCond .eq off, 3)) (ht : (pc : Int) + off = (tgt : Int)) (kk : JW M A K d (pc + 3) lv st Q) : JW M A K d pc lv (.int 1 :: st) Q := by
  intro p l e s m args below meth c locs ls hc hsk hS hl
  exact lv_if_eq (tgt := tgt) hc.1 hc.2.1 hd ht (fun q => absurd q (by decide)) (fun _ => kk p l e s m args below meth c locs ls hc hsk hS hl)
theorem jq_if_ne0 {M : MI} {pc tgt : Nat} {off : Int} {lv : List (Nat × Value)} {st : List Value} {Q : Option Value → Prop} (hd : decode M.2.1 pc = .ok (.ifCond .ne off, 3)) (ht : (pc : Int) + off = (tgt : Int)) (kk : JW M A K d (pc + 3) lv st Q) : JW M A K d pc lv (.int 0 :: st) Q := by
  intro p l e s m args below meth c locs ls hc hsk hS hl
  exact lv_if_ne (tgt := tgt) hc.1 hc.2.1 hd ht (fun q => absurd rfl q) (fun _ => kk p l e s m args below meth c locs ls hc hsk hS hl)
theorem jq_goto {M : MI} {pc : Nat} {off : Int} (tgt : Nat) {lv : List (Nat × Value)} {st : List Value} {Q : Option Value → Prop} (hd : decode M.2.1 pc = .ok (.goto off, 3)) (ht : (pc : Int) + off = (tgt : Int)) (kk : JW M A K d tgt lv st Q) : JW M A K d pc lv st Q := by
  intro p l e s m args below meth c locs ls hc hsk hS hl
  exact lv_goto hc.1 hc.2.1 hd ht (kk p l e s m args below meth c locs ls hc hsk hS hl)
theorem jq_iconst {M : MI} {pc : Nat} {n : Int} (v : Int32) {lv : List (Nat × Value)} {st : List Value} {Q : Option Value → Prop} (hd : decode M.2.1 pc = .ok (.iconst n, 1)) (hv : Int32.ofInt n = v) (kk : JW M A K d (pc + 1) lv (.int v :: st) Q) : JW M A K d pc lv st Q := by
  intro p l e s m args below meth c locs ls hc hsk hS hl
  exact lv_iconst hc.1 hc.2.1 hd hv (kk p l e s m args below meth c locs ls hc hsk hS hl)
theorem j_isl : JW mS_isl A K d 0 [(0, .ref K.1)] [] (fun v => v = some (.int 1)) := by
  refine jq_gets (fun s hsk => hsk.2.2.2.2.2.1) dS_isl_0 (bigI 227 (by decide +kernel) rfl) ?_
  refine jq_if_eq1 (tgt := 17) dS_isl_3 (by decide) ?_
  refine jq_aload 0 dS_isl_6 rfl ?_
  refine jq_getf (fun s hsk => hsk.2.2.1) dS_isl_7 (bigI 1125 (by decide +kernel) rfl) ?_
  refine jq_if_ne0 (tgt := 17) dS_isl_10 (by decide) ?_
  refine jq_iconst 1 dS_isl_13 (by decide) ?_
  refine jq_goto 18 dS_isl_14 (by decide) ?_
  exact jq_iret dS_isl_18 rfl rfl rfl
theorem j_cod : JW mS_cod A K d 0 [(0, .ref K.1)] [] (fun v => v = some (.int 0)) := by
  refine jq_gets (fun s hsk => hsk.2.2.2.2.2.1) dS_cod_0 (bigI 227 (by decide +kernel) rfl) ?_
  refine jq_if_eq1 (tgt := 13) dS_cod_3 (by decide) ?_
  refine jq_aload 0 dS_cod_6 rfl ?_
  refine jq_getf (fun s hsk => hsk.2.2.1) dS_cod_7 (bigI 1125 (by decide +kernel) rfl) ?_
  refine jq_goto 14 dS_cod_10 (by decide) ?_
  exact jq_iret dS_cod_14 rfl rfl rfl
/-- String.length -/
theorem j_len : JW mS_len A K (d + 1) 0 [(0, .ref K.1)] [] (fun v => v = some (.int (nI 77))) := by
  refine jq_aload 0 dS_len_0 rfl ?_
  refine jq_getf (fun s hsk => hsk.2.2.2.1) dS_len_1 (bigI 1124 (by decide +kernel) rfl) ?_
  refine jq_tlen dS_len_4 ?_
  refine jq_aload 0 dS_len_5 rfl ?_
  refine jw_callV (as := []) (st := [.int (nI 77)]) dS_len_6 kjS_335 rfl j_cod rfl rfl (Nat.le_of_ble_eq_true rfl) (Nat.le_of_ble_eq_true rfl) ?_
  rintro _ rfl
  intro p l e s m args below meth c locs ls hc hsk hS hl
  obtain ⟨hx, hb, hr, hml, hown, hts, hns, hlk⟩ := id hc
  refine lv_ishr hx hb dS_len_9 ?_
  have e9 : nI 77 >>> ((0 : Int32) &&& 31) = nI 77 := by decide
  rw [e9]
  exact W.zret (v := nI 77) (ty := .int) hx hb hr rfl (fun t ht hW => ⟨_, rfl, rfl, ht⟩) hS.2.2 dS_len_10 hlk
/-- String.charAt -/
theorem j_chr {k : Nat} (hk : k < 77) (hcat : K.2.2.category = 1) : JW mS_chr A K (d + 3) 0 [(0, .ref K.1), (1, .int (nI k))] [] (fun v => v = some (.int (nI (FHn k)))) := by
  have h9 := FHn_lt k hk
  obtain ⟨z1, z2, z3⟩ := and255 (show FHn k < 128 by omega)
  refine jq_aload 0 dS_chr_0 rfl ?_
  refine jw_callV (as := []) (st := []) dS_chr_1 kjS_492 rfl j_isl rfl rfl (Nat.le_of_ble_eq_true rfl) (Nat.le_of_ble_eq_true rfl) ?_
  rintro _ rfl
  refine jq_if_eq1 (tgt := 16) dS_chr_4 (by decide) ?_
  refine jq_aload 0 dS_chr_7 rfl ?_
  refine jq_getf (fun s hsk => hsk.2.2.2.1) dS_chr_8 (bigI 1124 (by decide +kernel) rfl) ?_
  refine jq_iload 1 dS_chr_11 rfl ?_
  refine jw_callS (as := [.ref K.2.1, .int (nI k)]) (st := []) dS_chr_12 ksS_495 (j_lat hk hcat) rfl rfl (Nat.le_of_ble_eq_true rfl) (Nat.zero_le _) ?_
  rintro _ rfl
  exact jq_iret dS_chr_15 rfl z3 rfl
end JDK

