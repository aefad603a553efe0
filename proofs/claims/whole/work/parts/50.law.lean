/-! THE LAW'S LOOP -/
def LK (p : Program) (s : State) (m : MethodId) (args : Array Value) (c : Code) (b L : Nat) (xs : Nat → Int32) : Prop :=
  p.tables.exec = Jvm.exec ∧ c.code = cL_law ∧ c.maxLocals = 4 ∧ s.vm.findClass RL = some m.cls ∧ (∀ w ∈ bigW, w.before args s = true) ∧ (∀ w ∈ nestW, va_Nw w s) ∧ va_X b L xs s s.heap ∧ b < s.heap.size
def LST (G : Gx) (h : Hp) (X : XS) (s : State) (H : Heap) (locs : List Loc) : Prop := WD G h s H locs ∧ RX h X ∧ RM h X ∧ VX X
theorem RM.fx {h h1 : Hp} {X : XS} (hr : RM h X) (hf : FX h h1) : RM h1 X := hr.gen (fun o q _ => hf o (by omega)) (fun k _ => by rw [hf 67 (by omega)])
theorem RX.fn {h h1 : Hp} {X : XS} (hr : RX h X) (hv : VX X) (hf : FN h h1) : RX h1 X := by
  refine hr.gen hv ?_ (fun o ho => hf o (by omega)) (by rw [hf 1 (by omega)])
  unfold HX
  rw [hf 4 (by omega), hf 5 (by omega), hf 7 (by omega), hf 8 (by omega), hf 9 (by omega)]
  exact hr.1
theorem bg_good {M' : MI} (hc : Cond.code M'.1 M'.2.1 M'.2.2.1 M'.2.2.2 ∈ bigW) : GoodIn bigW (mW M') := by
  intro w hw
  have h1 : w ∈ bigW := by
    rcases List.mem_cons.mp hw with rfl | h
    · exact hc
    · exact h
  exact ⟨h1, good_of_word (List.mem_filter.mp h1).2⟩
theorem law_sub {L i : Nat} (hL : L ≤ 320) (hi : i < 2 ^ 20) (hq : ¬ (nI L - nI 5 < nI i)) : i + 5 ≤ L := by
  by_cases q : 5 ≤ L
  · obtain ⟨k, rfl⟩ : ∃ k, L = k + 5 := ⟨L - 5, by omega⟩
    rw [← nI_add, Int32.add_sub_cancel, nI_ltI (by omega) (by omega)] at hq
    omega
  · exfalso
    apply hq
    have h1 : nI L - nI 5 < nI 0 := by
      rcases (show L = 0 ∨ L = 1 ∨ L = 2 ∨ L = 3 ∨ L = 4 by omega) with rfl | rfl | rfl | rfl | rfl <;> decide
    exact Int32.lt_of_lt_of_le h1 (nI_le (Nat.zero_le i) (by omega))
theorem and31 (x : Int32) : ∃ j, j < 32 ∧ x &&& nI 31 = nI j := by
  refine ⟨(x.toBitVec &&& 31#32).toNat, ?_, ?_⟩
  · rw [BitVec.toNat_and]
    exact Nat.lt_of_le_of_lt Nat.and_le_right (by decide)
  · apply Int32.toBitVec_inj.mp
    rw [Int32.toBitVec_and]
    show _ = BitVec.ofNat 32 _
    rw [BitVec.ofNat_toNat, BitVec.setWidth_eq]
    rfl
section LAW
variable {p : Program} {l : Launch} {e : Env} {s : State} {m : MethodId} {args : Array Value} {below : List Frame} {meth : Method} {c : Code} {b L i : Nat} {xs : Nat → Int32} {G : Gx} {H : Heap} {locs : List Loc} {ls : Array Slot} {C0 S0 : Nat} {Q : State → Prop} {h : Hp} {X : XS}
theorem la_arg {pc k : Nat} {st : List Value} (K : LK p s m args c b L xs) (hbA : ¬ gA G b) (hwd : WD G h s H locs) (hL : L ≤ 320) (hl : lv_has ls 4 [(3, .int (nI i)), (2, .ref (ga G 67)), (1, .ref (ga G 0)), (0, .ref b)]) (hi : i + k < L)
    (d0 : decode cL_law pc = .ok (.aload_n 0, 1)) (d1 : decode cL_law (pc + 1) = .ok (.iload_n 3, 1)) (d2 : decode cL_law (pc + 1 + 1) = .ok (.iconst (k : Int), 1)) (d3 : decode cL_law (pc + 1 + 1 + 1) = .ok (.iadd, 1)) (d4 : decode cL_law (pc + 1 + 1 + 1 + 1) = .ok (.iaload, 1))
    (kk : W p l e room_1 s m args below meth c H locs C0 S0 Q (F0 m (pc + 1 + 1 + 1 + 1 + 1) ls (.int (xs (i + k)) :: st))) : W p l e room_1 s m args below meth c H locs C0 S0 Q (F0 m pc ls st) := by
  refine lv_aload_n K.1 K.2.1 d0 rfl (lv_at hl 3 rfl) ?_
  refine lv_iload_n K.1 K.2.1 d1 rfl (lv_at hl 0 rfl) ?_
  refine lv_iconst (v := nI k) K.1 K.2.1 d2 rfl ?_
  refine lv_iadd K.1 K.2.1 d3 ?_
  rw [nI_add]
  refine va_sld (A := gA G) K.1 K.2.1 K.2.2.2.2.2.2.1 K.2.2.2.2.2.2.2 hbA hwd.2.2.2.1 (nI_in hi (by omega)) d4 ?_
  rw [nI_clamp (by omega)]
  exact kk
theorem la_call {M' : MI} {pc idx ci n o : Nat} {as : List Int32} {st0 st : List Value} {Q' : Option Value → Hp → Prop} {fs : List (Option Nat)} (K : LK p s m args c b L xs) (hd : decode cL_law pc = .ok (.invokevirtual idx, 3)) (hk : KV RL idx M' ci n) (hR : RT M' 8 (.ref o :: as.map Value.int) h Q') (ho : lay[o]? = some (oO ci fs))
    (hst : st0 = (as.map Value.int).reverse ++ .ref (ga G o) :: st) (hn : as.length = n) (hlen : as.length + 1 ≤ M'.2.2.1) (hz : (st.map fun v => v.category).sum ≤ 8) (hsz : ls.size = 4) (hwd : WD G h s H locs) (hC : C0 ≤ room_1.cells) (hS0 : S0 ≤ room_1.slots)
    (kk : ∀ v h' H' locs', Q' v h' → WD G h' s H' locs' → W p l e room_1 s m args below meth c H' locs' C0 S0 Q (F0 m (pc + 3) ls ((v.map (cv (ga G))).toList ++ st))) : W p l e room_1 s m args below meth c H locs C0 S0 Q (F0 m pc ls st0) := by
  obtain ⟨hx, hb, hml, hown, hts, hns, -, -⟩ := K
  obtain ⟨⟨k1, k2, k3, k4, k5⟩, k6, k8, ⟨T, N, kc⟩, k7⟩ := hk
  subst hst
  have hcat : ∀ w ∈ as.map Value.int, w.category = 1 := fun w hw => by
    obtain ⟨x, -, rfl⟩ := List.mem_map.mp hw
    rfl
  have em : (as.map Value.int).map (cv (ga G)) = as.map Value.int := by
    rw [List.map_map]
    rfl
  have hM := hR.met k3 (fun w hw => by
    rcases List.mem_cons.mp hw with rfl | hw
    · rfl
    · exact hcat w hw) (by simpa using hlen) l G
  have hRR : (rmD 8).frames + 1 ≤ room_1.frames ∧ 8 + (M'.2.2.1 + 11) + (rmD 8).locals ≤ room_1.locals := by
    refine ⟨Nat.le_of_ble_eq_true rfl, ?_⟩
    show 8 + (M'.2.2.1 + 11) + 36 * 8 ≤ 330
    omega
  have hW : 2 * (F0 m pc ls ((as.map Value.int).reverse ++ .ref (ga G o) :: st)).monitorRoom + (st.map fun v => v.category).sum ≤ 8 := lv_room hz
  have hpre : PreV s H M'.1.cls (ga G o) (PcO G (.ref o :: as.map Value.int) h) (as.map Value.int) := by
    have := PcO.pre (as := .ref o :: as.map Value.int) hwd hns
    rw [List.map_cons, em] at this
    exact ⟨PcO.blind G _ h, va_recv hwd.1 hwd.2.1 kc (wl_at ho), this⟩
  have hr : va_Run p l e room_1 s m args below meth c H locs C0 S0 0 0 (F0 m pc ls ((as.map Value.int).reverse ++ .ref (ga G o) :: st)) st (Qo G Q' (Value.ref (ga G o) :: as.map Value.int).toArray) (gA G) := by
    rcases k7 with k7 | ⟨host, k7⟩
    · exact va_runV (n := n) (As := as.map Value.int) (b := ga G o) (rest := st) ⟨hx, hb, hml, hown, hts⟩ hM ⟨callB_of n hts (bg_good k2) rfl rfl rfl (hts _ k1) (hts _ k7) k4 hRR, hts _ k6, hts _ k8⟩ hpre rfl (by rw [List.length_map]; exact hn) hsz rfl hW hd ⟨hC, hS0⟩
    · exact va_runVN (n := n) (As := as.map Value.int) (b := ga G o) (rest := st) ⟨hx, hb, hml, hown, hts⟩ hM ⟨va_cnB n hts (bg_good k2) rfl rfl rfl (hns _ k7) (hts _ k1) k4 hRR, hts _ k6, hts _ k8⟩ hpre rfl (by rw [List.length_map]; exact hn) hsz rfl hW hd ⟨hC, hS0⟩
  obtain ⟨hK, hP, hD, hS, hA⟩ := hwd
  intro T0 hT X0
  obtain ⟨v, st₀, t, T', L0, h0, X', hL, e1, e2, ⟨v', h', hv, hq, hP', hD', hz1, hk1⟩, stp⟩ := hr T0 hT X0
  have hv : v = v'.map (cv (ga G)) := Outcome.returned.inj hv
  subst hv
  rw [h0] at hz1 hk1
  have hS' : va_S (gA G) s.heap T'.heap (locs ++ L0) := by
    refine ⟨Nat.le_trans hS.1 (by rw [e1]; exact hz1), fun q h1 h2 => ?_, fun q hq => ?_⟩
    · rw [e1, hk1 q (Nat.lt_of_lt_of_le h1 hS.1) h2]
      exact hS.2.1 q h1 h2
    · rcases List.mem_append.mp hq with h | h
      · exact hS.2.2 q h
      · exact hL q h
  obtain ⟨t2, a1, b1⟩ := kk v' h' T'.heap (locs ++ L0) hq ⟨hK, by rw [e1]; exact hP', hD', hS', hA⟩ T' rfl X'
  refine ⟨t2, stp t2 ?_, b1⟩
  cases v' <;> exact a1

theorem lc_write (K : LK p s m args c b L xs) (hbA : ¬ gA G b) (hC : C0 ≤ room_1.cells) (hS0 : S0 ≤ room_1.slots) (hL : L ≤ 320) (hi : i + 5 ≤ L) (hl : lv_has ls 4 [(3, .int (nI i)), (2, .ref (ga G 67)), (1, .ref (ga G 0)), (0, .ref b)]) (hT : LST G h X s H locs) (nx : ∀ h2 X2 H2 locs2, LST G h2 X2 s H2 locs2 → W p l e room_1 s m args below meth c H2 locs2 C0 S0 Q (F0 m 988 ls [])) : W p l e room_1 s m args below meth c H locs C0 S0 Q (F0 m 168 ls []) := by
  obtain ⟨w0, r0, m0, hv⟩ := hT
  refine lv_aload_n K.1 K.2.1 dL_law_168 rfl (lv_at hl 2 rfl) ?_
  refine la_arg (k := 1) K hbA w0 hL hl (by omega) dL_law_169 dL_law_170 dL_law_171 dL_law_172 dL_law_173 ?_
  refine la_call (as := [xs (i + 1)]) (o := 0) (st := []) K dL_law_174 kL_13 (x_write (d := 2) r0 hv) rfl rfl rfl (Nat.le_of_ble_eq_true rfl) (Nat.le_of_ble_eq_true rfl) hl.1 w0 hC hS0 ?_
  rintro _ h1 H1 locs1 ⟨rfl, r1, f1⟩ w1
  change W p l e room_1 s m args below meth c H1 locs1 C0 S0 Q (F0 m 177 ls [.int (a_write X (xs (i + 1))).1])
  have m1 : RM h1 X := m0.fx f1
  refine lv_aload_n K.1 K.2.1 dL_law_177 rfl (lv_at hl 1 rfl) ?_
  refine la_arg (k := 1) K hbA w1 hL hl (by omega) dL_law_178 dL_law_179 dL_law_180 dL_law_181 dL_law_182 ?_
  refine la_call (as := [xs (i + 1)]) (o := 67) (st := [.int (a_write X (xs (i + 1))).1]) K dL_law_183 kL_17 (y_write (d := 2) m1 hv) rfl rfl rfl (Nat.le_of_ble_eq_true rfl) (Nat.le_of_ble_eq_true rfl) hl.1 w1 hC hS0 ?_
  rintro _ h2 H2 locs2 ⟨rfl, m2, f2⟩ w2
  change W p l e room_1 s m args below meth c H2 locs2 C0 S0 Q (F0 m 186 ls [.int (a_write X (xs (i + 1))).1, .int (a_write X (xs (i + 1))).1])
  have v2 : VX (a_write X (xs (i + 1))).2 := v_write hv (xs (i + 1))
  exact lv_icmp_eq (tgt := 988) K.1 K.2.1 dL_law_186 (by decide) (fun _ => nx h2 (a_write X (xs (i + 1))).2 H2 locs2 ⟨w2, r1.fn v2 f2, m2, v2⟩) (fun q => absurd rfl q)
theorem lc_wipe (K : LK p s m args c b L xs) (hbA : ¬ gA G b) (hC : C0 ≤ room_1.cells) (hS0 : S0 ≤ room_1.slots) (hL : L ≤ 320) (hi : i + 5 ≤ L) (hl : lv_has ls 4 [(3, .int (nI i)), (2, .ref (ga G 67)), (1, .ref (ga G 0)), (0, .ref b)]) (hT : LST G h X s H locs) (nx : ∀ h2 X2 H2 locs2, LST G h2 X2 s H2 locs2 → W p l e room_1 s m args below meth c H2 locs2 C0 S0 Q (F0 m 988 ls [])) : W p l e room_1 s m args below meth c H locs C0 S0 Q (F0 m 191 ls []) := by
  obtain ⟨w0, r0, m0, hv⟩ := hT
  refine lv_aload_n K.1 K.2.1 dL_law_191 rfl (lv_at hl 2 rfl) ?_
  refine la_call (as := []) (o := 0) (st := []) K dL_law_192 kL_18 (x_wipe (d := 2) r0 hv) rfl rfl rfl (Nat.le_of_ble_eq_true rfl) (Nat.le_of_ble_eq_true rfl) hl.1 w0 hC hS0 ?_
  rintro _ h1 H1 locs1 ⟨rfl, r1, f1⟩ w1
  change W p l e room_1 s m args below meth c H1 locs1 C0 S0 Q (F0 m 195 ls [.int (a_wipe X).1])
  have m1 : RM h1 X := m0.fx f1
  refine lv_aload_n K.1 K.2.1 dL_law_195 rfl (lv_at hl 1 rfl) ?_
  refine la_call (as := []) (o := 67) (st := [.int (a_wipe X).1]) K dL_law_196 kL_22 (y_wipe (d := 2) m1 hv) rfl rfl rfl (Nat.le_of_ble_eq_true rfl) (Nat.le_of_ble_eq_true rfl) hl.1 w1 hC hS0 ?_
  rintro _ h2 H2 locs2 ⟨rfl, m2, f2⟩ w2
  change W p l e room_1 s m args below meth c H2 locs2 C0 S0 Q (F0 m 199 ls [.int (a_wipe X).1, .int (a_wipe X).1])
  have v2 : VX (a_wipe X).2 := v_wipe hv
  exact lv_icmp_eq (tgt := 988) K.1 K.2.1 dL_law_199 (by decide) (fun _ => nx h2 (a_wipe X).2 H2 locs2 ⟨w2, r1.fn v2 f2, m2, v2⟩) (fun q => absurd rfl q)
theorem lc_fault (K : LK p s m args c b L xs) (hbA : ¬ gA G b) (hC : C0 ≤ room_1.cells) (hS0 : S0 ≤ room_1.slots) (hL : L ≤ 320) (hi : i + 5 ≤ L) (hl : lv_has ls 4 [(3, .int (nI i)), (2, .ref (ga G 67)), (1, .ref (ga G 0)), (0, .ref b)]) (hT : LST G h X s H locs) (nx : ∀ h2 X2 H2 locs2, LST G h2 X2 s H2 locs2 → W p l e room_1 s m args below meth c H2 locs2 C0 S0 Q (F0 m 988 ls [])) : W p l e room_1 s m args below meth c H locs C0 S0 Q (F0 m 204 ls []) := by
  obtain ⟨w0, r0, m0, hv⟩ := hT
  refine lv_aload_n K.1 K.2.1 dL_law_204 rfl (lv_at hl 2 rfl) ?_
  refine la_call (as := []) (o := 0) (st := []) K dL_law_205 kL_23 (x_fault (d := 2) r0 hv) rfl rfl rfl (Nat.le_of_ble_eq_true rfl) (Nat.le_of_ble_eq_true rfl) hl.1 w0 hC hS0 ?_
  rintro _ h1 H1 locs1 ⟨rfl, r1, f1⟩ w1
  change W p l e room_1 s m args below meth c H1 locs1 C0 S0 Q (F0 m 208 ls [.int (a_fault X)])
  have m1 : RM h1 X := m0.fx f1
  refine lv_aload_n K.1 K.2.1 dL_law_208 rfl (lv_at hl 1 rfl) ?_
  refine la_call (as := []) (o := 67) (st := [.int (a_fault X)]) K dL_law_209 kL_26 (y_fault (d := 2) m1 hv) rfl rfl rfl (Nat.le_of_ble_eq_true rfl) (Nat.le_of_ble_eq_true rfl) hl.1 w1 hC hS0 ?_
  rintro _ h2 H2 locs2 ⟨rfl, m2, f2⟩ w2
  change W p l e room_1 s m args below meth c H2 locs2 C0 S0 Q (F0 m 212 ls [.int (a_fault X), .int (a_fault X)])
  have v2 : VX X := hv
  exact lv_icmp_eq (tgt := 988) K.1 K.2.1 dL_law_212 (by decide) (fun _ => nx h2 X H2 locs2 ⟨w2, r1.fn v2 f2, m2, v2⟩) (fun q => absurd rfl q)
theorem lc_lay (K : LK p s m args c b L xs) (hbA : ¬ gA G b) (hC : C0 ≤ room_1.cells) (hS0 : S0 ≤ room_1.slots) (hL : L ≤ 320) (hi : i + 5 ≤ L) (hl : lv_has ls 4 [(3, .int (nI i)), (2, .ref (ga G 67)), (1, .ref (ga G 0)), (0, .ref b)]) (hT : LST G h X s H locs) (nx : ∀ h2 X2 H2 locs2, LST G h2 X2 s H2 locs2 → W p l e room_1 s m args below meth c H2 locs2 C0 S0 Q (F0 m 988 ls [])) : W p l e room_1 s m args below meth c H locs C0 S0 Q (F0 m 217 ls []) := by
  obtain ⟨w0, r0, m0, hv⟩ := hT
  refine lv_aload_n K.1 K.2.1 dL_law_217 rfl (lv_at hl 2 rfl) ?_
  refine la_call (as := []) (o := 0) (st := []) K dL_law_218 kL_27 (x_lay (d := 2) r0 hv) rfl rfl rfl (Nat.le_of_ble_eq_true rfl) (Nat.le_of_ble_eq_true rfl) hl.1 w0 hC hS0 ?_
  rintro _ h1 H1 locs1 ⟨rfl, r1, f1⟩ w1
  change W p l e room_1 s m args below meth c H1 locs1 C0 S0 Q (F0 m 221 ls [.int (a_lay X).1])
  have m1 : RM h1 X := m0.fx f1
  refine lv_aload_n K.1 K.2.1 dL_law_221 rfl (lv_at hl 1 rfl) ?_
  refine la_call (as := []) (o := 67) (st := [.int (a_lay X).1]) K dL_law_222 kL_30 (y_lay (d := 2) m1 hv) rfl rfl rfl (Nat.le_of_ble_eq_true rfl) (Nat.le_of_ble_eq_true rfl) hl.1 w1 hC hS0 ?_
  rintro _ h2 H2 locs2 ⟨rfl, m2, f2⟩ w2
  change W p l e room_1 s m args below meth c H2 locs2 C0 S0 Q (F0 m 225 ls [.int (a_lay X).1, .int (a_lay X).1])
  have v2 : VX (a_lay X).2 := v_lay hv
  exact lv_icmp_eq (tgt := 988) K.1 K.2.1 dL_law_225 (by decide) (fun _ => nx h2 (a_lay X).2 H2 locs2 ⟨w2, r1.fn v2 f2, m2, v2⟩) (fun q => absurd rfl q)
theorem lc_cousin (K : LK p s m args c b L xs) (hbA : ¬ gA G b) (hC : C0 ≤ room_1.cells) (hS0 : S0 ≤ room_1.slots) (hL : L ≤ 320) (hi : i + 5 ≤ L) (hl : lv_has ls 4 [(3, .int (nI i)), (2, .ref (ga G 67)), (1, .ref (ga G 0)), (0, .ref b)]) (hT : LST G h X s H locs) (nx : ∀ h2 X2 H2 locs2, LST G h2 X2 s H2 locs2 → W p l e room_1 s m args below meth c H2 locs2 C0 S0 Q (F0 m 988 ls [])) : W p l e room_1 s m args below meth c H locs C0 S0 Q (F0 m 230 ls []) := by
  obtain ⟨w0, r0, m0, hv⟩ := hT
  refine lv_aload_n K.1 K.2.1 dL_law_230 rfl (lv_at hl 2 rfl) ?_
  refine la_arg (k := 1) K hbA w0 hL hl (by omega) dL_law_231 dL_law_232 dL_law_233 dL_law_234 dL_law_235 ?_
  refine la_arg (k := 2) K hbA w0 hL hl (by omega) dL_law_236 dL_law_237 dL_law_238 dL_law_239 dL_law_240 ?_
  refine la_call (as := [xs (i + 1), xs (i + 2)]) (o := 0) (st := []) K dL_law_241 kL_31 (x_cousin (d := 2) r0 hv) rfl rfl rfl (Nat.le_of_ble_eq_true rfl) (Nat.le_of_ble_eq_true rfl) hl.1 w0 hC hS0 ?_
  rintro _ h1 H1 locs1 ⟨rfl, r1, f1⟩ w1
  change W p l e room_1 s m args below meth c H1 locs1 C0 S0 Q (F0 m 244 ls [.int (a_cousin X (xs (i + 1)) (xs (i + 2)))])
  have m1 : RM h1 X := m0.fx f1
  refine lv_aload_n K.1 K.2.1 dL_law_244 rfl (lv_at hl 1 rfl) ?_
  refine la_arg (k := 1) K hbA w1 hL hl (by omega) dL_law_245 dL_law_246 dL_law_247 dL_law_248 dL_law_249 ?_
  refine la_arg (k := 2) K hbA w1 hL hl (by omega) dL_law_250 dL_law_251 dL_law_252 dL_law_253 dL_law_254 ?_
  refine la_call (as := [xs (i + 1), xs (i + 2)]) (o := 67) (st := [.int (a_cousin X (xs (i + 1)) (xs (i + 2)))]) K dL_law_255 kL_35 (y_cousin (d := 2) m1 hv) rfl rfl rfl (Nat.le_of_ble_eq_true rfl) (Nat.le_of_ble_eq_true rfl) hl.1 w1 hC hS0 ?_
  rintro _ h2 H2 locs2 ⟨rfl, m2, f2⟩ w2
  change W p l e room_1 s m args below meth c H2 locs2 C0 S0 Q (F0 m 258 ls [.int (a_cousin X (xs (i + 1)) (xs (i + 2))), .int (a_cousin X (xs (i + 1)) (xs (i + 2)))])
  have v2 : VX X := hv
  exact lv_icmp_eq (tgt := 988) K.1 K.2.1 dL_law_258 (by decide) (fun _ => nx h2 X H2 locs2 ⟨w2, r1.fn v2 f2, m2, v2⟩) (fun q => absurd rfl q)
theorem lc_room (K : LK p s m args c b L xs) (hbA : ¬ gA G b) (hC : C0 ≤ room_1.cells) (hS0 : S0 ≤ room_1.slots) (hL : L ≤ 320) (hi : i + 5 ≤ L) (hl : lv_has ls 4 [(3, .int (nI i)), (2, .ref (ga G 67)), (1, .ref (ga G 0)), (0, .ref b)]) (hT : LST G h X s H locs) (nx : ∀ h2 X2 H2 locs2, LST G h2 X2 s H2 locs2 → W p l e room_1 s m args below meth c H2 locs2 C0 S0 Q (F0 m 988 ls [])) : W p l e room_1 s m args below meth c H locs C0 S0 Q (F0 m 263 ls []) := by
  obtain ⟨w0, r0, m0, hv⟩ := hT
  refine lv_aload_n K.1 K.2.1 dL_law_263 rfl (lv_at hl 2 rfl) ?_
  refine la_arg (k := 1) K hbA w0 hL hl (by omega) dL_law_264 dL_law_265 dL_law_266 dL_law_267 dL_law_268 ?_
  refine la_arg (k := 2) K hbA w0 hL hl (by omega) dL_law_269 dL_law_270 dL_law_271 dL_law_272 dL_law_273 ?_
  refine la_call (as := [xs (i + 1), xs (i + 2)]) (o := 0) (st := []) K dL_law_274 kL_36 (x_room (d := 2) r0 hv) rfl rfl rfl (Nat.le_of_ble_eq_true rfl) (Nat.le_of_ble_eq_true rfl) hl.1 w0 hC hS0 ?_
  rintro _ h1 H1 locs1 ⟨rfl, r1, f1⟩ w1
  change W p l e room_1 s m args below meth c H1 locs1 C0 S0 Q (F0 m 277 ls [.int (a_room X (xs (i + 1)) (xs (i + 2)))])
  have m1 : RM h1 X := m0.fx f1
  refine lv_aload_n K.1 K.2.1 dL_law_277 rfl (lv_at hl 1 rfl) ?_
  refine la_arg (k := 1) K hbA w1 hL hl (by omega) dL_law_278 dL_law_279 dL_law_280 dL_law_281 dL_law_282 ?_
  refine la_arg (k := 2) K hbA w1 hL hl (by omega) dL_law_283 dL_law_284 dL_law_285 dL_law_286 dL_law_287 ?_
  refine la_call (as := [xs (i + 1), xs (i + 2)]) (o := 67) (st := [.int (a_room X (xs (i + 1)) (xs (i + 2)))]) K dL_law_288 kL_39 (y_room (d := 2) m1 hv) rfl rfl rfl (Nat.le_of_ble_eq_true rfl) (Nat.le_of_ble_eq_true rfl) hl.1 w1 hC hS0 ?_
  rintro _ h2 H2 locs2 ⟨rfl, m2, f2⟩ w2
  change W p l e room_1 s m args below meth c H2 locs2 C0 S0 Q (F0 m 291 ls [.int (a_room X (xs (i + 1)) (xs (i + 2))), .int (a_room X (xs (i + 1)) (xs (i + 2)))])
  have v2 : VX X := hv
  exact lv_icmp_eq (tgt := 988) K.1 K.2.1 dL_law_291 (by decide) (fun _ => nx h2 X H2 locs2 ⟨w2, r1.fn v2 f2, m2, v2⟩) (fun q => absurd rfl q)
theorem lc_pass (K : LK p s m args c b L xs) (hbA : ¬ gA G b) (hC : C0 ≤ room_1.cells) (hS0 : S0 ≤ room_1.slots) (hL : L ≤ 320) (hi : i + 5 ≤ L) (hl : lv_has ls 4 [(3, .int (nI i)), (2, .ref (ga G 67)), (1, .ref (ga G 0)), (0, .ref b)]) (hT : LST G h X s H locs) (nx : ∀ h2 X2 H2 locs2, LST G h2 X2 s H2 locs2 → W p l e room_1 s m args below meth c H2 locs2 C0 S0 Q (F0 m 988 ls [])) : W p l e room_1 s m args below meth c H locs C0 S0 Q (F0 m 296 ls []) := by
  obtain ⟨w0, r0, m0, hv⟩ := hT
  refine lv_aload_n K.1 K.2.1 dL_law_296 rfl (lv_at hl 2 rfl) ?_
  refine la_arg (k := 1) K hbA w0 hL hl (by omega) dL_law_297 dL_law_298 dL_law_299 dL_law_300 dL_law_301 ?_
  refine la_call (as := [xs (i + 1)]) (o := 0) (st := []) K dL_law_302 kL_40 (x_pass (d := 2) r0 hv) rfl rfl rfl (Nat.le_of_ble_eq_true rfl) (Nat.le_of_ble_eq_true rfl) hl.1 w0 hC hS0 ?_
  rintro _ h1 H1 locs1 ⟨rfl, r1, f1⟩ w1
  change W p l e room_1 s m args below meth c H1 locs1 C0 S0 Q (F0 m 305 ls [.int (a_pass X (xs (i + 1))).1])
  have m1 : RM h1 X := m0.fx f1
  refine lv_aload_n K.1 K.2.1 dL_law_305 rfl (lv_at hl 1 rfl) ?_
  refine la_arg (k := 1) K hbA w1 hL hl (by omega) dL_law_306 dL_law_307 dL_law_308 dL_law_309 dL_law_310 ?_
  refine la_call (as := [xs (i + 1)]) (o := 67) (st := [.int (a_pass X (xs (i + 1))).1]) K dL_law_311 kL_43 (y_pass (d := 2) m1 hv) rfl rfl rfl (Nat.le_of_ble_eq_true rfl) (Nat.le_of_ble_eq_true rfl) hl.1 w1 hC hS0 ?_
  rintro _ h2 H2 locs2 ⟨rfl, m2, f2⟩ w2
  change W p l e room_1 s m args below meth c H2 locs2 C0 S0 Q (F0 m 314 ls [.int (a_pass X (xs (i + 1))).1, .int (a_pass X (xs (i + 1))).1])
  have v2 : VX (a_pass X (xs (i + 1))).2 := v_pass hv (xs (i + 1))
  exact lv_icmp_eq (tgt := 988) K.1 K.2.1 dL_law_314 (by decide) (fun _ => nx h2 (a_pass X (xs (i + 1))).2 H2 locs2 ⟨w2, r1.fn v2 f2, m2, v2⟩) (fun q => absurd rfl q)
theorem lc_swap (K : LK p s m args c b L xs) (hbA : ¬ gA G b) (hC : C0 ≤ room_1.cells) (hS0 : S0 ≤ room_1.slots) (hL : L ≤ 320) (hi : i + 5 ≤ L) (hl : lv_has ls 4 [(3, .int (nI i)), (2, .ref (ga G 67)), (1, .ref (ga G 0)), (0, .ref b)]) (hT : LST G h X s H locs) (nx : ∀ h2 X2 H2 locs2, LST G h2 X2 s H2 locs2 → W p l e room_1 s m args below meth c H2 locs2 C0 S0 Q (F0 m 988 ls [])) : W p l e room_1 s m args below meth c H locs C0 S0 Q (F0 m 319 ls []) := by
  obtain ⟨w0, r0, m0, hv⟩ := hT
  refine lv_aload_n K.1 K.2.1 dL_law_319 rfl (lv_at hl 2 rfl) ?_
  refine la_arg (k := 1) K hbA w0 hL hl (by omega) dL_law_320 dL_law_321 dL_law_322 dL_law_323 dL_law_324 ?_
  refine la_arg (k := 2) K hbA w0 hL hl (by omega) dL_law_325 dL_law_326 dL_law_327 dL_law_328 dL_law_329 ?_
  refine la_call (as := [xs (i + 1), xs (i + 2)]) (o := 0) (st := []) K dL_law_330 kL_44 (x_swap (d := 2) r0 hv) rfl rfl rfl (Nat.le_of_ble_eq_true rfl) (Nat.le_of_ble_eq_true rfl) hl.1 w0 hC hS0 ?_
  rintro _ h1 H1 locs1 ⟨rfl, r1, f1⟩ w1
  change W p l e room_1 s m args below meth c H1 locs1 C0 S0 Q (F0 m 333 ls [.int (a_swap X (xs (i + 1)) (xs (i + 2))).1])
  have m1 : RM h1 X := m0.fx f1
  refine lv_aload_n K.1 K.2.1 dL_law_333 rfl (lv_at hl 1 rfl) ?_
  refine la_arg (k := 1) K hbA w1 hL hl (by omega) dL_law_334 dL_law_335 dL_law_336 dL_law_337 dL_law_338 ?_
  refine la_arg (k := 2) K hbA w1 hL hl (by omega) dL_law_339 dL_law_340 dL_law_341 dL_law_342 dL_law_343 ?_
  refine la_call (as := [xs (i + 1), xs (i + 2)]) (o := 67) (st := [.int (a_swap X (xs (i + 1)) (xs (i + 2))).1]) K dL_law_344 kL_47 (y_swap (d := 2) m1 hv) rfl rfl rfl (Nat.le_of_ble_eq_true rfl) (Nat.le_of_ble_eq_true rfl) hl.1 w1 hC hS0 ?_
  rintro _ h2 H2 locs2 ⟨rfl, m2, f2⟩ w2
  change W p l e room_1 s m args below meth c H2 locs2 C0 S0 Q (F0 m 347 ls [.int (a_swap X (xs (i + 1)) (xs (i + 2))).1, .int (a_swap X (xs (i + 1)) (xs (i + 2))).1])
  have v2 : VX (a_swap X (xs (i + 1)) (xs (i + 2))).2 := v_swap hv (xs (i + 1)) (xs (i + 2))
  exact lv_icmp_eq (tgt := 988) K.1 K.2.1 dL_law_347 (by decide) (fun _ => nx h2 (a_swap X (xs (i + 1)) (xs (i + 2))).2 H2 locs2 ⟨w2, r1.fn v2 f2, m2, v2⟩) (fun q => absurd rfl q)
theorem lc_alter (K : LK p s m args c b L xs) (hbA : ¬ gA G b) (hC : C0 ≤ room_1.cells) (hS0 : S0 ≤ room_1.slots) (hL : L ≤ 320) (hi : i + 5 ≤ L) (hl : lv_has ls 4 [(3, .int (nI i)), (2, .ref (ga G 67)), (1, .ref (ga G 0)), (0, .ref b)]) (hT : LST G h X s H locs) (nx : ∀ h2 X2 H2 locs2, LST G h2 X2 s H2 locs2 → W p l e room_1 s m args below meth c H2 locs2 C0 S0 Q (F0 m 988 ls [])) : W p l e room_1 s m args below meth c H locs C0 S0 Q (F0 m 352 ls []) := by
  obtain ⟨w0, r0, m0, hv⟩ := hT
  refine lv_aload_n K.1 K.2.1 dL_law_352 rfl (lv_at hl 2 rfl) ?_
  refine la_arg (k := 1) K hbA w0 hL hl (by omega) dL_law_353 dL_law_354 dL_law_355 dL_law_356 dL_law_357 ?_
  refine la_arg (k := 2) K hbA w0 hL hl (by omega) dL_law_358 dL_law_359 dL_law_360 dL_law_361 dL_law_362 ?_
  refine la_call (as := [xs (i + 1), xs (i + 2)]) (o := 0) (st := []) K dL_law_363 kL_48 (x_alter (d := 2) r0 hv) rfl rfl rfl (Nat.le_of_ble_eq_true rfl) (Nat.le_of_ble_eq_true rfl) hl.1 w0 hC hS0 ?_
  rintro _ h1 H1 locs1 ⟨rfl, r1, f1⟩ w1
  change W p l e room_1 s m args below meth c H1 locs1 C0 S0 Q (F0 m 366 ls [.int (a_alter X (xs (i + 1)) (xs (i + 2))).1])
  have m1 : RM h1 X := m0.fx f1
  refine lv_aload_n K.1 K.2.1 dL_law_366 rfl (lv_at hl 1 rfl) ?_
  refine la_arg (k := 1) K hbA w1 hL hl (by omega) dL_law_367 dL_law_368 dL_law_369 dL_law_370 dL_law_371 ?_
  refine la_arg (k := 2) K hbA w1 hL hl (by omega) dL_law_372 dL_law_373 dL_law_374 dL_law_375 dL_law_376 ?_
  refine la_call (as := [xs (i + 1), xs (i + 2)]) (o := 67) (st := [.int (a_alter X (xs (i + 1)) (xs (i + 2))).1]) K dL_law_377 kL_51 (y_alter (d := 2) m1 hv) rfl rfl rfl (Nat.le_of_ble_eq_true rfl) (Nat.le_of_ble_eq_true rfl) hl.1 w1 hC hS0 ?_
  rintro _ h2 H2 locs2 ⟨rfl, m2, f2⟩ w2
  change W p l e room_1 s m args below meth c H2 locs2 C0 S0 Q (F0 m 380 ls [.int (a_alter X (xs (i + 1)) (xs (i + 2))).1, .int (a_alter X (xs (i + 1)) (xs (i + 2))).1])
  have v2 : VX (a_alter X (xs (i + 1)) (xs (i + 2))).2 := v_alter hv (xs (i + 1)) (xs (i + 2))
  exact lv_icmp_eq (tgt := 988) K.1 K.2.1 dL_law_380 (by decide) (fun _ => nx h2 (a_alter X (xs (i + 1)) (xs (i + 2))).2 H2 locs2 ⟨w2, r1.fn v2 f2, m2, v2⟩) (fun q => absurd rfl q)
theorem lc_undo (K : LK p s m args c b L xs) (hbA : ¬ gA G b) (hC : C0 ≤ room_1.cells) (hS0 : S0 ≤ room_1.slots) (hL : L ≤ 320) (hi : i + 5 ≤ L) (hl : lv_has ls 4 [(3, .int (nI i)), (2, .ref (ga G 67)), (1, .ref (ga G 0)), (0, .ref b)]) (hT : LST G h X s H locs) (nx : ∀ h2 X2 H2 locs2, LST G h2 X2 s H2 locs2 → W p l e room_1 s m args below meth c H2 locs2 C0 S0 Q (F0 m 988 ls [])) : W p l e room_1 s m args below meth c H locs C0 S0 Q (F0 m 385 ls []) := by
  obtain ⟨w0, r0, m0, hv⟩ := hT
  refine lv_aload_n K.1 K.2.1 dL_law_385 rfl (lv_at hl 2 rfl) ?_
  refine la_call (as := []) (o := 0) (st := []) K dL_law_386 kL_52 (x_undo (d := 2) r0 hv) rfl rfl rfl (Nat.le_of_ble_eq_true rfl) (Nat.le_of_ble_eq_true rfl) hl.1 w0 hC hS0 ?_
  rintro _ h1 H1 locs1 ⟨rfl, r1, f1⟩ w1
  change W p l e room_1 s m args below meth c H1 locs1 C0 S0 Q (F0 m 389 ls [.int (a_undo X).1])
  have m1 : RM h1 X := m0.fx f1
  refine lv_aload_n K.1 K.2.1 dL_law_389 rfl (lv_at hl 1 rfl) ?_
  refine la_call (as := []) (o := 67) (st := [.int (a_undo X).1]) K dL_law_390 kL_55 (y_undo (d := 2) m1 hv) rfl rfl rfl (Nat.le_of_ble_eq_true rfl) (Nat.le_of_ble_eq_true rfl) hl.1 w1 hC hS0 ?_
  rintro _ h2 H2 locs2 ⟨rfl, m2, f2⟩ w2
  change W p l e room_1 s m args below meth c H2 locs2 C0 S0 Q (F0 m 393 ls [.int (a_undo X).1, .int (a_undo X).1])
  have v2 : VX (a_undo X).2 := v_undo hv
  exact lv_icmp_eq (tgt := 988) K.1 K.2.1 dL_law_393 (by decide) (fun _ => nx h2 (a_undo X).2 H2 locs2 ⟨w2, r1.fn v2 f2, m2, v2⟩) (fun q => absurd rfl q)
theorem lc_has (K : LK p s m args c b L xs) (hbA : ¬ gA G b) (hC : C0 ≤ room_1.cells) (hS0 : S0 ≤ room_1.slots) (hL : L ≤ 320) (hi : i + 5 ≤ L) (hl : lv_has ls 4 [(3, .int (nI i)), (2, .ref (ga G 67)), (1, .ref (ga G 0)), (0, .ref b)]) (hT : LST G h X s H locs) (nx : ∀ h2 X2 H2 locs2, LST G h2 X2 s H2 locs2 → W p l e room_1 s m args below meth c H2 locs2 C0 S0 Q (F0 m 988 ls [])) : W p l e room_1 s m args below meth c H locs C0 S0 Q (F0 m 398 ls []) := by
  obtain ⟨w0, r0, m0, hv⟩ := hT
  refine lv_aload_n K.1 K.2.1 dL_law_398 rfl (lv_at hl 2 rfl) ?_
  refine la_arg (k := 1) K hbA w0 hL hl (by omega) dL_law_399 dL_law_400 dL_law_401 dL_law_402 dL_law_403 ?_
  refine la_arg (k := 2) K hbA w0 hL hl (by omega) dL_law_404 dL_law_405 dL_law_406 dL_law_407 dL_law_408 ?_
  refine la_call (as := [xs (i + 1), xs (i + 2)]) (o := 0) (st := []) K dL_law_409 kL_56 (x_has (d := 2) r0 hv) rfl rfl rfl (Nat.le_of_ble_eq_true rfl) (Nat.le_of_ble_eq_true rfl) hl.1 w0 hC hS0 ?_
  rintro _ h1 H1 locs1 ⟨rfl, r1, f1⟩ w1
  change W p l e room_1 s m args below meth c H1 locs1 C0 S0 Q (F0 m 412 ls [.int (a_has X (xs (i + 1)) (xs (i + 2)))])
  have m1 : RM h1 X := m0.fx f1
  refine lv_aload_n K.1 K.2.1 dL_law_412 rfl (lv_at hl 1 rfl) ?_
  refine la_arg (k := 1) K hbA w1 hL hl (by omega) dL_law_413 dL_law_414 dL_law_415 dL_law_416 dL_law_417 ?_
  refine la_arg (k := 2) K hbA w1 hL hl (by omega) dL_law_418 dL_law_419 dL_law_420 dL_law_421 dL_law_422 ?_
  refine la_call (as := [xs (i + 1), xs (i + 2)]) (o := 67) (st := [.int (a_has X (xs (i + 1)) (xs (i + 2)))]) K dL_law_423 kL_59 (y_has (d := 2) m1 hv) rfl rfl rfl (Nat.le_of_ble_eq_true rfl) (Nat.le_of_ble_eq_true rfl) hl.1 w1 hC hS0 ?_
  rintro _ h2 H2 locs2 ⟨rfl, m2, f2⟩ w2
  change W p l e room_1 s m args below meth c H2 locs2 C0 S0 Q (F0 m 426 ls [.int (a_has X (xs (i + 1)) (xs (i + 2))), .int (a_has X (xs (i + 1)) (xs (i + 2)))])
  have v2 : VX X := hv
  exact lv_icmp_eq (tgt := 988) K.1 K.2.1 dL_law_426 (by decide) (fun _ => nx h2 X H2 locs2 ⟨w2, r1.fn v2 f2, m2, v2⟩) (fun q => absurd rfl q)
theorem lc_whose (K : LK p s m args c b L xs) (hbA : ¬ gA G b) (hC : C0 ≤ room_1.cells) (hS0 : S0 ≤ room_1.slots) (hL : L ≤ 320) (hi : i + 5 ≤ L) (hl : lv_has ls 4 [(3, .int (nI i)), (2, .ref (ga G 67)), (1, .ref (ga G 0)), (0, .ref b)]) (hT : LST G h X s H locs) (nx : ∀ h2 X2 H2 locs2, LST G h2 X2 s H2 locs2 → W p l e room_1 s m args below meth c H2 locs2 C0 S0 Q (F0 m 988 ls [])) : W p l e room_1 s m args below meth c H locs C0 S0 Q (F0 m 431 ls []) := by
  obtain ⟨w0, r0, m0, hv⟩ := hT
  refine lv_aload_n K.1 K.2.1 dL_law_431 rfl (lv_at hl 2 rfl) ?_
  refine la_arg (k := 1) K hbA w0 hL hl (by omega) dL_law_432 dL_law_433 dL_law_434 dL_law_435 dL_law_436 ?_
  refine la_arg (k := 2) K hbA w0 hL hl (by omega) dL_law_437 dL_law_438 dL_law_439 dL_law_440 dL_law_441 ?_
  refine la_call (as := [xs (i + 1), xs (i + 2)]) (o := 0) (st := []) K dL_law_442 kL_60 (x_whose (d := 2) r0 hv) rfl rfl rfl (Nat.le_of_ble_eq_true rfl) (Nat.le_of_ble_eq_true rfl) hl.1 w0 hC hS0 ?_
  rintro _ h1 H1 locs1 ⟨rfl, r1, f1⟩ w1
  change W p l e room_1 s m args below meth c H1 locs1 C0 S0 Q (F0 m 445 ls [.int (a_whose X (xs (i + 1)) (xs (i + 2)))])
  have m1 : RM h1 X := m0.fx f1
  refine lv_aload_n K.1 K.2.1 dL_law_445 rfl (lv_at hl 1 rfl) ?_
  refine la_arg (k := 1) K hbA w1 hL hl (by omega) dL_law_446 dL_law_447 dL_law_448 dL_law_449 dL_law_450 ?_
  refine la_arg (k := 2) K hbA w1 hL hl (by omega) dL_law_451 dL_law_452 dL_law_453 dL_law_454 dL_law_455 ?_
  refine la_call (as := [xs (i + 1), xs (i + 2)]) (o := 67) (st := [.int (a_whose X (xs (i + 1)) (xs (i + 2)))]) K dL_law_456 kL_63 (y_whose (d := 2) m1 hv) rfl rfl rfl (Nat.le_of_ble_eq_true rfl) (Nat.le_of_ble_eq_true rfl) hl.1 w1 hC hS0 ?_
  rintro _ h2 H2 locs2 ⟨rfl, m2, f2⟩ w2
  change W p l e room_1 s m args below meth c H2 locs2 C0 S0 Q (F0 m 459 ls [.int (a_whose X (xs (i + 1)) (xs (i + 2))), .int (a_whose X (xs (i + 1)) (xs (i + 2)))])
  have v2 : VX X := hv
  exact lv_icmp_eq (tgt := 988) K.1 K.2.1 dL_law_459 (by decide) (fun _ => nx h2 X H2 locs2 ⟨w2, r1.fn v2 f2, m2, v2⟩) (fun q => absurd rfl q)
theorem lc_sun (K : LK p s m args c b L xs) (hbA : ¬ gA G b) (hC : C0 ≤ room_1.cells) (hS0 : S0 ≤ room_1.slots) (hL : L ≤ 320) (hi : i + 5 ≤ L) (hl : lv_has ls 4 [(3, .int (nI i)), (2, .ref (ga G 67)), (1, .ref (ga G 0)), (0, .ref b)]) (hT : LST G h X s H locs) (nx : ∀ h2 X2 H2 locs2, LST G h2 X2 s H2 locs2 → W p l e room_1 s m args below meth c H2 locs2 C0 S0 Q (F0 m 988 ls [])) : W p l e room_1 s m args below meth c H locs C0 S0 Q (F0 m 464 ls []) := by
  obtain ⟨w0, r0, m0, hv⟩ := hT
  refine lv_aload_n K.1 K.2.1 dL_law_464 rfl (lv_at hl 2 rfl) ?_
  refine la_arg (k := 1) K hbA w0 hL hl (by omega) dL_law_465 dL_law_466 dL_law_467 dL_law_468 dL_law_469 ?_
  refine la_arg (k := 2) K hbA w0 hL hl (by omega) dL_law_470 dL_law_471 dL_law_472 dL_law_473 dL_law_474 ?_
  refine la_call (as := [xs (i + 1), xs (i + 2)]) (o := 0) (st := []) K dL_law_475 kL_64 (x_sun (d := 2) r0 hv) rfl rfl rfl (Nat.le_of_ble_eq_true rfl) (Nat.le_of_ble_eq_true rfl) hl.1 w0 hC hS0 ?_
  rintro _ h1 H1 locs1 ⟨rfl, r1, f1⟩ w1
  change W p l e room_1 s m args below meth c H1 locs1 C0 S0 Q (F0 m 478 ls [.int (a_sun X (xs (i + 1)) (xs (i + 2)))])
  have m1 : RM h1 X := m0.fx f1
  refine lv_aload_n K.1 K.2.1 dL_law_478 rfl (lv_at hl 1 rfl) ?_
  refine la_arg (k := 1) K hbA w1 hL hl (by omega) dL_law_479 dL_law_480 dL_law_481 dL_law_482 dL_law_483 ?_
  refine la_arg (k := 2) K hbA w1 hL hl (by omega) dL_law_484 dL_law_485 dL_law_486 dL_law_487 dL_law_488 ?_
  refine la_call (as := [xs (i + 1), xs (i + 2)]) (o := 67) (st := [.int (a_sun X (xs (i + 1)) (xs (i + 2)))]) K dL_law_489 kL_67 (y_sun (d := 2) m1 hv) rfl rfl rfl (Nat.le_of_ble_eq_true rfl) (Nat.le_of_ble_eq_true rfl) hl.1 w1 hC hS0 ?_
  rintro _ h2 H2 locs2 ⟨rfl, m2, f2⟩ w2
  change W p l e room_1 s m args below meth c H2 locs2 C0 S0 Q (F0 m 492 ls [.int (a_sun X (xs (i + 1)) (xs (i + 2))), .int (a_sun X (xs (i + 1)) (xs (i + 2)))])
  have v2 : VX X := hv
  exact lv_icmp_eq (tgt := 988) K.1 K.2.1 dL_law_492 (by decide) (fun _ => nx h2 X H2 locs2 ⟨w2, r1.fn v2 f2, m2, v2⟩) (fun q => absurd rfl q)
theorem lc_cold (K : LK p s m args c b L xs) (hbA : ¬ gA G b) (hC : C0 ≤ room_1.cells) (hS0 : S0 ≤ room_1.slots) (hL : L ≤ 320) (hi : i + 5 ≤ L) (hl : lv_has ls 4 [(3, .int (nI i)), (2, .ref (ga G 67)), (1, .ref (ga G 0)), (0, .ref b)]) (hT : LST G h X s H locs) (nx : ∀ h2 X2 H2 locs2, LST G h2 X2 s H2 locs2 → W p l e room_1 s m args below meth c H2 locs2 C0 S0 Q (F0 m 988 ls [])) : W p l e room_1 s m args below meth c H locs C0 S0 Q (F0 m 497 ls []) := by
  obtain ⟨w0, r0, m0, hv⟩ := hT
  refine lv_aload_n K.1 K.2.1 dL_law_497 rfl (lv_at hl 2 rfl) ?_
  refine la_arg (k := 1) K hbA w0 hL hl (by omega) dL_law_498 dL_law_499 dL_law_500 dL_law_501 dL_law_502 ?_
  refine la_call (as := [xs (i + 1)]) (o := 0) (st := []) K dL_law_503 kL_68 (x_cold (d := 2) r0 hv) rfl rfl rfl (Nat.le_of_ble_eq_true rfl) (Nat.le_of_ble_eq_true rfl) hl.1 w0 hC hS0 ?_
  rintro _ h1 H1 locs1 ⟨rfl, r1, f1⟩ w1
  change W p l e room_1 s m args below meth c H1 locs1 C0 S0 Q (F0 m 506 ls [.int (a_cold X (xs (i + 1)))])
  have m1 : RM h1 X := m0.fx f1
  refine lv_aload_n K.1 K.2.1 dL_law_506 rfl (lv_at hl 1 rfl) ?_
  refine la_arg (k := 1) K hbA w1 hL hl (by omega) dL_law_507 dL_law_508 dL_law_509 dL_law_510 dL_law_511 ?_
  refine la_call (as := [xs (i + 1)]) (o := 67) (st := [.int (a_cold X (xs (i + 1)))]) K dL_law_512 kL_71 (y_cold (d := 2) m1 hv) rfl rfl rfl (Nat.le_of_ble_eq_true rfl) (Nat.le_of_ble_eq_true rfl) hl.1 w1 hC hS0 ?_
  rintro _ h2 H2 locs2 ⟨rfl, m2, f2⟩ w2
  change W p l e room_1 s m args below meth c H2 locs2 C0 S0 Q (F0 m 515 ls [.int (a_cold X (xs (i + 1))), .int (a_cold X (xs (i + 1)))])
  have v2 : VX X := hv
  exact lv_icmp_eq (tgt := 988) K.1 K.2.1 dL_law_515 (by decide) (fun _ => nx h2 X H2 locs2 ⟨w2, r1.fn v2 f2, m2, v2⟩) (fun q => absurd rfl q)
theorem lc_want (K : LK p s m args c b L xs) (hbA : ¬ gA G b) (hC : C0 ≤ room_1.cells) (hS0 : S0 ≤ room_1.slots) (hL : L ≤ 320) (hi : i + 5 ≤ L) (hl : lv_has ls 4 [(3, .int (nI i)), (2, .ref (ga G 67)), (1, .ref (ga G 0)), (0, .ref b)]) (hT : LST G h X s H locs) (nx : ∀ h2 X2 H2 locs2, LST G h2 X2 s H2 locs2 → W p l e room_1 s m args below meth c H2 locs2 C0 S0 Q (F0 m 988 ls [])) : W p l e room_1 s m args below meth c H locs C0 S0 Q (F0 m 520 ls []) := by
  obtain ⟨w0, r0, m0, hv⟩ := hT
  refine lv_aload_n K.1 K.2.1 dL_law_520 rfl (lv_at hl 2 rfl) ?_
  refine la_arg (k := 1) K hbA w0 hL hl (by omega) dL_law_521 dL_law_522 dL_law_523 dL_law_524 dL_law_525 ?_
  refine la_call (as := [xs (i + 1)]) (o := 0) (st := []) K dL_law_526 kL_72 (x_want (d := 2) r0 hv) rfl rfl rfl (Nat.le_of_ble_eq_true rfl) (Nat.le_of_ble_eq_true rfl) hl.1 w0 hC hS0 ?_
  rintro _ h1 H1 locs1 ⟨rfl, r1, f1⟩ w1
  change W p l e room_1 s m args below meth c H1 locs1 C0 S0 Q (F0 m 529 ls [.int (a_want X (xs (i + 1)))])
  have m1 : RM h1 X := m0.fx f1
  refine lv_aload_n K.1 K.2.1 dL_law_529 rfl (lv_at hl 1 rfl) ?_
  refine la_arg (k := 1) K hbA w1 hL hl (by omega) dL_law_530 dL_law_531 dL_law_532 dL_law_533 dL_law_534 ?_
  refine la_call (as := [xs (i + 1)]) (o := 67) (st := [.int (a_want X (xs (i + 1)))]) K dL_law_535 kL_75 (y_want (d := 2) m1 hv) rfl rfl rfl (Nat.le_of_ble_eq_true rfl) (Nat.le_of_ble_eq_true rfl) hl.1 w1 hC hS0 ?_
  rintro _ h2 H2 locs2 ⟨rfl, m2, f2⟩ w2
  change W p l e room_1 s m args below meth c H2 locs2 C0 S0 Q (F0 m 538 ls [.int (a_want X (xs (i + 1))), .int (a_want X (xs (i + 1)))])
  have v2 : VX X := hv
  exact lv_icmp_eq (tgt := 988) K.1 K.2.1 dL_law_538 (by decide) (fun _ => nx h2 X H2 locs2 ⟨w2, r1.fn v2 f2, m2, v2⟩) (fun q => absurd rfl q)
theorem lc_swaps (K : LK p s m args c b L xs) (hbA : ¬ gA G b) (hC : C0 ≤ room_1.cells) (hS0 : S0 ≤ room_1.slots) (hL : L ≤ 320) (hi : i + 5 ≤ L) (hl : lv_has ls 4 [(3, .int (nI i)), (2, .ref (ga G 67)), (1, .ref (ga G 0)), (0, .ref b)]) (hT : LST G h X s H locs) (nx : ∀ h2 X2 H2 locs2, LST G h2 X2 s H2 locs2 → W p l e room_1 s m args below meth c H2 locs2 C0 S0 Q (F0 m 988 ls [])) : W p l e room_1 s m args below meth c H locs C0 S0 Q (F0 m 543 ls []) := by
  obtain ⟨w0, r0, m0, hv⟩ := hT
  refine lv_aload_n K.1 K.2.1 dL_law_543 rfl (lv_at hl 2 rfl) ?_
  refine la_arg (k := 1) K hbA w0 hL hl (by omega) dL_law_544 dL_law_545 dL_law_546 dL_law_547 dL_law_548 ?_
  refine la_arg (k := 2) K hbA w0 hL hl (by omega) dL_law_549 dL_law_550 dL_law_551 dL_law_552 dL_law_553 ?_
  refine la_arg (k := 3) K hbA w0 hL hl (by omega) dL_law_554 dL_law_555 dL_law_556 dL_law_557 dL_law_558 ?_
  refine la_call (as := [xs (i + 1), xs (i + 2), xs (i + 3)]) (o := 0) (st := []) K dL_law_559 kL_76 (x_swaps (d := 2) r0 hv) rfl rfl rfl (Nat.le_of_ble_eq_true rfl) (Nat.le_of_ble_eq_true rfl) hl.1 w0 hC hS0 ?_
  rintro _ h1 H1 locs1 ⟨rfl, r1, f1⟩ w1
  change W p l e room_1 s m args below meth c H1 locs1 C0 S0 Q (F0 m 562 ls [.int (a_swaps X (xs (i + 1)) (xs (i + 2)) (xs (i + 3)))])
  have m1 : RM h1 X := m0.fx f1
  refine lv_aload_n K.1 K.2.1 dL_law_562 rfl (lv_at hl 1 rfl) ?_
  refine la_arg (k := 1) K hbA w1 hL hl (by omega) dL_law_563 dL_law_564 dL_law_565 dL_law_566 dL_law_567 ?_
  refine la_arg (k := 2) K hbA w1 hL hl (by omega) dL_law_568 dL_law_569 dL_law_570 dL_law_571 dL_law_572 ?_
  refine la_arg (k := 3) K hbA w1 hL hl (by omega) dL_law_573 dL_law_574 dL_law_575 dL_law_576 dL_law_577 ?_
  refine la_call (as := [xs (i + 1), xs (i + 2), xs (i + 3)]) (o := 67) (st := [.int (a_swaps X (xs (i + 1)) (xs (i + 2)) (xs (i + 3)))]) K dL_law_578 kL_80 (y_swaps (d := 2) m1 hv) rfl rfl rfl (Nat.le_of_ble_eq_true rfl) (Nat.le_of_ble_eq_true rfl) hl.1 w1 hC hS0 ?_
  rintro _ h2 H2 locs2 ⟨rfl, m2, f2⟩ w2
  change W p l e room_1 s m args below meth c H2 locs2 C0 S0 Q (F0 m 581 ls [.int (a_swaps X (xs (i + 1)) (xs (i + 2)) (xs (i + 3))), .int (a_swaps X (xs (i + 1)) (xs (i + 2)) (xs (i + 3)))])
  have v2 : VX X := hv
  exact lv_icmp_eq (tgt := 988) K.1 K.2.1 dL_law_581 (by decide) (fun _ => nx h2 X H2 locs2 ⟨w2, r1.fn v2 f2, m2, v2⟩) (fun q => absurd rfl q)
theorem lc_warm (K : LK p s m args c b L xs) (hbA : ¬ gA G b) (hC : C0 ≤ room_1.cells) (hS0 : S0 ≤ room_1.slots) (hL : L ≤ 320) (hi : i + 5 ≤ L) (hl : lv_has ls 4 [(3, .int (nI i)), (2, .ref (ga G 67)), (1, .ref (ga G 0)), (0, .ref b)]) (hT : LST G h X s H locs) (nx : ∀ h2 X2 H2 locs2, LST G h2 X2 s H2 locs2 → W p l e room_1 s m args below meth c H2 locs2 C0 S0 Q (F0 m 988 ls [])) : W p l e room_1 s m args below meth c H locs C0 S0 Q (F0 m 586 ls []) := by
  obtain ⟨w0, r0, m0, hv⟩ := hT
  refine lv_aload_n K.1 K.2.1 dL_law_586 rfl (lv_at hl 2 rfl) ?_
  refine la_arg (k := 1) K hbA w0 hL hl (by omega) dL_law_587 dL_law_588 dL_law_589 dL_law_590 dL_law_591 ?_
  refine la_arg (k := 2) K hbA w0 hL hl (by omega) dL_law_592 dL_law_593 dL_law_594 dL_law_595 dL_law_596 ?_
  refine la_call (as := [xs (i + 1), xs (i + 2)]) (o := 0) (st := []) K dL_law_597 kL_81 (x_warm (d := 2) r0 hv) rfl rfl rfl (Nat.le_of_ble_eq_true rfl) (Nat.le_of_ble_eq_true rfl) hl.1 w0 hC hS0 ?_
  rintro _ h1 H1 locs1 ⟨rfl, r1, f1⟩ w1
  change W p l e room_1 s m args below meth c H1 locs1 C0 S0 Q (F0 m 600 ls [.int (a_warm X (xs (i + 1)) (xs (i + 2)))])
  have m1 : RM h1 X := m0.fx f1
  refine lv_aload_n K.1 K.2.1 dL_law_600 rfl (lv_at hl 1 rfl) ?_
  refine la_arg (k := 1) K hbA w1 hL hl (by omega) dL_law_601 dL_law_602 dL_law_603 dL_law_604 dL_law_605 ?_
  refine la_arg (k := 2) K hbA w1 hL hl (by omega) dL_law_606 dL_law_607 dL_law_608 dL_law_609 dL_law_610 ?_
  refine la_call (as := [xs (i + 1), xs (i + 2)]) (o := 67) (st := [.int (a_warm X (xs (i + 1)) (xs (i + 2)))]) K dL_law_611 kL_84 (y_warm (d := 2) m1 hv) rfl rfl rfl (Nat.le_of_ble_eq_true rfl) (Nat.le_of_ble_eq_true rfl) hl.1 w1 hC hS0 ?_
  rintro _ h2 H2 locs2 ⟨rfl, m2, f2⟩ w2
  change W p l e room_1 s m args below meth c H2 locs2 C0 S0 Q (F0 m 614 ls [.int (a_warm X (xs (i + 1)) (xs (i + 2))), .int (a_warm X (xs (i + 1)) (xs (i + 2)))])
  have v2 : VX X := hv
  exact lv_icmp_eq (tgt := 988) K.1 K.2.1 dL_law_614 (by decide) (fun _ => nx h2 X H2 locs2 ⟨w2, r1.fn v2 f2, m2, v2⟩) (fun q => absurd rfl q)
theorem lc_canHave (K : LK p s m args c b L xs) (hbA : ¬ gA G b) (hC : C0 ≤ room_1.cells) (hS0 : S0 ≤ room_1.slots) (hL : L ≤ 320) (hi : i + 5 ≤ L) (hl : lv_has ls 4 [(3, .int (nI i)), (2, .ref (ga G 67)), (1, .ref (ga G 0)), (0, .ref b)]) (hT : LST G h X s H locs) (nx : ∀ h2 X2 H2 locs2, LST G h2 X2 s H2 locs2 → W p l e room_1 s m args below meth c H2 locs2 C0 S0 Q (F0 m 988 ls [])) : W p l e room_1 s m args below meth c H locs C0 S0 Q (F0 m 619 ls []) := by
  obtain ⟨w0, r0, m0, hv⟩ := hT
  refine lv_aload_n K.1 K.2.1 dL_law_619 rfl (lv_at hl 2 rfl) ?_
  refine la_arg (k := 1) K hbA w0 hL hl (by omega) dL_law_620 dL_law_621 dL_law_622 dL_law_623 dL_law_624 ?_
  refine la_arg (k := 2) K hbA w0 hL hl (by omega) dL_law_625 dL_law_626 dL_law_627 dL_law_628 dL_law_629 ?_
  refine la_call (as := [xs (i + 1), xs (i + 2)]) (o := 0) (st := []) K dL_law_630 kL_85 (x_canHave (d := 2) r0 hv) rfl rfl rfl (Nat.le_of_ble_eq_true rfl) (Nat.le_of_ble_eq_true rfl) hl.1 w0 hC hS0 ?_
  rintro _ h1 H1 locs1 ⟨rfl, r1, f1⟩ w1
  change W p l e room_1 s m args below meth c H1 locs1 C0 S0 Q (F0 m 633 ls [.int (a_canHave X (xs (i + 1)) (xs (i + 2)))])
  have m1 : RM h1 X := m0.fx f1
  refine lv_aload_n K.1 K.2.1 dL_law_633 rfl (lv_at hl 1 rfl) ?_
  refine la_arg (k := 1) K hbA w1 hL hl (by omega) dL_law_634 dL_law_635 dL_law_636 dL_law_637 dL_law_638 ?_
  refine la_arg (k := 2) K hbA w1 hL hl (by omega) dL_law_639 dL_law_640 dL_law_641 dL_law_642 dL_law_643 ?_
  refine la_call (as := [xs (i + 1), xs (i + 2)]) (o := 67) (st := [.int (a_canHave X (xs (i + 1)) (xs (i + 2)))]) K dL_law_644 kL_88 (y_canHave (d := 2) m1 hv) rfl rfl rfl (Nat.le_of_ble_eq_true rfl) (Nat.le_of_ble_eq_true rfl) hl.1 w1 hC hS0 ?_
  rintro _ h2 H2 locs2 ⟨rfl, m2, f2⟩ w2
  change W p l e room_1 s m args below meth c H2 locs2 C0 S0 Q (F0 m 647 ls [.int (a_canHave X (xs (i + 1)) (xs (i + 2))), .int (a_canHave X (xs (i + 1)) (xs (i + 2)))])
  have v2 : VX X := hv
  exact lv_icmp_eq (tgt := 988) K.1 K.2.1 dL_law_647 (by decide) (fun _ => nx h2 X H2 locs2 ⟨w2, r1.fn v2 f2, m2, v2⟩) (fun q => absurd rfl q)
theorem lc_round (K : LK p s m args c b L xs) (hbA : ¬ gA G b) (hC : C0 ≤ room_1.cells) (hS0 : S0 ≤ room_1.slots) (hL : L ≤ 320) (hi : i + 5 ≤ L) (hl : lv_has ls 4 [(3, .int (nI i)), (2, .ref (ga G 67)), (1, .ref (ga G 0)), (0, .ref b)]) (hT : LST G h X s H locs) (nx : ∀ h2 X2 H2 locs2, LST G h2 X2 s H2 locs2 → W p l e room_1 s m args below meth c H2 locs2 C0 S0 Q (F0 m 988 ls [])) : W p l e room_1 s m args below meth c H locs C0 S0 Q (F0 m 652 ls []) := by
  obtain ⟨w0, r0, m0, hv⟩ := hT
  refine lv_aload_n K.1 K.2.1 dL_law_652 rfl (lv_at hl 2 rfl) ?_
  refine la_call (as := []) (o := 0) (st := []) K dL_law_653 kL_89 (x_round (d := 2) r0 hv) rfl rfl rfl (Nat.le_of_ble_eq_true rfl) (Nat.le_of_ble_eq_true rfl) hl.1 w0 hC hS0 ?_
  rintro _ h1 H1 locs1 ⟨rfl, r1, f1⟩ w1
  change W p l e room_1 s m args below meth c H1 locs1 C0 S0 Q (F0 m 656 ls [.int (a_round X)])
  have m1 : RM h1 X := m0.fx f1
  refine lv_aload_n K.1 K.2.1 dL_law_656 rfl (lv_at hl 1 rfl) ?_
  refine la_call (as := []) (o := 67) (st := [.int (a_round X)]) K dL_law_657 kL_92 (y_round (d := 2) m1 hv) rfl rfl rfl (Nat.le_of_ble_eq_true rfl) (Nat.le_of_ble_eq_true rfl) hl.1 w1 hC hS0 ?_
  rintro _ h2 H2 locs2 ⟨rfl, m2, f2⟩ w2
  change W p l e room_1 s m args below meth c H2 locs2 C0 S0 Q (F0 m 660 ls [.int (a_round X), .int (a_round X)])
  have v2 : VX X := hv
  exact lv_icmp_eq (tgt := 988) K.1 K.2.1 dL_law_660 (by decide) (fun _ => nx h2 X H2 locs2 ⟨w2, r1.fn v2 f2, m2, v2⟩) (fun q => absurd rfl q)
theorem lc_way (K : LK p s m args c b L xs) (hbA : ¬ gA G b) (hC : C0 ≤ room_1.cells) (hS0 : S0 ≤ room_1.slots) (hL : L ≤ 320) (hi : i + 5 ≤ L) (hl : lv_has ls 4 [(3, .int (nI i)), (2, .ref (ga G 67)), (1, .ref (ga G 0)), (0, .ref b)]) (hT : LST G h X s H locs) (nx : ∀ h2 X2 H2 locs2, LST G h2 X2 s H2 locs2 → W p l e room_1 s m args below meth c H2 locs2 C0 S0 Q (F0 m 988 ls [])) : W p l e room_1 s m args below meth c H locs C0 S0 Q (F0 m 665 ls []) := by
  obtain ⟨w0, r0, m0, hv⟩ := hT
  refine lv_aload_n K.1 K.2.1 dL_law_665 rfl (lv_at hl 2 rfl) ?_
  refine la_arg (k := 1) K hbA w0 hL hl (by omega) dL_law_666 dL_law_667 dL_law_668 dL_law_669 dL_law_670 ?_
  refine la_arg (k := 2) K hbA w0 hL hl (by omega) dL_law_671 dL_law_672 dL_law_673 dL_law_674 dL_law_675 ?_
  refine la_arg (k := 3) K hbA w0 hL hl (by omega) dL_law_676 dL_law_677 dL_law_678 dL_law_679 dL_law_680 ?_
  refine la_call (as := [xs (i + 1), xs (i + 2), xs (i + 3)]) (o := 0) (st := []) K dL_law_681 kL_93 (x_way (d := 2) r0 hv) rfl rfl rfl (Nat.le_of_ble_eq_true rfl) (Nat.le_of_ble_eq_true rfl) hl.1 w0 hC hS0 ?_
  rintro _ h1 H1 locs1 ⟨rfl, r1, f1⟩ w1
  change W p l e room_1 s m args below meth c H1 locs1 C0 S0 Q (F0 m 684 ls [.int (a_way X (xs (i + 1)) (xs (i + 2)) (xs (i + 3)))])
  have m1 : RM h1 X := m0.fx f1
  refine lv_aload_n K.1 K.2.1 dL_law_684 rfl (lv_at hl 1 rfl) ?_
  refine la_arg (k := 1) K hbA w1 hL hl (by omega) dL_law_685 dL_law_686 dL_law_687 dL_law_688 dL_law_689 ?_
  refine la_arg (k := 2) K hbA w1 hL hl (by omega) dL_law_690 dL_law_691 dL_law_692 dL_law_693 dL_law_694 ?_
  refine la_arg (k := 3) K hbA w1 hL hl (by omega) dL_law_695 dL_law_696 dL_law_697 dL_law_698 dL_law_699 ?_
  refine la_call (as := [xs (i + 1), xs (i + 2), xs (i + 3)]) (o := 67) (st := [.int (a_way X (xs (i + 1)) (xs (i + 2)) (xs (i + 3)))]) K dL_law_700 kL_96 (y_way (d := 2) m1 hv) rfl rfl rfl (Nat.le_of_ble_eq_true rfl) (Nat.le_of_ble_eq_true rfl) hl.1 w1 hC hS0 ?_
  rintro _ h2 H2 locs2 ⟨rfl, m2, f2⟩ w2
  change W p l e room_1 s m args below meth c H2 locs2 C0 S0 Q (F0 m 703 ls [.int (a_way X (xs (i + 1)) (xs (i + 2)) (xs (i + 3))), .int (a_way X (xs (i + 1)) (xs (i + 2)) (xs (i + 3)))])
  have v2 : VX X := hv
  exact lv_icmp_eq (tgt := 988) K.1 K.2.1 dL_law_703 (by decide) (fun _ => nx h2 X H2 locs2 ⟨w2, r1.fn v2 f2, m2, v2⟩) (fun q => absurd rfl q)
theorem lc_seen (K : LK p s m args c b L xs) (hbA : ¬ gA G b) (hC : C0 ≤ room_1.cells) (hS0 : S0 ≤ room_1.slots) (hL : L ≤ 320) (hi : i + 5 ≤ L) (hl : lv_has ls 4 [(3, .int (nI i)), (2, .ref (ga G 67)), (1, .ref (ga G 0)), (0, .ref b)]) (hT : LST G h X s H locs) (nx : ∀ h2 X2 H2 locs2, LST G h2 X2 s H2 locs2 → W p l e room_1 s m args below meth c H2 locs2 C0 S0 Q (F0 m 988 ls [])) : W p l e room_1 s m args below meth c H locs C0 S0 Q (F0 m 708 ls []) := by
  obtain ⟨w0, r0, m0, hv⟩ := hT
  refine lv_aload_n K.1 K.2.1 dL_law_708 rfl (lv_at hl 2 rfl) ?_
  refine la_arg (k := 1) K hbA w0 hL hl (by omega) dL_law_709 dL_law_710 dL_law_711 dL_law_712 dL_law_713 ?_
  refine la_arg (k := 2) K hbA w0 hL hl (by omega) dL_law_714 dL_law_715 dL_law_716 dL_law_717 dL_law_718 ?_
  refine la_arg (k := 3) K hbA w0 hL hl (by omega) dL_law_719 dL_law_720 dL_law_721 dL_law_722 dL_law_723 ?_
  refine la_call (as := [xs (i + 1), xs (i + 2), xs (i + 3)]) (o := 0) (st := []) K dL_law_724 kL_97 (x_seen (d := 2) r0 hv) rfl rfl rfl (Nat.le_of_ble_eq_true rfl) (Nat.le_of_ble_eq_true rfl) hl.1 w0 hC hS0 ?_
  rintro _ h1 H1 locs1 ⟨rfl, r1, f1⟩ w1
  change W p l e room_1 s m args below meth c H1 locs1 C0 S0 Q (F0 m 727 ls [.int (a_seen X (xs (i + 1)) (xs (i + 2)) (xs (i + 3))).1])
  have m1 : RM h1 X := m0.fx f1
  refine lv_aload_n K.1 K.2.1 dL_law_727 rfl (lv_at hl 1 rfl) ?_
  refine la_arg (k := 1) K hbA w1 hL hl (by omega) dL_law_728 dL_law_729 dL_law_730 dL_law_731 dL_law_732 ?_
  refine la_arg (k := 2) K hbA w1 hL hl (by omega) dL_law_733 dL_law_734 dL_law_735 dL_law_736 dL_law_737 ?_
  refine la_arg (k := 3) K hbA w1 hL hl (by omega) dL_law_738 dL_law_739 dL_law_740 dL_law_741 dL_law_742 ?_
  refine la_call (as := [xs (i + 1), xs (i + 2), xs (i + 3)]) (o := 67) (st := [.int (a_seen X (xs (i + 1)) (xs (i + 2)) (xs (i + 3))).1]) K dL_law_743 kL_100 (y_seen (d := 2) m1 hv) rfl rfl rfl (Nat.le_of_ble_eq_true rfl) (Nat.le_of_ble_eq_true rfl) hl.1 w1 hC hS0 ?_
  rintro _ h2 H2 locs2 ⟨rfl, m2, f2⟩ w2
  change W p l e room_1 s m args below meth c H2 locs2 C0 S0 Q (F0 m 746 ls [.int (a_seen X (xs (i + 1)) (xs (i + 2)) (xs (i + 3))).1, .int (a_seen X (xs (i + 1)) (xs (i + 2)) (xs (i + 3))).1])
  have v2 : VX (a_seen X (xs (i + 1)) (xs (i + 2)) (xs (i + 3))).2 := v_seen hv (xs (i + 1)) (xs (i + 2)) (xs (i + 3))
  exact lv_icmp_eq (tgt := 988) K.1 K.2.1 dL_law_746 (by decide) (fun _ => nx h2 (a_seen X (xs (i + 1)) (xs (i + 2)) (xs (i + 3))).2 H2 locs2 ⟨w2, r1.fn v2 f2, m2, v2⟩) (fun q => absurd rfl q)
theorem lc_forget (K : LK p s m args c b L xs) (hbA : ¬ gA G b) (hC : C0 ≤ room_1.cells) (hS0 : S0 ≤ room_1.slots) (hL : L ≤ 320) (hi : i + 5 ≤ L) (hl : lv_has ls 4 [(3, .int (nI i)), (2, .ref (ga G 67)), (1, .ref (ga G 0)), (0, .ref b)]) (hT : LST G h X s H locs) (nx : ∀ h2 X2 H2 locs2, LST G h2 X2 s H2 locs2 → W p l e room_1 s m args below meth c H2 locs2 C0 S0 Q (F0 m 988 ls [])) : W p l e room_1 s m args below meth c H locs C0 S0 Q (F0 m 751 ls []) := by
  obtain ⟨w0, r0, m0, hv⟩ := hT
  refine lv_aload_n K.1 K.2.1 dL_law_751 rfl (lv_at hl 2 rfl) ?_
  refine la_call (as := []) (o := 0) (st := []) K dL_law_752 kL_101 (x_forget (d := 2) r0 hv) rfl rfl rfl (Nat.le_of_ble_eq_true rfl) (Nat.le_of_ble_eq_true rfl) hl.1 w0 hC hS0 ?_
  rintro _ h1 H1 locs1 ⟨rfl, r1, f1⟩ w1
  change W p l e room_1 s m args below meth c H1 locs1 C0 S0 Q (F0 m 755 ls [.int (a_forget X).1])
  have m1 : RM h1 X := m0.fx f1
  refine lv_aload_n K.1 K.2.1 dL_law_755 rfl (lv_at hl 1 rfl) ?_
  refine la_call (as := []) (o := 67) (st := [.int (a_forget X).1]) K dL_law_756 kL_104 (y_forget (d := 2) m1 hv) rfl rfl rfl (Nat.le_of_ble_eq_true rfl) (Nat.le_of_ble_eq_true rfl) hl.1 w1 hC hS0 ?_
  rintro _ h2 H2 locs2 ⟨rfl, m2, f2⟩ w2
  change W p l e room_1 s m args below meth c H2 locs2 C0 S0 Q (F0 m 759 ls [.int (a_forget X).1, .int (a_forget X).1])
  have v2 : VX (a_forget X).2 := v_forget hv
  exact lv_icmp_eq (tgt := 988) K.1 K.2.1 dL_law_759 (by decide) (fun _ => nx h2 (a_forget X).2 H2 locs2 ⟨w2, r1.fn v2 f2, m2, v2⟩) (fun q => absurd rfl q)
theorem lc_register (K : LK p s m args c b L xs) (hbA : ¬ gA G b) (hC : C0 ≤ room_1.cells) (hS0 : S0 ≤ room_1.slots) (hL : L ≤ 320) (hi : i + 5 ≤ L) (hl : lv_has ls 4 [(3, .int (nI i)), (2, .ref (ga G 67)), (1, .ref (ga G 0)), (0, .ref b)]) (hT : LST G h X s H locs) (nx : ∀ h2 X2 H2 locs2, LST G h2 X2 s H2 locs2 → W p l e room_1 s m args below meth c H2 locs2 C0 S0 Q (F0 m 988 ls [])) : W p l e room_1 s m args below meth c H locs C0 S0 Q (F0 m 764 ls []) := by
  obtain ⟨w0, r0, m0, hv⟩ := hT
  refine lv_aload_n K.1 K.2.1 dL_law_764 rfl (lv_at hl 2 rfl) ?_
  refine la_arg (k := 1) K hbA w0 hL hl (by omega) dL_law_765 dL_law_766 dL_law_767 dL_law_768 dL_law_769 ?_
  refine la_arg (k := 2) K hbA w0 hL hl (by omega) dL_law_770 dL_law_771 dL_law_772 dL_law_773 dL_law_774 ?_
  refine la_call (as := [xs (i + 1), xs (i + 2)]) (o := 0) (st := []) K dL_law_775 kL_105 (x_register (d := 1) r0 hv) rfl rfl rfl (Nat.le_of_ble_eq_true rfl) (Nat.le_of_ble_eq_true rfl) hl.1 w0 hC hS0 ?_
  rintro _ h1 H1 locs1 ⟨rfl, r1, f1⟩ w1
  change W p l e room_1 s m args below meth c H1 locs1 C0 S0 Q (F0 m 778 ls [.int (a_register X (xs (i + 1)) (xs (i + 2)))])
  have m1 : RM h1 X := m0.fx f1
  refine lv_aload_n K.1 K.2.1 dL_law_778 rfl (lv_at hl 1 rfl) ?_
  refine la_arg (k := 1) K hbA w1 hL hl (by omega) dL_law_779 dL_law_780 dL_law_781 dL_law_782 dL_law_783 ?_
  refine la_arg (k := 2) K hbA w1 hL hl (by omega) dL_law_784 dL_law_785 dL_law_786 dL_law_787 dL_law_788 ?_
  refine la_call (as := [xs (i + 1), xs (i + 2)]) (o := 67) (st := [.int (a_register X (xs (i + 1)) (xs (i + 2)))]) K dL_law_789 kL_108 (y_register (d := 1) m1 hv) rfl rfl rfl (Nat.le_of_ble_eq_true rfl) (Nat.le_of_ble_eq_true rfl) hl.1 w1 hC hS0 ?_
  rintro _ h2 H2 locs2 ⟨rfl, m2, f2⟩ w2
  change W p l e room_1 s m args below meth c H2 locs2 C0 S0 Q (F0 m 792 ls [.int (a_register X (xs (i + 1)) (xs (i + 2))), .int (a_register X (xs (i + 1)) (xs (i + 2)))])
  have v2 : VX X := hv
  exact lv_icmp_eq (tgt := 988) K.1 K.2.1 dL_law_792 (by decide) (fun _ => nx h2 X H2 locs2 ⟨w2, r1.fn v2 f2, m2, v2⟩) (fun q => absurd rfl q)
theorem lc_foundling (K : LK p s m args c b L xs) (hbA : ¬ gA G b) (hC : C0 ≤ room_1.cells) (hS0 : S0 ≤ room_1.slots) (hL : L ≤ 320) (hi : i + 5 ≤ L) (hl : lv_has ls 4 [(3, .int (nI i)), (2, .ref (ga G 67)), (1, .ref (ga G 0)), (0, .ref b)]) (hT : LST G h X s H locs) (nx : ∀ h2 X2 H2 locs2, LST G h2 X2 s H2 locs2 → W p l e room_1 s m args below meth c H2 locs2 C0 S0 Q (F0 m 988 ls [])) : W p l e room_1 s m args below meth c H locs C0 S0 Q (F0 m 797 ls []) := by
  obtain ⟨w0, r0, m0, hv⟩ := hT
  refine lv_aload_n K.1 K.2.1 dL_law_797 rfl (lv_at hl 2 rfl) ?_
  refine la_arg (k := 1) K hbA w0 hL hl (by omega) dL_law_798 dL_law_799 dL_law_800 dL_law_801 dL_law_802 ?_
  refine la_arg (k := 2) K hbA w0 hL hl (by omega) dL_law_803 dL_law_804 dL_law_805 dL_law_806 dL_law_807 ?_
  refine la_arg (k := 3) K hbA w0 hL hl (by omega) dL_law_808 dL_law_809 dL_law_810 dL_law_811 dL_law_812 ?_
  refine la_arg (k := 4) K hbA w0 hL hl (by omega) dL_law_813 dL_law_814 dL_law_815 dL_law_816 dL_law_817 ?_
  refine la_call (as := [xs (i + 1), xs (i + 2), xs (i + 3), xs (i + 4)]) (o := 0) (st := []) K dL_law_818 kL_109 (x_foundling (d := 1) r0 hv) rfl rfl rfl (Nat.le_of_ble_eq_true rfl) (Nat.le_of_ble_eq_true rfl) hl.1 w0 hC hS0 ?_
  rintro _ h1 H1 locs1 ⟨rfl, r1, f1⟩ w1
  change W p l e room_1 s m args below meth c H1 locs1 C0 S0 Q (F0 m 821 ls [.int (a_foundling X (xs (i + 1)) (xs (i + 2)) (xs (i + 3)) (xs (i + 4)))])
  have m1 : RM h1 X := m0.fx f1
  refine lv_aload_n K.1 K.2.1 dL_law_821 rfl (lv_at hl 1 rfl) ?_
  refine la_arg (k := 1) K hbA w1 hL hl (by omega) dL_law_822 dL_law_823 dL_law_824 dL_law_825 dL_law_826 ?_
  refine la_arg (k := 2) K hbA w1 hL hl (by omega) dL_law_827 dL_law_828 dL_law_829 dL_law_830 dL_law_831 ?_
  refine la_arg (k := 3) K hbA w1 hL hl (by omega) dL_law_832 dL_law_833 dL_law_834 dL_law_835 dL_law_836 ?_
  refine la_arg (k := 4) K hbA w1 hL hl (by omega) dL_law_837 dL_law_838 dL_law_839 dL_law_840 dL_law_841 ?_
  refine la_call (as := [xs (i + 1), xs (i + 2), xs (i + 3), xs (i + 4)]) (o := 67) (st := [.int (a_foundling X (xs (i + 1)) (xs (i + 2)) (xs (i + 3)) (xs (i + 4)))]) K dL_law_842 kL_113 (y_foundling (d := 1) m1 hv) rfl rfl rfl (Nat.le_of_ble_eq_true rfl) (Nat.le_of_ble_eq_true rfl) hl.1 w1 hC hS0 ?_
  rintro _ h2 H2 locs2 ⟨rfl, m2, f2⟩ w2
  change W p l e room_1 s m args below meth c H2 locs2 C0 S0 Q (F0 m 845 ls [.int (a_foundling X (xs (i + 1)) (xs (i + 2)) (xs (i + 3)) (xs (i + 4))), .int (a_foundling X (xs (i + 1)) (xs (i + 2)) (xs (i + 3)) (xs (i + 4)))])
  have v2 : VX X := hv
  exact lv_icmp_eq (tgt := 988) K.1 K.2.1 dL_law_845 (by decide) (fun _ => nx h2 X H2 locs2 ⟨w2, r1.fn v2 f2, m2, v2⟩) (fun q => absurd rfl q)
theorem lc_loses (K : LK p s m args c b L xs) (hbA : ¬ gA G b) (hC : C0 ≤ room_1.cells) (hS0 : S0 ≤ room_1.slots) (hL : L ≤ 320) (hi : i + 5 ≤ L) (hl : lv_has ls 4 [(3, .int (nI i)), (2, .ref (ga G 67)), (1, .ref (ga G 0)), (0, .ref b)]) (hT : LST G h X s H locs) (nx : ∀ h2 X2 H2 locs2, LST G h2 X2 s H2 locs2 → W p l e room_1 s m args below meth c H2 locs2 C0 S0 Q (F0 m 988 ls [])) : W p l e room_1 s m args below meth c H locs C0 S0 Q (F0 m 850 ls []) := by
  obtain ⟨w0, r0, m0, hv⟩ := hT
  refine lv_aload_n K.1 K.2.1 dL_law_850 rfl (lv_at hl 2 rfl) ?_
  refine la_arg (k := 1) K hbA w0 hL hl (by omega) dL_law_851 dL_law_852 dL_law_853 dL_law_854 dL_law_855 ?_
  refine la_call (as := [xs (i + 1)]) (o := 0) (st := []) K dL_law_856 kL_114 (x_loses (d := 2) r0 hv) rfl rfl rfl (Nat.le_of_ble_eq_true rfl) (Nat.le_of_ble_eq_true rfl) hl.1 w0 hC hS0 ?_
  rintro _ h1 H1 locs1 ⟨rfl, r1, f1⟩ w1
  change W p l e room_1 s m args below meth c H1 locs1 C0 S0 Q (F0 m 859 ls [.int (a_loses X (xs (i + 1)))])
  have m1 : RM h1 X := m0.fx f1
  refine lv_aload_n K.1 K.2.1 dL_law_859 rfl (lv_at hl 1 rfl) ?_
  refine la_arg (k := 1) K hbA w1 hL hl (by omega) dL_law_860 dL_law_861 dL_law_862 dL_law_863 dL_law_864 ?_
  refine la_call (as := [xs (i + 1)]) (o := 67) (st := [.int (a_loses X (xs (i + 1)))]) K dL_law_865 kL_117 (y_loses (d := 2) m1 hv) rfl rfl rfl (Nat.le_of_ble_eq_true rfl) (Nat.le_of_ble_eq_true rfl) hl.1 w1 hC hS0 ?_
  rintro _ h2 H2 locs2 ⟨rfl, m2, f2⟩ w2
  change W p l e room_1 s m args below meth c H2 locs2 C0 S0 Q (F0 m 868 ls [.int (a_loses X (xs (i + 1))), .int (a_loses X (xs (i + 1)))])
  have v2 : VX X := hv
  exact lv_icmp_eq (tgt := 988) K.1 K.2.1 dL_law_868 (by decide) (fun _ => nx h2 X H2 locs2 ⟨w2, r1.fn v2 f2, m2, v2⟩) (fun q => absurd rfl q)
theorem lc_next (K : LK p s m args c b L xs) (hbA : ¬ gA G b) (hC : C0 ≤ room_1.cells) (hS0 : S0 ≤ room_1.slots) (hL : L ≤ 320) (hi : i + 5 ≤ L) (hl : lv_has ls 4 [(3, .int (nI i)), (2, .ref (ga G 67)), (1, .ref (ga G 0)), (0, .ref b)]) (hT : LST G h X s H locs) (nx : ∀ h2 X2 H2 locs2, LST G h2 X2 s H2 locs2 → W p l e room_1 s m args below meth c H2 locs2 C0 S0 Q (F0 m 988 ls [])) : W p l e room_1 s m args below meth c H locs C0 S0 Q (F0 m 873 ls []) := by
  obtain ⟨w0, r0, m0, hv⟩ := hT
  refine lv_aload_n K.1 K.2.1 dL_law_873 rfl (lv_at hl 2 rfl) ?_
  refine la_arg (k := 1) K hbA w0 hL hl (by omega) dL_law_874 dL_law_875 dL_law_876 dL_law_877 dL_law_878 ?_
  refine la_call (as := [xs (i + 1)]) (o := 0) (st := []) K dL_law_879 kL_118 (x_next (d := 2) r0 hv) rfl rfl rfl (Nat.le_of_ble_eq_true rfl) (Nat.le_of_ble_eq_true rfl) hl.1 w0 hC hS0 ?_
  rintro _ h1 H1 locs1 ⟨rfl, r1, f1⟩ w1
  change W p l e room_1 s m args below meth c H1 locs1 C0 S0 Q (F0 m 882 ls [.int (a_next X (xs (i + 1)))])
  have m1 : RM h1 X := m0.fx f1
  refine lv_aload_n K.1 K.2.1 dL_law_882 rfl (lv_at hl 1 rfl) ?_
  refine la_arg (k := 1) K hbA w1 hL hl (by omega) dL_law_883 dL_law_884 dL_law_885 dL_law_886 dL_law_887 ?_
  refine la_call (as := [xs (i + 1)]) (o := 67) (st := [.int (a_next X (xs (i + 1)))]) K dL_law_888 kL_121 (y_next (d := 2) m1 hv) rfl rfl rfl (Nat.le_of_ble_eq_true rfl) (Nat.le_of_ble_eq_true rfl) hl.1 w1 hC hS0 ?_
  rintro _ h2 H2 locs2 ⟨rfl, m2, f2⟩ w2
  change W p l e room_1 s m args below meth c H2 locs2 C0 S0 Q (F0 m 891 ls [.int (a_next X (xs (i + 1))), .int (a_next X (xs (i + 1)))])
  have v2 : VX X := hv
  exact lv_icmp_eq (tgt := 988) K.1 K.2.1 dL_law_891 (by decide) (fun _ => nx h2 X H2 locs2 ⟨w2, r1.fn v2 f2, m2, v2⟩) (fun q => absurd rfl q)
theorem lc_year (K : LK p s m args c b L xs) (hbA : ¬ gA G b) (hC : C0 ≤ room_1.cells) (hS0 : S0 ≤ room_1.slots) (hL : L ≤ 320) (hi : i + 5 ≤ L) (hl : lv_has ls 4 [(3, .int (nI i)), (2, .ref (ga G 67)), (1, .ref (ga G 0)), (0, .ref b)]) (hT : LST G h X s H locs) (nx : ∀ h2 X2 H2 locs2, LST G h2 X2 s H2 locs2 → W p l e room_1 s m args below meth c H2 locs2 C0 S0 Q (F0 m 988 ls [])) : W p l e room_1 s m args below meth c H locs C0 S0 Q (F0 m 896 ls []) := by
  obtain ⟨w0, r0, m0, hv⟩ := hT
  refine lv_aload_n K.1 K.2.1 dL_law_896 rfl (lv_at hl 2 rfl) ?_
  refine la_arg (k := 1) K hbA w0 hL hl (by omega) dL_law_897 dL_law_898 dL_law_899 dL_law_900 dL_law_901 ?_
  refine la_arg (k := 2) K hbA w0 hL hl (by omega) dL_law_902 dL_law_903 dL_law_904 dL_law_905 dL_law_906 ?_
  refine la_arg (k := 3) K hbA w0 hL hl (by omega) dL_law_907 dL_law_908 dL_law_909 dL_law_910 dL_law_911 ?_
  refine la_call (as := [xs (i + 1), xs (i + 2), xs (i + 3)]) (o := 0) (st := []) K dL_law_912 kL_122 (x_year (d := 2) r0 hv) rfl rfl rfl (Nat.le_of_ble_eq_true rfl) (Nat.le_of_ble_eq_true rfl) hl.1 w0 hC hS0 ?_
  rintro _ h1 H1 locs1 ⟨rfl, r1, f1⟩ w1
  change W p l e room_1 s m args below meth c H1 locs1 C0 S0 Q (F0 m 915 ls [.int (a_year X (xs (i + 1)) (xs (i + 2)) (xs (i + 3)))])
  have m1 : RM h1 X := m0.fx f1
  refine lv_aload_n K.1 K.2.1 dL_law_915 rfl (lv_at hl 1 rfl) ?_
  refine la_arg (k := 1) K hbA w1 hL hl (by omega) dL_law_916 dL_law_917 dL_law_918 dL_law_919 dL_law_920 ?_
  refine la_arg (k := 2) K hbA w1 hL hl (by omega) dL_law_921 dL_law_922 dL_law_923 dL_law_924 dL_law_925 ?_
  refine la_arg (k := 3) K hbA w1 hL hl (by omega) dL_law_926 dL_law_927 dL_law_928 dL_law_929 dL_law_930 ?_
  refine la_call (as := [xs (i + 1), xs (i + 2), xs (i + 3)]) (o := 67) (st := [.int (a_year X (xs (i + 1)) (xs (i + 2)) (xs (i + 3)))]) K dL_law_931 kL_125 (y_year (d := 2) m1 hv) rfl rfl rfl (Nat.le_of_ble_eq_true rfl) (Nat.le_of_ble_eq_true rfl) hl.1 w1 hC hS0 ?_
  rintro _ h2 H2 locs2 ⟨rfl, m2, f2⟩ w2
  change W p l e room_1 s m args below meth c H2 locs2 C0 S0 Q (F0 m 934 ls [.int (a_year X (xs (i + 1)) (xs (i + 2)) (xs (i + 3))), .int (a_year X (xs (i + 1)) (xs (i + 2)) (xs (i + 3)))])
  have v2 : VX X := hv
  exact lv_icmp_eq (tgt := 988) K.1 K.2.1 dL_law_934 (by decide) (fun _ => nx h2 X H2 locs2 ⟨w2, r1.fn v2 f2, m2, v2⟩) (fun q => absurd rfl q)
theorem lc_keep (K : LK p s m args c b L xs) (hbA : ¬ gA G b) (hC : C0 ≤ room_1.cells) (hS0 : S0 ≤ room_1.slots) (hL : L ≤ 320) (hi : i + 5 ≤ L) (hl : lv_has ls 4 [(3, .int (nI i)), (2, .ref (ga G 67)), (1, .ref (ga G 0)), (0, .ref b)]) (hT : LST G h X s H locs) (nx : ∀ h2 X2 H2 locs2, LST G h2 X2 s H2 locs2 → W p l e room_1 s m args below meth c H2 locs2 C0 S0 Q (F0 m 988 ls [])) : W p l e room_1 s m args below meth c H locs C0 S0 Q (F0 m 939 ls []) := by
  obtain ⟨w0, r0, m0, hv⟩ := hT
  refine lv_aload_n K.1 K.2.1 dL_law_939 rfl (lv_at hl 2 rfl) ?_
  refine la_call (as := []) (o := 0) (st := []) K dL_law_940 kL_126 (x_keep (d := 2) r0 hv) rfl rfl rfl (Nat.le_of_ble_eq_true rfl) (Nat.le_of_ble_eq_true rfl) hl.1 w0 hC hS0 ?_
  rintro _ h1 H1 locs1 ⟨rfl, r1, f1⟩ w1
  change W p l e room_1 s m args below meth c H1 locs1 C0 S0 Q (F0 m 943 ls [.int (a_keep X).1])
  have m1 : RM h1 X := m0.fx f1
  refine lv_aload_n K.1 K.2.1 dL_law_943 rfl (lv_at hl 1 rfl) ?_
  refine la_call (as := []) (o := 67) (st := [.int (a_keep X).1]) K dL_law_944 kL_129 (y_keep (d := 2) m1 hv) rfl rfl rfl (Nat.le_of_ble_eq_true rfl) (Nat.le_of_ble_eq_true rfl) hl.1 w1 hC hS0 ?_
  rintro _ h2 H2 locs2 ⟨rfl, m2, f2⟩ w2
  change W p l e room_1 s m args below meth c H2 locs2 C0 S0 Q (F0 m 947 ls [.int (a_keep X).1, .int (a_keep X).1])
  have v2 : VX (a_keep X).2 := v_keep hv
  exact lv_icmp_eq (tgt := 988) K.1 K.2.1 dL_law_947 (by decide) (fun _ => nx h2 (a_keep X).2 H2 locs2 ⟨w2, r1.fn v2 f2, m2, v2⟩) (fun q => absurd rfl q)
theorem lc_back (K : LK p s m args c b L xs) (hbA : ¬ gA G b) (hC : C0 ≤ room_1.cells) (hS0 : S0 ≤ room_1.slots) (hL : L ≤ 320) (hi : i + 5 ≤ L) (hl : lv_has ls 4 [(3, .int (nI i)), (2, .ref (ga G 67)), (1, .ref (ga G 0)), (0, .ref b)]) (hT : LST G h X s H locs) (nx : ∀ h2 X2 H2 locs2, LST G h2 X2 s H2 locs2 → W p l e room_1 s m args below meth c H2 locs2 C0 S0 Q (F0 m 988 ls [])) : W p l e room_1 s m args below meth c H locs C0 S0 Q (F0 m 952 ls []) := by
  obtain ⟨w0, r0, m0, hv⟩ := hT
  refine lv_aload_n K.1 K.2.1 dL_law_952 rfl (lv_at hl 2 rfl) ?_
  refine la_call (as := []) (o := 0) (st := []) K dL_law_953 kL_130 (x_back (d := 2) r0 hv) rfl rfl rfl (Nat.le_of_ble_eq_true rfl) (Nat.le_of_ble_eq_true rfl) hl.1 w0 hC hS0 ?_
  rintro _ h1 H1 locs1 ⟨rfl, r1, f1⟩ w1
  change W p l e room_1 s m args below meth c H1 locs1 C0 S0 Q (F0 m 956 ls [.int (a_back X).1])
  have m1 : RM h1 X := m0.fx f1
  refine lv_aload_n K.1 K.2.1 dL_law_956 rfl (lv_at hl 1 rfl) ?_
  refine la_call (as := []) (o := 67) (st := [.int (a_back X).1]) K dL_law_957 kL_133 (y_back (d := 2) m1 hv) rfl rfl rfl (Nat.le_of_ble_eq_true rfl) (Nat.le_of_ble_eq_true rfl) hl.1 w1 hC hS0 ?_
  rintro _ h2 H2 locs2 ⟨rfl, m2, f2⟩ w2
  change W p l e room_1 s m args below meth c H2 locs2 C0 S0 Q (F0 m 960 ls [.int (a_back X).1, .int (a_back X).1])
  have v2 : VX (a_back X).2 := v_back hv
  exact lv_icmp_eq (tgt := 988) K.1 K.2.1 dL_law_960 (by decide) (fun _ => nx h2 (a_back X).2 H2 locs2 ⟨w2, r1.fn v2 f2, m2, v2⟩) (fun q => absurd rfl q)
theorem lc_count (K : LK p s m args c b L xs) (hbA : ¬ gA G b) (hC : C0 ≤ room_1.cells) (hS0 : S0 ≤ room_1.slots) (hL : L ≤ 320) (hi : i + 5 ≤ L) (hl : lv_has ls 4 [(3, .int (nI i)), (2, .ref (ga G 67)), (1, .ref (ga G 0)), (0, .ref b)]) (hT : LST G h X s H locs) (nx : ∀ h2 X2 H2 locs2, LST G h2 X2 s H2 locs2 → W p l e room_1 s m args below meth c H2 locs2 C0 S0 Q (F0 m 988 ls [])) : W p l e room_1 s m args below meth c H locs C0 S0 Q (F0 m 965 ls []) := by
  obtain ⟨w0, r0, m0, hv⟩ := hT
  refine lv_aload_n K.1 K.2.1 dL_law_965 rfl (lv_at hl 2 rfl) ?_
  refine la_arg (k := 1) K hbA w0 hL hl (by omega) dL_law_966 dL_law_967 dL_law_968 dL_law_969 dL_law_970 ?_
  refine la_call (as := [xs (i + 1)]) (o := 0) (st := []) K dL_law_971 kL_134 (x_count (d := 2) r0 hv) rfl rfl rfl (Nat.le_of_ble_eq_true rfl) (Nat.le_of_ble_eq_true rfl) hl.1 w0 hC hS0 ?_
  rintro _ h1 H1 locs1 ⟨rfl, r1, f1⟩ w1
  change W p l e room_1 s m args below meth c H1 locs1 C0 S0 Q (F0 m 974 ls [.int (a_count X (xs (i + 1)))])
  have m1 : RM h1 X := m0.fx f1
  refine lv_aload_n K.1 K.2.1 dL_law_974 rfl (lv_at hl 1 rfl) ?_
  refine la_arg (k := 1) K hbA w1 hL hl (by omega) dL_law_975 dL_law_976 dL_law_977 dL_law_978 dL_law_979 ?_
  refine la_call (as := [xs (i + 1)]) (o := 67) (st := [.int (a_count X (xs (i + 1)))]) K dL_law_980 kL_137 (y_count (d := 2) m1 hv) rfl rfl rfl (Nat.le_of_ble_eq_true rfl) (Nat.le_of_ble_eq_true rfl) hl.1 w1 hC hS0 ?_
  rintro _ h2 H2 locs2 ⟨rfl, m2, f2⟩ w2
  change W p l e room_1 s m args below meth c H2 locs2 C0 S0 Q (F0 m 983 ls [.int (a_count X (xs (i + 1))), .int (a_count X (xs (i + 1)))])
  have v2 : VX X := hv
  exact lv_icmp_eq (tgt := 988) K.1 K.2.1 dL_law_983 (by decide) (fun _ => nx h2 X H2 locs2 ⟨w2, r1.fn v2 f2, m2, v2⟩) (fun q => absurd rfl q)
theorem law_loop (K : LK p s m args c b L xs) (hbA : ¬ gA G b) (hC : C0 ≤ room_1.cells) (hS0 : S0 ≤ room_1.slots) (hL : L ≤ 320) (fin : ∀ (H2 : Heap) (locs2 : List Loc) (ls2 : Array Slot), va_S (gA G) s.heap H2 locs2 → W p l e room_1 s m args below meth c H2 locs2 C0 S0 Q (F0 m 994 ls2 [])) : ∀ u i h X H locs ls, L ≤ i + u → i ≤ 2 ^ 16 + L → lv_has ls 4 [(3, .int (nI i)), (2, .ref (ga G 67)), (1, .ref (ga G 0)), (0, .ref b)] → LST G h X s H locs → W p l e room_1 s m args below meth c H locs C0 S0 Q (F0 m 18 ls []) := by
  intro u
  induction u using Nat.strongRecOn with
  | _ u ih =>
    intro i h X H locs ls hu hi2 hl hT
    obtain ⟨hx, hb, -, -, -, -, hX, hbl⟩ := id K
    refine lv_iload_n hx hb dL_law_18 rfl (lv_at hl 0 rfl) ?_
    refine lv_aload_n hx hb dL_law_19 rfl (lv_at hl 3 rfl) ?_
    refine va_slen (A := gA G) hx hb hX hbl hbA hT.1.2.2.2.1 dL_law_20 ?_
    refine lv_iconst (v := nI 5) hx hb dL_law_21 rfl ?_
    refine lv_isub hx hb dL_law_22 ?_
    refine lv_icmp_gt (tgt := 994) hx hb dL_law_23 (by decide) (fun _ => fin H locs ls hT.1.2.2.2.1) (fun q => ?_)
    have hi : i + 5 ≤ L := law_sub hL (by omega) q
    have nx : ∀ h2 X2 H2 locs2, LST G h2 X2 s H2 locs2 → W p l e room_1 s m args below meth c H2 locs2 C0 S0 Q (F0 m 988 ls []) := by
      intro h2 X2 H2 locs2 hT2
      refine lv_iinc (k := 0) (v := nI (i + 5)) (lv' := [(3, .int (nI (i + 5))), (2, .ref (ga G 67)), (1, .ref (ga G 0)), (0, .ref b)]) hx hb dL_law_988 hl rfl (nI_add i 5) (by decide) rfl (fun ls2 hl2 => ?_)
      refine lv_goto (tgt := 18) hx hb dL_law_991 (by decide) ?_
      exact ih (u - 5) (by omega) (i + 5) h2 X2 H2 locs2 ls2 (by omega) (by omega) hl2 hT2
    refine lv_aload_n hx hb dL_law_26 rfl (lv_at hl 3 rfl) ?_
    refine lv_iload_n hx hb dL_law_27 rfl (lv_at hl 0 rfl) ?_
    refine va_sld (A := gA G) hx hb hX hbl hbA hT.1.2.2.2.1 (nI_in (show i < L by omega) (by omega)) dL_law_28 ?_
    refine lv_bipush (v := nI 31) hx hb dL_law_29 rfl ?_
    refine lv_iand hx hb dL_law_31 ?_
    obtain ⟨j, hj, ej⟩ := and31 (xs (nI i).toNatClampNeg)
    rw [ej]
    by_cases q30 : j < 30
    · rcases (show j = 0 ∨ j = 1 ∨ j = 2 ∨ j = 3 ∨ j = 4 ∨ j = 5 ∨ j = 6 ∨ j = 7 ∨ j = 8 ∨ j = 9 ∨ j = 10 ∨ j = 11 ∨ j = 12 ∨ j = 13 ∨ j = 14 ∨ j = 15 ∨ j = 16 ∨ j = 17 ∨ j = 18 ∨ j = 19 ∨ j = 20 ∨ j = 21 ∨ j = 22 ∨ j = 23 ∨ j = 24 ∨ j = 25 ∨ j = 26 ∨ j = 27 ∨ j = 28 ∨ j = 29 by omega) with rfl | rfl | rfl | rfl | rfl | rfl | rfl | rfl | rfl | rfl | rfl | rfl | rfl | rfl | rfl | rfl | rfl | rfl | rfl | rfl | rfl | rfl | rfl | rfl | rfl | rfl | rfl | rfl | rfl | rfl
      · exact lv_tableIn (off := 136) (tgt := 168) hx hb dL_law_32 (by decide) (by decide) (by decide) (by decide) (lc_write K hbA hC hS0 hL hi hl hT nx)
      · exact lv_tableIn (off := 159) (tgt := 191) hx hb dL_law_32 (by decide) (by decide) (by decide) (by decide) (lc_wipe K hbA hC hS0 hL hi hl hT nx)
      · exact lv_tableIn (off := 172) (tgt := 204) hx hb dL_law_32 (by decide) (by decide) (by decide) (by decide) (lc_fault K hbA hC hS0 hL hi hl hT nx)
      · exact lv_tableIn (off := 185) (tgt := 217) hx hb dL_law_32 (by decide) (by decide) (by decide) (by decide) (lc_lay K hbA hC hS0 hL hi hl hT nx)
      · exact lv_tableIn (off := 198) (tgt := 230) hx hb dL_law_32 (by decide) (by decide) (by decide) (by decide) (lc_cousin K hbA hC hS0 hL hi hl hT nx)
      · exact lv_tableIn (off := 231) (tgt := 263) hx hb dL_law_32 (by decide) (by decide) (by decide) (by decide) (lc_room K hbA hC hS0 hL hi hl hT nx)
      · exact lv_tableIn (off := 264) (tgt := 296) hx hb dL_law_32 (by decide) (by decide) (by decide) (by decide) (lc_pass K hbA hC hS0 hL hi hl hT nx)
      · exact lv_tableIn (off := 287) (tgt := 319) hx hb dL_law_32 (by decide) (by decide) (by decide) (by decide) (lc_swap K hbA hC hS0 hL hi hl hT nx)
      · exact lv_tableIn (off := 320) (tgt := 352) hx hb dL_law_32 (by decide) (by decide) (by decide) (by decide) (lc_alter K hbA hC hS0 hL hi hl hT nx)
      · exact lv_tableIn (off := 353) (tgt := 385) hx hb dL_law_32 (by decide) (by decide) (by decide) (by decide) (lc_undo K hbA hC hS0 hL hi hl hT nx)
      · exact lv_tableIn (off := 366) (tgt := 398) hx hb dL_law_32 (by decide) (by decide) (by decide) (by decide) (lc_has K hbA hC hS0 hL hi hl hT nx)
      · exact lv_tableIn (off := 399) (tgt := 431) hx hb dL_law_32 (by decide) (by decide) (by decide) (by decide) (lc_whose K hbA hC hS0 hL hi hl hT nx)
      · exact lv_tableIn (off := 432) (tgt := 464) hx hb dL_law_32 (by decide) (by decide) (by decide) (by decide) (lc_sun K hbA hC hS0 hL hi hl hT nx)
      · exact lv_tableIn (off := 465) (tgt := 497) hx hb dL_law_32 (by decide) (by decide) (by decide) (by decide) (lc_cold K hbA hC hS0 hL hi hl hT nx)
      · exact lv_tableIn (off := 488) (tgt := 520) hx hb dL_law_32 (by decide) (by decide) (by decide) (by decide) (lc_want K hbA hC hS0 hL hi hl hT nx)
      · exact lv_tableIn (off := 511) (tgt := 543) hx hb dL_law_32 (by decide) (by decide) (by decide) (by decide) (lc_swaps K hbA hC hS0 hL hi hl hT nx)
      · exact lv_tableIn (off := 554) (tgt := 586) hx hb dL_law_32 (by decide) (by decide) (by decide) (by decide) (lc_warm K hbA hC hS0 hL hi hl hT nx)
      · exact lv_tableIn (off := 587) (tgt := 619) hx hb dL_law_32 (by decide) (by decide) (by decide) (by decide) (lc_canHave K hbA hC hS0 hL hi hl hT nx)
      · exact lv_tableIn (off := 620) (tgt := 652) hx hb dL_law_32 (by decide) (by decide) (by decide) (by decide) (lc_round K hbA hC hS0 hL hi hl hT nx)
      · exact lv_tableIn (off := 633) (tgt := 665) hx hb dL_law_32 (by decide) (by decide) (by decide) (by decide) (lc_way K hbA hC hS0 hL hi hl hT nx)
      · exact lv_tableIn (off := 676) (tgt := 708) hx hb dL_law_32 (by decide) (by decide) (by decide) (by decide) (lc_seen K hbA hC hS0 hL hi hl hT nx)
      · exact lv_tableIn (off := 719) (tgt := 751) hx hb dL_law_32 (by decide) (by decide) (by decide) (by decide) (lc_forget K hbA hC hS0 hL hi hl hT nx)
      · exact lv_tableIn (off := 732) (tgt := 764) hx hb dL_law_32 (by decide) (by decide) (by decide) (by decide) (lc_register K hbA hC hS0 hL hi hl hT nx)
      · exact lv_tableIn (off := 765) (tgt := 797) hx hb dL_law_32 (by decide) (by decide) (by decide) (by decide) (lc_foundling K hbA hC hS0 hL hi hl hT nx)
      · exact lv_tableIn (off := 818) (tgt := 850) hx hb dL_law_32 (by decide) (by decide) (by decide) (by decide) (lc_loses K hbA hC hS0 hL hi hl hT nx)
      · exact lv_tableIn (off := 841) (tgt := 873) hx hb dL_law_32 (by decide) (by decide) (by decide) (by decide) (lc_next K hbA hC hS0 hL hi hl hT nx)
      · exact lv_tableIn (off := 864) (tgt := 896) hx hb dL_law_32 (by decide) (by decide) (by decide) (by decide) (lc_year K hbA hC hS0 hL hi hl hT nx)
      · exact lv_tableIn (off := 907) (tgt := 939) hx hb dL_law_32 (by decide) (by decide) (by decide) (by decide) (lc_keep K hbA hC hS0 hL hi hl hT nx)
      · exact lv_tableIn (off := 920) (tgt := 952) hx hb dL_law_32 (by decide) (by decide) (by decide) (by decide) (lc_back K hbA hC hS0 hL hi hl hT nx)
      · exact lv_tableIn (off := 933) (tgt := 965) hx hb dL_law_32 (by decide) (by decide) (by decide) (by decide) (lc_count K hbA hC hS0 hL hi hl hT nx)
    · refine lv_tableOut (tgt := 988) hx hb dL_law_32 (Or.inr ?_) (by decide) (nx h X H locs hT)
      rw [nI_toInt (by omega)]
      omega
end LAW
