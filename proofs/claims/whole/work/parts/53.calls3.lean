/-! CALLS OUT OF A FRAME THAT ALLOCATES -/
theorem bw_pop {M : MI} {B : BG} {d mc ms pc : Nat} {lv : List (Nat × Value)} {st : List Value} {ws : va_W} {cells slots : Nat} {Q : va_W → Prop} {v : Value} (hd : decode M.2.1 pc = .ok (.pop, 1)) (hv : v.category = 1) (kk : BW M B d mc ms (pc + 1) lv st ws cells slots Q) : BW M B d mc ms pc lv (v :: st) ws cells slots Q := by
  intro p l e s m args below meth c H locs ls hc hin hbd hl
  exact lv_pop hc.1 hc.2.1 hd hv (kk p l e s m args below meth c H locs ls hc hin hbd hl)
theorem bw_runJ {M : MI} {B : BG} {d mc ms pc cells slots : Nat} {st0 st : List Value} {lv : List (Nat × Value)} {ws : va_W} {Q : va_W → Prop} {Q' : Option Value → Prop} {a : Array Value}
    (kk : ∀ v, Q' v → BW M B d mc ms (pc + 3) lv (v.toList ++ st) ws cells slots Q)
    {p : Program} {l : Launch} {e : Env} {s : State} {m : MethodId} {args : Array Value} {below : List Frame} {meth : Method} {c : Code} {H : Heap} {locs : List Loc} {ls : Array Slot}
    (hc : CX M p s m args meth c) (hin : meth.name = "<init>") (hbd : BD B ws s H locs) (hl : lv_has ls M.2.2.1 lv)
    (hr : va_Run p l e (rmB d mc ms) s m args below meth c H locs cells slots 0 0 (F0 m pc ls st0) st (JQ Q' a) B.2.2) :
    W p l e (rmB d mc ms) s m args below meth c H locs cells slots (MQ below (BQ B Q) args s mc ms B.2.2) (F0 m pc ls st0) := by
  obtain ⟨hK, hP, hD, hS, hA, hO⟩ := hbd
  intro T hT X
  obtain ⟨v, st₀, t, T', L, h0, X', hL, e1, e2, ⟨v', hv, hq, hh⟩, stp⟩ := hr T hT X
  have hv : v = v' := Outcome.returned.inj hv
  subst hv
  have hS' : va_S B.2.2 s.heap H (locs ++ L) := by
    refine ⟨hS.1, hS.2.1, fun q hq => ?_⟩
    rcases List.mem_append.mp hq with h | h
    · exact hS.2.2 q h
    · exact hL q h
  obtain ⟨t2, a1, b1⟩ := kk v hq p l e s m args below meth c H (locs ++ L) ls hc hin ⟨hK, hP, hD, hS', hA, hO⟩ hl T' (by rw [e1, hh, h0]) X'
  exact ⟨t2, stp t2 a1, b1⟩
theorem wj_call {M M' : MI} {B : BG} {K : Nat × Nat × Value} {d mc ms pc idx n cells slots : Nat} {as st : List Value} {lv : List (Nat × Value)} {ws : va_W} {Q : va_W → Prop} {Q' : Option Value → Prop} (hd : decode M.2.1 pc = .ok (.invokevirtual idx, 3)) (hk : KJ M.1.cls idx M' n) (hcl : M'.1.cls = "java/lang/String") (hR : JW M' B.2.2 K d 0 (lv_args 0 (.ref K.1 :: as)) [] Q')
    (hn : as.length = n) (hlen : (lg_sl (.ref K.1 :: as)).length ≤ M'.2.2.1) (hz : (st.map fun v => v.category).sum ≤ 8) (hcs : cells ≤ mc ∧ slots ≤ ms)
    (kk : ∀ v, Q' v → BW M B (d + 1) mc ms (pc + 3) lv (v.toList ++ st) ws cells slots Q)
    {p : Program} {l : Launch} {e : Env} {s : State} {m : MethodId} {args : Array Value} {below : List Frame} {meth : Method} {c : Code} {H : Heap} {locs : List Loc} {ls : Array Slot}
    (hc : CX M p s m args meth c) (hin : meth.name = "<init>") (hbd : BD B ws s H locs) (hsk : SK B.2.2 K s s.heap) (hl : lv_has ls M.2.2.1 lv) :
    W p l e (rmB (d + 1) mc ms) s m args below meth c H locs cells slots (MQ below (BQ B Q) args s mc ms B.2.2) (F0 m pc ls (as.reverse ++ .ref K.1 :: st)) := by
  obtain ⟨hx, hb, hr, hml, hown, hts, hns, hlk⟩ := id hc
  obtain ⟨⟨k1, k2, k3, k4, k5⟩, k6, k8, k7⟩ := hk
  have hM := hR.met k3 hlen l
  have hRR : (rmD d).frames + 1 ≤ (rmB (d + 1) mc ms).frames ∧ 8 + (M'.2.2.1 + 11) + (rmD d).locals ≤ (rmB (d + 1) mc ms).locals := by
    refine ⟨Nat.le_refl _, ?_⟩
    show 8 + (M'.2.2.1 + 11) + 36 * d ≤ 36 * (d + 1)
    omega
  have hW : 2 * (F0 m pc ls (as.reverse ++ .ref K.1 :: st)).monitorRoom + (st.map fun v => v.category).sum ≤ 8 := lv_room hz
  have hpre : PreV s H M'.1.cls K.1 (PcJ B.2.2 K (.ref K.1 :: as)) as := ⟨PcJ.blind B.2.2 K _, by rw [hcl]; exact SK.recv hsk hbd.2.2.2.1, PcJ.pre (as := .ref K.1 :: as) hsk hbd.2.2.2.1 hns⟩
  exact bw_runJ kk hc hin hbd hl (va_runV (n := n) (As := as) (b := K.1) (rest := st) ⟨hx, hb, hml, hown, hts⟩ hM ⟨callB_of n hts (mW_good k2) rfl rfl rfl (hbig hts k1) (hbig hts k7) k4 hRR, hbig hts k6, hbig hts k8⟩ hpre rfl hn hl.1 rfl hW hd hcs)
/-- FIRST_HOUSE.length() -/
theorem bw_ldcLen {M : MI} {B : BG} {d mc ms pc cells slots : Nat} {st : List Value} {lv : List (Nat × Value)} {ws : va_W} {Q : va_W → Prop} (hcls : M.1.cls = RX7) (hd1 : decode M.2.1 pc = .ok (.ldc 73, 2)) (hd2 : decode M.2.1 (pc + 2) = .ok (.invokevirtual 75, 3)) (hz : (st.map fun v => v.category).sum ≤ 8) (hcs : cells ≤ mc ∧ slots ≤ ms)
    (kk : BW M B (d + 2) mc ms (pc + 2 + 3) lv (.int (nI 77) :: st) ws cells slots Q) : BW M B (d + 2) mc ms pc lv st ws cells slots Q := by
  intro p l e s m args below meth c H locs ls hc hin hbd hl
  obtain ⟨K, hsk⟩ := hbd.2.2.2.2.2.2
  refine va_ldcS hc.1 hc.2.1 (own := RX7) (tx := fhT) (q := K.1) (by rw [← hcls]; exact hc.2.2.2.2.1) hsk.1 hd1 ?_
  exact wj_call (as := []) (st := st) hd2 (by rw [hcls]; exact kjX7_75) rfl (j_len (d := d)) rfl (Nat.le_of_ble_eq_true rfl) hz hcs (fun v hv => by subst hv; exact kk) hc hin hbd hsk hl
/-- FIRST_HOUSE.charAt(k) -/
theorem bw_ldcChr {M : MI} {B : BG} {d mc ms pc cells slots k : Nat} {i : Fin 4} {st : List Value} {lv : List (Nat × Value)} {ws : va_W} {Q : va_W → Prop} (hcls : M.1.cls = RX7) (hd1 : decode M.2.1 pc = .ok (.ldc 73, 2)) (j : Nat) (hd3 : decode M.2.1 (pc + 2) = .ok (.iload_n i, 1)) (hj : lv[j]? = some ((i : Nat), .int (nI k))) (hk : k < 77) (hd2 : decode M.2.1 (pc + 2 + 1) = .ok (.invokevirtual 81, 3)) (hz : (st.map fun v => v.category).sum ≤ 8) (hcs : cells ≤ mc ∧ slots ≤ ms)
    (kk : BW M B (d + 4) mc ms (pc + 2 + 1 + 3) lv (.int (nI (FHn k)) :: st) ws cells slots Q) : BW M B (d + 4) mc ms pc lv st ws cells slots Q := by
  intro p l e s m args below meth c H locs ls hc hin hbd hl
  obtain ⟨K, hsk⟩ := hbd.2.2.2.2.2.2
  refine va_ldcS hc.1 hc.2.1 (own := RX7) (tx := fhT) (q := K.1) (by rw [← hcls]; exact hc.2.2.2.2.1) hsk.1 hd1 ?_
  refine lv_iload_n hc.1 hc.2.1 hd3 rfl (lv_at hl j hj) ?_
  exact wj_call (as := [.int (nI k)]) (st := st) hd2 (by rw [hcls]; exact kjX7_81) rfl (j_chr (d := d) hk hsk.2.2.2.2.2.2.2) rfl (Nat.le_of_ble_eq_true rfl) hz hcs (fun v hv => by subst hv; exact kk) hc hin hbd hsk hl
def bG (G : Gx) : BG := (G.1, G.2.1, gA G)
theorem bw_callZ {M M' : MI} {G : Gx} {d mc ms pc idx ci n b cells slots : Nat} {as st0 st : List Value} {lv : List (Nat × Value)} {h : Hp} {Q : va_W → Prop} {Q' : Option Value → Hp → Prop} {fs : List (Option Nat)} (hd : decode M.2.1 pc = .ok (.invokevirtual idx, 3)) (hk : KV M.1.cls idx M' ci n) (hR : zRT M' d (.ref b :: as) h Q') (ho : zlay[b]? = some (oO ci fs))
    (hst : st0 = (as.map (cv (ga G))).reverse ++ .ref (ga G b) :: st) (hn : as.length = n) (hcat0 : (as.all fun w => decide (w.category = 1)) = true) (hlen : as.length + 1 ≤ M'.2.2.1) (hz : (st.map fun v => v.category).sum ≤ 8) (hcs : cells ≤ mc ∧ slots ≤ ms)
    (kk : ∀ v h', Q' v h' → BW M (bG G) (d + 1) mc ms (pc + 3) lv ((v.map (cv (ga G))).toList ++ st) (zwl G h') cells slots Q) : BW M (bG G) (d + 1) mc ms pc lv st0 (zwl G h) cells slots Q := by
  have hcat : ∀ w ∈ as, w.category = 1 := fun w hw => of_decide_eq_true (List.all_eq_true.mp hcat0 w hw)
  intro p l e s m args below meth c H locs ls hc hin hbd hl
  obtain ⟨hx, hb, hr, hml, hown, hts, hns, hlk⟩ := id hc
  obtain ⟨⟨k1, k2, k3, k4, k5⟩, k6, k8, ⟨T, N, kc⟩, k7⟩ := hk
  subst hst
  obtain ⟨hK, hP, hD, hS, hA, hO⟩ := hbd
  have hwd : zWD G h s H locs := ⟨hK, hP, hD, hS, hA⟩
  have hM := hR.met k3 (fun w hw => by
    rcases List.mem_cons.mp hw with rfl | hw
    · rfl
    · exact hcat w hw) hlen l G
  have hRR : (rmD d).frames + 1 ≤ (rmB (d + 1) mc ms).frames ∧ 8 + (M'.2.2.1 + 11) + (rmD d).locals ≤ (rmB (d + 1) mc ms).locals := by
    refine ⟨Nat.le_refl _, ?_⟩
    show 8 + (M'.2.2.1 + 11) + 36 * d ≤ 36 * (d + 1)
    omega
  have hW : 2 * (F0 m pc ls ((as.map (cv (ga G))).reverse ++ .ref (ga G b) :: st)).monitorRoom + (st.map fun v => v.category).sum ≤ 8 := lv_room hz
  have hpre : PreV s H M'.1.cls (ga G b) (zPcO G (.ref b :: as) h) (as.map (cv (ga G))) := ⟨zPcO.blind G _ h, va_recv hwd.1 hwd.2.1 kc (zwl_at ho), zPcO.pre (as := .ref b :: as) hwd hns⟩
  have hr : va_Run p l e (rmB (d + 1) mc ms) s m args below meth c H locs cells slots 0 0 (F0 m pc ls ((as.map (cv (ga G))).reverse ++ .ref (ga G b) :: st)) st (zQo G Q' (Value.ref (ga G b) :: as.map (cv (ga G))).toArray) (gA G) := by
    rcases k7 with k7 | ⟨host, k7⟩
    · exact va_runV (n := n) (As := as.map (cv (ga G))) (b := ga G b) (rest := st) ⟨hx, hb, hml, hown, hts⟩ hM ⟨callB_of n hts (mW_good k2) rfl rfl rfl (hbig hts k1) (hbig hts k7) k4 hRR, hbig hts k6, hbig hts k8⟩ hpre rfl (by rw [List.length_map]; exact hn) hl.1 rfl hW hd hcs
    · exact va_runVN (n := n) (As := as.map (cv (ga G))) (b := ga G b) (rest := st) ⟨hx, hb, hml, hown, hts⟩ hM ⟨va_cnB n hts (mW_good k2) rfl rfl rfl (hns _ k7) (hbig hts k1) k4 hRR, hbig hts k6, hbig hts k8⟩ hpre rfl (by rw [List.length_map]; exact hn) hl.1 rfl hW hd hcs
  intro T0 hT X0
  obtain ⟨v, st₀, t, T', L0, h0, X', hL, e1, e2, ⟨v', h', hv, hq, hP', hD', hz1, hk1⟩, stp⟩ := hr T0 hT X0
  have hv : v = v'.map (cv (ga G)) := Outcome.returned.inj hv
  subst hv
  rw [h0] at hz1 hk1
  have hS' : va_S (gA G) s.heap T'.heap (locs ++ L0) := by
    refine ⟨Nat.le_trans hS.1 (by rw [e1]; exact hz1), fun q h1 h2 => ?_, fun q hq => ?_⟩
    · rw [e1, hk1 q (Nat.lt_of_lt_of_le h1 hS.1) h2]
      exact hS.2.1 q h1 h2
    · rcases List.mem_append.mp hq with h | h
      · exact hS.2.2 q h
      · exact hL q h
  obtain ⟨t2, a1, b1⟩ := kk v' h' hq p l e s m args below meth c T'.heap (locs ++ L0) ls hc hin ⟨hK, by rw [e1]; exact hP', hD', hS', hA, hO⟩ hl T' rfl X'
  exact ⟨t2, stp t2 a1, b1⟩
theorem bw_callR {M M' : MI} {G : Gx} {d mc ms pc idx ci n b cells slots : Nat} {as st0 st : List Value} {lv : List (Nat × Value)} {h : Hp} {Q : va_W → Prop} {Q' : Option Value → Hp → Prop} {fs : List (Option Nat)} (hd : decode M.2.1 pc = .ok (.invokevirtual idx, 3)) (hk : KV M.1.cls idx M' ci n) (hR : RT M' d (.ref b :: as) h Q') (ho : lay[b]? = some (oO ci fs))
    (hst : st0 = (as.map (cv (ga G))).reverse ++ .ref (ga G b) :: st) (hn : as.length = n) (hcat0 : (as.all fun w => decide (w.category = 1)) = true) (hlen : as.length + 1 ≤ M'.2.2.1) (hz : (st.map fun v => v.category).sum ≤ 8) (hcs : cells ≤ mc ∧ slots ≤ ms)
    (kk : ∀ v h', Q' v h' → BW M (bG G) (d + 1) mc ms (pc + 3) lv ((v.map (cv (ga G))).toList ++ st) (wl G h') cells slots Q) : BW M (bG G) (d + 1) mc ms pc lv st0 (wl G h) cells slots Q := by
  have hcat : ∀ w ∈ as, w.category = 1 := fun w hw => of_decide_eq_true (List.all_eq_true.mp hcat0 w hw)
  intro p l e s m args below meth c H locs ls hc hin hbd hl
  obtain ⟨hx, hb, hr, hml, hown, hts, hns, hlk⟩ := id hc
  obtain ⟨⟨k1, k2, k3, k4, k5⟩, k6, k8, ⟨T, N, kc⟩, k7⟩ := hk
  subst hst
  obtain ⟨hK, hP, hD, hS, hA, hO⟩ := hbd
  have hwd : WD G h s H locs := ⟨hK, hP, hD, hS, hA⟩
  have hM := hR.met k3 (fun w hw => by
    rcases List.mem_cons.mp hw with rfl | hw
    · rfl
    · exact hcat w hw) hlen l G
  have hRR : (rmD d).frames + 1 ≤ (rmB (d + 1) mc ms).frames ∧ 8 + (M'.2.2.1 + 11) + (rmD d).locals ≤ (rmB (d + 1) mc ms).locals := by
    refine ⟨Nat.le_refl _, ?_⟩
    show 8 + (M'.2.2.1 + 11) + 36 * d ≤ 36 * (d + 1)
    omega
  have hW : 2 * (F0 m pc ls ((as.map (cv (ga G))).reverse ++ .ref (ga G b) :: st)).monitorRoom + (st.map fun v => v.category).sum ≤ 8 := lv_room hz
  have hpre : PreV s H M'.1.cls (ga G b) (PcO G (.ref b :: as) h) (as.map (cv (ga G))) := ⟨PcO.blind G _ h, va_recv hwd.1 hwd.2.1 kc (wl_at ho), PcO.pre (as := .ref b :: as) hwd hns⟩
  have hr : va_Run p l e (rmB (d + 1) mc ms) s m args below meth c H locs cells slots 0 0 (F0 m pc ls ((as.map (cv (ga G))).reverse ++ .ref (ga G b) :: st)) st (Qo G Q' (Value.ref (ga G b) :: as.map (cv (ga G))).toArray) (gA G) := by
    rcases k7 with k7 | ⟨host, k7⟩
    · exact va_runV (n := n) (As := as.map (cv (ga G))) (b := ga G b) (rest := st) ⟨hx, hb, hml, hown, hts⟩ hM ⟨callB_of n hts (mW_good k2) rfl rfl rfl (hbig hts k1) (hbig hts k7) k4 hRR, hbig hts k6, hbig hts k8⟩ hpre rfl (by rw [List.length_map]; exact hn) hl.1 rfl hW hd hcs
    · exact va_runVN (n := n) (As := as.map (cv (ga G))) (b := ga G b) (rest := st) ⟨hx, hb, hml, hown, hts⟩ hM ⟨va_cnB n hts (mW_good k2) rfl rfl rfl (hns _ k7) (hbig hts k1) k4 hRR, hbig hts k6, hbig hts k8⟩ hpre rfl (by rw [List.length_map]; exact hn) hl.1 rfl hW hd hcs
  intro T0 hT X0
  obtain ⟨v, st₀, t, T', L0, h0, X', hL, e1, e2, ⟨v', h', hv, hq, hP', hD', hz1, hk1⟩, stp⟩ := hr T0 hT X0
  have hv : v = v'.map (cv (ga G)) := Outcome.returned.inj hv
  subst hv
  rw [h0] at hz1 hk1
  have hS' : va_S (gA G) s.heap T'.heap (locs ++ L0) := by
    refine ⟨Nat.le_trans hS.1 (by rw [e1]; exact hz1), fun q h1 h2 => ?_, fun q hq => ?_⟩
    · rw [e1, hk1 q (Nat.lt_of_lt_of_le h1 hS.1) h2]
      exact hS.2.1 q h1 h2
    · rcases List.mem_append.mp hq with h | h
      · exact hS.2.2 q h
      · exact hL q h
  obtain ⟨t2, a1, b1⟩ := kk v' h' hq p l e s m args below meth c T'.heap (locs ++ L0) ls hc hin ⟨hK, by rw [e1]; exact hP', hD', hS', hA, hO⟩ hl T' rfl X'
  exact ⟨t2, stp t2 a1, b1⟩
