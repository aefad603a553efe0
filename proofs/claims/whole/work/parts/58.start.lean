/-! WHAT HOLDS AT THE LAW's ENTRY -/
theorem w_known {s : State} {args : Array Value} (hts : ∀ w ∈ lw_tbl, w.before args s = true) : ∃ (D : va_G) (cs : ClassId × ClassId × ClassId), va_K D vwCl [(cs.1, .int), (cs.2.1, .char), (cs.2.2, .object RX4)] s := by
  have hbg : ∀ w ∈ bigW, w.before args s = true := fun w hw => hts w (List.mem_filter.mp hw).1
  obtain ⟨c0, i0, k0⟩ := u_known (C := RX0) (T := TX0) (N := 2) (n := 2) hbg inX0 (hbg _ (bigI 135 (by decide +kernel) rfl))
  obtain ⟨c1, i1, k1⟩ := u_known (C := RX1) (T := TX1) (N := 7) (n := 7) hbg inX1 (hbg _ (bigI 91 (by decide +kernel) rfl))
  obtain ⟨c2, i2, k2⟩ := u_known (C := RX2) (T := TX2) (N := 5) (n := 5) hbg inX2 (hbg _ (bigI 197 (by decide +kernel) rfl))
  obtain ⟨c3, i3, k3⟩ := u_known (C := RX3) (T := TX3) (N := 4) (n := 4) hbg inX3 (hbg _ (bigI 154 (by decide +kernel) rfl))
  obtain ⟨c4, i4, k4⟩ := u_known (C := RX4) (T := TX4) (N := 3) (n := 3) hbg inX4 (hbg _ (bigI 119 (by decide +kernel) rfl))
  obtain ⟨c5, i5, k5⟩ := u_known (C := RX5) (T := TX5) (N := 4) (n := 4) hbg inX5 (hbg _ (bigI 70 (by decide +kernel) rfl))
  obtain ⟨c6, i6, k6⟩ := u_known (C := RX6) (T := TX6) (N := 5) (n := 5) hbg inX6 (hbg _ (bigI 173 (by decide +kernel) rfl))
  obtain ⟨c7, i7, k7⟩ := u_known (C := RX7) (T := TX7) (N := 10) (n := 10) hbg inX7 (hbg _ (bigI 62 (by decide +kernel) rfl))
  obtain ⟨c8, i8, k8⟩ := u_known (C := RX8) (T := TX8) (N := 25) (n := 25) hbg inX8 (hbg _ (bigI 804 (by decide +kernel) rfl))
  obtain ⟨cI, kI, pI, f1, f2, f3⟩ := Cond.arrayClass_spec (type := .int) (hbg _ (bigI 89 (by decide +kernel) rfl))
  obtain ⟨cC, kC, pC, g1, g2, g3⟩ := Cond.arrayClass_spec (type := .char) (hbg _ (bigI 88 (by decide +kernel) rfl))
  obtain ⟨pR, cR, kR, r1, r2, r3, r4, r5⟩ := Cond.arrayOver_spec (hts (.arrayOver (.object RX4)) (List.mem_of_getElem? (i := 144) (by decide +kernel)))
  refine ⟨(fun k => [c0, c1, c2, c3, c4, c5, c6, c7, c8].getD k c0, fun k => [i0, i1, i2, i3, i4, i5, i6, i7, i8].getD k i0), (cI, cC, cR), ?_, ?_⟩
  · intro k q hq
    match k, hq with
    | 0, hq => cases hq; exact k0
    | 1, hq => cases hq; exact k1
    | 2, hq => cases hq; exact k2
    | 3, hq => cases hq; exact k3
    | 4, hq => cases hq; exact k4
    | 5, hq => cases hq; exact k5
    | 6, hq => cases hq; exact k6
    | 7, hq => cases hq; exact k7
    | 8, hq => cases hq; exact k8
    | k + 9, hq => simp [vwCl] at hq
  · intro k q hq
    match k, hq with
    | 0, hq => cases hq; exact ⟨fun n z => ⟨(fun k h => by cases h), kI, f2, pI, f3⟩, f1⟩
    | 1, hq => cases hq; exact ⟨fun n z => ⟨(fun k h => by cases h), kC, g2, pC, g3⟩, g1⟩
    | 2, hq => cases hq; exact ⟨fun n z => ⟨(fun k h => by cases h), kR, r3, pR, r4⟩, kR, pR, r3, r4, r1, r5⟩
    | k + 3, hq => simp at hq
def stV : Term := .field (.string "BirthdayRooms" 73) "java/lang/String" "value" "[B"
set_option maxRecDepth 20000 in
theorem fl_el : ∀ j : Fin 77, (flatC (Jvm.Cond.and given_1 narrow_1))[13 + j.val]? = some (Cond.eq (.elem stV (.int (Int32.ofNat j.val))) (.int (nI (FHn j.val)))) := by decide +kernel
theorem w_sk {s : State} {args : Array Value} {A : Nat → Prop} (hts : ∀ w ∈ lw_tbl, w.before args s = true) (hgv : (Jvm.Cond.and given_1 narrow_1).before args s = true) (hA : ∀ a : Nat, a < s.heap.size → ¬ A a) : SKE A s := by
  have hs := flat_of_before _ hgv
  have at0 : ∀ (i : Nat) (w : Cond), (flatC (Jvm.Cond.and given_1 narrow_1))[i]? = some w → w.before args s = true := fun i w hw => hs w (List.mem_of_getElem? hw)
  have tb : ∀ (i : Nat) (w : Cond), lw_tbl[i]? = some w → w.before args s = true := fun i w hw => hts w (List.mem_of_getElem? hw)
  have hco := at0 10 (Cond.eq (.field (.string "BirthdayRooms" 73) "java/lang/String" "coder" "B") (.int 0)) (by decide +kernel)
  have hex := at0 9 (Cond.exactly (.string "BirthdayRooms" 73) "java/lang/String") (by decide +kernel)
  have har := at0 11 (Cond.arrayOf stV .byte) (by decide +kernel)
  have hle := at0 12 (Cond.eq (.length stV) (.int (Int32.ofNat 77))) (by decide +kernel)
  have hel : ∀ j : Nat, j < 77 → (Term.elem stV (.int (Int32.ofNat j))).eval args s none [] s = some (.int (nI (FHn j))) := fun j hj => va_eqt (at0 _ _ (fl_el ⟨j, hj⟩))
  have hcp := at0 4 (Cond.eq (.static "java/lang/String" "COMPACT_STRINGS" "Z") (.int 1)) (by decide +kernel)
  have hsf := at0 5 (Cond.isRef (.static "jdk/internal/util/Preconditions" "SIOOBE_FORMATTER" "Ljava/util/function/BiFunction;")) (by decide +kernel)
  obtain ⟨a, c, cA, kA, q1, q2, q3, q4, q5, q6, -⟩ := Cond.exactly_spec (args := args) (first := s) (o := none) (s := s) (idx := []) (t := .string "BirthdayRooms" 73) (cls := "java/lang/String") hex
  obtain ⟨t, ht, hT⟩ := va_Tof (N := 77) (f := fun j => .int (nI (FHn j))) (A := A) (by decide) har (va_eqt hle) hel hA
  have hZ := va_Zof (A := A) (tb 228 (.laysStatic "java/lang/String" "COMPACT_STRINGS" "Z") (by decide +kernel)) (tb 56 (.initialized "java/lang/String") (by decide +kernel)) (va_eqi hcp) hA
  have hq := va_Zqof (A := A) (tb 244 (.laysStatic "jdk/internal/util/Preconditions" "SIOOBE_FORMATTER" "Ljava/util/function/BiFunction;") (by decide +kernel)) (tb 58 (.initialized "jdk/internal/util/Preconditions") (by decide +kernel)) hsf hA
  have hR : vk_R RX7 73 fhT a s := vk_R.of (tb 218 (.stringRef RX7 73 fhT) (by decide +kernel)) q1
  have hO : va_O "java/lang/String" a A s s.heap := ⟨cA, q3, q5, by rw [q6]; exact q2, hA a (Array.getElem?_eq_some_iff.mp q3).1⟩
  have hF : va_OF "java/lang/String" "coder" "B" (.int 0) a A s s.heap := vk_OFof q1 (va_eqt hco) hA
  have hV : va_OF "java/lang/String" "value" "[B" (.ref t) a A s s.heap := vk_OFof q1 ht hA
  rcases hq with hq | ⟨u, hq⟩
  · exact ⟨(a, t, .null), hR, hO, hF, hV, hT, hZ, hq, rfl⟩
  · exact ⟨(a, t, .ref u), hR, hO, hF, hV, hT, hZ, hq, rfl⟩
/-- the law calls a constructor -/
theorem la_callI {p : Program} {l : Launch} {e : Env} {s : State} {m : MethodId} {args : Array Value} {below : List Frame} {meth : Method} {c : Code} {b L : Nat} {xs : Nat → Int32} {H : Heap} {locs : List Loc} {ls : Array Slot} {C0 S0 : Nat} {Q : State → Prop} {y : MethodName} {cc : ByteArray} {maxL : Nat} {B : BG} {mc' ms' pc idx n r : Nat} {as st0 st : List Value} {ws : va_W} {Q' : va_W → Prop} (K : LK p s m args c b L xs) (hd : decode cL_law pc = .ok (.invokespecial idx, 3)) (hk : KI RL idx (y, cc, maxL, none) n) (hR : BW (y, cc, maxL, none) B 8 mc' ms' 0 (lv_args 0 (.ref r :: as)) [] ws 0 0 Q')
    (hst : st0 = as.reverse ++ .ref r :: st) (hn : as.length = n) (hlen : (lg_sl (.ref r :: as)).length ≤ maxL) (hz : (st.map fun v => v.category).sum ≤ 8) (hsz : ls.size = 4) (hbd : BD B ws s H locs) (hcs : C0 + mc' ≤ room_1.cells ∧ S0 + ms' ≤ room_1.slots)
    (kk : ∀ ws2 H' locs', Q' ws2 → BD B ws2 s H' locs' → W p l e room_1 s m args below meth c H' locs' (C0 + mc') (S0 + ms') Q (F0 m (pc + 3) ls st)) : W p l e room_1 s m args below meth c H locs C0 S0 Q (F0 m pc ls st0) := by
  obtain ⟨hx, hb, hml, hown, hts, hns, -, -⟩ := K
  obtain ⟨⟨k1, k2, k3, k4, k5⟩, k9, k6, k7⟩ := hk
  subst hst
  have hM := hR.met k3 k9 hlen l
  have hRR : (rmB 8 mc' ms').frames + 1 ≤ room_1.frames ∧ 8 + (maxL + 11) + (rmB 8 mc' ms').locals ≤ room_1.locals := by
    refine ⟨Nat.le_of_ble_eq_true rfl, ?_⟩
    have k5 : maxL ≤ 17 := k5
    show 8 + (maxL + 11) + 36 * 8 ≤ 330
    omega
  have hW : 2 * (F0 m pc ls (as.reverse ++ .ref r :: st)).monitorRoom + (st.map fun v => v.category).sum ≤ 8 := lv_room hz
  have hpre : PreS s H (PcB B (.ref r :: as) ws) (.ref r :: as) := ⟨PcB.blind B _ ws, PcB.pre hbd hns⟩
  have hr : va_Run p l e room_1 s m args below meth c H locs C0 S0 mc' ms' (F0 m pc ls (as.reverse ++ .ref r :: st)) st (BQ B Q' (Value.ref r :: as).toArray) B.2.2 := by
    rcases k7 with k7 | ⟨host, k7⟩
    · exact va_runI (n := n) (As := as) (b := r) (rest := st) ⟨hx, hb, hml, hown, hts⟩ hM ⟨callB_of n hts (bg_good k2) rfl rfl rfl (hts _ k1) (hts _ k7) k4 hRR, k9, hts _ k6⟩ hpre rfl hn hsz rfl hW hd hcs
    · exact va_runIN (n := n) (As := as) (b := r) (rest := st) ⟨hx, hb, hml, hown, hts⟩ hM ⟨va_cnB n hts (bg_good k2) rfl rfl rfl (hns _ k7) (hts _ k1) k4 hRR, k9, hts _ k6⟩ hpre rfl hn hsz rfl hW hd hcs
  obtain ⟨hK, hP, hD, hS, hA, hO⟩ := hbd
  intro T0 hT X0
  obtain ⟨v, st₀, t, T', L0, h0, X', hL, e1, e2, ⟨ws2, hv, hq, hP', hD', hz1, hk1⟩, stp⟩ := hr T0 hT X0
  cases hv
  rw [h0] at hz1 hk1
  have hS' : va_S B.2.2 s.heap T'.heap (locs ++ L0) := by
    refine ⟨Nat.le_trans hS.1 (by rw [e1]; exact hz1), fun q h1 h2 => ?_, fun q hq => ?_⟩
    · rw [e1, hk1 q (Nat.lt_of_lt_of_le h1 hS.1) h2]
      exact hS.2.1 q h1 h2
    · rcases List.mem_append.mp hq with h | h
      · exact hS.2.2 q h
      · exact hL q h
  obtain ⟨t2, a1, b1⟩ := kk ws2 T'.heap (locs ++ L0) hq ⟨hK, by rw [e1]; exact hP', hD', hS', hA, hO⟩ T' rfl X'
  exact ⟨t2, stp t2 a1, b1⟩
