/-! Pile(most) -/
theorem wl_setc {U L : va_W} {x y : Nat × va_E} : (U ++ x :: L).set U.length y = U ++ y :: L := by
  rw [List.set_append_right _ _ (Nat.le_refl _), Nat.sub_self]
  rfl
theorem wl_getc {U L : va_W} {x : Nat × va_E} : (U ++ x :: L)[U.length]? = some x := by
  rw [List.getElem?_append_right (Nat.le_refl _), Nat.sub_self]
  rfl
/-- one turn of its loop -/
theorem p_it {B : BG} {d mc ms k n q r k0 cells slots : Nat} {f : Nat → Option Nat} {U L : va_W} {Q : va_W → Prop} (h0 : U[k0]? = some (q, .inr (0, [.ref r, .int 0]))) (hk : k < n) (hn : n ≤ 8) (hcs : cells + 3 ≤ mc ∧ slots + 19 ≤ ms)
    (kk : ∀ s a b, BW mX0_init B (d + 2) mc ms 18 [(2, .int (nI (k + 1))), (0, .ref q), (1, .int (nI n))] [] (U ++ (r, ra B n (va_up f k (some s))) :: (L ++ [(s, .inr (4, [.ref a, .ref b, .int 0])), (a, ia B 8), (b, ia B 8)])) (cells + 3) (slots + 19) Q) :
    BW mX0_init B (d + 2) mc ms 18 [(2, .int (nI k)), (0, .ref q), (1, .int (nI n))] [] (U ++ (r, ra B n f) :: L) cells slots Q := by
  have h1 : (U ++ (r, ra B n f) :: L)[U.length]? = some (r, ra B n f) := wl_getc
  refine bw_iload 0 dX0_init_18 rfl ?_
  refine bw_aload 1 dX0_init_19 rfl ?_
  refine bw_get dX0_init_20 fX0_15 (ap_at h0) rfl ?_
  refine bw_alenR dX0_init_23 h1 ?_
  refine bw_icmp_ge (tgt := 46) dX0_init_24 (by decide) (by omega) (by omega) (fun z => absurd z (by omega)) (fun _ => ?_)
  refine bw_aload 1 dX0_init_27 rfl ?_
  refine bw_get dX0_init_28 fX0_15 (ap_at h0) rfl ?_
  refine bw_iload 0 dX0_init_31 rfl ?_
  refine bw_new (ci := 4) (fs := [.null, .null, .int 0]) (C := RX4) (T := TX4) (N := 3) dX0_init_32 rfl inX4 tyX4 tyX4_ok (bigI 143 (by decide +kernel) rfl) (bigI 119 (by decide +kernel) rfl) (bigI 50 (by decide +kernel) rfl) (fun j hj => by rcases (show j = 0 ∨ j = 1 ∨ j = 2 by omega) with rfl | rfl | rfl <;> rfl) ⟨by omega, by omega⟩ (fun s => ?_)
  refine bw_dup dX0_init_35 ?_
  refine bw_callI (as := []) (st := [.ref s, .int (nI k), .ref r]) dX0_init_36 iX0_21 (b_X4_init ap_last) rfl rfl (Nat.le_of_ble_eq_true rfl) (Nat.le_of_ble_eq_true rfl) ⟨by omega, by omega⟩ ?_
  rintro _ ⟨a, b, rfl⟩
  rw [ap_setl, List.append_assoc, List.append_assoc]
  refine bw_aast (n := n) (f := f) (q0 := U.length) (qk := U.length + (L.length + 1)) (vs := [.ref a, .ref b, .int 0]) dX0_init_39 wl_getc ?_ hk (by omega) ?_
  · rw [List.getElem?_append_right (by omega), Nat.add_sub_cancel_left, List.cons_append, List.getElem?_cons_succ]
    exact wl_getc
  rw [List.cons_append, wl_setc]
  refine bw_iinc (i := 2) (k := 0) (v := nI (k + 1)) (lv' := [(2, .int (nI (k + 1))), (0, .ref q), (1, .int (nI n))]) dX0_init_40 rfl (nI_add k 1) (by decide) rfl ?_
  refine bw_goto (tgt := 18) dX0_init_43 (by decide) ?_
  exact kk s a b
/-- its end -/
theorem p_end {B : BG} {d mc ms n q r k0 cells slots : Nat} {f : Nat → Option Nat} {U L : va_W} {Q : va_W → Prop} (h0 : U[k0]? = some (q, .inr (0, [.ref r, .int 0]))) (hn : n ≤ 8) (hcs : cells ≤ mc ∧ slots ≤ ms) (hq : Q (U ++ (r, ra B n f) :: L)) :
    BW mX0_init B (d + 2) mc ms 18 [(2, .int (nI n)), (0, .ref q), (1, .int (nI n))] [] (U ++ (r, ra B n f) :: L) cells slots Q := by
  refine bw_iload 0 dX0_init_18 rfl ?_
  refine bw_aload 1 dX0_init_19 rfl ?_
  refine bw_get dX0_init_20 fX0_15 (ap_at h0) rfl ?_
  refine bw_alenR dX0_init_23 wl_getc ?_
  refine bw_icmp_ge (tgt := 46) dX0_init_24 (by decide) (by omega) (by omega) (fun _ => ?_) (fun z => absurd (Nat.le_refl n) z)
  exact bw_vret dX0_init_46 rfl hcs hq
abbrev va_E9 (r : Nat) : va_E := .inr (0, [.ref r, .int 0])
theorem up8 {s0 s1 s2 s3 s4 s5 s6 s7 : Nat} : (va_up (va_up (va_up (va_up (va_up (va_up (va_up (va_up (fun _ => none) 0 (some s0)) 1 (some s1)) 2 (some s2)) 3 (some s3)) 4 (some s4)) 5 (some s5)) 6 (some s6)) 7 (some s7)) = (fun j => ([s0, s1, s2, s3, s4, s5, s6, s7] : List Nat)[j]?) := by
  funext j
  rcases j with _ | _ | _ | _ | _ | _ | _ | _ | j <;> simp [va_up]
theorem b_X0_8 {B : BG} {d k q : Nat} {ws : va_W} (he : ws[k]? = some (q, .inr (0, [.null, .int 0]))) : BW mX0_init B (d + 2) 25 160 0 [(0, .ref q), (1, .int (nI 8))] [] ws 0 0 (fun ws2 => ∃ r s0 a0 b0 s1 a1 b1 s2 a2 b2 s3 a3 b3 s4 a4 b4 s5 a5 b5 s6 a6 b6 s7 a7 b7, ws2 = ws.set k (q, .inr (0, [.ref r, .int 0])) ++ [(r, ra B 8 (fun j => ([s0, s1, s2, s3, s4, s5, s6, s7] : List Nat)[j]?)), (s0, .inr (4, [.ref a0, .ref b0, .int 0])), (a0, ia B 8), (b0, ia B 8), (s1, .inr (4, [.ref a1, .ref b1, .int 0])), (a1, ia B 8), (b1, ia B 8), (s2, .inr (4, [.ref a2, .ref b2, .int 0])), (a2, ia B 8), (b2, ia B 8), (s3, .inr (4, [.ref a3, .ref b3, .int 0])), (a3, ia B 8), (b3, ia B 8), (s4, .inr (4, [.ref a4, .ref b4, .int 0])), (a4, ia B 8), (b4, ia B 8), (s5, .inr (4, [.ref a5, .ref b5, .int 0])), (a5, ia B 8), (b5, ia B 8), (s6, .inr (4, [.ref a6, .ref b6, .int 0])), (a6, ia B 8), (b6, ia B 8), (s7, .inr (4, [.ref a7, .ref b7, .int 0])), (a7, ia B 8), (b7, ia B 8)]) := by
  have hk : k < ws.length := (List.getElem?_eq_some_iff.mp he).1
  refine bw_aload 0 dX0_init_0 rfl ?_
  refine bw_obj dX0_init_1 (bigI 139 (by decide +kernel) rfl) (Nat.zero_le _) ?_
  refine bw_aload 0 dX0_init_4 rfl ?_
  refine bw_iconst (nI 1) dX0_init_5 rfl ?_
  refine bw_iload 1 dX0_init_6 rfl ?_
  refine bw_mmax dX0_init_7 kX0_7 (Nat.le_of_ble_eq_true rfl) ⟨by omega, by omega⟩ ?_
  rw [show (if nI 1 < nI 8 then nI 8 else nI 1) = nI 8 from by decide]
  refine bw_newR dX0_init_10 (bigI 143 (by decide +kernel) rfl) (by decide) ⟨by omega, by omega⟩ (fun r => ?_)
  refine bw_putF (k := 0) (q0 := k) (ty := .array (.object "BirthdayRooms$Standing")) (C := RX0) (T := TX0) (N := 2) dX0_init_13 rfl (by decide) (bigI 146 (by decide +kernel) rfl) inX0 tyX0 tyX0_ok nmX0 rfl rfl (by decide +kernel) rfl rfl (ap_at he) (Nat.le_of_ble_eq_true rfl) ?_
  rw [ap_set hk]
  refine bw_iconst (nI 0) dX0_init_16 rfl ?_
  refine bw_istore (lv' := [(2, .int (nI 0)), (0, .ref q), (1, .int (nI 8))]) dX0_init_17 (by decide) rfl ?_
  have h0 : (ws.set k (q, va_E9 r))[k]? = some (q, va_E9 r) := st_at hk
  refine p_it h0 (by omega) (by omega) ⟨by omega, by omega⟩ (fun s0 a0 b0 => ?_)
  refine p_it h0 (by omega) (by omega) ⟨by omega, by omega⟩ (fun s1 a1 b1 => ?_)
  refine p_it h0 (by omega) (by omega) ⟨by omega, by omega⟩ (fun s2 a2 b2 => ?_)
  refine p_it h0 (by omega) (by omega) ⟨by omega, by omega⟩ (fun s3 a3 b3 => ?_)
  refine p_it h0 (by omega) (by omega) ⟨by omega, by omega⟩ (fun s4 a4 b4 => ?_)
  refine p_it h0 (by omega) (by omega) ⟨by omega, by omega⟩ (fun s5 a5 b5 => ?_)
  refine p_it h0 (by omega) (by omega) ⟨by omega, by omega⟩ (fun s6 a6 b6 => ?_)
  refine p_it h0 (by omega) (by omega) ⟨by omega, by omega⟩ (fun s7 a7 b7 => ?_)
  refine p_end h0 (by omega) ⟨by omega, by omega⟩ ?_
  rw [up8]
  exact ⟨r, s0, a0, b0, s1, a1, b1, s2, a2, b2, s3, a3, b3, s4, a4, b4, s5, a5, b5, s6, a6, b6, s7, a7, b7, rfl⟩
theorem up2 {s0 s1 : Nat} : (va_up (va_up (fun _ => none) 0 (some s0)) 1 (some s1)) = (fun j => ([s0, s1] : List Nat)[j]?) := by
  funext j
  rcases j with _ | _ | j <;> simp [va_up]
theorem b_X0_2 {B : BG} {d k q : Nat} {ws : va_W} (he : ws[k]? = some (q, .inr (0, [.null, .int 0]))) : BW mX0_init B (d + 2) 7 40 0 [(0, .ref q), (1, .int (nI 2))] [] ws 0 0 (fun ws2 => ∃ r s0 a0 b0 s1 a1 b1, ws2 = ws.set k (q, .inr (0, [.ref r, .int 0])) ++ [(r, ra B 2 (fun j => ([s0, s1] : List Nat)[j]?)), (s0, .inr (4, [.ref a0, .ref b0, .int 0])), (a0, ia B 8), (b0, ia B 8), (s1, .inr (4, [.ref a1, .ref b1, .int 0])), (a1, ia B 8), (b1, ia B 8)]) := by
  have hk : k < ws.length := (List.getElem?_eq_some_iff.mp he).1
  refine bw_aload 0 dX0_init_0 rfl ?_
  refine bw_obj dX0_init_1 (bigI 139 (by decide +kernel) rfl) (Nat.zero_le _) ?_
  refine bw_aload 0 dX0_init_4 rfl ?_
  refine bw_iconst (nI 1) dX0_init_5 rfl ?_
  refine bw_iload 1 dX0_init_6 rfl ?_
  refine bw_mmax dX0_init_7 kX0_7 (Nat.le_of_ble_eq_true rfl) ⟨by omega, by omega⟩ ?_
  rw [show (if nI 1 < nI 2 then nI 2 else nI 1) = nI 2 from by decide]
  refine bw_newR dX0_init_10 (bigI 143 (by decide +kernel) rfl) (by decide) ⟨by omega, by omega⟩ (fun r => ?_)
  refine bw_putF (k := 0) (q0 := k) (ty := .array (.object "BirthdayRooms$Standing")) (C := RX0) (T := TX0) (N := 2) dX0_init_13 rfl (by decide) (bigI 146 (by decide +kernel) rfl) inX0 tyX0 tyX0_ok nmX0 rfl rfl (by decide +kernel) rfl rfl (ap_at he) (Nat.le_of_ble_eq_true rfl) ?_
  rw [ap_set hk]
  refine bw_iconst (nI 0) dX0_init_16 rfl ?_
  refine bw_istore (lv' := [(2, .int (nI 0)), (0, .ref q), (1, .int (nI 2))]) dX0_init_17 (by decide) rfl ?_
  have h0 : (ws.set k (q, va_E9 r))[k]? = some (q, va_E9 r) := st_at hk
  refine p_it h0 (by omega) (by omega) ⟨by omega, by omega⟩ (fun s0 a0 b0 => ?_)
  refine p_it h0 (by omega) (by omega) ⟨by omega, by omega⟩ (fun s1 a1 b1 => ?_)
  refine p_end h0 (by omega) ⟨by omega, by omega⟩ ?_
  rw [up2]
  exact ⟨r, s0, a0, b0, s1, a1, b1, rfl⟩
