/-! THE CONSTRUCTORS -/
theorem ap_at {ws r : va_W} {k : Nat} {x : Nat × va_E} (he : ws[k]? = some x) : (ws ++ r)[k]? = some x := by
  rw [List.getElem?_append_left (List.getElem?_eq_some_iff.mp he).1]
  exact he
theorem ap_set {ws r : va_W} {k : Nat} {y : Nat × va_E} (hk : k < ws.length) : (ws ++ r).set k y = ws.set k y ++ r := List.set_append_left k y hk
theorem st_at {ws : va_W} {k : Nat} {y : Nat × va_E} (hk : k < ws.length) : (ws.set k y)[k]? = some y := by
  rw [List.getElem?_set_self hk]

theorem b_X4_init {B : BG} {d k q : Nat} {ws : va_W} (he : ws[k]? = some (q, .inr (4, [.null, .null, .int 0]))) : BW mX4_init B (d + 1) 2 16 0 [(0, .ref q)] [] ws 0 0 (fun ws2 => ∃ a0 a1, ws2 = ws.set k (q, .inr (4, [.ref a0, .ref a1, .int 0])) ++ [(a0, ia B 8), (a1, ia B 8)]) := by
  have hk : k < ws.length := (List.getElem?_eq_some_iff.mp he).1
  refine bw_aload 0 dX4_init_0 rfl ?_
  refine bw_obj dX4_init_1 (bigI 123 (by decide +kernel) rfl) (Nat.zero_le _) ?_
  refine bw_aload 0 dX4_init_4 rfl ?_
  refine bw_bipush (nI 8) dX4_init_5 rfl ?_
  refine bw_newI dX4_init_7 (by decide) ⟨by omega, by omega⟩ (fun a0 => ?_)
  refine bw_putF (k := 0) (q0 := k) (ty := .array .int) (C := RX4) (T := TX4) (N := 3) dX4_init_9 rfl (by decide) (bigI 124 (by decide +kernel) rfl) inX4 tyX4 tyX4_ok nmX4 rfl rfl (by decide +kernel) rfl rfl (ap_at he) (Nat.le_of_ble_eq_true rfl) ?_
  rw [ap_set hk]
  refine bw_aload 0 dX4_init_12 rfl ?_
  refine bw_bipush (nI 8) dX4_init_13 rfl ?_
  refine bw_newI dX4_init_15 (by decide) ⟨by omega, by omega⟩ (fun a1 => ?_)
  refine bw_putF (k := 1) (q0 := k) (ty := .array .int) (C := RX4) (T := TX4) (N := 3) dX4_init_17 rfl (by decide) (bigI 125 (by decide +kernel) rfl) inX4 tyX4 tyX4_ok nmX4 rfl rfl (by decide +kernel) rfl rfl (ap_at (ap_at (st_at hk))) (Nat.le_of_ble_eq_true rfl) ?_
  rw [List.append_assoc, ap_set (by rw [List.length_set]; exact hk), List.set_set]
  exact bw_vret dX4_init_20 rfl ⟨by omega, by omega⟩ ⟨a0, a1, rfl⟩
theorem b_X5_init {B : BG} {d k q : Nat} {ws : va_W} (he : ws[k]? = some (q, .inr (5, [.null, .null, .int 0, .int 0]))) : BW mX5_init B (d + 1) 2 203 0 [(0, .ref q)] [] ws 0 0 (fun ws2 => ∃ a0 a1, ws2 = ws.set k (q, .inr (5, [.ref a0, .ref a1, .int 0, .int 0])) ++ [(a0, ca B 200), (a1, ia B 3)]) := by
  have hk : k < ws.length := (List.getElem?_eq_some_iff.mp he).1
  refine bw_aload 0 dX5_init_0 rfl ?_
  refine bw_obj dX5_init_1 (bigI 74 (by decide +kernel) rfl) (Nat.zero_le _) ?_
  refine bw_aload 0 dX5_init_4 rfl ?_
  refine bw_sipush (nI 200) dX5_init_5 rfl ?_
  refine bw_newC dX5_init_8 (by decide) ⟨by omega, by omega⟩ (fun a0 => ?_)
  refine bw_putF (k := 0) (q0 := k) (ty := .array .char) (C := RX5) (T := TX5) (N := 4) dX5_init_10 rfl (by decide) (bigI 75 (by decide +kernel) rfl) inX5 tyX5 tyX5_ok nmX5 rfl rfl (by decide +kernel) rfl rfl (ap_at he) (Nat.le_of_ble_eq_true rfl) ?_
  rw [ap_set hk]
  refine bw_aload 0 dX5_init_13 rfl ?_
  refine bw_iconst (nI 3) dX5_init_14 rfl ?_
  refine bw_newI dX5_init_15 (by decide) ⟨by omega, by omega⟩ (fun a1 => ?_)
  refine bw_putF (k := 1) (q0 := k) (ty := .array .int) (C := RX5) (T := TX5) (N := 4) dX5_init_17 rfl (by decide) (bigI 76 (by decide +kernel) rfl) inX5 tyX5 tyX5_ok nmX5 rfl rfl (by decide +kernel) rfl rfl (ap_at (ap_at (st_at hk))) (Nat.le_of_ble_eq_true rfl) ?_
  rw [List.append_assoc, ap_set (by rw [List.length_set]; exact hk), List.set_set]
  exact bw_vret dX5_init_20 rfl ⟨by omega, by omega⟩ ⟨a0, a1, rfl⟩
theorem b_X1_init {B : BG} {d k q : Nat} {ws : va_W} (he : ws[k]? = some (q, .inr (1, [.null, .null, .null, .null, .null, .int 0, .int 0]))) : BW mX1_init B (d + 1) 5 40 0 [(0, .ref q)] [] ws 0 0 (fun ws2 => ∃ a0 a1 a2 a3 a4, ws2 = ws.set k (q, .inr (1, [.ref a0, .ref a1, .ref a2, .ref a3, .ref a4, .int 0, .int 0])) ++ [(a0, ia B 8), (a1, ia B 8), (a2, ia B 8), (a3, ia B 8), (a4, ia B 8)]) := by
  have hk : k < ws.length := (List.getElem?_eq_some_iff.mp he).1
  refine bw_aload 0 dX1_init_0 rfl ?_
  refine bw_obj dX1_init_1 (bigI 95 (by decide +kernel) rfl) (Nat.zero_le _) ?_
  refine bw_aload 0 dX1_init_4 rfl ?_
  refine bw_bipush (nI 8) dX1_init_5 rfl ?_
  refine bw_newI dX1_init_7 (by decide) ⟨by omega, by omega⟩ (fun a0 => ?_)
  refine bw_putF (k := 0) (q0 := k) (ty := .array .int) (C := RX1) (T := TX1) (N := 7) dX1_init_9 rfl (by decide) (bigI 96 (by decide +kernel) rfl) inX1 tyX1 tyX1_ok nmX1 rfl rfl (by decide +kernel) rfl rfl (ap_at he) (Nat.le_of_ble_eq_true rfl) ?_
  rw [ap_set hk]
  refine bw_aload 0 dX1_init_12 rfl ?_
  refine bw_bipush (nI 8) dX1_init_13 rfl ?_
  refine bw_newI dX1_init_15 (by decide) ⟨by omega, by omega⟩ (fun a1 => ?_)
  refine bw_putF (k := 1) (q0 := k) (ty := .array .int) (C := RX1) (T := TX1) (N := 7) dX1_init_17 rfl (by decide) (bigI 97 (by decide +kernel) rfl) inX1 tyX1 tyX1_ok nmX1 rfl rfl (by decide +kernel) rfl rfl (ap_at (ap_at (st_at hk))) (Nat.le_of_ble_eq_true rfl) ?_
  rw [List.append_assoc, ap_set (by rw [List.length_set]; exact hk), List.set_set]
  refine bw_aload 0 dX1_init_20 rfl ?_
  refine bw_bipush (nI 8) dX1_init_21 rfl ?_
  refine bw_newI dX1_init_23 (by decide) ⟨by omega, by omega⟩ (fun a2 => ?_)
  refine bw_putF (k := 2) (q0 := k) (ty := .array .int) (C := RX1) (T := TX1) (N := 7) dX1_init_25 rfl (by decide) (bigI 98 (by decide +kernel) rfl) inX1 tyX1 tyX1_ok nmX1 rfl rfl (by decide +kernel) rfl rfl (ap_at (ap_at (st_at hk))) (Nat.le_of_ble_eq_true rfl) ?_
  rw [List.append_assoc, ap_set (by rw [List.length_set]; exact hk), List.set_set]
  refine bw_aload 0 dX1_init_28 rfl ?_
  refine bw_bipush (nI 8) dX1_init_29 rfl ?_
  refine bw_newI dX1_init_31 (by decide) ⟨by omega, by omega⟩ (fun a3 => ?_)
  refine bw_putF (k := 3) (q0 := k) (ty := .array .int) (C := RX1) (T := TX1) (N := 7) dX1_init_33 rfl (by decide) (bigI 99 (by decide +kernel) rfl) inX1 tyX1 tyX1_ok nmX1 rfl rfl (by decide +kernel) rfl rfl (ap_at (ap_at (st_at hk))) (Nat.le_of_ble_eq_true rfl) ?_
  rw [List.append_assoc, ap_set (by rw [List.length_set]; exact hk), List.set_set]
  refine bw_aload 0 dX1_init_36 rfl ?_
  refine bw_bipush (nI 8) dX1_init_37 rfl ?_
  refine bw_newI dX1_init_39 (by decide) ⟨by omega, by omega⟩ (fun a4 => ?_)
  refine bw_putF (k := 4) (q0 := k) (ty := .array .int) (C := RX1) (T := TX1) (N := 7) dX1_init_41 rfl (by decide) (bigI 100 (by decide +kernel) rfl) inX1 tyX1 tyX1_ok nmX1 rfl rfl (by decide +kernel) rfl rfl (ap_at (ap_at (st_at hk))) (Nat.le_of_ble_eq_true rfl) ?_
  rw [List.append_assoc, ap_set (by rw [List.length_set]; exact hk), List.set_set]
  exact bw_vret dX1_init_44 rfl ⟨by omega, by omega⟩ ⟨a0, a1, a2, a3, a4, rfl⟩
theorem b_X3_init {B : BG} {d k q : Nat} {ws : va_W} (he : ws[k]? = some (q, .inr (3, [.null, .null, .null, .int 0]))) : BW mX3_init B (d + 1) 3 24 0 [(0, .ref q)] [] ws 0 0 (fun ws2 => ∃ a0 a1 a2, ws2 = ws.set k (q, .inr (3, [.ref a0, .ref a1, .ref a2, .int 0])) ++ [(a0, ia B 8), (a1, ia B 8), (a2, ia B 8)]) := by
  have hk : k < ws.length := (List.getElem?_eq_some_iff.mp he).1
  refine bw_aload 0 dX3_init_0 rfl ?_
  refine bw_obj dX3_init_1 (bigI 158 (by decide +kernel) rfl) (Nat.zero_le _) ?_
  refine bw_aload 0 dX3_init_4 rfl ?_
  refine bw_bipush (nI 8) dX3_init_5 rfl ?_
  refine bw_newI dX3_init_7 (by decide) ⟨by omega, by omega⟩ (fun a0 => ?_)
  refine bw_putF (k := 0) (q0 := k) (ty := .array .int) (C := RX3) (T := TX3) (N := 4) dX3_init_9 rfl (by decide) (bigI 159 (by decide +kernel) rfl) inX3 tyX3 tyX3_ok nmX3 rfl rfl (by decide +kernel) rfl rfl (ap_at he) (Nat.le_of_ble_eq_true rfl) ?_
  rw [ap_set hk]
  refine bw_aload 0 dX3_init_12 rfl ?_
  refine bw_bipush (nI 8) dX3_init_13 rfl ?_
  refine bw_newI dX3_init_15 (by decide) ⟨by omega, by omega⟩ (fun a1 => ?_)
  refine bw_putF (k := 1) (q0 := k) (ty := .array .int) (C := RX3) (T := TX3) (N := 4) dX3_init_17 rfl (by decide) (bigI 160 (by decide +kernel) rfl) inX3 tyX3 tyX3_ok nmX3 rfl rfl (by decide +kernel) rfl rfl (ap_at (ap_at (st_at hk))) (Nat.le_of_ble_eq_true rfl) ?_
  rw [List.append_assoc, ap_set (by rw [List.length_set]; exact hk), List.set_set]
  refine bw_aload 0 dX3_init_20 rfl ?_
  refine bw_bipush (nI 8) dX3_init_21 rfl ?_
  refine bw_newI dX3_init_23 (by decide) ⟨by omega, by omega⟩ (fun a2 => ?_)
  refine bw_putF (k := 2) (q0 := k) (ty := .array .int) (C := RX3) (T := TX3) (N := 4) dX3_init_25 rfl (by decide) (bigI 161 (by decide +kernel) rfl) inX3 tyX3 tyX3_ok nmX3 rfl rfl (by decide +kernel) rfl rfl (ap_at (ap_at (st_at hk))) (Nat.le_of_ble_eq_true rfl) ?_
  rw [List.append_assoc, ap_set (by rw [List.length_set]; exact hk), List.set_set]
  exact bw_vret dX3_init_28 rfl ⟨by omega, by omega⟩ ⟨a0, a1, a2, rfl⟩
