/-! THE CONSTRUCTORS -/
theorem ap_at {ws r : va_W} {k : Nat} {x : Nat × va_E} (he : ws[k]? = some x) : (ws ++ r)[k]? = some x := by
  rw [List.getElem?_append_left (List.getElem?_eq_some_iff.mp he).1]
  exact he
theorem ap_set {ws r : va_W} {k : Nat} {y : Nat × va_E} (hk : k < ws.length) : (ws ++ r).set k y = ws.set k y ++ r := List.set_append_left k y hk
theorem st_at {ws : va_W} {k : Nat} {y : Nat × va_E} (hk : k < ws.length) : (ws.set k y)[k]? = some y := by
  rw [List.getElem?_set_self hk]

theorem b_X4_init {B : BG} {d k q : Nat} {ws : va_W} (he : ws[k]? = some (q, .inr (4, [.null, .null, .int 0]))) : BW mX4_init B (d + 1) 2 16 0 [(0, .ref q)] [] ws 0 0 (fun ws2 => ∃ a0 a1, ws2 = ws.set k (q, .inr (4, [.ref a0, .ref a1, .int 0])) ++ [(a0, ia B 8), (a1, ia B 8)]) := by
  have hk : k < ws.length := (List.getElem?_eq_some_iff.mp he).1
  refine bw_aload 0 dX4_init_0 rfl ?_
  refine bw_obj dX4_init_1 (bigI 123 (by decide +kernel) rfl) (Nat.zero_le _) ?_
  refine bw_aload 0 dX4_init_4 rfl ?_
  refine bw_bipush (nI 8) dX4_init_5 rfl ?_
  refine bw_newI dX4_init_7 (by decide) ⟨by omega, by omega⟩ (fun a0 => ?_)
  refine bw_putF (k := 0) (q0 := k) (ty := .array .int) (C := RX4) (T := TX4) (N := 3) dX4_init_9 rfl (by decide) (bigI 124 (by decide +kernel) rfl) inX4 tyX4 tyX4_ok nmX4 rfl rfl (by decide +kernel) rfl rfl (ap_at he) (Nat.le_of_ble_eq_true rfl) ?_
  rw [ap_set hk]
  refine bw_aload 0 dX4_init_12 rfl ?_
  refine bw_bipush (nI 8) dX4_init_13 rfl ?_
  refine bw_newI dX4_init_15 (by decide) ⟨by omega, by omega⟩ (fun a1 => ?_)
  refine bw_putF (k := 1) (q0 := k) (ty := .array .int) (C := RX4) (T := TX4) (N := 3) dX4_init_17 rfl (by decide) (bigI 125 (by decide +kernel) rfl) inX4 tyX4 tyX4_ok nmX4 rfl rfl (by decide +kernel) rfl rfl (ap_at (ap_at (st_at hk))) (Nat.le_of_ble_eq_true rfl) ?_
  rw [List.append_assoc, ap_set (by rw [List.length_set]; exact hk), List.set_set]
  exact bw_vret dX4_init_20 rfl ⟨by omega, by omega⟩ ⟨a0, a1, rfl⟩
theorem b_X5_init {B : BG} {d k q : Nat} {ws : va_W} (he : ws[k]? = some (q, .inr (5, [.null, .null, .int 0, .int 0]))) : BW mX5_init B (d + 1) 2 203 0 [(0, .ref q)] [] ws 0 0 (fun ws2 => ∃ a0 a1, ws2 = ws.set k (q, .inr (5, [.ref a0, .ref a1, .int 0, .int 0])) ++ [(a0, ca B 200), (a1, ia B 3)]) := by
  have hk : k < ws.length := (List.getElem?_eq_some_iff.mp he).1
  refine bw_aload 0 dX5_init_0 rfl ?_
  refine bw_obj dX5_init_1 (bigI 74 (by decide +kernel) rfl) (Nat.zero_le _) ?_
  refine bw_aload 0 dX5_init_4 rfl ?_
  refine bw_sipush (nI 200) dX5_init_5 rfl ?_
  refine bw_newC dX5_init_8 (by decide) ⟨by omega, by omega⟩ (fun a0 => ?_)
  refine bw_putF (k := 0) (q0 := k) (ty := .array .char) (C := RX5) (T := TX5) (N := 4) dX5_init_10 rfl (by decide) (bigI 75 (by decide +kernel) rfl) inX5 tyX5 tyX5_ok nmX5 rfl rfl (by decide +kernel) rfl rfl (ap_at he) (Nat.le_of_ble_eq_true rfl) ?_
  rw [ap_set hk]
  refine bw_aload 0 dX5_init_13 rfl ?_
  refine bw_iconst (nI 3) dX5_init_14 rfl ?_
  refine bw_newI dX5_init_15 (by decide) ⟨by omega, by omega⟩ (fun a1 => ?_)
  refine bw_putF (k := 1) (q0 := k) (ty := .array .int) (C := RX5) (T := TX5) (N := 4) dX5_init_17 rfl (by decide) (bigI 76 (by decide +kernel) rfl) inX5 tyX5 tyX5_ok nmX5 rfl rfl (by decide +kernel) rfl rfl (ap_at (ap_at (st_at hk))) (Nat.le_of_ble_eq_true rfl) ?_
  rw [List.append_assoc, ap_set (by rw [List.length_set]; exact hk), List.set_set]
  exact bw_vret dX5_init_20 rfl ⟨by omega, by omega⟩ ⟨a0, a1, rfl⟩
theorem b_X1_init {B : BG} {d k q : Nat} {ws : va_W} (he : ws[k]? = some (q, .inr (1, [.null, .null, .null, .null, .null, .int 0, .int 0]))) : BW mX1_init B (d + 1) 5 40 0 [(0, .ref q)] [] ws 0 0 (fun ws2 => ∃ a0 a1 a2 a3 a4, ws2 = ws.set k (q, .inr (1, [.ref a0, .ref a1, .ref a2, .ref a3, .ref a4, .int 0, .int 0])) ++ [(a0, ia B 8), (a1, ia B 8), (a2, ia B 8), (a3, ia B 8), (a4, ia B 8)]) := by
  have hk : k < ws.length := (List.getElem?_eq_some_iff.mp he).1
  refine bw_aload 0 dX1_init_0 rfl ?_
  refine bw_obj dX1_init_1 (bigI 95 (by decide +kernel) rfl) (Nat.zero_le _) ?_
  refine bw_aload 0 dX1_init_4 rfl ?_
  refine bw_bipush (nI 8) dX1_init_5 rfl ?_
  refine bw_newI dX1_init_7 (by decide) ⟨by omega, by omega⟩ (fun a0 => ?_)
  refine bw_putF (k := 0) (q0 := k) (ty := .array .int) (C := RX1) (T := TX1) (N := 7) dX1_init_9 rfl (by decide) (bigI 96 (by decide +kernel) rfl) inX1 tyX1 tyX1_ok nmX1 rfl rfl (by decide +kernel) rfl rfl (ap_at he) (Nat.le_of_ble_eq_true rfl) ?_
  rw [ap_set hk]
  refine bw_aload 0 dX1_init_12 rfl ?_
  refine bw_bipush (nI 8) dX1_init_13 rfl ?_
  refine bw_newI dX1_init_15 (by decide) ⟨by omega, by omega⟩ (fun a1 => ?_)
  refine bw_putF (k := 1) (q0 := k) (ty := .array .int) (C := RX1) (T := TX1) (N := 7) dX1_init_17 rfl (by decide) (bigI 97 (by decide +kernel) rfl) inX1 tyX1 tyX1_ok nmX1 rfl rfl (by decide +kernel) rfl rfl (ap_at (ap_at (st_at hk))) (Nat.le_of_ble_eq_true rfl) ?_
  rw [List.append_assoc, ap_set (by rw [List.length_set]; exact hk), List.set_set]
  refine bw_aload 0 dX1_init_20 rfl ?_
  refine bw_bipush (nI 8) dX1_init_21 rfl ?_
  refine bw_newI dX1_init_23 (by decide) ⟨by omega, by omega⟩ (fun a2 => ?_)
  refine bw_putF (k := 2) (q0 := k) (ty := .array .int) (C := RX1) (T := TX1) (N := 7) dX1_init_25 rfl (by decide) (bigI 98 (by decide +kernel) rfl) inX1 tyX1 tyX1_ok nmX1 rfl rfl (by decide +kernel) rfl rfl (ap_at (ap_at (st_at hk))) (Nat.le_of_ble_eq_true rfl) ?_
  rw [List.append_assoc, ap_set (by rw [List.length_set]; exact hk), List.set_set]
  refine bw_aload 0 dX1_init_28 rfl ?_
  refine bw_bipush (nI 8) dX1_init_29 rfl ?_
  refine bw_newI dX1_init_31 (by decide) ⟨by omega, by omega⟩ (fun a3 => ?_)
  refine bw_putF (k := 3) (q0 := k) (ty := .array .int) (C := RX1) (T := TX1) (N := 7) dX1_init_33 rfl (by decide) (bigI 99 (by decide +kernel) rfl) inX1 tyX1 tyX1_ok nmX1 rfl rfl (by decide +kernel) rfl rfl (ap_at (ap_at (st_at hk))) (Nat.le_of_ble_eq_true rfl) ?_
  rw [List.append_assoc, ap_set (by rw [List.length_set]; exact hk), List.set_set]
  refine bw_aload 0 dX1_init_36 rfl ?_
  refine bw_bipush (nI 8) dX1_init_37 rfl ?_
  refine bw_newI dX1_init_39 (by decide) ⟨by omega, by omega⟩ (fun a4 => ?_)
  refine bw_putF (k := 4) (q0 := k) (ty := .array .int) (C := RX1) (T := TX1) (N := 7) dX1_init_41 rfl (by decide) (bigI 100 (by decide +kernel) rfl) inX1 tyX1 tyX1_ok nmX1 rfl rfl (by decide +kernel) rfl rfl (ap_at (ap_at (st_at hk))) (Nat.le_of_ble_eq_true rfl) ?_
  rw [List.append_assoc, ap_set (by rw [List.length_set]; exact hk), List.set_set]
  exact bw_vret dX1_init_44 rfl ⟨by omega, by omega⟩ ⟨a0, a1, a2, a3, a4, rfl⟩
theorem b_X3_init {B : BG} {d k q : Nat} {ws : va_W} (he : ws[k]? = some (q, .inr (3, [.null, .null, .null, .int 0]))) : BW mX3_init B (d + 1) 3 24 0 [(0, .ref q)] [] ws 0 0 (fun ws2 => ∃ a0 a1 a2, ws2 = ws.set k (q, .inr (3, [.ref a0, .ref a1, .ref a2, .int 0])) ++ [(a0, ia B 8), (a1, ia B 8), (a2, ia B 8)]) := by
  have hk : k < ws.length := (List.getElem?_eq_some_iff.mp he).1
  refine bw_aload 0 dX3_init_0 rfl ?_
  refine bw_obj dX3_init_1 (bigI 158 (by decide +kernel) rfl) (Nat.zero_le _) ?_
  refine bw_aload 0 dX3_init_4 rfl ?_
  refine bw_bipush (nI 8) dX3_init_5 rfl ?_
  refine bw_newI dX3_init_7 (by decide) ⟨by omega, by omega⟩ (fun a0 => ?_)
  refine bw_putF (k := 0) (q0 := k) (ty := .array .int) (C := RX3) (T := TX3) (N := 4) dX3_init_9 rfl (by decide) (bigI 159 (by decide +kernel) rfl) inX3 tyX3 tyX3_ok nmX3 rfl rfl (by decide +kernel) rfl rfl (ap_at he) (Nat.le_of_ble_eq_true rfl) ?_
  rw [ap_set hk]
  refine bw_aload 0 dX3_init_12 rfl ?_
  refine bw_bipush (nI 8) dX3_init_13 rfl ?_
  refine bw_newI dX3_init_15 (by decide) ⟨by omega, by omega⟩ (fun a1 => ?_)
  refine bw_putF (k := 1) (q0 := k) (ty := .array .int) (C := RX3) (T := TX3) (N := 4) dX3_init_17 rfl (by decide) (bigI 160 (by decide +kernel) rfl) inX3 tyX3 tyX3_ok nmX3 rfl rfl (by decide +kernel) rfl rfl (ap_at (ap_at (st_at hk))) (Nat.le_of_ble_eq_true rfl) ?_
  rw [List.append_assoc, ap_set (by rw [List.length_set]; exact hk), List.set_set]
  refine bw_aload 0 dX3_init_20 rfl ?_
  refine bw_bipush (nI 8) dX3_init_21 rfl ?_
  refine bw_newI dX3_init_23 (by decide) ⟨by omega, by omega⟩ (fun a2 => ?_)
  refine bw_putF (k := 2) (q0 := k) (ty := .array .int) (C := RX3) (T := TX3) (N := 4) dX3_init_25 rfl (by decide) (bigI 161 (by decide +kernel) rfl) inX3 tyX3 tyX3_ok nmX3 rfl rfl (by decide +kernel) rfl rfl (ap_at (ap_at (st_at hk))) (Nat.le_of_ble_eq_true rfl) ?_
  rw [List.append_assoc, ap_set (by rw [List.length_set]; exact hk), List.set_set]
  exact bw_vret dX3_init_28 rfl ⟨by omega, by omega⟩ ⟨a0, a1, a2, rfl⟩
set_option maxRecDepth 20000 in
theorem kcX0_init : KC mX0_init 1 := ⟨bigI 51 (by decide +kernel) rfl, bigI 138 rfl rfl, by decide +kernel, ⟨by decide +kernel, by decide +kernel, by decide +kernel⟩, by decide⟩
set_option maxRecDepth 20000 in
theorem kcX1_init : KC mX1_init 0 := ⟨bigI 49 (by decide +kernel) rfl, bigI 94 rfl rfl, by decide +kernel, ⟨by decide +kernel, by decide +kernel, by decide +kernel⟩, by decide⟩
set_option maxRecDepth 20000 in
theorem kcX2_init : KC mX2_init 2 := ⟨bigI 55 (by decide +kernel) rfl, bigI 200 rfl rfl, by decide +kernel, ⟨by decide +kernel, by decide +kernel, by decide +kernel⟩, by decide⟩
set_option maxRecDepth 20000 in
theorem kcX3_init : KC mX3_init 0 := ⟨bigI 53 (by decide +kernel) rfl, bigI 157 rfl rfl, by decide +kernel, ⟨by decide +kernel, by decide +kernel, by decide +kernel⟩, by decide⟩
set_option maxRecDepth 20000 in
theorem kcX4_init : KC mX4_init 0 := ⟨bigI 50 (by decide +kernel) rfl, bigI 122 rfl rfl, by decide +kernel, ⟨by decide +kernel, by decide +kernel, by decide +kernel⟩, by decide⟩
set_option maxRecDepth 20000 in
theorem kcX5_init : KC mX5_init 0 := ⟨bigI 48 (by decide +kernel) rfl, bigI 73 rfl rfl, by decide +kernel, ⟨by decide +kernel, by decide +kernel, by decide +kernel⟩, by decide⟩
set_option maxRecDepth 20000 in
theorem kcX6_init : KC mX6_init 1 := ⟨bigI 54 (by decide +kernel) rfl, bigI 176 rfl rfl, by decide +kernel, ⟨by decide +kernel, by decide +kernel, by decide +kernel⟩, by decide⟩
set_option maxRecDepth 20000 in
theorem kcX7_init : KC mX7_init 0 := ⟨bigI 47 (by decide +kernel) rfl, bigI 65 rfl rfl, by decide +kernel, ⟨by decide +kernel, by decide +kernel, by decide +kernel⟩, by decide⟩
set_option maxRecDepth 20000 in
theorem kcX8_init : KC mX8_init 0 := ⟨bigI 60 (by decide +kernel) rfl, bigI 807 rfl rfl, by decide +kernel, ⟨by decide +kernel, by decide +kernel, by decide +kernel⟩, by decide⟩
theorem iL_9 : KI RL 9 mX7_init 0 := ⟨kcX7_init, rfl, bigI 64 (by decide +kernel) rfl, Or.inl (bigI 63 (by decide +kernel) rfl)⟩
theorem iX7_11 : KI RX7 11 mX5_init 0 := ⟨kcX5_init, rfl, bigI 72 (by decide +kernel) rfl, Or.inr ⟨"BirthdayRooms", nestI 71 (by decide +kernel) rfl⟩⟩
theorem iX7_18 : KI RX7 18 mX1_init 0 := ⟨kcX1_init, rfl, bigI 93 (by decide +kernel) rfl, Or.inr ⟨"BirthdayRooms", nestI 92 (by decide +kernel) rfl⟩⟩
theorem iX7_28 : KI RX7 28 mX4_init 0 := ⟨kcX4_init, rfl, bigI 121 (by decide +kernel) rfl, Or.inr ⟨"BirthdayRooms", nestI 120 (by decide +kernel) rfl⟩⟩
theorem iX7_38 : KI RX7 38 mX0_init 1 := ⟨kcX0_init, rfl, bigI 137 (by decide +kernel) rfl, Or.inl (bigI 136 (by decide +kernel) rfl)⟩
theorem iX0_21 : KI RX0 21 mX4_init 0 := ⟨kcX4_init, rfl, bigI 121 (by decide +kernel) rfl, Or.inr ⟨"BirthdayRooms", nestI 145 (by decide +kernel) rfl⟩⟩
theorem iX7_50 : KI RX7 50 mX3_init 0 := ⟨kcX3_init, rfl, bigI 156 (by decide +kernel) rfl, Or.inr ⟨"BirthdayRooms", nestI 155 (by decide +kernel) rfl⟩⟩
theorem iX7_57 : KI RX7 57 mX6_init 1 := ⟨kcX6_init, rfl, bigI 175 (by decide +kernel) rfl, Or.inl (bigI 174 (by decide +kernel) rfl)⟩
theorem iX6_11 : KI RX6 11 mX4_init 0 := ⟨kcX4_init, rfl, bigI 121 (by decide +kernel) rfl, Or.inr ⟨"BirthdayRooms", nestI 179 (by decide +kernel) rfl⟩⟩
theorem iX7_66 : KI RX7 66 mX2_init 2 := ⟨kcX2_init, rfl, bigI 199 (by decide +kernel) rfl, Or.inl (bigI 198 (by decide +kernel) rfl)⟩
theorem iL_12 : KI RL 12 mX8_init 0 := ⟨kcX8_init, rfl, bigI 806 (by decide +kernel) rfl, Or.inl (bigI 805 (by decide +kernel) rfl)⟩
theorem b_X2_init {B : BG} {d k q a b : Nat} {ws : va_W} (he : ws[k]? = some (q, .inr (2, [.null, .null, .int 0, .int 0, .int 0]))) : BW mX2_init B (d + 1) 0 0 0 [(0, .ref q), (1, .ref a), (2, .ref b)] [] ws 0 0 (fun ws2 => ws2 = ws.set k (q, .inr (2, [.ref a, .ref b, .int 0, .int 0, .int 0]))) := by
  have hk : k < ws.length := (List.getElem?_eq_some_iff.mp he).1
  refine bw_aload 0 dX2_init_0 rfl ?_
  refine bw_obj dX2_init_1 (bigI 201 (by decide +kernel) rfl) (Nat.zero_le _) ?_
  refine bw_aload 0 dX2_init_4 rfl ?_
  refine bw_aload 1 dX2_init_5 rfl ?_
  refine bw_putF (k := 0) (q0 := k) (ty := .object "BirthdayRooms$Plan") (C := RX2) (T := TX2) (N := 5) dX2_init_6 rfl (by decide) (bigI 202 (by decide +kernel) rfl) inX2 tyX2 tyX2_ok nmX2 rfl rfl (by decide +kernel) rfl rfl he (Nat.le_of_ble_eq_true rfl) ?_
  refine bw_aload 0 dX2_init_9 rfl ?_
  refine bw_aload 2 dX2_init_10 rfl ?_
  refine bw_putF (k := 1) (q0 := k) (ty := .object "BirthdayRooms$Walk") (C := RX2) (T := TX2) (N := 5) dX2_init_11 rfl (by decide) (bigI 203 (by decide +kernel) rfl) inX2 tyX2 tyX2_ok nmX2 rfl rfl (by decide +kernel) rfl rfl (st_at hk) (Nat.le_of_ble_eq_true rfl) ?_
  refine bw_vret dX2_init_14 rfl ⟨by omega, by omega⟩ ?_
  rw [List.set_set]
  rfl
theorem ap_last {ws : va_W} {x : Nat × va_E} : (ws ++ [x])[ws.length]? = some x := by simp
theorem ap_setl {ws : va_W} {x y : Nat × va_E} : (ws ++ [x]).set ws.length y = ws ++ [y] := by simp
/-- Walk(plan): a standing of its own, two rows -/
theorem b_X6_init {B : BG} {d k q pl : Nat} {ws : va_W} (he : ws[k]? = some (q, .inr (6, [.null, .null, .null, .null, .int 0]))) : BW mX6_init B (d + 2) 5 35 0 [(0, .ref q), (1, .ref pl)] [] ws 0 0 (fun ws2 => ∃ s a b f g, ws2 = ws.set k (q, .inr (6, [.ref pl, .ref s, .ref f, .ref g, .int 0])) ++ [(s, .inr (4, [.ref a, .ref b, .int 0])), (a, ia B 8), (b, ia B 8), (f, ia B 8), (g, ia B 8)]) := by
  have hk : k < ws.length := (List.getElem?_eq_some_iff.mp he).1
  refine bw_aload 0 dX6_init_0 rfl ?_
  refine bw_obj dX6_init_1 (bigI 177 (by decide +kernel) rfl) (Nat.zero_le _) ?_
  refine bw_aload 0 dX6_init_4 rfl ?_
  refine bw_new (ci := 4) (fs := [.null, .null, .int 0]) (C := RX4) (T := TX4) (N := 3) dX6_init_5 rfl inX4 tyX4 tyX4_ok (bigI 178 (by decide +kernel) rfl) (bigI 119 (by decide +kernel) rfl) (bigI 50 (by decide +kernel) rfl) (fun j hj => by rcases (show j = 0 ∨ j = 1 ∨ j = 2 by omega) with rfl | rfl | rfl <;> rfl) ⟨by omega, by omega⟩ (fun s => ?_)
  refine bw_dup dX6_init_8 ?_
  refine bw_callI (as := []) (st := [.ref s, .ref q]) dX6_init_9 iX6_11 (b_X4_init ap_last) rfl rfl (Nat.le_of_ble_eq_true rfl) (Nat.le_of_ble_eq_true rfl) ⟨by omega, by omega⟩ ?_
  rintro _ ⟨a, b, rfl⟩
  rw [ap_setl, List.append_assoc]
  refine bw_putF (k := 1) (q0 := k) (ty := .object "BirthdayRooms$Standing") (C := RX6) (T := TX6) (N := 5) dX6_init_12 rfl (by decide) (bigI 181 (by decide +kernel) rfl) inX6 tyX6 tyX6_ok nmX6 rfl rfl (by decide +kernel) rfl rfl (ap_at he) (Nat.le_of_ble_eq_true rfl) ?_
  rw [ap_set hk]
  refine bw_aload 0 dX6_init_15 rfl ?_
  refine bw_bipush (nI 8) dX6_init_16 rfl ?_
  refine bw_newI dX6_init_18 (by decide) ⟨by omega, by omega⟩ (fun f => ?_)
  refine bw_putF (k := 2) (q0 := k) (ty := .array .int) (C := RX6) (T := TX6) (N := 5) dX6_init_20 rfl (by decide) (bigI 182 (by decide +kernel) rfl) inX6 tyX6 tyX6_ok nmX6 rfl rfl (by decide +kernel) rfl rfl (ap_at (ap_at (st_at hk))) (Nat.le_of_ble_eq_true rfl) ?_
  rw [List.append_assoc, ap_set (by rw [List.length_set]; exact hk), List.set_set]
  refine bw_aload 0 dX6_init_23 rfl ?_
  refine bw_bipush (nI 8) dX6_init_24 rfl ?_
  refine bw_newI dX6_init_26 (by decide) ⟨by omega, by omega⟩ (fun g => ?_)
  refine bw_putF (k := 3) (q0 := k) (ty := .array .int) (C := RX6) (T := TX6) (N := 5) dX6_init_28 rfl (by decide) (bigI 183 (by decide +kernel) rfl) inX6 tyX6 tyX6_ok nmX6 rfl rfl (by decide +kernel) rfl rfl (ap_at (ap_at (st_at hk))) (Nat.le_of_ble_eq_true rfl) ?_
  rw [List.append_assoc, ap_set (by rw [List.length_set]; exact hk), List.set_set]
  refine bw_aload 0 dX6_init_31 rfl ?_
  refine bw_aload 1 dX6_init_32 rfl ?_
  refine bw_putF (k := 0) (q0 := k) (ty := .object "BirthdayRooms$Plan") (C := RX6) (T := TX6) (N := 5) dX6_init_33 rfl (by decide) (bigI 180 (by decide +kernel) rfl) inX6 tyX6 tyX6_ok nmX6 rfl rfl (by decide +kernel) rfl rfl (ap_at (st_at hk)) (Nat.le_of_ble_eq_true rfl) ?_
  rw [ap_set (by rw [List.length_set]; exact hk), List.set_set]
  exact bw_vret dX6_init_36 rfl ⟨by omega, by omega⟩ ⟨s, a, b, f, g, rfl⟩

