/-! THE CLASS's CONSTRUCTOR -/
def mgo {α β : Type} (f : Nat → α → β) : Nat → List α → List β
  | _, [] => []
  | k, a :: l => f k a :: mgo f (k + 1) l
theorem mgo_eq {α β : Type} (f : Nat → α → β) : ∀ (l : List α) (k : Nat), l.mapIdx (fun i => f (i + k)) = mgo f k l
  | [], k => rfl
  | a :: l, k => by
    rw [List.mapIdx_cons, mgo, ← mgo_eq f l (k + 1), Nat.zero_add]
    congr 2
    funext i
    rw [Nat.add_right_comm, Nat.add_assoc]
theorem z_row {rs as : List Nat} {ad : Nat → Nat} (hr : rs.map ad = as) : (fun j : Nat => as[j]?) = (fun j : Nat => (rs[j]?).map ad) := by
  funext j
  rw [← hr, List.getElem?_map]
set_option maxRecDepth 20000 in
theorem z_all {B : BG} {a0 a1 a2 a3 a4 a5 a6 a7 a8 a9 a10 a11 a12 a13 a14 a15 a16 a17 a18 a19 a20 a21 a22 a23 a24 a25 a26 a27 a28 a29 a30 a31 a32 a33 a34 a35 a36 a37 a38 a39 a40 a41 a42 a43 a44 a45 a46 a47 a48 a49 a50 a51 a52 a53 a54 a55 a56 a57 a58 a59 a60 a61 a62 a63 a64 a65 a66 : Nat} : ((a0, .inr (7, [.ref a1, .ref a4, .ref a10, .ref a16, .ref a19, .ref a22, .ref a48, .ref a56, .ref a60, .ref a66])) :: (a1, .inr (5, [.ref a2, .ref a3, .int 0, .int 0])) :: (a2, ca B 200) :: (a3, ia B 3) :: (a4, .inr (1, [.ref a5, .ref a6, .ref a7, .ref a8, .ref a9, .int 0, .int 0])) :: (a5, ia B 8) :: (a6, ia B 8) :: (a7, ia B 8) :: (a8, ia B 8) :: (a9, ia B 8) :: (a10, .inr (1, [.ref a11, .ref a12, .ref a13, .ref a14, .ref a15, .int 0, .int 0])) :: (a11, ia B 8) :: (a12, ia B 8) :: (a13, ia B 8) :: (a14, ia B 8) :: (a15, ia B 8) :: (a16, .inr (4, [.ref a17, .ref a18, .int 0])) :: (a17, ia B 8) :: (a18, ia B 8) :: (a19, .inr (4, [.ref a20, .ref a21, .int 0])) :: (a20, ia B 8) :: (a21, ia B 8) :: (a22, .inr (0, [.ref a23, .int 0])) :: (a23, ra B 8 (fun j => ([a24, a27, a30, a33, a36, a39, a42, a45] : List Nat)[j]?)) :: (a24, .inr (4, [.ref a25, .ref a26, .int 0])) :: (a25, ia B 8) :: (a26, ia B 8) :: (a27, .inr (4, [.ref a28, .ref a29, .int 0])) :: (a28, ia B 8) :: (a29, ia B 8) :: (a30, .inr (4, [.ref a31, .ref a32, .int 0])) :: (a31, ia B 8) :: (a32, ia B 8) :: (a33, .inr (4, [.ref a34, .ref a35, .int 0])) :: (a34, ia B 8) :: (a35, ia B 8) :: (a36, .inr (4, [.ref a37, .ref a38, .int 0])) :: (a37, ia B 8) :: (a38, ia B 8) :: (a39, .inr (4, [.ref a40, .ref a41, .int 0])) :: (a40, ia B 8) :: (a41, ia B 8) :: (a42, .inr (4, [.ref a43, .ref a44, .int 0])) :: (a43, ia B 8) :: (a44, ia B 8) :: (a45, .inr (4, [.ref a46, .ref a47, .int 0])) :: (a46, ia B 8) :: (a47, ia B 8) :: (a48, .inr (0, [.ref a49, .int 0])) :: (a49, ra B 2 (fun j => ([a50, a53] : List Nat)[j]?)) :: (a50, .inr (4, [.ref a51, .ref a52, .int 0])) :: (a51, ia B 8) :: (a52, ia B 8) :: (a53, .inr (4, [.ref a54, .ref a55, .int 0])) :: (a54, ia B 8) :: (a55, ia B 8) :: (a56, .inr (3, [.ref a57, .ref a58, .ref a59, .int 0])) :: (a57, ia B 8) :: (a58, ia B 8) :: (a59, ia B 8) :: (a60, .inr (6, [.ref a4, .ref a61, .ref a64, .ref a65, .int 0])) :: (a61, .inr (4, [.ref a62, .ref a63, .int 0])) :: (a62, ia B 8) :: (a63, ia B 8) :: (a64, ia B 8) :: (a65, ia B 8) :: (a66, .inr (2, [.ref a4, .ref a60, .int 0, .int 0, .int 0])) :: [] : va_W) = zwl (B.1, B.2.1, (fun k => (a0 :: a1 :: a2 :: a3 :: a4 :: a5 :: a6 :: a7 :: a8 :: a9 :: a10 :: a11 :: a12 :: a13 :: a14 :: a15 :: a16 :: a17 :: a18 :: a19 :: a20 :: a21 :: a22 :: a23 :: a24 :: a25 :: a26 :: a27 :: a28 :: a29 :: a30 :: a31 :: a32 :: a33 :: a34 :: a35 :: a36 :: a37 :: a38 :: a39 :: a40 :: a41 :: a42 :: a43 :: a44 :: a45 :: a46 :: a47 :: a48 :: a49 :: a50 :: a51 :: a52 :: a53 :: a54 :: a55 :: a56 :: a57 :: a58 :: a59 :: a60 :: a61 :: a62 :: a63 :: a64 :: a65 :: a66 :: [] : List Nat).getD k 0), B.2.2) (fun _ _ => 0) := by
  rw [z_row (rs := [24, 27, 30, 33, 36, 39, 42, 45]) (ad := fun k => (a0 :: a1 :: a2 :: a3 :: a4 :: a5 :: a6 :: a7 :: a8 :: a9 :: a10 :: a11 :: a12 :: a13 :: a14 :: a15 :: a16 :: a17 :: a18 :: a19 :: a20 :: a21 :: a22 :: a23 :: a24 :: a25 :: a26 :: a27 :: a28 :: a29 :: a30 :: a31 :: a32 :: a33 :: a34 :: a35 :: a36 :: a37 :: a38 :: a39 :: a40 :: a41 :: a42 :: a43 :: a44 :: a45 :: a46 :: a47 :: a48 :: a49 :: a50 :: a51 :: a52 :: a53 :: a54 :: a55 :: a56 :: a57 :: a58 :: a59 :: a60 :: a61 :: a62 :: a63 :: a64 :: a65 :: a66 :: [] : List Nat).getD k 0) (as := [a24, a27, a30, a33, a36, a39, a42, a45]) rfl, z_row (rs := [50, 53]) (ad := fun k => (a0 :: a1 :: a2 :: a3 :: a4 :: a5 :: a6 :: a7 :: a8 :: a9 :: a10 :: a11 :: a12 :: a13 :: a14 :: a15 :: a16 :: a17 :: a18 :: a19 :: a20 :: a21 :: a22 :: a23 :: a24 :: a25 :: a26 :: a27 :: a28 :: a29 :: a30 :: a31 :: a32 :: a33 :: a34 :: a35 :: a36 :: a37 :: a38 :: a39 :: a40 :: a41 :: a42 :: a43 :: a44 :: a45 :: a46 :: a47 :: a48 :: a49 :: a50 :: a51 :: a52 :: a53 :: a54 :: a55 :: a56 :: a57 :: a58 :: a59 :: a60 :: a61 :: a62 :: a63 :: a64 :: a65 :: a66 :: [] : List Nat).getD k 0) (as := [a50, a53]) rfl]
  refine Eq.trans ?_ (mgo_eq (fun k L => (ga (B.1, B.2.1, (fun k => (a0 :: a1 :: a2 :: a3 :: a4 :: a5 :: a6 :: a7 :: a8 :: a9 :: a10 :: a11 :: a12 :: a13 :: a14 :: a15 :: a16 :: a17 :: a18 :: a19 :: a20 :: a21 :: a22 :: a23 :: a24 :: a25 :: a26 :: a27 :: a28 :: a29 :: a30 :: a31 :: a32 :: a33 :: a34 :: a35 :: a36 :: a37 :: a38 :: a39 :: a40 :: a41 :: a42 :: a43 :: a44 :: a45 :: a46 :: a47 :: a48 :: a49 :: a50 :: a51 :: a52 :: a53 :: a54 :: a55 :: a56 :: a57 :: a58 :: a59 :: a60 :: a61 :: a62 :: a63 :: a64 :: a65 :: a66 :: [] : List Nat).getD k 0), B.2.2) k, cel (B.1, B.2.1, (fun k => (a0 :: a1 :: a2 :: a3 :: a4 :: a5 :: a6 :: a7 :: a8 :: a9 :: a10 :: a11 :: a12 :: a13 :: a14 :: a15 :: a16 :: a17 :: a18 :: a19 :: a20 :: a21 :: a22 :: a23 :: a24 :: a25 :: a26 :: a27 :: a28 :: a29 :: a30 :: a31 :: a32 :: a33 :: a34 :: a35 :: a36 :: a37 :: a38 :: a39 :: a40 :: a41 :: a42 :: a43 :: a44 :: a45 :: a46 :: a47 :: a48 :: a49 :: a50 :: a51 :: a52 :: a53 :: a54 :: a55 :: a56 :: a57 :: a58 :: a59 :: a60 :: a61 :: a62 :: a63 :: a64 :: a65 :: a66 :: [] : List Nat).getD k 0), B.2.2) (fun _ _ => 0) k L)) zlay 0).symm
  simp only [zlay, mgo, Nat.reduceAdd]
  rfl
theorem b_X7_init {B : BG} {d a0 : Nat} : BW mX7_init B (d + 5) 66 616 0 [(0, .ref a0)] [] [(a0, .inr (7, [.null, .null, .null, .null, .null, .null, .null, .null, .null, .null]))] 0 0 (fun ws2 => ∃ (ad : Nat → Nat) (h : Hp), ad 0 = a0 ∧ ws2 = zwl (B.1, B.2.1, ad, B.2.2) h ∧ RX h XF) := by
  refine bw_aload 0 dX7_init_0 rfl ?_
  refine bw_obj dX7_init_1 (bigI 66 (by decide +kernel) rfl) (Nat.zero_le _) ?_
  refine bw_aload 0 dX7_init_4 rfl ?_
  refine bw_new (ci := 5) (fs := [.null, .null, .int 0, .int 0]) (C := RX5) (T := TX5) (N := 4) dX7_init_5 rfl inX5 tyX5 tyX5_ok (bigI 69 (by decide +kernel) rfl) (bigI 70 (by decide +kernel) rfl) (bigI 48 (by decide +kernel) rfl) (fun j hj => by rcases (show j = 0 ∨ j = 1 ∨ j = 2 ∨ j = 3 by omega) with rfl | rfl | rfl | rfl <;> rfl) ⟨by omega, by omega⟩ (fun a1 => ?_)
  dsimp only [List.cons_append, List.nil_append]
  refine bw_dup dX7_init_8 ?_
  refine bw_callI (as := []) (st := [.ref a1, .ref a0]) dX7_init_9 iX7_11 (b_X5_init (k := 1) rfl) rfl rfl (Nat.le_of_ble_eq_true rfl) (Nat.le_of_ble_eq_true rfl) ⟨by omega, by omega⟩ ?_
  rintro _ ⟨a2, a3, rfl⟩
  dsimp only [List.set, List.cons_append, List.nil_append]
  refine bw_putF (k := 0) (q0 := 0) (ty := .object "BirthdayRooms$Text") (C := RX7) (T := TX7) (N := 10) dX7_init_12 rfl (by decide) (bigI 355 (by decide +kernel) rfl) inX7 tyX7 tyX7_ok nmX7 rfl rfl (by decide +kernel) rfl rfl rfl (Nat.le_of_ble_eq_true rfl) ?_
  dsimp only [List.set]
  refine bw_aload 0 dX7_init_15 rfl ?_
  refine bw_new (ci := 1) (fs := [.null, .null, .null, .null, .null, .int 0, .int 0]) (C := RX1) (T := TX1) (N := 7) dX7_init_16 rfl inX1 tyX1 tyX1_ok (bigI 90 (by decide +kernel) rfl) (bigI 91 (by decide +kernel) rfl) (bigI 49 (by decide +kernel) rfl) (fun j hj => by rcases (show j = 0 ∨ j = 1 ∨ j = 2 ∨ j = 3 ∨ j = 4 ∨ j = 5 ∨ j = 6 by omega) with rfl | rfl | rfl | rfl | rfl | rfl | rfl <;> rfl) ⟨by omega, by omega⟩ (fun a4 => ?_)
  dsimp only [List.cons_append, List.nil_append]
  refine bw_dup dX7_init_19 ?_
  refine bw_callI (as := []) (st := [.ref a4, .ref a0]) dX7_init_20 iX7_18 (b_X1_init (k := 4) rfl) rfl rfl (Nat.le_of_ble_eq_true rfl) (Nat.le_of_ble_eq_true rfl) ⟨by omega, by omega⟩ ?_
  rintro _ ⟨a5, a6, a7, a8, a9, rfl⟩
  dsimp only [List.set, List.cons_append, List.nil_append]
  refine bw_putF (k := 1) (q0 := 0) (ty := .object "BirthdayRooms$Plan") (C := RX7) (T := TX7) (N := 10) dX7_init_23 rfl (by decide) (bigI 356 (by decide +kernel) rfl) inX7 tyX7 tyX7_ok nmX7 rfl rfl (by decide +kernel) rfl rfl rfl (Nat.le_of_ble_eq_true rfl) ?_
  dsimp only [List.set]
  refine bw_aload 0 dX7_init_26 rfl ?_
  refine bw_new (ci := 1) (fs := [.null, .null, .null, .null, .null, .int 0, .int 0]) (C := RX1) (T := TX1) (N := 7) dX7_init_27 rfl inX1 tyX1 tyX1_ok (bigI 90 (by decide +kernel) rfl) (bigI 91 (by decide +kernel) rfl) (bigI 49 (by decide +kernel) rfl) (fun j hj => by rcases (show j = 0 ∨ j = 1 ∨ j = 2 ∨ j = 3 ∨ j = 4 ∨ j = 5 ∨ j = 6 by omega) with rfl | rfl | rfl | rfl | rfl | rfl | rfl <;> rfl) ⟨by omega, by omega⟩ (fun a10 => ?_)
  dsimp only [List.cons_append, List.nil_append]
  refine bw_dup dX7_init_30 ?_
  refine bw_callI (as := []) (st := [.ref a10, .ref a0]) dX7_init_31 iX7_18 (b_X1_init (k := 10) rfl) rfl rfl (Nat.le_of_ble_eq_true rfl) (Nat.le_of_ble_eq_true rfl) ⟨by omega, by omega⟩ ?_
  rintro _ ⟨a11, a12, a13, a14, a15, rfl⟩
  dsimp only [List.set, List.cons_append, List.nil_append]
  refine bw_putF (k := 2) (q0 := 0) (ty := .object "BirthdayRooms$Plan") (C := RX7) (T := TX7) (N := 10) dX7_init_34 rfl (by decide) (bigI 357 (by decide +kernel) rfl) inX7 tyX7 tyX7_ok nmX7 rfl rfl (by decide +kernel) rfl rfl rfl (Nat.le_of_ble_eq_true rfl) ?_
  dsimp only [List.set]
  refine bw_aload 0 dX7_init_37 rfl ?_
  refine bw_new (ci := 4) (fs := [.null, .null, .int 0]) (C := RX4) (T := TX4) (N := 3) dX7_init_38 rfl inX4 tyX4 tyX4_ok (bigI 118 (by decide +kernel) rfl) (bigI 119 (by decide +kernel) rfl) (bigI 50 (by decide +kernel) rfl) (fun j hj => by rcases (show j = 0 ∨ j = 1 ∨ j = 2 by omega) with rfl | rfl | rfl <;> rfl) ⟨by omega, by omega⟩ (fun a16 => ?_)
  dsimp only [List.cons_append, List.nil_append]
  refine bw_dup dX7_init_41 ?_
  refine bw_callI (as := []) (st := [.ref a16, .ref a0]) dX7_init_42 iX7_28 (b_X4_init (k := 16) rfl) rfl rfl (Nat.le_of_ble_eq_true rfl) (Nat.le_of_ble_eq_true rfl) ⟨by omega, by omega⟩ ?_
  rintro _ ⟨a17, a18, rfl⟩
  dsimp only [List.set, List.cons_append, List.nil_append]
  refine bw_putF (k := 3) (q0 := 0) (ty := .object "BirthdayRooms$Standing") (C := RX7) (T := TX7) (N := 10) dX7_init_45 rfl (by decide) (bigI 358 (by decide +kernel) rfl) inX7 tyX7 tyX7_ok nmX7 rfl rfl (by decide +kernel) rfl rfl rfl (Nat.le_of_ble_eq_true rfl) ?_
  dsimp only [List.set]
  refine bw_aload 0 dX7_init_48 rfl ?_
  refine bw_new (ci := 4) (fs := [.null, .null, .int 0]) (C := RX4) (T := TX4) (N := 3) dX7_init_49 rfl inX4 tyX4 tyX4_ok (bigI 118 (by decide +kernel) rfl) (bigI 119 (by decide +kernel) rfl) (bigI 50 (by decide +kernel) rfl) (fun j hj => by rcases (show j = 0 ∨ j = 1 ∨ j = 2 by omega) with rfl | rfl | rfl <;> rfl) ⟨by omega, by omega⟩ (fun a19 => ?_)
  dsimp only [List.cons_append, List.nil_append]
  refine bw_dup dX7_init_52 ?_
  refine bw_callI (as := []) (st := [.ref a19, .ref a0]) dX7_init_53 iX7_28 (b_X4_init (k := 19) rfl) rfl rfl (Nat.le_of_ble_eq_true rfl) (Nat.le_of_ble_eq_true rfl) ⟨by omega, by omega⟩ ?_
  rintro _ ⟨a20, a21, rfl⟩
  dsimp only [List.set, List.cons_append, List.nil_append]
  refine bw_putF (k := 4) (q0 := 0) (ty := .object "BirthdayRooms$Standing") (C := RX7) (T := TX7) (N := 10) dX7_init_56 rfl (by decide) (bigI 359 (by decide +kernel) rfl) inX7 tyX7 tyX7_ok nmX7 rfl rfl (by decide +kernel) rfl rfl rfl (Nat.le_of_ble_eq_true rfl) ?_
  dsimp only [List.set]
  refine bw_aload 0 dX7_init_59 rfl ?_
  refine bw_new (ci := 0) (fs := [.null, .int 0]) (C := RX0) (T := TX0) (N := 2) dX7_init_60 rfl inX0 tyX0 tyX0_ok (bigI 134 (by decide +kernel) rfl) (bigI 135 (by decide +kernel) rfl) (bigI 51 (by decide +kernel) rfl) (fun j hj => by rcases (show j = 0 ∨ j = 1 by omega) with rfl | rfl <;> rfl) ⟨by omega, by omega⟩ (fun a22 => ?_)
  dsimp only [List.cons_append, List.nil_append]
  refine bw_dup dX7_init_63 ?_
  refine bw_bipush (nI 8) dX7_init_64 rfl ?_
  refine bw_callI (as := [.int (nI 8)]) (st := [.ref a22, .ref a0]) dX7_init_66 iX7_38 (b_X0_8 (k := 22) rfl) rfl rfl (Nat.le_of_ble_eq_true rfl) (Nat.le_of_ble_eq_true rfl) ⟨by omega, by omega⟩ ?_
  rintro _ ⟨a23, a24, a25, a26, a27, a28, a29, a30, a31, a32, a33, a34, a35, a36, a37, a38, a39, a40, a41, a42, a43, a44, a45, a46, a47, rfl⟩
  dsimp only [List.set, List.cons_append, List.nil_append]
  refine bw_putF (k := 5) (q0 := 0) (ty := .object "BirthdayRooms$Pile") (C := RX7) (T := TX7) (N := 10) dX7_init_69 rfl (by decide) (bigI 360 (by decide +kernel) rfl) inX7 tyX7 tyX7_ok nmX7 rfl rfl (by decide +kernel) rfl rfl rfl (Nat.le_of_ble_eq_true rfl) ?_
  dsimp only [List.set]
  refine bw_aload 0 dX7_init_72 rfl ?_
  refine bw_new (ci := 0) (fs := [.null, .int 0]) (C := RX0) (T := TX0) (N := 2) dX7_init_73 rfl inX0 tyX0 tyX0_ok (bigI 134 (by decide +kernel) rfl) (bigI 135 (by decide +kernel) rfl) (bigI 51 (by decide +kernel) rfl) (fun j hj => by rcases (show j = 0 ∨ j = 1 by omega) with rfl | rfl <;> rfl) ⟨by omega, by omega⟩ (fun a48 => ?_)
  dsimp only [List.cons_append, List.nil_append]
  refine bw_dup dX7_init_76 ?_
  refine bw_iconst (nI 2) dX7_init_77 rfl ?_
  refine bw_callI (as := [.int (nI 2)]) (st := [.ref a48, .ref a0]) dX7_init_78 iX7_38 (b_X0_2 (k := 48) rfl) rfl rfl (Nat.le_of_ble_eq_true rfl) (Nat.le_of_ble_eq_true rfl) ⟨by omega, by omega⟩ ?_
  rintro _ ⟨a49, a50, a51, a52, a53, a54, a55, rfl⟩
  dsimp only [List.set, List.cons_append, List.nil_append]
  refine bw_putF (k := 6) (q0 := 0) (ty := .object "BirthdayRooms$Pile") (C := RX7) (T := TX7) (N := 10) dX7_init_81 rfl (by decide) (bigI 361 (by decide +kernel) rfl) inX7 tyX7 tyX7_ok nmX7 rfl rfl (by decide +kernel) rfl rfl rfl (Nat.le_of_ble_eq_true rfl) ?_
  dsimp only [List.set]
  refine bw_aload 0 dX7_init_84 rfl ?_
  refine bw_new (ci := 3) (fs := [.null, .null, .null, .int 0]) (C := RX3) (T := TX3) (N := 4) dX7_init_85 rfl inX3 tyX3 tyX3_ok (bigI 153 (by decide +kernel) rfl) (bigI 154 (by decide +kernel) rfl) (bigI 53 (by decide +kernel) rfl) (fun j hj => by rcases (show j = 0 ∨ j = 1 ∨ j = 2 ∨ j = 3 by omega) with rfl | rfl | rfl | rfl <;> rfl) ⟨by omega, by omega⟩ (fun a56 => ?_)
  dsimp only [List.cons_append, List.nil_append]
  refine bw_dup dX7_init_88 ?_
  refine bw_callI (as := []) (st := [.ref a56, .ref a0]) dX7_init_89 iX7_50 (b_X3_init (k := 56) rfl) rfl rfl (Nat.le_of_ble_eq_true rfl) (Nat.le_of_ble_eq_true rfl) ⟨by omega, by omega⟩ ?_
  rintro _ ⟨a57, a58, a59, rfl⟩
  dsimp only [List.set, List.cons_append, List.nil_append]
  refine bw_putF (k := 7) (q0 := 0) (ty := .object "BirthdayRooms$Sightings") (C := RX7) (T := TX7) (N := 10) dX7_init_92 rfl (by decide) (bigI 362 (by decide +kernel) rfl) inX7 tyX7 tyX7_ok nmX7 rfl rfl (by decide +kernel) rfl rfl rfl (Nat.le_of_ble_eq_true rfl) ?_
  dsimp only [List.set]
  refine bw_aload 0 dX7_init_95 rfl ?_
  refine bw_new (ci := 6) (fs := [.null, .null, .null, .null, .int 0]) (C := RX6) (T := TX6) (N := 5) dX7_init_96 rfl inX6 tyX6 tyX6_ok (bigI 172 (by decide +kernel) rfl) (bigI 173 (by decide +kernel) rfl) (bigI 54 (by decide +kernel) rfl) (fun j hj => by rcases (show j = 0 ∨ j = 1 ∨ j = 2 ∨ j = 3 ∨ j = 4 by omega) with rfl | rfl | rfl | rfl | rfl <;> rfl) ⟨by omega, by omega⟩ (fun a60 => ?_)
  dsimp only [List.cons_append, List.nil_append]
  refine bw_dup dX7_init_99 ?_
  refine bw_aload 0 dX7_init_100 rfl ?_
  refine bw_get (q0 := 0) dX7_init_101 fX7_19 rfl rfl ?_
  refine bw_callI (as := [.ref a4]) (st := [.ref a60, .ref a0]) dX7_init_104 iX7_57 (b_X6_init (k := 60) rfl) rfl rfl (Nat.le_of_ble_eq_true rfl) (Nat.le_of_ble_eq_true rfl) ⟨by omega, by omega⟩ ?_
  rintro _ ⟨a61, a62, a63, a64, a65, rfl⟩
  dsimp only [List.set, List.cons_append, List.nil_append]
  refine bw_putF (k := 8) (q0 := 0) (ty := .object "BirthdayRooms$Walk") (C := RX7) (T := TX7) (N := 10) dX7_init_107 rfl (by decide) (bigI 363 (by decide +kernel) rfl) inX7 tyX7 tyX7_ok nmX7 rfl rfl (by decide +kernel) rfl rfl rfl (Nat.le_of_ble_eq_true rfl) ?_
  dsimp only [List.set]
  refine bw_aload 0 dX7_init_110 rfl ?_
  refine bw_new (ci := 2) (fs := [.null, .null, .int 0, .int 0, .int 0]) (C := RX2) (T := TX2) (N := 5) dX7_init_111 rfl inX2 tyX2 tyX2_ok (bigI 196 (by decide +kernel) rfl) (bigI 197 (by decide +kernel) rfl) (bigI 55 (by decide +kernel) rfl) (fun j hj => by rcases (show j = 0 ∨ j = 1 ∨ j = 2 ∨ j = 3 ∨ j = 4 by omega) with rfl | rfl | rfl | rfl | rfl <;> rfl) ⟨by omega, by omega⟩ (fun a66 => ?_)
  dsimp only [List.cons_append, List.nil_append]
  refine bw_dup dX7_init_114 ?_
  refine bw_aload 0 dX7_init_115 rfl ?_
  refine bw_get (q0 := 0) dX7_init_116 fX7_19 rfl rfl ?_
  refine bw_aload 0 dX7_init_119 rfl ?_
  refine bw_get (q0 := 0) dX7_init_120 fX7_60 rfl rfl ?_
  refine bw_callI (as := [.ref a4, .ref a60]) (st := [.ref a66, .ref a0]) dX7_init_123 iX7_66 (b_X2_init (k := 66) rfl) rfl rfl (Nat.le_of_ble_eq_true rfl) (Nat.le_of_ble_eq_true rfl) ⟨by omega, by omega⟩ ?_
  rintro _ rfl
  dsimp only [List.set, List.cons_append, List.nil_append]
  refine bw_putF (k := 9) (q0 := 0) (ty := .object "BirthdayRooms$Search") (C := RX7) (T := TX7) (N := 10) dX7_init_126 rfl (by decide) (bigI 364 (by decide +kernel) rfl) inX7 tyX7 tyX7_ok nmX7 rfl rfl (by decide +kernel) rfl rfl rfl (Nat.le_of_ble_eq_true rfl) ?_
  dsimp only [List.set]
  rw [z_all]
  exact x7_tail (G := (B.1, B.2.1, (fun k => (a0 :: a1 :: a2 :: a3 :: a4 :: a5 :: a6 :: a7 :: a8 :: a9 :: a10 :: a11 :: a12 :: a13 :: a14 :: a15 :: a16 :: a17 :: a18 :: a19 :: a20 :: a21 :: a22 :: a23 :: a24 :: a25 :: a26 :: a27 :: a28 :: a29 :: a30 :: a31 :: a32 :: a33 :: a34 :: a35 :: a36 :: a37 :: a38 :: a39 :: a40 :: a41 :: a42 :: a43 :: a44 :: a45 :: a46 :: a47 :: a48 :: a49 :: a50 :: a51 :: a52 :: a53 :: a54 :: a55 :: a56 :: a57 :: a58 :: a59 :: a60 :: a61 :: a62 :: a63 :: a64 :: a65 :: a66 :: [] : List Nat).getD k 0), B.2.2)) rfl ⟨by omega, by omega⟩ (fun h' hr => ⟨_, h', rfl, rfl, hr⟩)
