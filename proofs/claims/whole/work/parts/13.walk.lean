/-! Walk: object 60, standing 61 (rooms 62, birthdays 63), list 64, suns 65, colds in 60 at 4 -/
/-- the house in the class's world -/
def HX (h : Hp) (S : Hs) : Prop := h 4 5 = sn S ∧ h 4 6 = sn S ∧ ∀ i, i < sn S → h 5 i = sK S i ∧ h 7 i = sW S i ∧ h 8 i = sA S i ∧ h 9 i = sB S i
/-- the walk: list L, birthdays b, next day dd, rooms f, suns s, colds c -/
def WS (h : Hp) (S : Hs) (b L : Nat → Nat) (dd : Nat) (f s : Nat → Nat) (c : Nat) : Prop :=
  HX h S ∧ h 61 2 = dd ∧ h 60 4 = c ∧ ∀ i, i < sn S → h 62 i = f i ∧ h 63 i = b i ∧ h 64 i = L i ∧ h 65 i = s i
/-- the numbers of a walk are such as can be -/
def WO (S : Hs) (b L : Nat → Nat) : Prop := HsOk S ∧ ∀ i, i < sn S → b i < 60 ∧ L i < sn S
/-- only the walk's objects may have changed -/
def FW6 (h h' : Hp) : Prop := ∀ o, o < 60 ∨ 65 < o → h' o = h o
theorem FW6.trans {h h1 h2 : Hp} (a : FW6 h h1) (b : FW6 h1 h2) : FW6 h h2 := fun o ho => (b o ho).trans (a o ho)
theorem HX.fr {h h' : Hp} {S : Hs} (hh : HX h S) (hf : FW6 h h') : HX h' S := by
  unfold HX
  rw [hf 4 (by omega), hf 5 (by omega), hf 7 (by omega), hf 8 (by omega), hf 9 (by omega)]
  exact hh
theorem hw_ne {h : Hp} {o k x a : Nat} (hne : a ≠ o) : hw h o k x a = h a := by
  funext j
  simp [hw, hne]
theorem hw_at {h : Hp} {o k x j : Nat} : hw h o k x o j = if j = k then x else h o j := by
  simp [hw]
theorem hx2_ne {h : Hp} {o i j a : Nat} (hne : a ≠ o) : hx2 h o i j a = h a := by
  unfold hx2
  rw [hw_ne hne, hw_ne hne]
theorem hx2_at {h : Hp} {o i j k : Nat} : hx2 h o i j o k = swp (h o) i j k := by
  unfold hx2 swp
  rw [hw_at, hw_at]
theorem c_W_sunNow {d i dd c : Nat} {h : Hp} {S : Hs} {b L f s : Nat → Nat} (hws : WS h S b L dd f s c) (hok : WO S b L) (hpm : PM (sn S) f) (hi : i < sn S) (hdd : dd < 2 ^ 30) :
    RT mX6_sunNow (d + 1) [.ref 60, .int (nI i)] h (fun v h' => v = some (.int (nI (sunR S dd (f i)))) ∧ h' = h) := by
  obtain ⟨⟨e1, e2, e3⟩, e4, e5, e6⟩ := hws
  have hi6 := e6 i hi
  have hfi := hpm.1 i hi
  have h38 := hok.1.2.1
  have hr := e3 (f i) hfi
  subst e4
  change AW mX6_sunNow _ 0 [some (.ref 60), some (.int (nI i))] [] h _
  refine aw_aload_n dX6_sunNow_0 rfl rfl ?_
  refine aw_getR dX6_sunNow_1 fX6_25 (by first | assumption | rfl) (by rfl) ?_
  refine aw_aload_n dX6_sunNow_4 rfl rfl ?_
  refine aw_getR dX6_sunNow_5 fX6_12 (by first | assumption | rfl) (by rfl) ?_
  refine aw_callVF dX6_sunNow_8 kX6_93 (c_S_day (by first | assumption | exact ⟨rfl, rfl, rfl⟩)) (by first | assumption | rfl) rfl rfl rfl (Nat.le_of_ble_eq_true rfl) (Nat.le_of_ble_eq_true rfl) ?_
  dsimp only [Option.toList, List.cons_append, List.nil_append, Nat.reduceAdd]
  refine aw_callVF dX6_sunNow_11 kX6_108 (c_P_sunsOn (by omega)) (by first | assumption | rfl) rfl rfl rfl (Nat.le_of_ble_eq_true rfl) (Nat.le_of_ble_eq_true rfl) ?_
  dsimp only [Option.toList, List.cons_append, List.nil_append, Nat.reduceAdd]
  refine aw_aload_n dX6_sunNow_14 rfl rfl ?_
  refine aw_getR dX6_sunNow_15 fX6_12 (by first | assumption | rfl) (by rfl) ?_
  refine aw_iload_n dX6_sunNow_18 rfl rfl ?_
  refine aw_callVF dX6_sunNow_19 kX6_112 (c_S_roomOf (by first | assumption | exact ⟨rfl, rfl, rfl⟩) (by omega)) (by first | assumption | rfl) rfl rfl rfl (Nat.le_of_ble_eq_true rfl) (Nat.le_of_ble_eq_true rfl) ?_
  dsimp only [Option.toList, List.cons_append, List.nil_append, Nat.reduceAdd]
  by_cases hq : h 61 2 % 60 < 30
  · rw [if_pos hq]
    refine aw_callSF dX6_sunNow_22 kX6_43 (c_at (by first | assumption | rfl) (by omega) (by decide)) rfl rfl rfl (Nat.le_of_ble_eq_true rfl) (Nat.le_of_ble_eq_true rfl) ?_
    dsimp only [Option.toList, List.cons_append, List.nil_append, Nat.reduceAdd]
    refine aw_iret dX6_sunNow_25 rfl (by first | rfl | exact (pk_charN (by omega)).1 | decide) ?_
    refine ⟨?_, rfl⟩
    rw [hi6.1, hr.2.2.1]
    unfold sunR
    rw [if_pos hq]
  · rw [if_neg hq]
    refine aw_callSF dX6_sunNow_22 kX6_43 (c_at (by first | assumption | rfl) (by omega) (by decide)) rfl rfl rfl (Nat.le_of_ble_eq_true rfl) (Nat.le_of_ble_eq_true rfl) ?_
    dsimp only [Option.toList, List.cons_append, List.nil_append, Nat.reduceAdd]
    refine aw_iret dX6_sunNow_25 rfl (by first | rfl | exact (pk_charN (by omega)).1 | decide) ?_
    refine ⟨?_, rfl⟩
    rw [hi6.1, hr.2.2.2]
    unfold sunR
    rw [if_neg hq]
theorem c_W_changeRoomOf {d p dd c : Nat} {h : Hp} {S : Hs} {b L f s : Nat → Nat} (hws : WS h S b L dd f s c) (hok : WO S b L) (hpm : PM (sn S) f) (hp : p < sn S) (hdd : dd < 2 ^ 30) :
    RT mX6_changeRoomOf (d + 2) [.ref 60, .int (nI (L p)), .int (nI p)] h (fun v h' => v = none ∧ WS h' S b L dd (ch1 S L dd p f) s c ∧ FW6 h h') := by
  obtain ⟨⟨e1, e2, e3⟩, e4, e5, e6⟩ := id hws
  have h38 := hok.1.2.1
  have h37 := hok.1.1
  have hLp := (hok.2 p hp).2
  have hk := (e3 (L p) hLp).1
  have hk3 := (hok.1.2.2 (L p) hLp).1
  have same : ∀ (hc : (sK S (L p) = 1 ∧ dd / 60 % 4 ≠ 0) ∨ (sK S (L p) = 3 ∧ sunR S dd (f (nxo S L p)) ≤ sunR S dd (f (L p)))), WS h S b L dd (ch1 S L dd p f) s c ∧ FW6 h h := fun hc => by
    unfold ch1
    rw [if_pos hc]
    exact ⟨hws, fun o _ => rfl⟩
  have swap : ∀ (hc : ¬ ((sK S (L p) = 1 ∧ dd / 60 % 4 ≠ 0) ∨ (sK S (L p) = 3 ∧ sunR S dd (f (nxo S L p)) ≤ sunR S dd (f (L p))))), nxo S L p < sn S → WS (hx2 h 62 (L p) (nxo S L p)) S b L dd (ch1 S L dd p f) s c ∧ FW6 h (hx2 h 62 (L p) (nxo S L p)) := fun hc hnx => by
    unfold ch1
    rw [if_neg hc]
    refine ⟨⟨⟨?_, ?_, fun i hi => ?_⟩, ?_, ?_, fun i hi => ?_⟩, fun o ho => hx2_ne (by omega)⟩
    · rw [hx2_ne (by decide)]; exact e1
    · rw [hx2_ne (by decide)]; exact e2
    · rw [hx2_ne (by decide), hx2_ne (by decide), hx2_ne (by decide), hx2_ne (by decide)]; exact e3 i hi
    · rw [hx2_ne (by decide)]; exact e4
    · rw [hx2_ne (by decide)]; exact e5
    · rw [hx2_ne (a := 63) (by decide), hx2_ne (a := 64) (by decide), hx2_ne (a := 65) (by decide)]
      refine ⟨?_, (e6 i hi).2⟩
      rw [hx2_at]
      unfold swp
      rw [(e6 (L p) hLp).1, (e6 _ hnx).1, (e6 i hi).1]
  -- the other one
  have mid : ∀ q, q = p + (if sK S (L p) = 2 then 2 else 1) → AW mX6_changeRoomOf (d + 2) 27 [some (.ref 60), some (.int (nI (L p))), some (.int (nI p)), some (.int (nI (sK S (L p)))), none] [.int (nI q), .ref 64] h (fun v h' => v = none ∧ WS h' S b L dd (ch1 S L dd p f) s c ∧ FW6 h h') := by
    intro q hq
    have hqm : q % sn S < sn S := Nat.mod_lt _ (by omega)
    have hnx : nxo S L p = L (q % sn S) := by unfold nxo; rw [hq]
    have hnx2 : nxo S L p < sn S := by rw [hnx]; exact (hok.2 _ hqm).2
    have hq2 : q < 2 ^ 30 := by rw [hq]; split <;> omega
    have e64 := (e6 _ hqm).2.2.1
    have ew : ((nI q).toInt % (sn S : Int)).toNat = q % sn S := by
      rw [nI_toInt (by omega)]
      omega
    refine aw_aload_n dX6_changeRoomOf_27 rfl rfl ?_
    refine aw_getR dX6_changeRoomOf_28 fX6_25 (by first | assumption | rfl) (by rfl) ?_
    refine aw_callVF dX6_changeRoomOf_31 kX6_47 (c_P_cousins) (by first | assumption | rfl) rfl rfl rfl (Nat.le_of_ble_eq_true rfl) (Nat.le_of_ble_eq_true rfl) ?_
    dsimp only [Option.toList, List.cons_append, List.nil_append, Nat.reduceAdd]
    rw [e1]
    refine aw_callSF dX6_changeRoomOf_34 kX6_102 (c_wrapped (by omega) (by omega)) rfl rfl rfl (Nat.le_of_ble_eq_true rfl) (Nat.le_of_ble_eq_true rfl) ?_
    dsimp only [Option.toList, List.cons_append, List.nil_append, Nat.reduceAdd]
    rw [ew]
    refine aw_callSF dX6_changeRoomOf_37 kX6_43 (c_at (by first | assumption | rfl) (by omega) (by decide)) rfl rfl rfl (Nat.le_of_ble_eq_true rfl) (Nat.le_of_ble_eq_true rfl) ?_
    dsimp only [Option.toList, List.cons_append, List.nil_append, Nat.reduceAdd]
    rw [e64, ← hnx]
    subst e4
    refine aw_istore dX6_changeRoomOf_40 (Nat.le_of_ble_eq_true rfl) rfl ?_
    dsimp only [List.set]
    refine aw_iload_n dX6_changeRoomOf_42 rfl rfl ?_
    refine aw_iconst (v := nI 1) dX6_changeRoomOf_43 (by decide) ?_
    refine aw_icmp_neN (tgt := 63) dX6_changeRoomOf_44 (by decide) (by omega) (by omega) (fun c44 => ?_) (fun c44 => ?_)
    · -- no LEAP
      refine aw_iload_n dX6_changeRoomOf_63 rfl rfl ?_
      refine aw_iconst (v := nI 3) dX6_changeRoomOf_64 (by decide) ?_
      refine aw_icmp_neN (tgt := 83) dX6_changeRoomOf_65 (by decide) (by omega) (by omega) (fun c65 => ?_) (fun c65 => ?_)
      · -- neither a HOMELY one
        refine aw_aload_n dX6_changeRoomOf_83 rfl rfl ?_
        refine aw_getR dX6_changeRoomOf_84 fX6_12 (by first | assumption | rfl) (by rfl) ?_
        refine aw_iload_n dX6_changeRoomOf_87 rfl rfl ?_
        refine aw_iload dX6_changeRoomOf_88 rfl ?_
        refine aw_callVF dX6_changeRoomOf_90 kX6_105 (c_S_exchange (by first | assumption | exact ⟨rfl, rfl, rfl⟩) (by omega) (by omega)) (by first | assumption | rfl) rfl rfl rfl (Nat.le_of_ble_eq_true rfl) (Nat.le_of_ble_eq_true rfl) ?_
        dsimp only [Option.toList, List.cons_append, List.nil_append, Nat.reduceAdd]
        refine aw_vret dX6_changeRoomOf_93 rfl ?_
        exact ⟨rfl, swap (by
          rintro (⟨z, _⟩ | ⟨z, _⟩)
          · omega
          · omega) hnx2⟩
      · have hs1 := sunR_le hok.1 (day := h 61 2) (hpm.1 _ hnx2)
        have hs2 := sunR_le hok.1 (day := h 61 2) (hpm.1 _ hLp)
        refine aw_aload_n dX6_changeRoomOf_68 rfl rfl ?_
        refine aw_iload dX6_changeRoomOf_69 rfl ?_
        refine aw_callVF dX6_changeRoomOf_71 kX6_57 (c_W_sunNow hws hok hpm hnx2 hdd) (by first | assumption | rfl) rfl rfl rfl (Nat.le_of_ble_eq_true rfl) (Nat.le_of_ble_eq_true rfl) ?_
        dsimp only [Option.toList, List.cons_append, List.nil_append, Nat.reduceAdd]
        refine aw_aload_n dX6_changeRoomOf_74 rfl rfl ?_
        refine aw_iload_n dX6_changeRoomOf_75 rfl rfl ?_
        refine aw_callVF dX6_changeRoomOf_76 kX6_57 (c_W_sunNow hws hok hpm hLp hdd) (by first | assumption | rfl) rfl rfl rfl (Nat.le_of_ble_eq_true rfl) (Nat.le_of_ble_eq_true rfl) ?_
        dsimp only [Option.toList, List.cons_append, List.nil_append, Nat.reduceAdd]
        refine aw_icmp_gtN (tgt := 83) dX6_changeRoomOf_79 (by decide) (by omega) (by omega) (fun c79 => ?_) (fun c79 => ?_)
        · refine aw_aload_n dX6_changeRoomOf_83 rfl rfl ?_
          refine aw_getR dX6_changeRoomOf_84 fX6_12 (by first | assumption | rfl) (by rfl) ?_
          refine aw_iload_n dX6_changeRoomOf_87 rfl rfl ?_
          refine aw_iload dX6_changeRoomOf_88 rfl ?_
          refine aw_callVF dX6_changeRoomOf_90 kX6_105 (c_S_exchange (by first | assumption | exact ⟨rfl, rfl, rfl⟩) (by omega) (by omega)) (by first | assumption | rfl) rfl rfl rfl (Nat.le_of_ble_eq_true rfl) (Nat.le_of_ble_eq_true rfl) ?_
          dsimp only [Option.toList, List.cons_append, List.nil_append, Nat.reduceAdd]
          refine aw_vret dX6_changeRoomOf_93 rfl ?_
          exact ⟨rfl, swap (by
            rintro (⟨z, _⟩ | ⟨z, z2⟩)
            · omega
            · omega) hnx2⟩
        · refine aw_vret dX6_changeRoomOf_82 rfl ?_
          exact ⟨rfl, same (Or.inr ⟨by omega, by omega⟩)⟩
    · refine aw_aload_n dX6_changeRoomOf_47 rfl rfl ?_
      refine aw_getR dX6_changeRoomOf_48 fX6_12 (by first | assumption | rfl) (by rfl) ?_
      refine aw_callVF dX6_changeRoomOf_51 kX6_93 (c_S_day (by first | assumption | exact ⟨rfl, rfl, rfl⟩)) (by first | assumption | rfl) rfl rfl rfl (Nat.le_of_ble_eq_true rfl) (Nat.le_of_ble_eq_true rfl) ?_
      dsimp only [Option.toList, List.cons_append, List.nil_append, Nat.reduceAdd]
      refine aw_bipush (v := nI 60) dX6_changeRoomOf_54 (by decide) ?_
      refine aw_idivN dX6_changeRoomOf_56 (by omega) (by omega) (by omega) ?_
      refine aw_iconst (v := nI 4) dX6_changeRoomOf_57 (by decide) ?_
      refine aw_iremN dX6_changeRoomOf_58 (by omega) (by omega) (by omega) ?_
      refine aw_if_eqN (tgt := 63) dX6_changeRoomOf_59 (by decide) (by omega) (fun c59 => ?_) (fun c59 => ?_)
      · refine aw_iload_n dX6_changeRoomOf_63 rfl rfl ?_
        refine aw_iconst (v := nI 3) dX6_changeRoomOf_64 (by decide) ?_
        refine aw_icmp_neN (tgt := 83) dX6_changeRoomOf_65 (by decide) (by omega) (by omega) (fun _ => ?_) (fun q => absurd q (by omega))
        refine aw_aload_n dX6_changeRoomOf_83 rfl rfl ?_
        refine aw_getR dX6_changeRoomOf_84 fX6_12 (by first | assumption | rfl) (by rfl) ?_
        refine aw_iload_n dX6_changeRoomOf_87 rfl rfl ?_
        refine aw_iload dX6_changeRoomOf_88 rfl ?_
        refine aw_callVF dX6_changeRoomOf_90 kX6_105 (c_S_exchange (by first | assumption | exact ⟨rfl, rfl, rfl⟩) (by omega) (by omega)) (by first | assumption | rfl) rfl rfl rfl (Nat.le_of_ble_eq_true rfl) (Nat.le_of_ble_eq_true rfl) ?_
        dsimp only [Option.toList, List.cons_append, List.nil_append, Nat.reduceAdd]
        refine aw_vret dX6_changeRoomOf_93 rfl ?_
        exact ⟨rfl, swap (by
          rintro (⟨_, z⟩ | ⟨z, _⟩)
          · omega
          · omega) hnx2⟩
      · refine aw_vret dX6_changeRoomOf_62 rfl ?_
        exact ⟨rfl, same (Or.inl ⟨by omega, by omega⟩)⟩
  change AW mX6_changeRoomOf _ 0 [some (.ref 60), some (.int (nI (L p))), some (.int (nI p)), none, none] [] h _
  refine aw_aload_n dX6_changeRoomOf_0 rfl rfl ?_
  refine aw_getR dX6_changeRoomOf_1 fX6_25 (by first | assumption | rfl) (by rfl) ?_
  refine aw_iload_n dX6_changeRoomOf_4 rfl rfl ?_
  refine aw_callVF dX6_changeRoomOf_5 kX6_99 (c_P_kindOf (by omega)) (by first | assumption | rfl) rfl rfl rfl (Nat.le_of_ble_eq_true rfl) (Nat.le_of_ble_eq_true rfl) ?_
  dsimp only [Option.toList, List.cons_append, List.nil_append, Nat.reduceAdd]
  rw [hk]
  refine aw_istore_n dX6_changeRoomOf_8 rfl (Nat.le_of_ble_eq_true rfl) rfl ?_
  dsimp only [List.set]
  refine aw_aload_n dX6_changeRoomOf_9 rfl rfl ?_
  refine aw_getR dX6_changeRoomOf_10 fX6_18 (by first | assumption | rfl) (by rfl) ?_
  refine aw_iload_n dX6_changeRoomOf_13 rfl rfl ?_
  refine aw_iconst (v := nI 2) dX6_changeRoomOf_14 (by decide) ?_
  refine aw_icmp_neN (tgt := 24) dX6_changeRoomOf_15 (by decide) (by omega) (by omega) (fun c15 => ?_) (fun c15 => ?_)
  · refine aw_iload_n dX6_changeRoomOf_24 rfl rfl ?_
    refine aw_iconst (v := nI 1) dX6_changeRoomOf_25 (by decide) ?_
    refine aw_iaddN dX6_changeRoomOf_26 ?_
    exact mid _ (by rw [if_neg (by omega)])
  · refine aw_iload_n dX6_changeRoomOf_18 rfl rfl ?_
    refine aw_iconst (v := nI 2) dX6_changeRoomOf_19 (by decide) ?_
    refine aw_iaddN dX6_changeRoomOf_20 ?_
    refine aw_goto (tgt := 27) dX6_changeRoomOf_21 (by decide) ?_
    exact mid _ (by rw [if_pos (by omega)])
theorem c_W_changeRooms {d dd c : Nat} {h : Hp} {S : Hs} {b L f s : Nat → Nat} (hws : WS h S b L dd f s c) (hok : WO S b L) (hpm : PM (sn S) f) (hdd : dd < 2 ^ 30) :
    RT mX6_changeRooms (d + 3) [.ref 60] h (fun v h' => v = none ∧ WS h' S b L dd (chR S b L dd f (sn S)) s c ∧ FW6 h h') := by
  have h38 := hok.1.2.1
  have e4 := hws.2.1
  have loop : ∀ t p hh, p + t = sn S → WS hh S b L dd (chR S b L dd f p) s c → FW6 h hh → AW mX6_changeRooms (d + 3) 13 [some (.ref 60), some (.int (nI (dd % 60))), some (.int (nI p)), none] [] hh (fun v h' => v = none ∧ WS h' S b L dd (chR S b L dd f (sn S)) s c ∧ FW6 h h') ∧ ∀ x, AW mX6_changeRooms (d + 3) 13 [some (.ref 60), some (.int (nI (dd % 60))), some (.int (nI p)), some (.int (nI x))] [] hh (fun v h' => v = none ∧ WS h' S b L dd (chR S b L dd f (sn S)) s c ∧ FW6 h h') := by
    intro t
    induction t with
    | zero =>
      intro p hh hp hw1 hf1
      obtain ⟨⟨e1, _, _⟩, _, _, _⟩ := id hw1
      have ep : p = sn S := by omega
      subst ep
      refine ⟨?_, fun x => ?_⟩
      · refine aw_iload_n dX6_changeRooms_13 rfl rfl ?_
        refine aw_aload_n dX6_changeRooms_14 rfl rfl ?_
        refine aw_getR dX6_changeRooms_15 fX6_25 (by first | assumption | rfl) (by rfl) ?_
        refine aw_callVF dX6_changeRooms_18 kX6_47 (c_P_cousins) (by first | assumption | rfl) rfl rfl rfl (Nat.le_of_ble_eq_true rfl) (Nat.le_of_ble_eq_true rfl) ?_
        dsimp only [Option.toList, List.cons_append, List.nil_append, Nat.reduceAdd]
        rw [e1]
        refine aw_icmp_geN (tgt := 57) dX6_changeRooms_21 (by decide) (by omega) (by omega) (fun _ => ?_) (fun q => absurd q (by omega))
        refine aw_vret dX6_changeRooms_57 rfl ?_
        exact ⟨rfl, hw1, hf1⟩
      · refine aw_iload_n dX6_changeRooms_13 rfl rfl ?_
        refine aw_aload_n dX6_changeRooms_14 rfl rfl ?_
        refine aw_getR dX6_changeRooms_15 fX6_25 (by first | assumption | rfl) (by rfl) ?_
        refine aw_callVF dX6_changeRooms_18 kX6_47 (c_P_cousins) (by first | assumption | rfl) rfl rfl rfl (Nat.le_of_ble_eq_true rfl) (Nat.le_of_ble_eq_true rfl) ?_
        dsimp only [Option.toList, List.cons_append, List.nil_append, Nat.reduceAdd]
        rw [e1]
        refine aw_icmp_geN (tgt := 57) dX6_changeRooms_21 (by decide) (by omega) (by omega) (fun _ => ?_) (fun q => absurd q (by omega))
        refine aw_vret dX6_changeRooms_57 rfl ?_
        exact ⟨rfl, hw1, hf1⟩
    | succ t ih =>
      intro p hh hp hw1 hf1
      obtain ⟨⟨e1, _, _⟩, _, _, e6⟩ := id hw1
      have hp8 : p < sn S := by omega
      have e64 := (e6 p hp8).2.2.1
      have hLp := hok.2 p hp8
      have hbL := hok.2 (L p) hLp.2
      have e63 := (e6 (L p) hLp.2).2.1
      have hpm1 := PM_chR (b := b) (day := dd) hok.1 (fun q hq => (hok.2 q hq).2) hpm p (by omega)
      have body : AW mX6_changeRooms (d + 3) 24 [some (.ref 60), some (.int (nI (dd % 60))), some (.int (nI p)), none] [] hh (fun v h' => v = none ∧ WS h' S b L dd (chR S b L dd f (sn S)) s c ∧ FW6 h h') ∧ ∀ x, AW mX6_changeRooms (d + 3) 24 [some (.ref 60), some (.int (nI (dd % 60))), some (.int (nI p)), some (.int (nI x))] [] hh (fun v h' => v = none ∧ WS h' S b L dd (chR S b L dd f (sn S)) s c ∧ FW6 h h') := by
        have tail : AW mX6_changeRooms (d + 3) 33 [some (.ref 60), some (.int (nI (dd % 60))), some (.int (nI p)), some (.int (nI (L p)))] [] hh (fun v h' => v = none ∧ WS h' S b L dd (chR S b L dd f (sn S)) s c ∧ FW6 h h') := by
          refine aw_aload_n dX6_changeRooms_33 rfl rfl ?_
          refine aw_getR dX6_changeRooms_34 fX6_12 (by first | assumption | rfl) (by rfl) ?_
          refine aw_iload_n dX6_changeRooms_37 rfl rfl ?_
          refine aw_callVF dX6_changeRooms_38 kX6_86 (c_S_birthdayOf (by first | assumption | exact ⟨rfl, rfl, rfl⟩) (by omega)) (by first | assumption | rfl) rfl rfl rfl (Nat.le_of_ble_eq_true rfl) (Nat.le_of_ble_eq_true rfl) ?_
          dsimp only [Option.toList, List.cons_append, List.nil_append, Nat.reduceAdd]
          rw [e63]
          refine aw_iload_n dX6_changeRooms_41 rfl rfl ?_
          refine aw_icmp_neN (tgt := 51) dX6_changeRooms_42 (by decide) (by omega) (by omega) (fun c42 => ?_) (fun c42 => ?_)
          · have ec : chR S b L dd f (p + 1) = chR S b L dd f p := by
              show (if b (L p) = dd % 60 then _ else _) = _
              rw [if_neg (by omega)]
            refine aw_iincN (v := 1) dX6_changeRooms_51 rfl rfl ?_
            dsimp only [List.set]
            refine aw_goto (tgt := 13) dX6_changeRooms_54 (by decide) ?_
            exact (ih (p + 1) hh (by omega) (by rw [ec]; exact hw1) hf1).2 _
          · have ec : chR S b L dd f (p + 1) = ch1 S L dd p (chR S b L dd f p) := by
              show (if b (L p) = dd % 60 then _ else _) = _
              rw [if_pos (by omega)]
            refine aw_aload_n dX6_changeRooms_45 rfl rfl ?_
            refine aw_iload_n dX6_changeRooms_46 rfl rfl ?_
            refine aw_iload_n dX6_changeRooms_47 rfl rfl ?_
            refine aw_callV dX6_changeRooms_48 kX6_96 (c_W_changeRoomOf hw1 hok hpm1 hp8 hdd) (by first | assumption | rfl) rfl rfl rfl (Nat.le_of_ble_eq_true rfl) (Nat.le_of_ble_eq_true rfl) ?_
            rintro _ h2 ⟨rfl, hw2, hf2⟩
            dsimp only [Option.toList, List.cons_append, List.nil_append, Nat.reduceAdd]
            refine aw_iincN (v := 1) dX6_changeRooms_51 rfl rfl ?_
            dsimp only [List.set]
            refine aw_goto (tgt := 13) dX6_changeRooms_54 (by decide) ?_
            exact (ih (p + 1) h2 (by omega) (by rw [ec]; exact hw2) (hf1.trans hf2)).2 _
        refine ⟨?_, fun x => ?_⟩
        · refine aw_aload_n dX6_changeRooms_24 rfl rfl ?_
          refine aw_getR dX6_changeRooms_25 fX6_18 (by first | assumption | rfl) (by rfl) ?_
          refine aw_iload_n dX6_changeRooms_28 rfl rfl ?_
          refine aw_callSF dX6_changeRooms_29 kX6_43 (c_at (by first | assumption | rfl) (by omega) (by decide)) rfl rfl rfl (Nat.le_of_ble_eq_true rfl) (Nat.le_of_ble_eq_true rfl) ?_
          dsimp only [Option.toList, List.cons_append, List.nil_append, Nat.reduceAdd]
          rw [e64]
          refine aw_istore_n dX6_changeRooms_32 rfl (Nat.le_of_ble_eq_true rfl) rfl ?_
          dsimp only [List.set]
          exact tail
        · refine aw_aload_n dX6_changeRooms_24 rfl rfl ?_
          refine aw_getR dX6_changeRooms_25 fX6_18 (by first | assumption | rfl) (by rfl) ?_
          refine aw_iload_n dX6_changeRooms_28 rfl rfl ?_
          refine aw_callSF dX6_changeRooms_29 kX6_43 (c_at (by first | assumption | rfl) (by omega) (by decide)) rfl rfl rfl (Nat.le_of_ble_eq_true rfl) (Nat.le_of_ble_eq_true rfl) ?_
          dsimp only [Option.toList, List.cons_append, List.nil_append, Nat.reduceAdd]
          rw [e64]
          refine aw_istore_n dX6_changeRooms_32 rfl (Nat.le_of_ble_eq_true rfl) rfl ?_
          dsimp only [List.set]
          exact tail
      refine ⟨?_, fun x => ?_⟩
      · refine aw_iload_n dX6_changeRooms_13 rfl rfl ?_
        refine aw_aload_n dX6_changeRooms_14 rfl rfl ?_
        refine aw_getR dX6_changeRooms_15 fX6_25 (by first | assumption | rfl) (by rfl) ?_
        refine aw_callVF dX6_changeRooms_18 kX6_47 (c_P_cousins) (by first | assumption | rfl) rfl rfl rfl (Nat.le_of_ble_eq_true rfl) (Nat.le_of_ble_eq_true rfl) ?_
        dsimp only [Option.toList, List.cons_append, List.nil_append, Nat.reduceAdd]
        rw [e1]
        refine aw_icmp_geN (tgt := 57) dX6_changeRooms_21 (by decide) (by omega) (by omega) (fun q => absurd q (by omega)) (fun _ => ?_)
        exact body.1
      · refine aw_iload_n dX6_changeRooms_13 rfl rfl ?_
        refine aw_aload_n dX6_changeRooms_14 rfl rfl ?_
        refine aw_getR dX6_changeRooms_15 fX6_25 (by first | assumption | rfl) (by rfl) ?_
        refine aw_callVF dX6_changeRooms_18 kX6_47 (c_P_cousins) (by first | assumption | rfl) rfl rfl rfl (Nat.le_of_ble_eq_true rfl) (Nat.le_of_ble_eq_true rfl) ?_
        dsimp only [Option.toList, List.cons_append, List.nil_append, Nat.reduceAdd]
        rw [e1]
        refine aw_icmp_geN (tgt := 57) dX6_changeRooms_21 (by decide) (by omega) (by omega) (fun q => absurd q (by omega)) (fun _ => ?_)
        exact body.2 x
  change AW mX6_changeRooms _ 0 [some (.ref 60), none, none, none] [] h _
  refine aw_aload_n dX6_changeRooms_0 rfl rfl ?_
  refine aw_getR dX6_changeRooms_1 fX6_12 (by first | assumption | rfl) (by rfl) ?_
  refine aw_callVF dX6_changeRooms_4 kX6_93 (c_S_day (by first | assumption | exact ⟨rfl, rfl, rfl⟩)) (by first | assumption | rfl) rfl rfl rfl (Nat.le_of_ble_eq_true rfl) (Nat.le_of_ble_eq_true rfl) ?_
  dsimp only [Option.toList, List.cons_append, List.nil_append, Nat.reduceAdd]
  rw [e4]
  refine aw_bipush (v := nI 60) dX6_changeRooms_7 (by decide) ?_
  refine aw_iremN dX6_changeRooms_9 (by omega) (by omega) (by omega) ?_
  refine aw_istore_n dX6_changeRooms_10 rfl (Nat.le_of_ble_eq_true rfl) rfl ?_
  dsimp only [List.set]
  refine aw_iconst (v := nI 0) dX6_changeRooms_11 (by decide) ?_
  refine aw_istore_n dX6_changeRooms_12 rfl (Nat.le_of_ble_eq_true rfl) rfl ?_
  dsimp only [List.set]
  exact (loop (sn S) 0 h (by omega) hws (fun o _ => rfl)).1
