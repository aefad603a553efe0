/-! Walk, the days that are alike, what is counted on them -/
def ahd (b : Nat → Nat) (dd i : Nat) : Nat := (b i + 60 - dd % 60) % 60
theorem c_W_daysAlike {d dd c : Nat} {h : Hp} {S : Hs} {b L f s : Nat → Nat} (hws : WS h S b L dd f s c) (hok : WO S b L) (hdd : dd < 2 ^ 30) :
    RT mX6_daysAlike (d + 3) [.ref 60] h (fun v h' => ∃ t, v = some (.int (nI t)) ∧ 1 ≤ t ∧ t + dd % 30 ≤ 30 ∧ (∀ i, i < sn S → ahd b dd i = 0 ∨ t ≤ ahd b dd i) ∧ h' = h) := by
  obtain ⟨⟨e1, _, _⟩, e4, _, e6⟩ := id hws
  have h38 := hok.1.2.1
  have loop : ∀ u k t, k + u = sn S → 1 ≤ t → t + dd % 30 ≤ 30 → (∀ i, i < k → ahd b dd i = 0 ∨ t ≤ ahd b dd i) → AW mX6_daysAlike (d + 3) 16 [some (.ref 60), some (.int (nI t)), some (.int (nI k)), none] [] h (fun v h' => ∃ t, v = some (.int (nI t)) ∧ 1 ≤ t ∧ t + dd % 30 ≤ 30 ∧ (∀ i, i < sn S → ahd b dd i = 0 ∨ t ≤ ahd b dd i) ∧ h' = h) := by
    intro u
    induction u with
    | zero =>
      intro k t hk h1 h2 hall
      have ek : k = sn S := by omega
      subst ek
      refine aw_iload_n dX6_daysAlike_16 rfl rfl ?_
      refine aw_aload_n dX6_daysAlike_17 rfl rfl ?_
      refine aw_getR dX6_daysAlike_18 fX6_25 (by first | assumption | rfl) (by rfl) ?_
      refine aw_callVF dX6_daysAlike_21 kX6_47 (c_P_cousins) (by first | assumption | rfl) rfl rfl rfl (Nat.le_of_ble_eq_true rfl) (Nat.le_of_ble_eq_true rfl) ?_
      dsimp only [Option.toList, List.cons_append, List.nil_append, Nat.reduceAdd]
      rw [e1]
      refine aw_icmp_geN (tgt := 53) dX6_daysAlike_24 (by decide) (by omega) (by omega) (fun _ => ?_) (fun q => absurd q (by omega))
      refine aw_iconst (v := nI 1) dX6_daysAlike_53 (by decide) ?_
      refine aw_iload_n dX6_daysAlike_54 rfl rfl ?_
      refine aw_mmaxN dX6_daysAlike_55 kX6_118 (by omega) (by omega) (Nat.le_of_ble_eq_true rfl) ?_
      refine aw_iret dX6_daysAlike_58 rfl (by first | rfl | exact (pk_charN (by omega)).1 | decide) ?_
      rw [Nat.max_eq_right h1]
      exact ⟨t, rfl, h1, h2, hall, rfl⟩
    | succ u ih =>
      intro k t hk h1 h2 hall
      have hk8 : k < sn S := by omega
      have e63 := (e6 k hk8).2.1
      have hb60 := (hok.2 k hk8).1
      have hah : ahd b dd k < 60 := Nat.mod_lt _ (by decide)
      refine aw_iload_n dX6_daysAlike_16 rfl rfl ?_
      refine aw_aload_n dX6_daysAlike_17 rfl rfl ?_
      refine aw_getR dX6_daysAlike_18 fX6_25 (by first | assumption | rfl) (by rfl) ?_
      refine aw_callVF dX6_daysAlike_21 kX6_47 (c_P_cousins) (by first | assumption | rfl) rfl rfl rfl (Nat.le_of_ble_eq_true rfl) (Nat.le_of_ble_eq_true rfl) ?_
      dsimp only [Option.toList, List.cons_append, List.nil_append, Nat.reduceAdd]
      rw [e1]
      refine aw_icmp_geN (tgt := 53) dX6_daysAlike_24 (by decide) (by omega) (by omega) (fun q => absurd q (by omega)) (fun _ => ?_)
      refine aw_aload_n dX6_daysAlike_27 rfl rfl ?_
      refine aw_getR dX6_daysAlike_28 fX6_12 (by first | assumption | rfl) (by rfl) ?_
      refine aw_iload_n dX6_daysAlike_31 rfl rfl ?_
      refine aw_callVF dX6_daysAlike_32 kX6_115 (c_S_daysTo ⟨rfl, rfl, rfl⟩ (by omega) (by show h 63 k < 60; omega) (by omega)) (by first | assumption | rfl) rfl rfl rfl (Nat.le_of_ble_eq_true rfl) (Nat.le_of_ble_eq_true rfl) ?_
      dsimp only [Option.toList, List.cons_append, List.nil_append, Nat.reduceAdd]
      rw [e63, e4, show (b k + 60 - dd % 60) % 60 = ahd b dd k from rfl]
      refine aw_istore_n dX6_daysAlike_35 rfl (Nat.le_of_ble_eq_true rfl) rfl ?_
      dsimp only [List.set]
      refine aw_iload_n dX6_daysAlike_36 rfl rfl ?_
      refine aw_if_leN (tgt := 47) dX6_daysAlike_37 (by decide) (by omega) (fun c37 => ?_) (fun c37 => ?_)
      · refine aw_iincN (v := 1) dX6_daysAlike_47 rfl rfl ?_
        dsimp only [List.set]
        refine aw_goto (tgt := 16) dX6_daysAlike_50 (by decide) ?_
        refine aw_forget 3 ?_
        dsimp only [List.set]
        refine ih (k + 1) t (by omega) h1 h2 (fun i hi => ?_)
        rcases Nat.lt_succ_iff_lt_or_eq.mp hi with q | q
        · exact hall i q
        · subst q; exact Or.inl (by omega)
      · refine aw_iload_n dX6_daysAlike_40 rfl rfl ?_
        refine aw_iload_n dX6_daysAlike_41 rfl rfl ?_
        refine aw_icmp_geN (tgt := 47) dX6_daysAlike_42 (by decide) (by omega) (by omega) (fun c42 => ?_) (fun c42 => ?_)
        · refine aw_iincN (v := 1) dX6_daysAlike_47 rfl rfl ?_
          dsimp only [List.set]
          refine aw_goto (tgt := 16) dX6_daysAlike_50 (by decide) ?_
          refine aw_forget 3 ?_
          dsimp only [List.set]
          refine ih (k + 1) t (by omega) h1 h2 (fun i hi => ?_)
          rcases Nat.lt_succ_iff_lt_or_eq.mp hi with q | q
          · exact hall i q
          · subst q; exact Or.inr (by omega)
        · refine aw_iload_n dX6_daysAlike_45 rfl rfl ?_
          refine aw_istore_n dX6_daysAlike_46 rfl (Nat.le_of_ble_eq_true rfl) rfl ?_
          dsimp only [List.set]
          refine aw_iincN (v := 1) dX6_daysAlike_47 rfl rfl ?_
          dsimp only [List.set]
          refine aw_goto (tgt := 16) dX6_daysAlike_50 (by decide) ?_
          refine aw_forget 3 ?_
          dsimp only [List.set]
          refine ih (k + 1) _ (by omega) (by omega) (by omega) (fun i hi => ?_)
          rcases Nat.lt_succ_iff_lt_or_eq.mp hi with q | q
          · rcases hall i q with z | z
            · exact Or.inl z
            · exact Or.inr (by omega)
          · subst q; exact Or.inr (Nat.le_refl _)
  change AW mX6_daysAlike _ 0 [some (.ref 60), none, none, none] [] h _
  refine aw_bipush (v := nI 30) dX6_daysAlike_0 (by decide) ?_
  refine aw_aload_n dX6_daysAlike_2 rfl rfl ?_
  refine aw_getR dX6_daysAlike_3 fX6_12 (by first | assumption | rfl) (by rfl) ?_
  refine aw_callVF dX6_daysAlike_6 kX6_93 (c_S_day (by first | assumption | exact ⟨rfl, rfl, rfl⟩)) (by first | assumption | rfl) rfl rfl rfl (Nat.le_of_ble_eq_true rfl) (Nat.le_of_ble_eq_true rfl) ?_
  dsimp only [Option.toList, List.cons_append, List.nil_append, Nat.reduceAdd]
  rw [e4]
  refine aw_bipush (v := nI 30) dX6_daysAlike_9 (by decide) ?_
  refine aw_iremN dX6_daysAlike_11 (by omega) (by omega) (by omega) ?_
  refine aw_isubN dX6_daysAlike_12 (by omega) ?_
  refine aw_istore_n dX6_daysAlike_13 rfl (Nat.le_of_ble_eq_true rfl) rfl ?_
  dsimp only [List.set]
  refine aw_iconst (v := nI 0) dX6_daysAlike_14 (by decide) ?_
  refine aw_istore_n dX6_daysAlike_15 rfl (Nat.le_of_ble_eq_true rfl) rfl ?_
  dsimp only [List.set]
  exact loop (sn S) 0 _ (by omega) (by omega) (by omega) (fun i hi => by omega)
theorem c_W_countDays {d m dd c : Nat} {h : Hp} {S : Hs} {b L f s : Nat → Nat} (hws : WS h S b L dd f s c) (hok : WO S b L) (hpm : PM (sn S) f) (hdd : dd < 2 ^ 30) :
    RT mX6_countDays (d + 2) [.ref 60, .int (nI m)] h (fun v h' => v = none ∧ WS h' S b L dd f (fun i => s i + sunR S dd (f i) * m) (c + m * coldN S dd f (sn S)) ∧ FW6 h h') := by
  have h38 := hok.1.2.1
  have loop : ∀ u k hh, k + u = sn S → WS hh S b L dd f (fun i => if i < k then s i + sunR S dd (f i) * m else s i) (c + m * coldN S dd f k) → FW6 h hh → AW mX6_countDays (d + 2) 2 [some (.ref 60), some (.int (nI m)), some (.int (nI k)), none] [] hh (fun v h' => v = none ∧ WS h' S b L dd f (fun i => s i + sunR S dd (f i) * m) (c + m * coldN S dd f (sn S)) ∧ FW6 h h') := by
    intro u
    induction u with
    | zero =>
      intro k hh hk hw1 hf1
      obtain ⟨hx1, ed, ec, ei⟩ := id hw1
      have ek : k = sn S := by omega
      subst ek
      refine aw_iload_n dX6_countDays_2 rfl rfl ?_
      refine aw_aload_n dX6_countDays_3 rfl rfl ?_
      refine aw_getR dX6_countDays_4 fX6_25 (by first | assumption | rfl) (by rfl) ?_
      refine aw_callVF dX6_countDays_7 kX6_47 (c_P_cousins) (by first | assumption | rfl) rfl rfl rfl (Nat.le_of_ble_eq_true rfl) (Nat.le_of_ble_eq_true rfl) ?_
      dsimp only [Option.toList, List.cons_append, List.nil_append, Nat.reduceAdd]
      rw [hx1.1]
      refine aw_icmp_geN (tgt := 67) dX6_countDays_10 (by decide) (by omega) (by omega) (fun _ => ?_) (fun q => absurd q (by omega))
      refine aw_vret dX6_countDays_67 rfl ?_
      refine ⟨rfl, ⟨hx1, ed, ec, fun i hi => ?_⟩, hf1⟩
      have hthis := ei i hi
      dsimp only at hthis ⊢
      rw [if_pos hi] at hthis
      exact hthis
    | succ u ih =>
      intro k hh hk hw1 hf1
      obtain ⟨hx1, ed, ec, ei⟩ := id hw1
      have hk8 : k < sn S := by omega
      have e65 := (ei k hk8).2.2.2
      dsimp only at e65
      rw [if_neg (Nat.lt_irrefl k)] at e65
      have hs1 := sunR_le hok.1 (day := dd) (hpm.1 _ hk8)
      have e7 := (hx1.2.2 k hk8).2.1
      have hW9 := (hok.1.2.2 k hk8).2.1
      refine aw_iload_n dX6_countDays_2 rfl rfl ?_
      refine aw_aload_n dX6_countDays_3 rfl rfl ?_
      refine aw_getR dX6_countDays_4 fX6_25 (by first | assumption | rfl) (by rfl) ?_
      refine aw_callVF dX6_countDays_7 kX6_47 (c_P_cousins) (by first | assumption | rfl) rfl rfl rfl (Nat.le_of_ble_eq_true rfl) (Nat.le_of_ble_eq_true rfl) ?_
      dsimp only [Option.toList, List.cons_append, List.nil_append, Nat.reduceAdd]
      rw [hx1.1]
      refine aw_icmp_geN (tgt := 67) dX6_countDays_10 (by decide) (by omega) (by omega) (fun q => absurd q (by omega)) (fun _ => ?_)
      refine aw_aload_n dX6_countDays_13 rfl rfl ?_
      refine aw_iload_n dX6_countDays_14 rfl rfl ?_
      refine aw_callVF dX6_countDays_15 kX6_57 (c_W_sunNow hw1 hok hpm hk8 hdd) (by first | assumption | rfl) rfl rfl rfl (Nat.le_of_ble_eq_true rfl) (Nat.le_of_ble_eq_true rfl) ?_
      dsimp only [Option.toList, List.cons_append, List.nil_append, Nat.reduceAdd]
      refine aw_istore_n dX6_countDays_18 rfl (Nat.le_of_ble_eq_true rfl) rfl ?_
      dsimp only [List.set]
      refine aw_aload_n dX6_countDays_19 rfl rfl ?_
      refine aw_getR dX6_countDays_20 fX6_22 (by first | assumption | rfl) (by rfl) ?_
      refine aw_iload_n dX6_countDays_23 rfl rfl ?_
      refine aw_aload_n dX6_countDays_24 rfl rfl ?_
      refine aw_getR dX6_countDays_25 fX6_22 (by first | assumption | rfl) (by rfl) ?_
      refine aw_iload_n dX6_countDays_28 rfl rfl ?_
      refine aw_callSF dX6_countDays_29 kX6_43 (c_at (by first | assumption | rfl) (by omega) (by decide)) rfl rfl rfl (Nat.le_of_ble_eq_true rfl) (Nat.le_of_ble_eq_true rfl) ?_
      dsimp only [Option.toList, List.cons_append, List.nil_append, Nat.reduceAdd]
      rw [e65]
      refine aw_iload_n dX6_countDays_32 rfl rfl ?_
      refine aw_iload_n dX6_countDays_33 rfl rfl ?_
      refine aw_imulN dX6_countDays_34 ?_
      refine aw_iaddN dX6_countDays_35 ?_
      refine aw_callSF dX6_countDays_36 kX6_89 (c_put (by first | assumption | rfl) (by omega) (by decide)) rfl rfl rfl (Nat.le_of_ble_eq_true rfl) (Nat.le_of_ble_eq_true rfl) ?_
      dsimp only [Option.toList, List.cons_append, List.nil_append, Nat.reduceAdd]
      refine aw_iload_n dX6_countDays_39 rfl rfl ?_
      refine aw_aload_n dX6_countDays_40 rfl rfl ?_
      refine aw_getR dX6_countDays_41 fX6_25 (by first | assumption | rfl) (by rfl) ?_
      refine aw_iload_n dX6_countDays_44 rfl rfl ?_
      refine aw_callVF dX6_countDays_45 kX6_61 (c_P_wantOf (by omega)) (by first | assumption | rfl) rfl rfl rfl (Nat.le_of_ble_eq_true rfl) (Nat.le_of_ble_eq_true rfl) ?_
      dsimp only [Option.toList, List.cons_append, List.nil_append, Nat.reduceAdd]
      have e7' : hw hh 65 k (s k + sunR S dd (f k) * m) 7 k = sW S k := by rw [hw_ne (by decide)]; exact e7
      rw [e7']
      have key : ∀ c2 h2, (∀ o, o ≠ 65 → o ≠ 60 → h2 o = hh o) → (∀ j, h2 65 j = if j = k then s k + sunR S dd (f k) * m else hh 65 j) → h2 60 4 = c2 → c2 = c + m * coldN S dd f (k + 1) → WS h2 S b L dd f (fun i => if i < k + 1 then s i + sunR S dd (f i) * m else s i) (c + m * coldN S dd f (k + 1)) ∧ FW6 h h2 := by
        intro c2 h2 g1 g2 g3 g4
        have hf2 : FW6 hh h2 := fun o ho => g1 o (by omega) (by omega)
        refine ⟨⟨hx1.fr hf2, ?_, by rw [g3]; exact g4, fun i hi => ?_⟩, hf1.trans hf2⟩
        · rw [g1 61 (by decide) (by decide)]; exact ed
        · have q := ei i hi
          dsimp only at q ⊢
          rw [g1 62 (by decide) (by decide), g1 63 (by decide) (by decide), g1 64 (by decide) (by decide), g2]
          refine ⟨q.1, q.2.1, q.2.2.1, ?_⟩
          by_cases hik : i = k
          · subst hik
            rw [if_pos rfl, if_pos (Nat.lt_succ_self i)]
          · rw [if_neg hik, q.2.2.2]
            by_cases hlt : i < k
            · rw [if_pos hlt, if_pos (by omega)]
            · rw [if_neg hlt, if_neg (by omega)]
      refine aw_icmp_geN (tgt := 61) dX6_countDays_48 (by decide) (by omega) (by omega) (fun c48 => ?_) (fun c48 => ?_)
      · have ez : coldN S dd f (k + 1) = coldN S dd f k := by
          show coldN S dd f k + (if _ then 1 else 0) = _
          rw [if_neg (by omega)]; rfl
        obtain ⟨w2, f2⟩ := key (c + m * coldN S dd f k) (hw hh 65 k (s k + sunR S dd (f k) * m)) (fun o h1 _ => hw_ne h1) (fun j => hw_at) (by rw [hw_ne (by decide)]; exact ec) (by rw [ez])
        refine aw_iincN (v := 1) dX6_countDays_61 rfl rfl ?_
        dsimp only [List.set]
        refine aw_goto (tgt := 2) dX6_countDays_64 (by decide) ?_
        refine aw_forget 3 ?_
        dsimp only [List.set]
        exact ih (k + 1) _ (by omega) w2 f2
      · have ez : coldN S dd f (k + 1) = coldN S dd f k + 1 := by
          show coldN S dd f k + (if _ then 1 else 0) = _
          rw [if_pos (by omega)]
        refine aw_aload_n dX6_countDays_51 rfl rfl ?_
        refine aw_dup dX6_countDays_52 rfl ?_
        refine aw_getI dX6_countDays_53 fX6_53 (by first | assumption | rfl) (by rfl) ?_
        refine aw_iload_n dX6_countDays_56 rfl rfl ?_
        refine aw_iaddN dX6_countDays_57 ?_
        refine aw_putfield dX6_countDays_58 gX6_53 (by first | assumption | rfl) (by rfl) ?_
        refine aw_iincN (v := 1) dX6_countDays_61 rfl rfl ?_
        dsimp only [List.set]
        refine aw_goto (tgt := 2) dX6_countDays_64 (by decide) ?_
        obtain ⟨w2, f2⟩ := key _ (hw (hw hh 65 k (s k + sunR S dd (f k) * m)) 60 4 (hw hh 65 k (s k + sunR S dd (f k) * m) 60 4 + m)) (fun o h1 h2 => by rw [hw_ne h2, hw_ne h1]) (fun j => by rw [hw_ne (by decide)]; exact hw_at) (by rw [hw_at, if_pos rfl]) (by rw [hw_ne (by decide), ec, ez, Nat.mul_add]; omega)
        refine aw_forget 3 ?_
        dsimp only [List.set]
        exact ih (k + 1) _ (by omega) w2 f2
  change AW mX6_countDays _ 0 [some (.ref 60), some (.int (nI m)), none, none] [] h _
  refine aw_iconst (v := nI 0) dX6_countDays_0 (by decide) ?_
  refine aw_istore_n dX6_countDays_1 rfl (Nat.le_of_ble_eq_true rfl) rfl ?_
  dsimp only [List.set]
  refine loop (sn S) 0 h (by omega) ?_ (fun o _ => rfl)
  have ez : (fun i => if i < 0 then s i + sunR S dd (f i) * m else s i) = s := by funext i; rw [if_neg (by omega)]
  rw [ez]
  exact hws
/-- days on which nothing changes -/
theorem chR_idle {S : Hs} {b L : Nat → Nat} {day : Nat} {f : Nat → Nat} : ∀ p, (∀ q, q < p → b (L q) ≠ day % 60) → chR S b L day f p = f := by
  intro p
  induction p with
  | zero => intro _; rfl
  | succ p ih =>
    intro hq
    show (if b (L p) = day % 60 then _ else _) = _
    rw [if_neg (hq p (Nat.lt_succ_self p)), ih (fun q h => hq q (by omega))]
theorem stretch {S : Hs} {b L : Nat → Nat} {day0 k t : Nat} {f : Nat → Nat} (hok : WO S b L) (ht : t + (day0 + k) % 30 ≤ 30) (hal : ∀ i, i < sn S → ahd b (day0 + k) i = 0 ∨ t ≤ ahd b (day0 + k) i) :
    ∀ m, 1 ≤ m → m ≤ t → rmF S b L day0 f (k + m) = chR S b L (day0 + k) (rmF S b L day0 f k) (sn S) ∧ (∀ i, sunF S b L day0 f i (k + m) = sunF S b L day0 f i k + sunR S (day0 + k) (chR S b L (day0 + k) (rmF S b L day0 f k) (sn S) i) * m) ∧ coldF S b L day0 f (k + m) = coldF S b L day0 f k + m * coldN S (day0 + k) (chR S b L (day0 + k) (rmF S b L day0 f k) (sn S)) (sn S) := by
  intro m
  induction m with
  | zero => intro h1 _; omega
  | succ m ih =>
    intro _ h2
    by_cases hm : m = 0
    · subst hm
      refine ⟨rfl, fun i => ?_, ?_⟩
      · show sunF S b L day0 f i k + _ = _
        rw [Nat.mul_one]
        rfl
      · show coldF S b L day0 f k + _ = _
        rw [Nat.one_mul]
        rfl
    · obtain ⟨i1, i2, i3⟩ := ih (by omega) (by omega)
      have idle : chR S b L (day0 + (k + m)) (rmF S b L day0 f (k + m)) (sn S) = rmF S b L day0 f (k + m) := by
        refine chR_idle _ (fun q hq => ?_)
        have hLq := hok.2 q hq
        have hb := (hok.2 _ hLq.2).1
        have := hal _ hLq.2
        unfold ahd at this
        omega
      have e1 : rmF S b L day0 f (k + (m + 1)) = chR S b L (day0 + k) (rmF S b L day0 f k) (sn S) := by
        show chR S b L (day0 + (k + m)) (rmF S b L day0 f (k + m)) (sn S) = _
        rw [idle, i1]
      have es : ∀ r, sunR S (day0 + (k + m)) r = sunR S (day0 + k) r := by
        intro r
        unfold sunR
        by_cases hz : (day0 + k) % 60 < 30
        · rw [if_pos hz, if_pos (by omega)]
        · rw [if_neg hz, if_neg (by omega)]
      have ecn : ∀ g j, coldN S (day0 + (k + m)) g j = coldN S (day0 + k) g j := by
        intro g j
        induction j with
        | zero => rfl
        | succ j ij =>
          show coldN S (day0 + (k + m)) g j + _ = coldN S (day0 + k) g j + _
          rw [ij, es]
      refine ⟨e1, fun i => ?_, ?_⟩
      · show sunF S b L day0 f i (k + m) + sunR S (day0 + (k + m)) (rmF S b L day0 f (k + (m + 1)) i) = _
        rw [i2, e1, es, Nat.mul_succ, Nat.add_assoc]
      · show coldF S b L day0 f (k + m) + coldN S (day0 + (k + m)) (rmF S b L day0 f (k + (m + 1))) (sn S) = _
        rw [i3, e1, ecn, Nat.succ_mul, Nat.add_assoc]
theorem c_W_go {d t dd c : Nat} {h : Hp} {S : Hs} {b L f s : Nat → Nat} (hws : WS h S b L dd f s c) (hok : WO S b L) (hpm : PM (sn S) f) (hdd : dd + t < 2 ^ 30) :
    RT mX6_go (d + 4) [.ref 60, .int (nI t)] h (fun v h' => v = none ∧ WS h' S b L (dd + t) (rmF S b L dd f t) (fun i => s i + sunF S b L dd f i t) (c + coldF S b L dd f t) ∧ FW6 h h') := by
  have hLs : ∀ q, q < sn S → L q < sn S := fun q hq => (hok.2 q hq).2
  have loop : ∀ u g q hh, g + u = t → q ≤ g → WS hh S b L (dd + g) (rmF S b L dd f g) (fun i => s i + sunF S b L dd f i g) (c + coldF S b L dd f g) → FW6 h hh → AW mX6_go (d + 4) 4 [some (.ref 60), some (.int (nI t)), some (.int (nI g)), some (.int (nI q)), none] [] hh (fun v h' => v = none ∧ WS h' S b L (dd + t) (rmF S b L dd f t) (fun i => s i + sunF S b L dd f i t) (c + coldF S b L dd f t) ∧ FW6 h h') := by
    intro u
    induction u using Nat.strongRecOn with
    | ind u ih =>
      intro g q hh hg hq hw1 hf1
      by_cases hu : u = 0
      · have eg : g = t := by omega
        subst eg
        refine aw_iload_n dX6_go_4 rfl rfl ?_
        refine aw_iload_n dX6_go_5 rfl rfl ?_
        refine aw_icmp_geN (tgt := 56) dX6_go_6 (by decide) (by omega) (by omega) (fun c6 => ?_) (fun c6 => ?_)
        · refine aw_vret dX6_go_56 rfl ?_
          exact ⟨rfl, hw1, hf1⟩
        · refine aw_iload_n dX6_go_9 rfl rfl ?_
          refine aw_iload_n dX6_go_10 rfl rfl ?_
          refine aw_icmp_geN (tgt := 56) dX6_go_11 (by decide) (by omega) (by omega) (fun _ => ?_) (fun q => absurd q (by omega))
          refine aw_vret dX6_go_56 rfl ?_
          exact ⟨rfl, hw1, hf1⟩
      · have hpg := PM_rmF (b := b) (day0 := dd) hok.1 hLs hpm g
        have hpc := PM_chR (b := b) (day := dd + g) hok.1 hLs hpg (sn S) (Nat.le_refl _)
        refine aw_iload_n dX6_go_4 rfl rfl ?_
        refine aw_iload_n dX6_go_5 rfl rfl ?_
        refine aw_icmp_geN (tgt := 56) dX6_go_6 (by decide) (by omega) (by omega) (fun q => absurd q (by omega)) (fun _ => ?_)
        refine aw_iload_n dX6_go_9 rfl rfl ?_
        refine aw_iload_n dX6_go_10 rfl rfl ?_
        refine aw_icmp_geN (tgt := 56) dX6_go_11 (by decide) (by omega) (by omega) (fun q => absurd q (by omega)) (fun _ => ?_)
        refine aw_aload_n dX6_go_14 rfl rfl ?_
        refine aw_callV dX6_go_15 kX6_64 (c_W_changeRooms hw1 hok hpg (by omega)) (by first | assumption | rfl) rfl rfl rfl (Nat.le_of_ble_eq_true rfl) (Nat.le_of_ble_eq_true rfl) ?_
        rintro _ h2 ⟨rfl, hw2, hf2⟩
        dsimp only [Option.toList, List.cons_append, List.nil_append, Nat.reduceAdd]
        refine aw_iload_n dX6_go_18 rfl rfl ?_
        refine aw_iload_n dX6_go_19 rfl rfl ?_
        refine aw_isubN dX6_go_20 (by omega) ?_
        refine aw_aload_n dX6_go_21 rfl rfl ?_
        refine aw_callV dX6_go_22 kX6_67 (c_W_daysAlike hw2 hok (by omega)) (by first | assumption | rfl) rfl rfl rfl (Nat.le_of_ble_eq_true rfl) (Nat.le_of_ble_eq_true rfl) ?_
        rintro _ h3 ⟨al, rfl, ha1, ha2, ha3, e3h⟩
        dsimp only [Option.toList, List.cons_append, List.nil_append, Nat.reduceAdd]
        rw [e3h]
        obtain ⟨m, hm⟩ : ∃ m, m = min (t - g) al := ⟨_, rfl⟩
        refine aw_mminN dX6_go_25 kX6_70 (by omega) (by omega) (Nat.le_of_ble_eq_true rfl) ?_
        rw [← hm]
        have hm1 : 1 ≤ m := by omega
        have hm2 : m ≤ al := by omega
        obtain ⟨s1, s2, s3⟩ := stretch (f := f) hok ha2 ha3 m hm1 hm2
        refine aw_istore dX6_go_28 (Nat.le_of_ble_eq_true rfl) rfl ?_
        dsimp only [List.set]
        refine aw_aload_n dX6_go_30 rfl rfl ?_
        refine aw_iload dX6_go_31 rfl ?_
        refine aw_callV dX6_go_33 kX6_76 (c_W_countDays hw2 hok hpc (by omega)) (by first | assumption | rfl) rfl rfl rfl (Nat.le_of_ble_eq_true rfl) (Nat.le_of_ble_eq_true rfl) ?_
        rintro _ h4 ⟨rfl, hw4, hf4⟩
        dsimp only [Option.toList, List.cons_append, List.nil_append, Nat.reduceAdd]
        refine aw_aload_n dX6_go_36 rfl rfl ?_
        refine aw_getR dX6_go_37 fX6_12 (by first | assumption | rfl) (by rfl) ?_
        refine aw_iload dX6_go_40 rfl ?_
        refine aw_callVF dX6_go_42 kX6_80 (c_S_addDays (by first | assumption | exact ⟨rfl, rfl, rfl⟩)) (by first | assumption | rfl) rfl rfl rfl (Nat.le_of_ble_eq_true rfl) (Nat.le_of_ble_eq_true rfl) ?_
        dsimp only [Option.toList, List.cons_append, List.nil_append, Nat.reduceAdd]
        refine aw_iload_n dX6_go_45 rfl rfl ?_
        refine aw_iload dX6_go_46 rfl ?_
        refine aw_iaddN dX6_go_48 ?_
        refine aw_istore_n dX6_go_49 rfl (Nat.le_of_ble_eq_true rfl) rfl ?_
        dsimp only [List.set]
        refine aw_iincN (v := 1) dX6_go_50 rfl rfl ?_
        dsimp only [List.set]
        refine aw_goto (tgt := 4) dX6_go_53 (by decide) ?_
        refine aw_forget 4 ?_
        dsimp only [List.set]
        have hw5 : WS (hw h4 61 2 (h4 61 2 + m)) S b L (dd + (g + m)) (rmF S b L dd f (g + m)) (fun i => s i + sunF S b L dd f i (g + m)) (c + coldF S b L dd f (g + m)) := by
          obtain ⟨x1, x2, x3, x4⟩ := hw4
          have hf5 : FW6 h4 (hw h4 61 2 (h4 61 2 + m)) := fun o ho => hw_ne (by omega)
          refine ⟨x1.fr hf5, by rw [hw_at, if_pos rfl, x2, Nat.add_assoc], by rw [hw_ne (by decide), x3, s3, Nat.add_assoc], fun i hi => ?_⟩
          have y := x4 i hi
          dsimp only at y ⊢
          rw [hw_ne (a := 62) (by decide), hw_ne (a := 63) (by decide), hw_ne (a := 64) (by decide), hw_ne (a := 65) (by decide), s1, s2]
          refine ⟨y.1, y.2.1, y.2.2.1, ?_⟩
          rw [y.2.2.2, Nat.add_assoc]
        exact ih (u - m) (by omega) (g + m) (q + 1) _ (by omega) (by omega) hw5 (((hf1.trans hf2).trans hf4).trans (fun o ho => hw_ne (by omega)))
  change AW mX6_go _ 0 [some (.ref 60), some (.int (nI t)), none, none, none] [] h _
  refine aw_iconst (v := nI 0) dX6_go_0 (by decide) ?_
  refine aw_istore_n dX6_go_1 rfl (Nat.le_of_ble_eq_true rfl) rfl ?_
  dsimp only [List.set]
  refine aw_iconst (v := nI 0) dX6_go_2 (by decide) ?_
  refine aw_istore_n dX6_go_3 rfl (Nat.le_of_ble_eq_true rfl) rfl ?_
  dsimp only [List.set]
  refine loop t 0 0 h (by omega) (Nat.le_refl _) ?_ (fun o _ => rfl)
  exact hws
