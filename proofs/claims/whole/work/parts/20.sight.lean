/-! Sightings: object 56, rows 57 58 59, size at 3; the class keeps them by days -/
abbrev Zt : Type := Nat × Nat × Nat
def ZX (h : Hp) (c : Nat) (zs : Nat → Zt) : Prop := h 56 3 = c ∧ ∀ k, k < c → h 57 k = (zs k).1 ∧ h 58 k = (zs k).2.1 ∧ h 59 k = (zs k).2.2
/-- zs is Z put in the order of days -/
def ZO (c : Nat) (zs Z : Nat → Zt) : Prop := (∀ k, k < c → ∃ j, j < c ∧ Z j = zs k) ∧ (∀ k, k < c → ∃ j, j < c ∧ zs j = Z k) ∧ ∀ k, k + 1 < c → (zs k).2.2 ≤ (zs (k + 1)).2.2
def FS (h h' : Hp) : Prop := ∀ o, o < 56 ∨ 59 < o → h' o = h o
theorem c_Z_isFull {d : Nat} {h : Hp} (hc : h 56 3 ≤ 8) : RT mX3_isFull d [.ref 56] h (fun v h' => v = some (.int (nI (if h 56 3 = 8 then 1 else 0))) ∧ h' = h) := by
  change AW mX3_isFull _ 0 [some (.ref 56)] [] h _
  refine aw_aload_n dX3_isFull_0 rfl rfl ?_
  refine aw_getI dX3_isFull_1 fX3_21 (by first | assumption | rfl) (by rfl) ?_
  refine aw_bipush (v := nI 8) dX3_isFull_4 (by decide) ?_
  refine aw_icmp_ltN (tgt := 13) dX3_isFull_6 (by decide) (by omega) (by omega) (fun c6 => ?_) (fun c6 => ?_)
  · rw [if_neg (by omega)]
    refine aw_iconst (v := nI 0) dX3_isFull_13 (by decide) ?_
    refine aw_iret dX3_isFull_14 rfl (by first | rfl | exact (pk_charN (by omega)).1 | decide) ?_
    exact ⟨rfl, rfl⟩
  · rw [if_pos (by omega)]
    refine aw_iconst (v := nI 1) dX3_isFull_9 (by decide) ?_
    refine aw_goto (tgt := 14) dX3_isFull_10 (by decide) ?_
    refine aw_iret dX3_isFull_14 rfl (by first | rfl | exact (pk_charN (by omega)).1 | decide) ?_
    exact ⟨rfl, rfl⟩
theorem c_Z_size {d : Nat} {h : Hp} : RT mX3_size d [.ref 56] h (fun v h' => v = some (.int (nI (h 56 3))) ∧ h' = h) := by
  change AW mX3_size _ 0 [some (.ref 56)] [] h _
  refine aw_aload_n dX3_size_0 rfl rfl ?_
  refine aw_getI dX3_size_1 fX3_21 (by first | assumption | rfl) (by rfl) ?_
  refine aw_iret dX3_size_4 rfl (by first | rfl | exact (pk_charN (by omega)).1 | decide) ?_
  exact ⟨rfl, rfl⟩
theorem c_Z_clear {d : Nat} {h : Hp} : RT mX3_clear d [.ref 56] h (fun v h' => v = none ∧ h' = hw h 56 3 0) := by
  change AW mX3_clear _ 0 [some (.ref 56)] [] h _
  refine aw_aload_n dX3_clear_0 rfl rfl ?_
  refine aw_iconst (v := nI 0) dX3_clear_1 (by decide) ?_
  refine aw_putfield dX3_clear_2 gX3_21 (by first | assumption | rfl) (by rfl) ?_
  refine aw_vret dX3_clear_5 rfl ?_
  exact ⟨rfl, rfl⟩
def h3w (h : Hp) (k i r t : Nat) : Hp := hw (hw (hw h 57 k i) 58 k r) 59 k t
theorem c_Z_set {d k i r t : Nat} {h : Hp} (hk : k < 8) : RT mX3_set (d + 1) [.ref 56, .int (nI k), .int (nI i), .int (nI r), .int (nI t)] h (fun v h' => v = none ∧ h' = h3w h k i r t) := by
  change AW mX3_set _ 0 [some (.ref 56), some (.int (nI k)), some (.int (nI i)), some (.int (nI r)), some (.int (nI t))] [] h _
  refine aw_aload_n dX3_set_0 rfl rfl ?_
  refine aw_getR dX3_set_1 fX3_9 (by first | assumption | rfl) (by rfl) ?_
  refine aw_iload_n dX3_set_4 rfl rfl ?_
  refine aw_iload_n dX3_set_5 rfl rfl ?_
  refine aw_callSF dX3_set_6 kX3_33 (c_put (by first | assumption | rfl) (by omega) (by decide)) rfl rfl rfl (Nat.le_of_ble_eq_true rfl) (Nat.le_of_ble_eq_true rfl) ?_
  dsimp only [Option.toList, List.cons_append, List.nil_append, Nat.reduceAdd]
  refine aw_aload_n dX3_set_9 rfl rfl ?_
  refine aw_getR dX3_set_10 fX3_15 (by first | assumption | rfl) (by rfl) ?_
  refine aw_iload_n dX3_set_13 rfl rfl ?_
  refine aw_iload_n dX3_set_14 rfl rfl ?_
  refine aw_callSF dX3_set_15 kX3_33 (c_put (by first | assumption | rfl) (by omega) (by decide)) rfl rfl rfl (Nat.le_of_ble_eq_true rfl) (Nat.le_of_ble_eq_true rfl) ?_
  dsimp only [Option.toList, List.cons_append, List.nil_append, Nat.reduceAdd]
  refine aw_aload_n dX3_set_18 rfl rfl ?_
  refine aw_getR dX3_set_19 fX3_18 (by first | assumption | rfl) (by rfl) ?_
  refine aw_iload_n dX3_set_22 rfl rfl ?_
  refine aw_iload dX3_set_23 rfl ?_
  refine aw_callSF dX3_set_25 kX3_33 (c_put (by first | assumption | rfl) (by omega) (by decide)) rfl rfl rfl (Nat.le_of_ble_eq_true rfl) (Nat.le_of_ble_eq_true rfl) ?_
  dsimp only [Option.toList, List.cons_append, List.nil_append, Nat.reduceAdd]
  refine aw_vret dX3_set_28 rfl ?_
  exact ⟨rfl, rfl⟩
theorem h3w_7 {h : Hp} {k i r t j : Nat} : h3w h k i r t 57 j = if j = k then i else h 57 j := by
  unfold h3w; rw [hw_ne (by decide), hw_ne (by decide), hw_at]
theorem h3w_8 {h : Hp} {k i r t j : Nat} : h3w h k i r t 58 j = if j = k then r else h 58 j := by
  unfold h3w; rw [hw_ne (by decide), hw_at, hw_ne (by decide)]
theorem h3w_9 {h : Hp} {k i r t j : Nat} : h3w h k i r t 59 j = if j = k then t else h 59 j := by
  unfold h3w; rw [hw_at, hw_ne (by decide), hw_ne (by decide)]
theorem h3w_ne {h : Hp} {k i r t a : Nat} (h7 : a ≠ 57) (h8 : a ≠ 58) (h9 : a ≠ 59) : h3w h k i r t a = h a := by
  unfold h3w; rw [hw_ne h9, hw_ne h8, hw_ne h7]
theorem c_Z_add {d c i r t : Nat} {h : Hp} {zs Z : Nat → Zt} (hz : ZX h c zs) (ho : ZO c zs Z) (hc : c < 8) (ht : t ≤ 120) (hb : ∀ k, k < c → (zs k).2.2 ≤ 120) :
    RT mX3_add (d + 2) [.ref 56, .int (nI i), .int (nI r), .int (nI t)] h (fun v h' => v = none ∧ (∃ zs2, ZX h' (c + 1) zs2 ∧ ZO (c + 1) zs2 (fun k => if k = c then (i, r, t) else Z k)) ∧ FS h h') := by
  obtain ⟨z0, z1⟩ := id hz
  have fin : ∀ k hh, k ≤ c → hh 56 3 = c → (∀ x, x < k → hh 57 x = (zs x).1 ∧ hh 58 x = (zs x).2.1 ∧ hh 59 x = (zs x).2.2) → (∀ x, k < x → x ≤ c → hh 57 x = (zs (x - 1)).1 ∧ hh 58 x = (zs (x - 1)).2.1 ∧ hh 59 x = (zs (x - 1)).2.2) → (∀ x, k ≤ x → x < c → t < (zs x).2.2) → (k = 0 ∨ (zs (k - 1)).2.2 ≤ t) → FS h hh →
      AW mX3_add (d + 2) 71 [some (.ref 56), some (.int (nI i)), some (.int (nI r)), some (.int (nI t)), some (.int (nI k))] [] hh (fun v h' => v = none ∧ (∃ zs2, ZX h' (c + 1) zs2 ∧ ZO (c + 1) zs2 (fun k => if k = c then (i, r, t) else Z k)) ∧ FS h h') := by
    intro k hh hk g0 g1 g2 g3 g4 g5
    refine aw_aload_n dX3_add_71 rfl rfl ?_
    refine aw_iload dX3_add_72 rfl ?_
    refine aw_iload_n dX3_add_74 rfl rfl ?_
    refine aw_iload_n dX3_add_75 rfl rfl ?_
    refine aw_iload_n dX3_add_76 rfl rfl ?_
    refine aw_callVF dX3_add_77 kX3_29 (c_Z_set (by omega)) (by first | assumption | rfl) rfl rfl rfl (Nat.le_of_ble_eq_true rfl) (Nat.le_of_ble_eq_true rfl) ?_
    dsimp only [Option.toList, List.cons_append, List.nil_append, Nat.reduceAdd]
    refine aw_aload_n dX3_add_80 rfl rfl ?_
    refine aw_dup dX3_add_81 rfl ?_
    refine aw_getI dX3_add_82 fX3_21 (by first | assumption | rfl) (by rfl) ?_
    refine aw_iconst (v := nI 1) dX3_add_85 (by decide) ?_
    refine aw_iaddN dX3_add_86 ?_
    rw [h3w_ne (by decide) (by decide) (by decide), g0]
    refine aw_putfield dX3_add_87 gX3_21 (by first | assumption | rfl) (by rfl) ?_
    refine aw_vret dX3_add_90 rfl ?_
    refine ⟨rfl, ⟨fun x => if x < k then zs x else if x = k then (i, r, t) else zs (x - 1), ⟨by rw [hw_at, if_pos rfl], fun x hx => ?_⟩, fun x hx => ?_, fun x hx => ?_, fun x hx => ?_⟩, fun o ho2 => ?_⟩
    · rw [hw_ne (a := 57) (by decide), hw_ne (a := 58) (by decide), hw_ne (a := 59) (by decide), h3w_7, h3w_8, h3w_9]
      by_cases q1 : x < k
      · rw [if_neg (by omega), if_neg (by omega), if_neg (by omega)]
        dsimp only
        rw [if_pos q1]
        exact g1 x q1
      · by_cases q2 : x = k
        · rw [if_pos q2, if_pos q2, if_pos q2]
          dsimp only
          rw [if_neg q1, if_pos q2]
          exact ⟨rfl, rfl, rfl⟩
        · rw [if_neg q2, if_neg q2, if_neg q2]
          dsimp only
          rw [if_neg q1, if_neg q2]
          exact g2 x (by omega) (by omega)
    · dsimp only
      by_cases q1 : x < k
      · rw [if_pos q1]
        obtain ⟨j, hj, e⟩ := ho.1 x (by omega)
        exact ⟨j, by omega, by rw [if_neg (by omega)]; exact e⟩
      · by_cases q2 : x = k
        · rw [if_neg q1, if_pos q2]
          exact ⟨c, by omega, by rw [if_pos rfl]⟩
        · rw [if_neg q1, if_neg q2]
          obtain ⟨j, hj, e⟩ := ho.1 (x - 1) (by omega)
          exact ⟨j, by omega, by rw [if_neg (by omega)]; exact e⟩
    · dsimp only
      by_cases q1 : x = c
      · rw [if_pos q1]
        exact ⟨k, by omega, by rw [if_neg (by omega), if_pos rfl]⟩
      · rw [if_neg q1]
        obtain ⟨j, hj, e⟩ := ho.2.1 x (by omega)
        by_cases q2 : j < k
        · exact ⟨j, by omega, by rw [if_pos q2]; exact e⟩
        · exact ⟨j + 1, by omega, by rw [if_neg (by omega), if_neg (by omega), Nat.add_sub_cancel]; exact e⟩
    · dsimp only
      by_cases q1 : x + 1 < k
      · rw [if_pos (by omega), if_pos q1]
        exact ho.2.2 x (by omega)
      · by_cases q2 : x + 1 = k
        · rw [if_pos (by omega), if_neg q1, if_pos q2]
          rcases g4 with z | z
          · omega
          · rw [show x = k - 1 by omega]; exact z
        · by_cases q3 : x = k
          · rw [if_neg (by omega), if_pos q3, if_neg q1, if_neg q2, Nat.add_sub_cancel]
            exact Nat.le_of_lt (g3 x (by omega) (by omega))
          · rw [if_neg (by omega), if_neg q3, if_neg q1, if_neg q2, Nat.add_sub_cancel]
            have := ho.2.2 (x - 1) (by omega)
            rw [show x - 1 + 1 = x by omega] at this
            exact this
    · rw [hw_ne (by omega), h3w_ne (by omega) (by omega) (by omega)]
      exact g5 o ho2
  have loop : ∀ k hh, k ≤ c → hh 56 3 = c → (∀ x, x < k → hh 57 x = (zs x).1 ∧ hh 58 x = (zs x).2.1 ∧ hh 59 x = (zs x).2.2) → (∀ x, k < x → x ≤ c → hh 57 x = (zs (x - 1)).1 ∧ hh 58 x = (zs (x - 1)).2.1 ∧ hh 59 x = (zs (x - 1)).2.2) → (∀ x, k ≤ x → x < c → t < (zs x).2.2) → FS h hh →
      AW mX3_add (d + 2) 6 [some (.ref 56), some (.int (nI i)), some (.int (nI r)), some (.int (nI t)), some (.int (nI k))] [] hh (fun v h' => v = none ∧ (∃ zs2, ZX h' (c + 1) zs2 ∧ ZO (c + 1) zs2 (fun k => if k = c then (i, r, t) else Z k)) ∧ FS h h') := by
    intro k
    induction k with
    | zero =>
      intro hh hk g0 g1 g2 g3 g5
      refine aw_iload dX3_add_6 rfl ?_
      refine aw_if_leN (tgt := 71) dX3_add_8 (by decide) (by omega) (fun _ => ?_) (fun q => absurd q (by omega))
      exact fin 0 hh hk g0 g1 g2 g3 (Or.inl rfl) g5
    | succ k ih =>
      intro hh hk g0 g1 g2 g3 g5
      have gk := g1 k (by omega)
      have hbk := hb k (by omega)
      refine aw_iload dX3_add_6 rfl ?_
      refine aw_if_leN (tgt := 71) dX3_add_8 (by decide) (by omega) (fun q => absurd q (by omega)) (fun _ => ?_)
      refine aw_aload_n dX3_add_11 rfl rfl ?_
      refine aw_getR dX3_add_12 fX3_18 (by first | assumption | rfl) (by rfl) ?_
      refine aw_iload dX3_add_15 rfl ?_
      refine aw_iconst (v := nI 1) dX3_add_17 (by decide) ?_
      refine aw_isubN dX3_add_18 (by omega) ?_
      rw [Nat.add_sub_cancel]
      refine aw_callSF dX3_add_19 kX3_25 (c_at (by first | assumption | rfl) (by omega) (by decide)) rfl rfl rfl (Nat.le_of_ble_eq_true rfl) (Nat.le_of_ble_eq_true rfl) ?_
      dsimp only [Option.toList, List.cons_append, List.nil_append, Nat.reduceAdd]
      rw [gk.2.2]
      refine aw_iload_n dX3_add_22 rfl rfl ?_
      refine aw_icmp_leN (tgt := 71) dX3_add_23 (by decide) (by omega) (by omega) (fun c23 => ?_) (fun c23 => ?_)
      · exact fin (k + 1) hh hk g0 g1 g2 g3 (Or.inr (by rw [Nat.add_sub_cancel]; omega)) g5
      · refine aw_aload_n dX3_add_26 rfl rfl ?_
        refine aw_iload dX3_add_27 rfl ?_
        refine aw_aload_n dX3_add_29 rfl rfl ?_
        refine aw_getR dX3_add_30 fX3_9 (by first | assumption | rfl) (by rfl) ?_
        refine aw_iload dX3_add_33 rfl ?_
        refine aw_iconst (v := nI 1) dX3_add_35 (by decide) ?_
        refine aw_isubN dX3_add_36 (by omega) ?_
        rw [Nat.add_sub_cancel]
        refine aw_callSF dX3_add_37 kX3_25 (c_at (by first | assumption | rfl) (by omega) (by decide)) rfl rfl rfl (Nat.le_of_ble_eq_true rfl) (Nat.le_of_ble_eq_true rfl) ?_
        dsimp only [Option.toList, List.cons_append, List.nil_append, Nat.reduceAdd]
        refine aw_aload_n dX3_add_40 rfl rfl ?_
        refine aw_getR dX3_add_41 fX3_15 (by first | assumption | rfl) (by rfl) ?_
        refine aw_iload dX3_add_44 rfl ?_
        refine aw_iconst (v := nI 1) dX3_add_46 (by decide) ?_
        refine aw_isubN dX3_add_47 (by omega) ?_
        rw [Nat.add_sub_cancel]
        refine aw_callSF dX3_add_48 kX3_25 (c_at (by first | assumption | rfl) (by omega) (by decide)) rfl rfl rfl (Nat.le_of_ble_eq_true rfl) (Nat.le_of_ble_eq_true rfl) ?_
        dsimp only [Option.toList, List.cons_append, List.nil_append, Nat.reduceAdd]
        refine aw_aload_n dX3_add_51 rfl rfl ?_
        refine aw_getR dX3_add_52 fX3_18 (by first | assumption | rfl) (by rfl) ?_
        refine aw_iload dX3_add_55 rfl ?_
        refine aw_iconst (v := nI 1) dX3_add_57 (by decide) ?_
        refine aw_isubN dX3_add_58 (by omega) ?_
        rw [Nat.add_sub_cancel]
        refine aw_callSF dX3_add_59 kX3_25 (c_at (by first | assumption | rfl) (by omega) (by decide)) rfl rfl rfl (Nat.le_of_ble_eq_true rfl) (Nat.le_of_ble_eq_true rfl) ?_
        dsimp only [Option.toList, List.cons_append, List.nil_append, Nat.reduceAdd]
        rw [gk.1, gk.2.1, gk.2.2]
        refine aw_callVF dX3_add_62 kX3_29 (c_Z_set (by omega)) (by first | assumption | rfl) rfl rfl rfl (Nat.le_of_ble_eq_true rfl) (Nat.le_of_ble_eq_true rfl) ?_
        dsimp only [Option.toList, List.cons_append, List.nil_append, Nat.reduceAdd]
        refine aw_iincM dX3_add_65 rfl (by omega) rfl ?_
        dsimp only [List.set]
        refine aw_goto (tgt := 6) dX3_add_68 (by decide) ?_
        rw [Nat.add_sub_cancel]
        refine ih _ (by omega) (by rw [h3w_ne (by decide) (by decide) (by decide)]; exact g0) (fun x hx => ?_) (fun x hx1 hx2 => ?_) (fun x hx1 hx2 => ?_) (fun o ho2 => by rw [h3w_ne (by omega) (by omega) (by omega)]; exact g5 o ho2)
        · rw [h3w_7, h3w_8, h3w_9, if_neg (by omega), if_neg (by omega), if_neg (by omega)]
          exact g1 x (by omega)
        · rw [h3w_7, h3w_8, h3w_9]
          by_cases q : x = k + 1
          · rw [if_pos q, if_pos q, if_pos q, q, Nat.add_sub_cancel]
            exact ⟨rfl, rfl, rfl⟩
          · rw [if_neg q, if_neg q, if_neg q]
            exact g2 x (by omega) hx2
        · by_cases q : x = k
          · subst q; omega
          · exact g3 x (by omega) hx2
  change AW mX3_add _ 0 [some (.ref 56), some (.int (nI i)), some (.int (nI r)), some (.int (nI t)), none] [] h _
  refine aw_aload_n dX3_add_0 rfl rfl ?_
  refine aw_getI dX3_add_1 fX3_21 (by first | assumption | rfl) (by rfl) ?_
  rw [z0]
  refine aw_istore dX3_add_4 (Nat.le_of_ble_eq_true rfl) rfl ?_
  dsimp only [List.set]
  exact loop c h (Nat.le_refl _) z0 z1 (fun x h1 h2 => by omega) (fun x h1 h2 => by omega) (fun o _ => rfl)
theorem rmF_add {S : Hs} {b L : Nat → Nat} {dd : Nat} {f : Nat → Nat} {g : Nat} : ∀ m, rmF S b L (dd + g) (rmF S b L dd f g) m = rmF S b L dd f (g + m) := by
  intro m
  induction m with
  | zero => rfl
  | succ m ih =>
    show chR S b L (dd + g + m) (rmF S b L (dd + g) (rmF S b L dd f g) m) (sn S) = chR S b L (dd + (g + m)) (rmF S b L dd f (g + m)) (sn S)
    rw [ih, Nat.add_assoc]
/-- all that was seen is so, the walk begun with rooms f on day 0 -/
def allS (S : Hs) (b L f : Nat → Nat) (c : Nat) (zs : Nat → Zt) : Prop := ∀ k, k < c → rmF S b L 0 f ((zs k).2.2 + 1) (zs k).1 = (zs k).2.1
theorem c_Z_allHoldOn {d c : Nat} {h : Hp} {S : Hs} {b L f : Nat → Nat} {zs : Nat → Zt} (hws : WS h S b L 0 f (fun _ => 0) 0) (hok : WO S b L) (hpm : PM (sn S) f) (hz : ZX h c zs) (hc : c ≤ 8) (hv : ∀ k, k < c → (zs k).1 < sn S ∧ (zs k).2.1 < sn S ∧ (zs k).2.2 ≤ 120) (hso : ∀ k, k + 1 < c → (zs k).2.2 ≤ (zs (k + 1)).2.2) :
    RT mX3_allHoldOn (d + 5) [.ref 56, .ref 60] h (fun v h' => ((allS S b L f c zs ∧ v = some (.int (nI 1))) ∨ (¬ allS S b L f c zs ∧ v = some (.int (nI 0)))) ∧ FW6 h h') := by
  have h38 := hok.1.2.1
  have hLs : ∀ q, q < sn S → L q < sn S := fun q hq => (hok.2 q hq).2
  have loop : ∀ u k g s c2 hh, k + u = c → g ≤ 121 → (k < c → g ≤ (zs k).2.2 + 1) → WS hh S b L g (rmF S b L 0 f g) s c2 → (∀ j, j < k → rmF S b L 0 f ((zs j).2.2 + 1) (zs j).1 = (zs j).2.1) → FW6 h hh → AW mX3_allHoldOn (d + 5) 4 [some (.ref 56), some (.ref 60), some (.int (nI g)), some (.int (nI k)), none] [] hh (fun v h' => ((allS S b L f c zs ∧ v = some (.int (nI 1))) ∨ (¬ allS S b L f c zs ∧ v = some (.int (nI 0)))) ∧ FW6 h h') := by
    intro u
    induction u with
    | zero =>
      intro k g s c2 hh hk hg hg2 hw1 hall hf
      have e56 : hh 56 3 = c := by rw [hf 56 (by decide)]; exact hz.1
      have ek : k = c := by omega
      subst ek
      refine aw_iload_n dX3_allHoldOn_4 rfl rfl ?_
      refine aw_aload_n dX3_allHoldOn_5 rfl rfl ?_
      refine aw_getI dX3_allHoldOn_6 fX3_21 (by first | assumption | rfl) (by rfl) ?_
      rw [e56]
      refine aw_icmp_geN (tgt := 69) dX3_allHoldOn_9 (by decide) (by omega) (by omega) (fun _ => ?_) (fun q => absurd q (by omega))
      refine aw_iconst (v := nI 1) dX3_allHoldOn_69 (by decide) ?_
      refine aw_iret dX3_allHoldOn_70 rfl (by first | rfl | exact (pk_charN (by omega)).1 | decide) ?_
      exact ⟨Or.inl ⟨hall, rfl⟩, hf⟩
    | succ u ih =>
      intro k g s c2 hh hk hg hg2 hw1 hall hf
      have e56 : hh 56 3 = c := by rw [hf 56 (by decide)]; exact hz.1
      have ez := hz.2 k (by omega)
      have e57 : hh 57 = h 57 := hf 57 (by decide)
      have e58 : hh 58 = h 58 := hf 58 (by decide)
      have e59 : hh 59 = h 59 := hf 59 (by decide)
      obtain ⟨v1, v2, v3⟩ := hv k (by omega)
      have hg3 := hg2 (by omega)
      have hpg := PM_rmF (b := b) (day0 := 0) hok.1 hLs hpm g
      refine aw_iload_n dX3_allHoldOn_4 rfl rfl ?_
      refine aw_aload_n dX3_allHoldOn_5 rfl rfl ?_
      refine aw_getI dX3_allHoldOn_6 fX3_21 (by first | assumption | rfl) (by rfl) ?_
      rw [e56]
      refine aw_icmp_geN (tgt := 69) dX3_allHoldOn_9 (by decide) (by omega) (by omega) (fun q => absurd q (by omega)) (fun _ => ?_)
      refine aw_aload_n dX3_allHoldOn_12 rfl rfl ?_
      refine aw_getR dX3_allHoldOn_13 fX3_18 (by first | assumption | rfl) (by rfl) ?_
      refine aw_iload_n dX3_allHoldOn_16 rfl rfl ?_
      refine aw_callSF dX3_allHoldOn_17 kX3_25 (c_at (by first | assumption | rfl) (by omega) (by decide)) rfl rfl rfl (Nat.le_of_ble_eq_true rfl) (Nat.le_of_ble_eq_true rfl) ?_
      dsimp only [Option.toList, List.cons_append, List.nil_append, Nat.reduceAdd]
      rw [e59, ez.2.2]
      refine aw_iconst (v := nI 1) dX3_allHoldOn_20 (by decide) ?_
      refine aw_iaddN dX3_allHoldOn_21 ?_
      refine aw_istore dX3_allHoldOn_22 (Nat.le_of_ble_eq_true rfl) rfl ?_
      dsimp only [List.set]
      refine aw_aload_n dX3_allHoldOn_24 rfl rfl ?_
      refine aw_iload dX3_allHoldOn_25 rfl ?_
      refine aw_iload_n dX3_allHoldOn_27 rfl rfl ?_
      refine aw_isubN dX3_allHoldOn_28 (by omega) ?_
      refine aw_callV dX3_allHoldOn_29 kX3_37 (c_W_go hw1 hok hpg (by omega)) (by first | assumption | rfl) rfl rfl rfl (Nat.le_of_ble_eq_true rfl) (Nat.le_of_ble_eq_true rfl) ?_
      rintro _ h2 ⟨rfl, hw2, hf2⟩
      dsimp only [Option.toList, List.cons_append, List.nil_append, Nat.reduceAdd]
      refine aw_iload dX3_allHoldOn_32 rfl ?_
      refine aw_istore_n dX3_allHoldOn_34 rfl (Nat.le_of_ble_eq_true rfl) rfl ?_
      dsimp only [List.set]
      refine aw_aload_n dX3_allHoldOn_35 rfl rfl ?_
      have hw3 : WS h2 S b L ((zs k).2.2 + 1) (rmF S b L 0 f ((zs k).2.2 + 1)) (fun i => s i + sunF S b L g (rmF S b L 0 f g) i ((zs k).2.2 + 1 - g)) (c2 + coldF S b L g (rmF S b L 0 f g) ((zs k).2.2 + 1 - g)) := by
        have e1 : g + ((zs k).2.2 + 1 - g) = (zs k).2.2 + 1 := by omega
        have e2 := rmF_add (S := S) (b := b) (L := L) (dd := 0) (f := f) (g := g) ((zs k).2.2 + 1 - g)
        rw [Nat.zero_add] at e2
        rw [e1, e2, e1] at hw2
        exact hw2
      have f3 := hf.trans hf2
      have p57 : h2 57 = h 57 := f3 57 (by decide)
      have p58 : h2 58 = h 58 := f3 58 (by decide)
      have rm := (hw3.2.2.2 (zs k).1 v1).1
      have hpz := (PM_rmF (b := b) (day0 := 0) hok.1 hLs hpm ((zs k).2.2 + 1)).1 _ v1
      refine aw_callVF dX3_allHoldOn_36 kX3_43 (c_W_standing) (by first | assumption | rfl) rfl rfl rfl (Nat.le_of_ble_eq_true rfl) (Nat.le_of_ble_eq_true rfl) ?_
      dsimp only [Option.toList, List.cons_append, List.nil_append, Nat.reduceAdd]
      refine aw_aload_n dX3_allHoldOn_39 rfl rfl ?_
      refine aw_getR dX3_allHoldOn_40 fX3_9 (by first | assumption | rfl) (by rfl) ?_
      refine aw_iload_n dX3_allHoldOn_43 rfl rfl ?_
      refine aw_callSF dX3_allHoldOn_44 kX3_25 (c_at (by first | assumption | rfl) (by omega) (by decide)) rfl rfl rfl (Nat.le_of_ble_eq_true rfl) (Nat.le_of_ble_eq_true rfl) ?_
      dsimp only [Option.toList, List.cons_append, List.nil_append, Nat.reduceAdd]
      rw [p57, ez.1]
      refine aw_callVF dX3_allHoldOn_47 kX3_47 (c_S_roomOf (by first | assumption | exact ⟨rfl, rfl, rfl⟩) (by omega)) (by first | assumption | rfl) rfl rfl rfl (Nat.le_of_ble_eq_true rfl) (Nat.le_of_ble_eq_true rfl) ?_
      dsimp only [Option.toList, List.cons_append, List.nil_append, Nat.reduceAdd]
      refine aw_aload_n dX3_allHoldOn_50 rfl rfl ?_
      refine aw_getR dX3_allHoldOn_51 fX3_15 (by first | assumption | rfl) (by rfl) ?_
      refine aw_iload_n dX3_allHoldOn_54 rfl rfl ?_
      refine aw_callSF dX3_allHoldOn_55 kX3_25 (c_at (by first | assumption | rfl) (by omega) (by decide)) rfl rfl rfl (Nat.le_of_ble_eq_true rfl) (Nat.le_of_ble_eq_true rfl) ?_
      dsimp only [Option.toList, List.cons_append, List.nil_append, Nat.reduceAdd]
      rw [p58, ez.2.1, rm]
      refine aw_icmp_eqN (tgt := 63) dX3_allHoldOn_58 (by decide) (by omega) (by omega) (fun c58 => ?_) (fun c58 => ?_)
      · refine aw_iincN (v := 1) dX3_allHoldOn_63 rfl rfl ?_
        dsimp only [List.set]
        refine aw_goto (tgt := 4) dX3_allHoldOn_66 (by decide) ?_
        refine aw_forget 4 ?_
        dsimp only [List.set]
        refine ih (k + 1) _ _ _ h2 (by omega) (by omega) (fun q => ?_) hw3 (fun j hj => ?_) f3
        · have := hso k q
          omega
        · rcases Nat.lt_succ_iff_lt_or_eq.mp hj with q | q
          · exact hall j q
          · subst q; exact c58
      · refine aw_iconst (v := nI 0) dX3_allHoldOn_61 (by decide) ?_
        refine aw_iret dX3_allHoldOn_62 rfl (by first | rfl | exact (pk_charN (by omega)).1 | decide) ?_
        exact ⟨Or.inr ⟨fun q => c58 (q k (by omega)), rfl⟩, f3⟩
  change AW mX3_allHoldOn _ 0 [some (.ref 56), some (.ref 60), none, none, none] [] h _
  refine aw_iconst (v := nI 0) dX3_allHoldOn_0 (by decide) ?_
  refine aw_istore_n dX3_allHoldOn_1 rfl (Nat.le_of_ble_eq_true rfl) rfl ?_
  dsimp only [List.set]
  refine aw_iconst (v := nI 0) dX3_allHoldOn_2 (by decide) ?_
  refine aw_istore_n dX3_allHoldOn_3 rfl (Nat.le_of_ble_eq_true rfl) rfl ?_
  dsimp only [List.set]
  exact loop c 0 0 _ _ h (by omega) (by omega) (fun _ => Nat.zero_le _) hws (fun j hj => by omega) (fun o _ => rfl)
