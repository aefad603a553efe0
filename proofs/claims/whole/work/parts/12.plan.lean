/-! Plan: object 4 (the house), its getters -/
theorem c_P_cousins {d : Nat} {h : Hp} : RT mX1_cousins d [.ref 4] h (fun v h' => v = some (.int (nI (h 4 5))) ∧ h' = h) := by
  change AW mX1_cousins _ 0 [some (.ref 4)] [] h _
  refine aw_aload_n dX1_cousins_0 rfl rfl ?_
  refine aw_getI dX1_cousins_1 fX1_27 (by first | assumption | rfl) (by rfl) ?_
  refine aw_iret dX1_cousins_4 rfl (by first | rfl | exact (pk_charN (by omega)).1 | decide) ?_
  exact ⟨rfl, rfl⟩
theorem c_P_rooms {d : Nat} {h : Hp} : RT mX1_rooms d [.ref 4] h (fun v h' => v = some (.int (nI (h 4 6))) ∧ h' = h) := by
  change AW mX1_rooms _ 0 [some (.ref 4)] [] h _
  refine aw_aload_n dX1_rooms_0 rfl rfl ?_
  refine aw_getI dX1_rooms_1 fX1_31 (by first | assumption | rfl) (by rfl) ?_
  refine aw_iret dX1_rooms_4 rfl (by first | rfl | exact (pk_charN (by omega)).1 | decide) ?_
  exact ⟨rfl, rfl⟩
theorem c_P_kindOf {d i : Nat} {h : Hp} (hi : i < 8) : RT mX1_kindOf (d + 1) [.ref 4, .int (nI i)] h (fun v h' => v = some (.int (nI (h 5 i))) ∧ h' = h) := by
  change AW mX1_kindOf _ 0 [some (.ref 4), some (.int (nI i))] [] h _
  refine aw_aload_n dX1_kindOf_0 rfl rfl ?_
  refine aw_getR dX1_kindOf_1 fX1_9 (by first | assumption | rfl) (by rfl) ?_
  refine aw_iload_n dX1_kindOf_4 rfl rfl ?_
  refine aw_callSF dX1_kindOf_5 kX1_46 (c_at (by first | assumption | rfl) (by omega) (by decide)) rfl rfl rfl (Nat.le_of_ble_eq_true rfl) (Nat.le_of_ble_eq_true rfl) ?_
  dsimp only [Option.toList, List.cons_append, List.nil_append, Nat.reduceAdd]
  refine aw_iret dX1_kindOf_8 rfl (by first | rfl | exact (pk_charN (by omega)).1 | decide) ?_
  exact ⟨rfl, rfl⟩
theorem c_P_birthdayAtFirst {d i : Nat} {h : Hp} (hi : i < 8) : RT mX1_birthdayAtFirst (d + 1) [.ref 4, .int (nI i)] h (fun v h' => v = some (.int (nI (h 6 i))) ∧ h' = h) := by
  change AW mX1_birthdayAtFirst _ 0 [some (.ref 4), some (.int (nI i))] [] h _
  refine aw_aload_n dX1_birthdayAtFirst_0 rfl rfl ?_
  refine aw_getR dX1_birthdayAtFirst_1 fX1_15 (by first | assumption | rfl) (by rfl) ?_
  refine aw_iload_n dX1_birthdayAtFirst_4 rfl rfl ?_
  refine aw_callSF dX1_birthdayAtFirst_5 kX1_46 (c_at (by first | assumption | rfl) (by omega) (by decide)) rfl rfl rfl (Nat.le_of_ble_eq_true rfl) (Nat.le_of_ble_eq_true rfl) ?_
  dsimp only [Option.toList, List.cons_append, List.nil_append, Nat.reduceAdd]
  refine aw_iret dX1_birthdayAtFirst_8 rfl (by first | rfl | exact (pk_charN (by omega)).1 | decide) ?_
  exact ⟨rfl, rfl⟩
theorem c_P_wantOf {d i : Nat} {h : Hp} (hi : i < 8) : RT mX1_wantOf (d + 1) [.ref 4, .int (nI i)] h (fun v h' => v = some (.int (nI (h 7 i))) ∧ h' = h) := by
  change AW mX1_wantOf _ 0 [some (.ref 4), some (.int (nI i))] [] h _
  refine aw_aload_n dX1_wantOf_0 rfl rfl ?_
  refine aw_getR dX1_wantOf_1 fX1_18 (by first | assumption | rfl) (by rfl) ?_
  refine aw_iload_n dX1_wantOf_4 rfl rfl ?_
  refine aw_callSF dX1_wantOf_5 kX1_46 (c_at (by first | assumption | rfl) (by omega) (by decide)) rfl rfl rfl (Nat.le_of_ble_eq_true rfl) (Nat.le_of_ble_eq_true rfl) ?_
  dsimp only [Option.toList, List.cons_append, List.nil_append, Nat.reduceAdd]
  refine aw_iret dX1_wantOf_8 rfl (by first | rfl | exact (pk_charN (by omega)).1 | decide) ?_
  exact ⟨rfl, rfl⟩
theorem c_P_winterSun {d i : Nat} {h : Hp} (hi : i < 8) : RT mX1_winterSun (d + 1) [.ref 4, .int (nI i)] h (fun v h' => v = some (.int (nI (h 8 i))) ∧ h' = h) := by
  change AW mX1_winterSun _ 0 [some (.ref 4), some (.int (nI i))] [] h _
  refine aw_aload_n dX1_winterSun_0 rfl rfl ?_
  refine aw_getR dX1_winterSun_1 fX1_21 (by first | assumption | rfl) (by rfl) ?_
  refine aw_iload_n dX1_winterSun_4 rfl rfl ?_
  refine aw_callSF dX1_winterSun_5 kX1_46 (c_at (by first | assumption | rfl) (by omega) (by decide)) rfl rfl rfl (Nat.le_of_ble_eq_true rfl) (Nat.le_of_ble_eq_true rfl) ?_
  dsimp only [Option.toList, List.cons_append, List.nil_append, Nat.reduceAdd]
  refine aw_iret dX1_winterSun_8 rfl (by first | rfl | exact (pk_charN (by omega)).1 | decide) ?_
  exact ⟨rfl, rfl⟩
theorem c_P_summerSun {d i : Nat} {h : Hp} (hi : i < 8) : RT mX1_summerSun (d + 1) [.ref 4, .int (nI i)] h (fun v h' => v = some (.int (nI (h 9 i))) ∧ h' = h) := by
  change AW mX1_summerSun _ 0 [some (.ref 4), some (.int (nI i))] [] h _
  refine aw_aload_n dX1_summerSun_0 rfl rfl ?_
  refine aw_getR dX1_summerSun_1 fX1_24 (by first | assumption | rfl) (by rfl) ?_
  refine aw_iload_n dX1_summerSun_4 rfl rfl ?_
  refine aw_callSF dX1_summerSun_5 kX1_46 (c_at (by first | assumption | rfl) (by omega) (by decide)) rfl rfl rfl (Nat.le_of_ble_eq_true rfl) (Nat.le_of_ble_eq_true rfl) ?_
  dsimp only [Option.toList, List.cons_append, List.nil_append, Nat.reduceAdd]
  refine aw_iret dX1_summerSun_8 rfl (by first | rfl | exact (pk_charN (by omega)).1 | decide) ?_
  exact ⟨rfl, rfl⟩
theorem c_P_sunsOn {d dd : Nat} {h : Hp} (hd0 : dd < 2 ^ 31) : RT mX1_sunsOn d [.ref 4, .int (nI dd)] h (fun v h' => v = some (.ref (if dd % 60 < 30 then 8 else 9)) ∧ h' = h) := by
  change AW mX1_sunsOn _ 0 [some (.ref 4), some (.int (nI dd))] [] h _
  refine aw_iload_n dX1_sunsOn_0 rfl rfl ?_
  refine aw_bipush (v := nI 60) dX1_sunsOn_1 (by decide) ?_
  refine aw_iremN dX1_sunsOn_3 (by omega) (by omega) (by omega) ?_
  refine aw_bipush (v := nI 30) dX1_sunsOn_4 (by decide) ?_
  refine aw_icmp_geN (tgt := 16) dX1_sunsOn_6 (by decide) (by omega) (by omega) (fun c6 => ?_) (fun c6 => ?_)
  · rw [if_neg (by omega)]
    refine aw_aload_n dX1_sunsOn_16 rfl rfl ?_
    refine aw_getR dX1_sunsOn_17 fX1_24 (by first | assumption | rfl) (by rfl) ?_
    refine aw_aret dX1_sunsOn_20 rfl (by first | exact Or.inl ⟨_, rfl⟩ | exact Or.inr ⟨_, rfl⟩) (by first | exact Or.inr ⟨_, rfl⟩ | exact Or.inl rfl) ?_
    exact ⟨rfl, rfl⟩
  · rw [if_pos (by omega)]
    refine aw_aload_n dX1_sunsOn_9 rfl rfl ?_
    refine aw_getR dX1_sunsOn_10 fX1_21 (by first | assumption | rfl) (by rfl) ?_
    refine aw_goto (tgt := 20) dX1_sunsOn_13 (by decide) ?_
    refine aw_aret dX1_sunsOn_20 rfl (by first | exact Or.inl ⟨_, rfl⟩ | exact Or.inr ⟨_, rfl⟩) (by first | exact Or.inr ⟨_, rfl⟩ | exact Or.inl rfl) ?_
    exact ⟨rfl, rfl⟩
/-! THE HOUSE as mathematics: how many, kinds, wants, winter and summer suns -/
abbrev Hs : Type := Nat × (Nat → Nat) × (Nat → Nat) × (Nat → Nat) × (Nat → Nat)
def sn (S : Hs) : Nat := S.1
def sK (S : Hs) : Nat → Nat := S.2.1
def sW (S : Hs) : Nat → Nat := S.2.2.1
def sA (S : Hs) : Nat → Nat := S.2.2.2.1
def sB (S : Hs) : Nat → Nat := S.2.2.2.2
def sunR (S : Hs) (day r : Nat) : Nat := if day % 60 < 30 then sA S r else sB S r
def swp (f : Nat → Nat) (i j : Nat) : Nat → Nat := fun k => if k = j then f i else if k = i then f j else f k
/-- a house as it can be -/
def HsOk (S : Hs) : Prop := 1 ≤ sn S ∧ sn S ≤ 8 ∧ ∀ i, i < sn S → sK S i ≤ 3 ∧ sW S i ≤ 9 ∧ sA S i ≤ 9 ∧ sB S i ≤ 9
theorem sunR_le {S : Hs} (hS : HsOk S) {day r : Nat} (hr : r < sn S) : sunR S day r ≤ 9 := by
  have := hS.2.2 r hr
  unfold sunR
  split <;> omega
/-- rooms as they can be: each of n has one of n, each is somebody's -/
def PM (n : Nat) (f : Nat → Nat) : Prop := (∀ i, i < n → f i < n) ∧ ∀ r, r < n → ∃ i, i < n ∧ f i = r
theorem PM_swp {n : Nat} {f : Nat → Nat} (hf : PM n f) {i j : Nat} (hi : i < n) (hj : j < n) : PM n (swp f i j) := by
  refine ⟨fun k hk => ?_, fun r hr => ?_⟩
  · unfold swp
    split
    · exact hf.1 i hi
    · split
      · exact hf.1 j hj
      · exact hf.1 k hk
  · obtain ⟨k, hk, e⟩ := hf.2 r hr
    by_cases h1 : k = i
    · subst h1
      exact ⟨j, hj, by unfold swp; rw [if_pos rfl]; exact e⟩
    · by_cases h2 : k = j
      · subst h2
        refine ⟨i, hi, ?_⟩
        unfold swp
        by_cases h3 : i = k
        · exact absurd h3.symm h1
        · rw [if_neg h3, if_pos rfl]; exact e
      · refine ⟨k, hk, ?_⟩
        unfold swp
        rw [if_neg h2, if_neg h1]; exact e
/-- with whom the one at place p of the list changes -/
def nxo (S : Hs) (L : Nat → Nat) (p : Nat) : Nat := L ((p + if sK S (L p) = 2 then 2 else 1) % sn S)
def ch1 (S : Hs) (L : Nat → Nat) (day p : Nat) (f : Nat → Nat) : Nat → Nat :=
  if (sK S (L p) = 1 ∧ day / 60 % 4 ≠ 0) ∨ (sK S (L p) = 3 ∧ sunR S day (f (nxo S L p)) ≤ sunR S day (f (L p))) then f
  else swp f (L p) (nxo S L p)
def chR (S : Hs) (b L : Nat → Nat) (day : Nat) (f : Nat → Nat) : Nat → Nat → Nat
  | 0 => f
  | p + 1 => if b (L p) = day % 60 then ch1 S L day p (chR S b L day f p) else chR S b L day f p
/-- the rooms behind k days from day day0 on -/
def rmF (S : Hs) (b L : Nat → Nat) (day0 : Nat) (f : Nat → Nat) : Nat → Nat → Nat
  | 0 => f
  | k + 1 => chR S b L (day0 + k) (rmF S b L day0 f k) (sn S)
def sunF (S : Hs) (b L : Nat → Nat) (day0 : Nat) (f : Nat → Nat) (i : Nat) : Nat → Nat
  | 0 => 0
  | k + 1 => sunF S b L day0 f i k + sunR S (day0 + k) (rmF S b L day0 f (k + 1) i)
def coldN (S : Hs) (day : Nat) (f : Nat → Nat) : Nat → Nat
  | 0 => 0
  | m + 1 => coldN S day f m + if sunR S day (f m) < sW S m then 1 else 0
def coldF (S : Hs) (b L : Nat → Nat) (day0 : Nat) (f : Nat → Nat) : Nat → Nat
  | 0 => 0
  | k + 1 => coldF S b L day0 f k + coldN S (day0 + k) (rmF S b L day0 f (k + 1)) (sn S)
theorem PM_ch1 {S : Hs} {L : Nat → Nat} {day p : Nat} {f : Nat → Nat} (hS : HsOk S) (hL : ∀ q, q < sn S → L q < sn S) (hp : p < sn S) (hf : PM (sn S) f) : PM (sn S) (ch1 S L day p f) := by
  unfold ch1
  split
  · exact hf
  · exact PM_swp hf (hL p hp) (hL _ (Nat.mod_lt _ (by have := hS.1; omega)))
theorem PM_chR {S : Hs} {b L : Nat → Nat} {day : Nat} {f : Nat → Nat} (hS : HsOk S) (hL : ∀ q, q < sn S → L q < sn S) (hf : PM (sn S) f) : ∀ p, p ≤ sn S → PM (sn S) (chR S b L day f p) := by
  intro p
  induction p with
  | zero => intro _; exact hf
  | succ p ih =>
    intro hp
    unfold chR
    split
    · exact PM_ch1 hS hL (by omega) (ih (by omega))
    · exact ih (by omega)
theorem PM_rmF {S : Hs} {b L : Nat → Nat} {day0 : Nat} {f : Nat → Nat} (hS : HsOk S) (hL : ∀ q, q < sn S → L q < sn S) (hf : PM (sn S) f) : ∀ k, PM (sn S) (rmF S b L day0 f k) := by
  intro k
  induction k with
  | zero => exact hf
  | succ k ih => exact PM_chR hS hL ih (sn S) (Nat.le_refl _)
