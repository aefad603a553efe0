/-! THE LIST: places by birthday; makeList sorts by insertion -/
def bef (b : Nat → Nat) (j k : Nat) : Prop := b j < b k ∨ (b j = b k ∧ j < k)
def rkc (b : Nat → Nat) (j : Nat) : Nat → Nat
  | 0 => 0
  | m + 1 => rkc b j m + if b m < b j ∨ (b m = b j ∧ m < j) then 1 else 0
theorem rkc_s (b : Nat → Nat) (j m : Nat) : rkc b j (m + 1) = rkc b j m + if b m < b j ∨ (b m = b j ∧ m < j) then 1 else 0 := rfl
theorem rk_mono {b : Nat → Nat} {j k : Nat} (hjk : bef b j k) : ∀ m, rkc b j m + (if j < m then 1 else 0) ≤ rkc b k m := by
  intro m
  unfold bef at hjk
  induction m with
  | zero => simp [rkc]
  | succ m ih =>
    rw [rkc_s, rkc_s]
    by_cases h1 : b m < b j ∨ (b m = b j ∧ m < j)
    · rw [if_pos h1, if_pos (show b m < b k ∨ (b m = b k ∧ m < k) by omega)]
      have hmj : ¬ m = j := by
        intro e9
        rw [e9] at h1
        omega
      by_cases h2 : j < m
      · rw [if_pos h2] at ih; rw [if_pos (by omega)]; omega
      · rw [if_neg h2] at ih; rw [if_neg (by omega)]; omega
    · rw [if_neg h1]
      by_cases h3 : m = j
      · subst h3
        rw [if_neg (by omega)] at ih
        rw [if_pos (by omega), if_pos hjk]
        omega
      · by_cases h2 : j < m
        · rw [if_pos h2] at ih
          rw [if_pos (by omega)]
          split <;> omega
        · rw [if_neg h2] at ih
          rw [if_neg (by omega)]
          split <;> omega
theorem rk_lt {b : Nat → Nat} {j k n : Nat} (hjk : bef b j k) (hj : j < n) : rkc b j n < rkc b k n := by
  have := rk_mono hjk n
  rw [if_pos hj] at this
  omega
theorem rk_inj {b : Nat → Nat} {j k n : Nat} (hj : j < n) (hk : k < n) (he : rkc b j n = rkc b k n) : j = k := by
  by_cases h1 : bef b j k
  · have := rk_lt h1 hj; omega
  · by_cases h2 : bef b k j
    · have := rk_lt h2 hk; omega
    · unfold bef at h1 h2; omega
theorem rk_le (b : Nat → Nat) (j : Nat) : ∀ m, rkc b j m ≤ m := by
  intro m
  induction m with
  | zero => exact Nat.le_refl _
  | succ m ih =>
    rw [rkc_s]
    split <;> omega
/-- a list of the first n by birthday -/
def SR (n : Nat) (b l : Nat → Nat) : Prop := ∀ p, p < n → l p < n ∧ rkc b (l p) n = p
theorem SR_ins {i p : Nat} {b l l2 : Nat → Nat} (hl : SR i b l) (hp : p ≤ i) (h0 : p = 0 ∨ b (l (p - 1)) ≤ b i) (h1 : ∀ x, p ≤ x → x < i → b i < b (l x)) (g1 : ∀ x, x < p → l2 x = l x) (g2 : l2 p = i) (g3 : ∀ x, p < x → x ≤ i → l2 x = l (x - 1)) : SR (i + 1) b l2 := by
  intro x hx
  by_cases c1 : x < p
  · obtain ⟨q1, q2⟩ := hl x (by omega)
    rw [g1 x c1]
    refine ⟨by omega, ?_⟩
    have hneg : ¬ (b i < b (l x) ∨ (b i = b (l x) ∧ i < l x)) := by
      rintro (z | ⟨z, _⟩)
      · obtain ⟨r1, r2⟩ := hl (p - 1) (by omega)
        have hb : bef b (l (p - 1)) (l x) := Or.inl (by omega)
        have := rk_lt hb r1
        omega
      · omega
    rw [rkc_s, q2, if_neg hneg, Nat.add_zero]
  · by_cases c2 : x = p
    · subst c2
      rw [g2]
      refine ⟨by omega, ?_⟩
      rw [rkc_s, if_neg (by omega)]
      have lo : x ≤ rkc b i i := by
        rcases Nat.eq_zero_or_pos x with z | z
        · omega
        · obtain ⟨r1, r2⟩ := hl (x - 1) (by omega)
          have hb : bef b (l (x - 1)) i := by
            unfold bef
            omega
          have := rk_lt hb r1
          omega
      have hi : rkc b i i ≤ x := by
        by_cases z : x = i
        · rw [z]; exact rk_le b i i
        · obtain ⟨r1, r2⟩ := hl x (by omega)
          have := rk_mono (show bef b i (l x) from Or.inl (h1 x (by omega) (by omega))) i
          rw [if_neg (by omega)] at this
          omega
      omega
    · obtain ⟨q1, q2⟩ := hl (x - 1) (by omega)
      rw [g3 x (by omega) (by omega)]
      refine ⟨by omega, ?_⟩
      rw [rkc_s, q2, if_pos (Or.inl (h1 (x - 1) (by omega) (by omega)))]
      omega
theorem SR_ex (b : Nat → Nat) : ∀ n, ∃ l, SR n b l := by
  intro n
  induction n with
  | zero => exact ⟨fun _ => 0, fun p hp => by omega⟩
  | succ i ih =>
    obtain ⟨l, hl⟩ := ih
    have hex : ∃ p, p ≤ i ∧ (p = 0 ∨ b (l (p - 1)) ≤ b i) ∧ ∀ x, p ≤ x → x < i → b i < b (l x) := by
      have : ∀ t, t ≤ i → (∀ x, t ≤ x → x < i → b i < b (l x)) → ∃ p, p ≤ i ∧ (p = 0 ∨ b (l (p - 1)) ≤ b i) ∧ ∀ x, p ≤ x → x < i → b i < b (l x) := by
        intro t
        induction t with
        | zero => intro h1 h2; exact ⟨0, by omega, Or.inl rfl, h2⟩
        | succ t iht =>
          intro h1 h2
          by_cases hc : b (l t) ≤ b i
          · exact ⟨t + 1, h1, Or.inr hc, h2⟩
          · refine iht (by omega) (fun x h3 h4 => ?_)
            by_cases z : x = t
            · subst z; omega
            · exact h2 x (by omega) h4
      exact this i (Nat.le_refl _) (fun x h1 h2 => by omega)
    obtain ⟨p, h1, h2, h3⟩ := hex
    refine ⟨fun x => if x < p then l x else if x = p then i else l (x - 1), SR_ins hl h1 h2 h3 (fun x hx => by rw [if_pos hx]) (by rw [if_neg (by omega), if_pos rfl]) (fun x hx _ => by rw [if_neg (by omega), if_neg (by omega)])⟩
/-- THE LIST -/
def lsB (n : Nat) (b : Nat → Nat) (p : Nat) : Nat := own (fun j => rkc b j n) p n 0
theorem own_spec {f : Nat → Nat} {r : Nat} : ∀ t k j, k ≤ j → j < k + t → f j = r → (∀ i, k ≤ i → i < k + t → f i = r → i = j) → own f r t k = j := by
  intro t
  induction t with
  | zero => intro k j h1 h2; omega
  | succ t ih =>
    intro k j h1 h2 h3 h4
    unfold own
    by_cases hk : f k = r
    · rw [if_pos hk]; exact h4 k (Nat.le_refl _) (by omega) hk
    · rw [if_neg hk]
      refine ih (k + 1) j ?_ (by omega) h3 (fun i g1 g2 g3 => h4 i (by omega) (by omega) g3)
      by_cases z : j = k
      · subst z; exact absurd h3 hk
      · omega
theorem lsB_of {n p j : Nat} {b : Nat → Nat} (hj : j < n) (he : rkc b j n = p) : lsB n b p = j :=
  own_spec n 0 j (Nat.zero_le _) (by omega) he (fun i _ h2 h3 => rk_inj (by omega) hj (h3.trans he.symm))
theorem lsB_SR {n : Nat} {b l : Nat → Nat} (hl : SR n b l) {p : Nat} (hp : p < n) : l p = lsB n b p := (lsB_of (hl p hp).1 (hl p hp).2).symm
theorem lsB_ok {n : Nat} {b : Nat → Nat} : SR n b (lsB n b) := by
  obtain ⟨l, hl⟩ := SR_ex b n
  intro p hp
  rw [← lsB_SR hl hp]
  exact hl p hp
theorem c_W_makeList {d dd : Nat} {h : Hp} {S : Hs} {b : Nat → Nat} (hx : HX h S) (hS : HsOk S) (hb : ∀ i, i < sn S → h 63 i = b i ∧ b i < 60) :
    RT mX6_makeList (d + 2) [.ref 60] h (fun v h' => v = none ∧ (∀ p, p < sn S → h' 64 p = lsB (sn S) b p) ∧ ∀ o, o ≠ 64 → h' o = h o) := by
  have h38 := hS.2.1
  have inner : ∀ p i l hh, i < sn S → p ≤ i → SR i b l → (∀ o, o ≠ 64 → hh o = h o) → (∀ x, x < p → hh 64 x = l x) → (∀ x, p < x → x ≤ i → hh 64 x = l (x - 1)) → (∀ x, p ≤ x → x < i → b i < b (l x)) →
      (∀ h2, (∀ o, o ≠ 64 → h2 o = h o) → SR (i + 1) b (h2 64) → AW mX6_makeList (d + 2) 2 [some (.ref 60), some (.int (nI (i + 1))), none] [] h2 (fun v h' => v = none ∧ (∀ p, p < sn S → h' 64 p = lsB (sn S) b p) ∧ ∀ o, o ≠ 64 → h' o = h o)) →
      AW mX6_makeList (d + 2) 15 [some (.ref 60), some (.int (nI i)), some (.int (nI p))] [] hh (fun v h' => v = none ∧ (∀ p, p < sn S → h' 64 p = lsB (sn S) b p) ∧ ∀ o, o ≠ 64 → h' o = h o) := by
    intro p
    induction p with
    | zero =>
      intro i l hh hi hpi hl hfr g1 g3 g4 kk
      refine aw_iload_n dX6_makeList_15 rfl rfl ?_
      refine aw_if_leN (tgt := 71) dX6_makeList_16 (by decide) (by omega) (fun _ => ?_) (fun q => absurd q (by omega))
      refine aw_aload_n dX6_makeList_71 rfl rfl ?_
      refine aw_getR dX6_makeList_72 fX6_18 (by first | assumption | rfl) (by rfl) ?_
      refine aw_iload_n dX6_makeList_75 rfl rfl ?_
      refine aw_iload_n dX6_makeList_76 rfl rfl ?_
      refine aw_callSF dX6_makeList_77 kX6_89 (c_put (by first | assumption | rfl) (by omega) (by decide)) rfl rfl rfl (Nat.le_of_ble_eq_true rfl) (Nat.le_of_ble_eq_true rfl) ?_
      dsimp only [Option.toList, List.cons_append, List.nil_append, Nat.reduceAdd]
      refine aw_iincN (v := 1) dX6_makeList_80 rfl rfl ?_
      dsimp only [List.set]
      refine aw_goto (tgt := 2) dX6_makeList_83 (by decide) ?_
      refine aw_forget 2 ?_
      dsimp only [List.set]
      refine kk _ (fun o ho => by rw [hw_ne ho]; exact hfr o ho) ?_
      refine SR_ins hl hpi (Or.inl rfl) g4 (fun x hx => by omega) (by rw [hw_at, if_pos rfl]) (fun x hx1 hx2 => by rw [hw_at, if_neg (by omega)]; exact g3 x hx1 hx2)
    | succ p ih =>
      intro i l hh hi hpi hl hfr g1 g3 g4 kk
      have el : hh 64 p = l p := g1 p (by omega)
      have hlp := hl p (by omega)
      have e1 := hb (l p) (by omega)
      have e2 := hb i hi
      have e3 : hh 63 = h 63 := hfr 63 (by decide)
      refine aw_iload_n dX6_makeList_15 rfl rfl ?_
      refine aw_if_leN (tgt := 71) dX6_makeList_16 (by decide) (by omega) (fun q => absurd q (by omega)) (fun _ => ?_)
      refine aw_aload_n dX6_makeList_19 rfl rfl ?_
      refine aw_getR dX6_makeList_20 fX6_12 (by first | assumption | rfl) (by rfl) ?_
      refine aw_aload_n dX6_makeList_23 rfl rfl ?_
      refine aw_getR dX6_makeList_24 fX6_18 (by first | assumption | rfl) (by rfl) ?_
      refine aw_iload_n dX6_makeList_27 rfl rfl ?_
      refine aw_iconst (v := nI 1) dX6_makeList_28 (by decide) ?_
      refine aw_isubN dX6_makeList_29 (by omega) ?_
      rw [Nat.add_sub_cancel]
      refine aw_callSF dX6_makeList_30 kX6_43 (c_at (by first | assumption | rfl) (by omega) (by decide)) rfl rfl rfl (Nat.le_of_ble_eq_true rfl) (Nat.le_of_ble_eq_true rfl) ?_
      dsimp only [Option.toList, List.cons_append, List.nil_append, Nat.reduceAdd]
      rw [el]
      refine aw_callVF dX6_makeList_33 kX6_86 (c_S_birthdayOf (by first | assumption | exact ⟨rfl, rfl, rfl⟩) (by omega)) (by first | assumption | rfl) rfl rfl rfl (Nat.le_of_ble_eq_true rfl) (Nat.le_of_ble_eq_true rfl) ?_
      dsimp only [Option.toList, List.cons_append, List.nil_append, Nat.reduceAdd]
      refine aw_aload_n dX6_makeList_36 rfl rfl ?_
      refine aw_getR dX6_makeList_37 fX6_12 (by first | assumption | rfl) (by rfl) ?_
      refine aw_iload_n dX6_makeList_40 rfl rfl ?_
      refine aw_callVF dX6_makeList_41 kX6_86 (c_S_birthdayOf (by first | assumption | exact ⟨rfl, rfl, rfl⟩) (by omega)) (by first | assumption | rfl) rfl rfl rfl (Nat.le_of_ble_eq_true rfl) (Nat.le_of_ble_eq_true rfl) ?_
      dsimp only [Option.toList, List.cons_append, List.nil_append, Nat.reduceAdd]
      rw [e3, e1.1, e2.1]
      refine aw_icmp_leN (tgt := 71) dX6_makeList_44 (by decide) (by omega) (by omega) (fun c44 => ?_) (fun c44 => ?_)
      · refine aw_aload_n dX6_makeList_71 rfl rfl ?_
        refine aw_getR dX6_makeList_72 fX6_18 (by first | assumption | rfl) (by rfl) ?_
        refine aw_iload_n dX6_makeList_75 rfl rfl ?_
        refine aw_iload_n dX6_makeList_76 rfl rfl ?_
        refine aw_callSF dX6_makeList_77 kX6_89 (c_put (by first | assumption | rfl) (by omega) (by decide)) rfl rfl rfl (Nat.le_of_ble_eq_true rfl) (Nat.le_of_ble_eq_true rfl) ?_
        dsimp only [Option.toList, List.cons_append, List.nil_append, Nat.reduceAdd]
        refine aw_iincN (v := 1) dX6_makeList_80 rfl rfl ?_
        dsimp only [List.set]
        refine aw_goto (tgt := 2) dX6_makeList_83 (by decide) ?_
        refine aw_forget 2 ?_
        dsimp only [List.set]
        refine kk _ (fun o ho => by rw [hw_ne ho]; exact hfr o ho) ?_
        refine SR_ins hl hpi (Or.inr (by rw [Nat.add_sub_cancel]; omega)) g4 (fun x hx => by rw [hw_at, if_neg (by omega)]; exact g1 x hx) (by rw [hw_at, if_pos rfl]) (fun x hx1 hx2 => by rw [hw_at, if_neg (by omega)]; exact g3 x hx1 hx2)
      · refine aw_aload_n dX6_makeList_47 rfl rfl ?_
        refine aw_getR dX6_makeList_48 fX6_18 (by first | assumption | rfl) (by rfl) ?_
        refine aw_iload_n dX6_makeList_51 rfl rfl ?_
        refine aw_aload_n dX6_makeList_52 rfl rfl ?_
        refine aw_getR dX6_makeList_53 fX6_18 (by first | assumption | rfl) (by rfl) ?_
        refine aw_iload_n dX6_makeList_56 rfl rfl ?_
        refine aw_iconst (v := nI 1) dX6_makeList_57 (by decide) ?_
        refine aw_isubN dX6_makeList_58 (by omega) ?_
        rw [Nat.add_sub_cancel]
        refine aw_callSF dX6_makeList_59 kX6_43 (c_at (by first | assumption | rfl) (by omega) (by decide)) rfl rfl rfl (Nat.le_of_ble_eq_true rfl) (Nat.le_of_ble_eq_true rfl) ?_
        dsimp only [Option.toList, List.cons_append, List.nil_append, Nat.reduceAdd]
        rw [el]
        refine aw_callSF dX6_makeList_62 kX6_89 (c_put (by first | assumption | rfl) (by omega) (by decide)) rfl rfl rfl (Nat.le_of_ble_eq_true rfl) (Nat.le_of_ble_eq_true rfl) ?_
        dsimp only [Option.toList, List.cons_append, List.nil_append, Nat.reduceAdd]
        refine aw_iincM dX6_makeList_65 rfl (by omega) rfl ?_
        dsimp only [List.set]
        refine aw_goto (tgt := 15) dX6_makeList_68 (by decide) ?_
        rw [Nat.add_sub_cancel]
        refine ih i l _ hi (by omega) hl (fun o ho => by rw [hw_ne ho]; exact hfr o ho) (fun x hx => by rw [hw_at, if_neg (by omega)]; exact g1 x (by omega)) (fun x hx1 hx2 => ?_) (fun x hx1 hx2 => ?_) kk
        · rw [hw_at]
          by_cases z : x = p + 1
          · subst z; rw [if_pos rfl, Nat.add_sub_cancel]
          · rw [if_neg z]; exact g3 x (by omega) hx2
        · by_cases z : x = p
          · subst z; omega
          · exact g4 x (by omega) hx2
  have outer : ∀ u i hh, i + u = sn S → (∀ o, o ≠ 64 → hh o = h o) → SR i b (hh 64) → AW mX6_makeList (d + 2) 2 [some (.ref 60), some (.int (nI i)), none] [] hh (fun v h' => v = none ∧ (∀ p, p < sn S → h' 64 p = lsB (sn S) b p) ∧ ∀ o, o ≠ 64 → h' o = h o) := by
    intro u
    induction u with
    | zero =>
      intro i hh hi hfr hl
      have ei : i = sn S := by omega
      subst ei
      have e4 : hh 4 5 = sn S := by rw [hfr 4 (by decide)]; exact hx.1
      refine aw_iload_n dX6_makeList_2 rfl rfl ?_
      refine aw_aload_n dX6_makeList_3 rfl rfl ?_
      refine aw_getR dX6_makeList_4 fX6_25 (by first | assumption | rfl) (by rfl) ?_
      refine aw_callVF dX6_makeList_7 kX6_47 (c_P_cousins) (by first | assumption | rfl) rfl rfl rfl (Nat.le_of_ble_eq_true rfl) (Nat.le_of_ble_eq_true rfl) ?_
      dsimp only [Option.toList, List.cons_append, List.nil_append, Nat.reduceAdd]
      rw [e4]
      refine aw_icmp_geN (tgt := 86) dX6_makeList_10 (by decide) (by omega) (by omega) (fun _ => ?_) (fun q => absurd q (by omega))
      refine aw_vret dX6_makeList_86 rfl ?_
      exact ⟨rfl, fun p hp => lsB_SR hl hp, hfr⟩
    | succ u ih =>
      intro i hh hi hfr hl
      have e4 : hh 4 5 = sn S := by rw [hfr 4 (by decide)]; exact hx.1
      refine aw_iload_n dX6_makeList_2 rfl rfl ?_
      refine aw_aload_n dX6_makeList_3 rfl rfl ?_
      refine aw_getR dX6_makeList_4 fX6_25 (by first | assumption | rfl) (by rfl) ?_
      refine aw_callVF dX6_makeList_7 kX6_47 (c_P_cousins) (by first | assumption | rfl) rfl rfl rfl (Nat.le_of_ble_eq_true rfl) (Nat.le_of_ble_eq_true rfl) ?_
      dsimp only [Option.toList, List.cons_append, List.nil_append, Nat.reduceAdd]
      rw [e4]
      refine aw_icmp_geN (tgt := 86) dX6_makeList_10 (by decide) (by omega) (by omega) (fun q => absurd q (by omega)) (fun _ => ?_)
      refine aw_iload_n dX6_makeList_13 rfl rfl ?_
      refine aw_istore_n dX6_makeList_14 rfl (Nat.le_of_ble_eq_true rfl) rfl ?_
      dsimp only [List.set]
      exact inner i i (hh 64) hh (by omega) (Nat.le_refl _) hl hfr (fun x _ => rfl) (fun x h1 h2 => by omega) (fun x h1 h2 => by omega) (fun h2 q1 q2 => ih (i + 1) h2 (by omega) q1 q2)
  change AW mX6_makeList _ 0 [some (.ref 60), none, none] [] h _
  refine aw_iconst (v := nI 0) dX6_makeList_0 (by decide) ?_
  refine aw_istore_n dX6_makeList_1 rfl (Nat.le_of_ble_eq_true rfl) rfl ?_
  dsimp only [List.set]
  exact outer (sn S) 0 h (by omega) (fun o _ => rfl) (fun p hp => by omega)
theorem c_W_clearCounts {d : Nat} {h : Hp} : RT mX6_clearCounts d [.ref 60] h (fun v h' => v = none ∧ h' 60 4 = 0 ∧ (∀ i, i < 8 → h' 65 i = 0) ∧ ∀ o, o ≠ 60 → o ≠ 65 → h' o = h o) := by
  have loop : ∀ u k hh, k + u = 8 → hh 60 4 = 0 → (∀ i, i < k → hh 65 i = 0) → (∀ o, o ≠ 60 → o ≠ 65 → hh o = h o) → AW mX6_clearCounts d 7 [some (.ref 60), some (.int (nI k))] [] hh (fun v h' => v = none ∧ h' 60 4 = 0 ∧ (∀ i, i < 8 → h' 65 i = 0) ∧ ∀ o, o ≠ 60 → o ≠ 65 → h' o = h o) := by
    intro u
    induction u with
    | zero =>
      intro k hh hk g1 g2 g3
      have ek : k = 8 := by omega
      subst ek
      refine aw_iload_n dX6_clearCounts_7 rfl rfl ?_
      refine aw_aload_n dX6_clearCounts_8 rfl rfl ?_
      refine aw_getR dX6_clearCounts_9 fX6_22 (by first | assumption | rfl) (by rfl) ?_
      refine aw_alen dX6_clearCounts_12 (by first | assumption | rfl) ?_
      refine aw_icmp_geN (tgt := 29) dX6_clearCounts_13 (by decide) (by omega) (by omega) (fun _ => ?_) (fun q => absurd q (by omega))
      refine aw_vret dX6_clearCounts_29 rfl ?_
      exact ⟨rfl, g1, g2, g3⟩
    | succ u ih =>
      intro k hh hk g1 g2 g3
      refine aw_iload_n dX6_clearCounts_7 rfl rfl ?_
      refine aw_aload_n dX6_clearCounts_8 rfl rfl ?_
      refine aw_getR dX6_clearCounts_9 fX6_22 (by first | assumption | rfl) (by rfl) ?_
      refine aw_alen dX6_clearCounts_12 (by first | assumption | rfl) ?_
      refine aw_icmp_geN (tgt := 29) dX6_clearCounts_13 (by decide) (by omega) (by omega) (fun q => absurd q (by omega)) (fun _ => ?_)
      refine aw_aload_n dX6_clearCounts_16 rfl rfl ?_
      refine aw_getR dX6_clearCounts_17 fX6_22 (by first | assumption | rfl) (by rfl) ?_
      refine aw_iload_n dX6_clearCounts_20 rfl rfl ?_
      refine aw_iconst (v := nI 0) dX6_clearCounts_21 (by decide) ?_
      refine aw_iastore dX6_clearCounts_22 (by first | assumption | rfl) (by omega) (by omega) ?_
      refine aw_iincN (v := 1) dX6_clearCounts_23 rfl rfl ?_
      dsimp only [List.set]
      refine aw_goto (tgt := 7) dX6_clearCounts_26 (by decide) ?_
      refine ih (k + 1) _ (by omega) (by rw [hw_ne (by decide)]; exact g1) (fun i hi => ?_) (fun o q1 q2 => by rw [hw_ne q2]; exact g3 o q1 q2)
      rw [hw_at]
      split
      · rfl
      · exact g2 i (by omega)
  change AW mX6_clearCounts _ 0 [some (.ref 60), none] [] h _
  refine aw_aload_n dX6_clearCounts_0 rfl rfl ?_
  refine aw_iconst (v := nI 0) dX6_clearCounts_1 (by decide) ?_
  refine aw_putfield dX6_clearCounts_2 gX6_53 (by first | assumption | rfl) (by rfl) ?_
  refine aw_iconst (v := nI 0) dX6_clearCounts_5 (by decide) ?_
  refine aw_istore_n dX6_clearCounts_6 rfl (Nat.le_of_ble_eq_true rfl) rfl ?_
  dsimp only [List.set]
  exact loop 8 0 _ (by omega) (by rw [hw_at, if_pos rfl]) (fun i hi => by omega) (fun o q1 _ => hw_ne q1)
