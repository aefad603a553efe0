/-! THE FIRST HOUSE -/
def PF1 : PS := addC P00 0 5 4
def PF2 : PS := addC PF1 1 17 3
def PF3 : PS := addC PF2 2 30 6
def PF4 : PS := addC PF3 0 44 2
def PF5 : PS := addC PF4 3 52 5
def PF6 : PS := addC PF5 0 30 1
def PF7 : PS := addR PF6 2 8
def PF8 : PS := addR PF7 5 5
def PF9 : PS := addR PF8 1 9
def PF10 : PS := addR PF9 6 3
def PF11 : PS := addR PF10 3 4
def PF12 : PS := addR PF11 0 7
abbrev PF : PS := PF12
theorem psr_one {l : Nat → Nat} {n t a a2 : Nat} {P P2 : PS} (ha : a < n) (hi : itS l a P = some (P2, a2)) : psr l n (t + 1) a P = psr l n t a2 P2 := by
  show (if a < n then (match itS l a P with
    | none => Sum.inl a
    | some q => psr l n t q.2 q.1) else Sum.inr P) = _
  rw [if_pos ha, hi]
set_option maxRecDepth 20000 in
theorem psr_fh : psr (ltr FHn 77) 77 200 0 P00 = .inr PF := by
  rw [show psr (ltr FHn 77) 77 200 0 P00 = psr (ltr FHn 77) 77 199 7 PF1 from psr_one (by decide) (by rfl)]
  rw [show psr (ltr FHn 77) 77 199 7 PF1 = psr (ltr FHn 77) 77 198 15 PF2 from psr_one (by decide) (by rfl)]
  rw [show psr (ltr FHn 77) 77 198 15 PF2 = psr (ltr FHn 77) 77 197 23 PF3 from psr_one (by decide) (by rfl)]
  rw [show psr (ltr FHn 77) 77 197 23 PF3 = psr (ltr FHn 77) 77 196 31 PF4 from psr_one (by decide) (by rfl)]
  rw [show psr (ltr FHn 77) 77 196 31 PF4 = psr (ltr FHn 77) 77 195 39 PF5 from psr_one (by decide) (by rfl)]
  rw [show psr (ltr FHn 77) 77 195 39 PF5 = psr (ltr FHn 77) 77 194 47 PF6 from psr_one (by decide) (by rfl)]
  rw [show psr (ltr FHn 77) 77 194 47 PF6 = psr (ltr FHn 77) 77 193 52 PF7 from psr_one (by decide) (by rfl)]
  rw [show psr (ltr FHn 77) 77 193 52 PF7 = psr (ltr FHn 77) 77 192 57 PF8 from psr_one (by decide) (by rfl)]
  rw [show psr (ltr FHn 77) 77 192 57 PF8 = psr (ltr FHn 77) 77 191 62 PF9 from psr_one (by decide) (by rfl)]
  rw [show psr (ltr FHn 77) 77 191 62 PF9 = psr (ltr FHn 77) 77 190 67 PF10 from psr_one (by decide) (by rfl)]
  rw [show psr (ltr FHn 77) 77 190 67 PF10 = psr (ltr FHn 77) 77 189 72 PF11 from psr_one (by decide) (by rfl)]
  rw [show psr (ltr FHn 77) 77 189 72 PF11 = psr (ltr FHn 77) 77 188 77 PF12 from psr_one (by decide) (by rfl)]
  rfl
theorem TOk_fh : TOk FHn 77 := ⟨by decide, fun k hk => ⟨(FHn_lt k hk).1, Nat.le_of_lt (FHn_lt k hk).2⟩⟩
theorem PF_ok : PSOk PF := psr_ok (ltr_lt TOk_fh) _ _ _ _ P00_ok psr_fh
theorem PF_n : 1 ≤ pn PF ∧ pm PF = pn PF := by decide
def Xt : XS := ((1, fun _ => 0, fun _ => 0, fun _ => 0, fun _ => 0), fun _ => 0, (0, fun _ => 0, fun i => i), (0, fun _ => (0, fun _ => 0, fun _ => 0)), (0, fun _ => (0, fun _ => 0, fun _ => 0)), (0, fun _ => (0, 0, 0)), (77, FHn))
theorem Xt_ok : VX Xt := by
  have hS : SvOk 1 (0, fun _ => 0, fun i => i) := ⟨Nat.zero_le _, PM_id 1, fun i _ => by show (0 : Nat) < 60; decide⟩
  exact ⟨⟨Nat.le_refl 1, by decide, fun i _ => ⟨Nat.zero_le _, Nat.zero_le _, Nat.zero_le _, Nat.zero_le _⟩⟩, hS, hS, ⟨Nat.zero_le _, fun k hk => absurd hk (Nat.not_lt_zero k)⟩, ⟨Nat.zero_le _, fun k hk => absurd hk (Nat.not_lt_zero k)⟩, ⟨Nat.zero_le _, fun k hk => absurd hk (Nat.not_lt_zero k)⟩, TOk_fh⟩
/-- the state of a new object -/
def XF : XS := setT (layX Xt PF) (0, FHn)
theorem XF_ok : VX XF := by
  have hv : VX (layX Xt PF) := layX_ok Xt_ok PF_ok PF_n
  exact ⟨hv.1, hv.2.1, hv.2.2.1, hv.2.2.2.1, hv.2.2.2.2.1, hv.2.2.2.2.2.1, ⟨by decide, fun k hk => absurd hk (Nat.not_lt_zero k)⟩⟩
/-- from pc 159: the text is read, laid, wiped -/
theorem x7_lay {G : Gx} {d mc ms cells slots : Nat} {h : Hp} {k : Int32} {Q : va_W → Prop} (h1 : h 1 2 = 77) (h2 : ∀ j, j < 77 → h 2 j = FHn j) (hcs : cells ≤ mc ∧ slots ≤ ms) (hq : ∀ h', RX h' XF → Q (zwl G h')) :
    BW mX7_init (bG G) (d + 5) mc ms 159 [(1, .int k), (0, .ref (ga G 0))] [] (zwl G h) cells slots Q := by
  refine bw_aload 1 dX7_init_159 rfl ?_
  refine bw_get dX7_init_160 fX7_12 (zwl_at (k := 0) rfl) rfl ?_
  refine bw_aload 1 dX7_init_163 rfl ?_
  refine bw_get dX7_init_164 fX7_23 (zwl_at (k := 0) rfl) rfl ?_
  refine bw_callZ (as := [.ref 10]) (b := 1) (st := []) dX7_init_167 kX7_89 (zc_T_readInto (a0 := h 1 3) ⟨h1, rfl, h2⟩ TOk_fh) rfl rfl rfl rfl (Nat.le_of_ble_eq_true rfl) (Nat.le_of_ble_eq_true rfl) hcs ?_
  rintro v h3 ⟨f3, hz⟩
  rw [psr_fh] at hz
  dsimp only at hz
  obtain ⟨rfl, hdr⟩ := hz
  refine bw_pop (v := .int (nI 4294967292)) (st := []) dX7_init_170 rfl ?_
  refine bw_aload 1 dX7_init_171 rfl ?_
  have ht : h3 1 2 = (xT Xt).1 ∧ ∀ k, k < (xT Xt).1 → h3 2 k = (xT Xt).2 k := ⟨f3.1.trans h1, fun k hk => by rw [f3.2 2 (by decide) (by decide) (by decide)]; exact h2 k hk⟩
  refine bw_callZ (as := []) (b := 0) (st := []) dX7_init_172 kX7_93 (zc_X_moveIn (X := Xt) (d := d + 1) hdr PF_ok PF_n ht) rfl rfl rfl rfl (Nat.le_of_ble_eq_true rfl) (Nat.le_of_ble_eq_true rfl) hcs ?_
  rintro _ h4 ⟨rfl, r4, f4⟩
  refine bw_aload (st := []) 1 dX7_init_175 rfl ?_
  refine bw_get dX7_init_176 fX7_12 (zwl_at (k := 0) rfl) rfl ?_
  refine bw_callZ (as := []) (b := 1) (st := []) dX7_init_179 kX7_96 (zc_T_clear (d := d + 4)) rfl rfl rfl rfl (Nat.le_of_ble_eq_true rfl) (Nat.le_of_ble_eq_true rfl) hcs ?_
  rintro _ _ ⟨rfl, rfl⟩
  refine bw_vret dX7_init_182 rfl hcs (hq _ ?_)
  exact r4.text (fun o z1 _ => hw_ne z1) (by rw [hw_at, if_pos rfl]) (fun k hk => absurd hk (Nat.not_lt_zero k)) (layX_ok Xt_ok PF_ok PF_n)
/-- from pc 129: the letters are written -/
theorem x7_tail {G : Gx} {d mc ms cells slots : Nat} {h : Hp} {Q : va_W → Prop} (h0 : h 1 2 = 0) (hcs : cells ≤ mc ∧ slots ≤ ms) (hq : ∀ h', RX h' XF → Q (zwl G h')) :
    BW mX7_init (bG G) (d + 5) mc ms 129 [(0, .ref (ga G 0))] [] (zwl G h) cells slots Q := by
  have loop : ∀ u k h, k + u = 77 → h 1 2 = k → (∀ j, j < k → h 2 j = FHn j) → BW mX7_init (bG G) (d + 5) mc ms 131 [(1, .int (nI k)), (0, .ref (ga G 0))] [] (zwl G h) cells slots Q := by
    intro u
    induction u with
    | zero =>
      intro k h hu e1 e2
      refine bw_iload 0 dX7_init_131 rfl ?_
      refine bw_ldcLen rfl dX7_init_132 dX7_init_134 (Nat.le_of_ble_eq_true rfl) hcs ?_
      refine bw_icmp_ge (tgt := 159) dX7_init_137 (by decide) (by omega) (by decide) (fun _ => ?_) (fun z => absurd (show 77 ≤ k by omega) z)
      obtain rfl : k = 77 := by omega
      exact x7_lay e1 e2 hcs hq
    | succ u ih =>
      intro k h hu e1 e2
      have hk : k < 77 := by omega
      refine bw_iload 0 dX7_init_131 rfl ?_
      refine bw_ldcLen rfl dX7_init_132 dX7_init_134 (Nat.le_of_ble_eq_true rfl) hcs ?_
      refine bw_icmp_ge (tgt := 159) dX7_init_137 (by decide) (by omega) (by decide) (fun z => absurd z (by omega)) (fun _ => ?_)
      refine bw_aload 1 dX7_init_140 rfl ?_
      refine bw_get dX7_init_141 fX7_12 (zwl_at (k := 0) rfl) rfl ?_
      refine bw_ldcChr rfl dX7_init_144 0 dX7_init_146 rfl hk dX7_init_147 (Nat.le_of_ble_eq_true rfl) hcs ?_
      have hF := FHn_lt k hk
      refine bw_callZ (as := [.int (nI (FHn k))]) (b := 1) (st := []) dX7_init_150 kX7_85 (zc_T_add (d := d + 4) (by omega) (by omega)) rfl rfl rfl rfl (Nat.le_of_ble_eq_true rfl) (Nat.le_of_ble_eq_true rfl) hcs ?_
      rintro _ _ ⟨rfl, rfl⟩
      refine bw_iinc (st := []) (i := 1) (k := 0) (v := nI (k + 1)) (lv' := [(1, .int (nI (k + 1))), (0, .ref (ga G 0))]) dX7_init_153 rfl (nI_add k 1) (by decide) rfl ?_
      refine bw_goto (tgt := 131) dX7_init_156 (by decide) ?_
      refine ih (k + 1) _ (by omega) ?_ ?_
      · simp [hw, e1]
      · intro j hj
        rw [e1]
        by_cases z : j = k
        · subst z; simp [hw]
        · simp only [hw]
          rw [if_neg (by omega), if_neg (by omega)]
          exact e2 j (by omega)
  refine bw_iconst (nI 0) dX7_init_129 rfl ?_
  refine bw_istore (lv' := [(1, .int (nI 0)), (0, .ref (ga G 0))]) dX7_init_130 (by decide) rfl ?_
  exact loop 77 0 h rfl h0 (fun j hj => absurd hj (Nat.not_lt_zero j))
