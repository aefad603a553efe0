/-! THE REFERENCE's CONSTRUCTOR -/
def lay2 : List Ly := [oO 8 [none, some 68, some 69, some 70, some 71, none, some 72, none, some 73, none, some 74, some 75, none, none, some 76, none, some 77, none, some 78, some 79, some 80, some 81, none, none, none], oI 16, oI 16, oI 17, oI 17, oI 136, oI 34, oI 24, oI 200, oI 3, oI 16, oI 16, oI 17, oI 17, oI 8]
def adX (ad : Nat → Nat) (l : List Nat) : Nat → Nat := fun k => if k < 67 then ad k else l.getD (k - 67) 0
def hpX (h : Hp) : Hp := fun u j => if u < 67 then h u j else 0
theorem lay_two : lay = zlay ++ lay2 := rfl
/-- the objects that a cell names -/
def lyR : Ly → List Nat
  | .inl _ => []
  | .inr (.inl rs) => rs
  | .inr (.inr q) => q.2.filterMap id
theorem cel_cg {G G2 : Gx} {h h2 : Hp} {k : Nat} {L : Ly} (h21 : G2.2.1 = G.2.1) (hr : ∀ r ∈ lyR L, ga G2 r = ga G r) (hh : h2 k = h k) : cel G2 h2 k L = cel G h k L := by
  match L, hr with
  | .inl q, _ => simp only [cel, hh, h21]
  | .inr (.inl rs), hr =>
    have e9 : (fun j : Nat => (rs[j]?).map (ga G2)) = (fun j : Nat => (rs[j]?).map (ga G)) := by
      funext j
      cases hj : rs[j]? with
      | none => rfl
      | some r => exact congrArg some (hr r (List.mem_of_getElem? hj))
    simp only [cel, h21, e9]
  | .inr (.inr q), hr =>
    have e9 : q.2.mapIdx (fvv G2 h2 k) = q.2.mapIdx (fvv G h k) := by
      apply List.ext_getElem?
      intro i
      rw [List.getElem?_mapIdx, List.getElem?_mapIdx]
      cases hj : q.2[i]? with
      | none => rfl
      | some f =>
        cases f with
        | none => simp only [Option.map_some, fvv, hh]
        | some r =>
          have hm : r ∈ lyR (.inr (.inr q)) := List.mem_filterMap.mpr ⟨some r, List.mem_of_getElem? hj, rfl⟩
          simp only [Option.map_some, fvv, hr r hm]
    simp only [cel, e9]
theorem zlay_refs : ∀ L ∈ zlay, ∀ r ∈ lyR L, r < 67 := by decide +kernel
theorem zwl_cg {G G2 : Gx} {h h2 : Hp} (h21 : G2.2.1 = G.2.1) (ha : ∀ r, r < 67 → ga G2 r = ga G r) (hh : ∀ o, o < 67 → h2 o = h o) : zwl G2 h2 = zwl G h := by
  apply List.ext_getElem?
  intro i
  unfold zwl
  rw [List.getElem?_mapIdx, List.getElem?_mapIdx]
  cases hj : zlay[i]? with
  | none => rfl
  | some L =>
    have hi : i < 67 := (List.getElem?_eq_some_iff.mp hj).1
    simp only [Option.map_some]
    rw [ha i hi, cel_cg h21 (fun r hr => ha r (zlay_refs L (List.mem_of_getElem? hj) r hr)) (hh i hi)]
theorem cel_O {G : Gx} {h : Hp} {k c : Nat} {fs : List (Option Nat)} : cel G h k (.inr (.inr (c, fs))) = .inr (c, mgo (fvv G h k) 0 fs) := congrArg (fun z => (Sum.inr (c, z) : va_E)) (mgo_eq (fvv G h k) fs 0)
theorem cel_I {G : Gx} {h : Hp} {k n : Nat} : cel G h k (.inl (0, n)) = .inl (G.2.1.1, n, .inl (fun j => nI (h k j))) := rfl
theorem fvv_N {G : Gx} {h : Hp} {k j : Nat} : fvv G h k j none = .int (nI (h k j)) := rfl
theorem fvv_S {G : Gx} {h : Hp} {k j r : Nat} : fvv G h k j (some r) = .ref (ga G r) := rfl
theorem hpX_z {h : Hp} (u : Nat) (hu : 67 ≤ u) : hpX h u = fun _ => 0 := funext fun j => if_neg (by omega)
theorem w_all {B : BG} {ad ad2 : Nat → Nat} {h h2 : Hp} {q a0 a1 a2 a3 a4 a5 a6 a7 a8 a9 a10 a11 a12 a13 : Nat} (ha : ∀ r, r < 67 → ad2 r = ad r) (hh : ∀ u, u < 67 → h2 u = h u) (hz : ∀ u, 67 ≤ u → h2 u = fun _ => 0) (e0 : ad2 67 = q) (e1 : ad2 68 = a0) (e2 : ad2 69 = a1) (e3 : ad2 70 = a2) (e4 : ad2 71 = a3) (e5 : ad2 72 = a4) (e6 : ad2 73 = a5) (e7 : ad2 74 = a6) (e8 : ad2 75 = a7) (e9 : ad2 76 = a8) (e10 : ad2 77 = a9) (e11 : ad2 78 = a10) (e12 : ad2 79 = a11) (e13 : ad2 80 = a12) (e14 : ad2 81 = a13) : zwl (B.1, B.2.1, ad, B.2.2) h ++ [(q, .inr (8, [.int 0, .ref a0, .ref a1, .ref a2, .ref a3, .int 0, .ref a4, .int 0, .ref a5, .int 0, .ref a6, .ref a7, .int 0, .int 0, .ref a8, .int 0, .ref a9, .int 0, .ref a10, .ref a11, .ref a12, .ref a13, .int 0, .int 0, .int 0])), (a0, ia B 16), (a1, ia B 16), (a2, ia B 17), (a3, ia B 17), (a4, ia B 136), (a5, ia B 34), (a6, ia B 24), (a7, ia B 200), (a8, ia B 3), (a9, ia B 16), (a10, ia B 16), (a11, ia B 17), (a12, ia B 17), (a13, ia B 8)] = wl (B.1, B.2.1, ad2, B.2.2) h2 := by
  have eZ : zwl (B.1, B.2.1, ad2, B.2.2) h2 = zwl (B.1, B.2.1, ad, B.2.2) h := zwl_cg rfl ha hh
  rw [← eZ]
  unfold wl zwl
  rw [lay_two, List.mapIdx_append, show zlay.length = 67 from rfl]
  refine congrArg (HAppend.hAppend _) ?_
  refine Eq.trans ?_ (mgo_eq (fun k L => (ga (B.1, B.2.1, ad2, B.2.2) k, cel (B.1, B.2.1, ad2, B.2.2) h2 k L)) lay2 67).symm
  simp only [lay2, mgo, Nat.reduceAdd, cel_O, cel_I, fvv_N, fvv_S, ga, e0, e1, e2, e3, e4, e5, e6, e7, e8, e9, e10, e11, e12, e13, e14, hz 67 (by decide), hz 68 (by decide), hz 69 (by decide), hz 70 (by decide), hz 71 (by decide), hz 72 (by decide), hz 73 (by decide), hz 74 (by decide), hz 75 (by decide), hz 76 (by decide), hz 77 (by decide), hz 78 (by decide), hz 79 (by decide), hz 80 (by decide), hz 81 (by decide)]
  rfl
theorem PF1_ok : PSOk PF1 := PSOk.addC P00_ok (by decide)
theorem PF2_ok : PSOk PF2 := PSOk.addC PF1_ok (by decide)
theorem PF3_ok : PSOk PF3 := PSOk.addC PF2_ok (by decide)
theorem PF4_ok : PSOk PF4 := PSOk.addC PF3_ok (by decide)
theorem PF5_ok : PSOk PF5 := PSOk.addC PF4_ok (by decide)
theorem PF6_ok : PSOk PF6 := PSOk.addC PF5_ok (by decide)
theorem PF7_ok : PSOk PF7 := PSOk.addR PF6_ok (by decide)
theorem PF8_ok : PSOk PF8 := PSOk.addR PF7_ok (by decide)
theorem PF9_ok : PSOk PF9 := PSOk.addR PF8_ok (by decide)
theorem PF10_ok : PSOk PF10 := PSOk.addR PF9_ok (by decide)
theorem PF11_ok : PSOk PF11 := PSOk.addR PF10_ok (by decide)
theorem PF12_ok : PSOk PF12 := PSOk.addR PF11_ok (by decide)
theorem x8_tail {G : Gx} {d mc ms cells slots : Nat} {h : Hp} {Q : va_W → Prop} (h0 : h 67 12 = 0) (hr : RX h XF) (hcs : cells ≤ mc ∧ slots ≤ ms) (hq : ∀ h', RX h' XF → RM h' XF → Q (wl G h')) :
    BW mX8_init (bG G) (d + 2) mc ms 117 [(0, .ref (ga G 67))] [] (wl G h) cells slots Q := by
  refine bw_aload 0 dX8_init_117 rfl ?_
  refine bw_callR (as := []) (b := 67) (st := []) dX8_init_118 kX8_52 (m_clearTold (d := d)) rfl rfl rfl rfl (Nat.le_of_ble_eq_true rfl) (Nat.le_of_ble_eq_true rfl) hcs ?_
  rintro _ h1 ⟨rfl, d1, f1, -⟩
  refine bw_aload (st := []) 0 dX8_init_121 rfl ?_
  refine bw_iconst (nI 0) dX8_init_122 rfl ?_
  refine bw_iconst (nI 5) dX8_init_123 rfl ?_
  refine bw_iconst (nI 4) dX8_init_124 rfl ?_
  refine bw_callR (as := [.int (nI 0), .int (nI 5), .int (nI 4)]) (b := 67) (st := []) dX8_init_125 kX8_55 (m_tellsCousin (d := d + 1) d1 P00_ok (by decide)) rfl rfl rfl rfl (Nat.le_of_ble_eq_true rfl) (Nat.le_of_ble_eq_true rfl) hcs ?_
  rintro _ h2 ⟨rfl, d2, g2, -⟩
  have f2 := f1.trans g2
  refine bw_aload (st := []) 0 dX8_init_128 rfl ?_
  refine bw_iconst (nI 1) dX8_init_129 rfl ?_
  refine bw_bipush (nI 17) dX8_init_130 rfl ?_
  refine bw_iconst (nI 3) dX8_init_132 rfl ?_
  refine bw_callR (as := [.int (nI 1), .int (nI 17), .int (nI 3)]) (b := 67) (st := []) dX8_init_133 kX8_55 (m_tellsCousin (d := d + 1) d2 PF1_ok (by decide)) rfl rfl rfl rfl (Nat.le_of_ble_eq_true rfl) (Nat.le_of_ble_eq_true rfl) hcs ?_
  rintro _ h3 ⟨rfl, d3, g3, -⟩
  have f3 := f2.trans g3
  refine bw_aload (st := []) 0 dX8_init_136 rfl ?_
  refine bw_iconst (nI 2) dX8_init_137 rfl ?_
  refine bw_bipush (nI 30) dX8_init_138 rfl ?_
  refine bw_bipush (nI 6) dX8_init_140 rfl ?_
  refine bw_callR (as := [.int (nI 2), .int (nI 30), .int (nI 6)]) (b := 67) (st := []) dX8_init_142 kX8_55 (m_tellsCousin (d := d + 1) d3 PF2_ok (by decide)) rfl rfl rfl rfl (Nat.le_of_ble_eq_true rfl) (Nat.le_of_ble_eq_true rfl) hcs ?_
  rintro _ h4 ⟨rfl, d4, g4, -⟩
  have f4 := f3.trans g4
  refine bw_aload (st := []) 0 dX8_init_145 rfl ?_
  refine bw_iconst (nI 0) dX8_init_146 rfl ?_
  refine bw_bipush (nI 44) dX8_init_147 rfl ?_
  refine bw_iconst (nI 2) dX8_init_149 rfl ?_
  refine bw_callR (as := [.int (nI 0), .int (nI 44), .int (nI 2)]) (b := 67) (st := []) dX8_init_150 kX8_55 (m_tellsCousin (d := d + 1) d4 PF3_ok (by decide)) rfl rfl rfl rfl (Nat.le_of_ble_eq_true rfl) (Nat.le_of_ble_eq_true rfl) hcs ?_
  rintro _ h5 ⟨rfl, d5, g5, -⟩
  have f5 := f4.trans g5
  refine bw_aload (st := []) 0 dX8_init_153 rfl ?_
  refine bw_iconst (nI 3) dX8_init_154 rfl ?_
  refine bw_bipush (nI 52) dX8_init_155 rfl ?_
  refine bw_iconst (nI 5) dX8_init_157 rfl ?_
  refine bw_callR (as := [.int (nI 3), .int (nI 52), .int (nI 5)]) (b := 67) (st := []) dX8_init_158 kX8_55 (m_tellsCousin (d := d + 1) d5 PF4_ok (by decide)) rfl rfl rfl rfl (Nat.le_of_ble_eq_true rfl) (Nat.le_of_ble_eq_true rfl) hcs ?_
  rintro _ h6 ⟨rfl, d6, g6, -⟩
  have f6 := f5.trans g6
  refine bw_aload (st := []) 0 dX8_init_161 rfl ?_
  refine bw_iconst (nI 0) dX8_init_162 rfl ?_
  refine bw_bipush (nI 30) dX8_init_163 rfl ?_
  refine bw_iconst (nI 1) dX8_init_165 rfl ?_
  refine bw_callR (as := [.int (nI 0), .int (nI 30), .int (nI 1)]) (b := 67) (st := []) dX8_init_166 kX8_55 (m_tellsCousin (d := d + 1) d6 PF5_ok (by decide)) rfl rfl rfl rfl (Nat.le_of_ble_eq_true rfl) (Nat.le_of_ble_eq_true rfl) hcs ?_
  rintro _ h7 ⟨rfl, d7, g7, -⟩
  have f7 := f6.trans g7
  refine bw_aload (st := []) 0 dX8_init_169 rfl ?_
  refine bw_iconst (nI 2) dX8_init_170 rfl ?_
  refine bw_bipush (nI 8) dX8_init_171 rfl ?_
  refine bw_callR (as := [.int (nI 2), .int (nI 8)]) (b := 67) (st := []) dX8_init_173 kX8_59 (m_tellsRoom (d := d + 1) d7 PF6_ok (by decide)) rfl rfl rfl rfl (Nat.le_of_ble_eq_true rfl) (Nat.le_of_ble_eq_true rfl) hcs ?_
  rintro _ h8 ⟨rfl, d8, g8, -⟩
  have f8 := f7.trans g8
  refine bw_aload (st := []) 0 dX8_init_176 rfl ?_
  refine bw_iconst (nI 5) dX8_init_177 rfl ?_
  refine bw_iconst (nI 5) dX8_init_178 rfl ?_
  refine bw_callR (as := [.int (nI 5), .int (nI 5)]) (b := 67) (st := []) dX8_init_179 kX8_59 (m_tellsRoom (d := d + 1) d8 PF7_ok (by decide)) rfl rfl rfl rfl (Nat.le_of_ble_eq_true rfl) (Nat.le_of_ble_eq_true rfl) hcs ?_
  rintro _ h9 ⟨rfl, d9, g9, -⟩
  have f9 := f8.trans g9
  refine bw_aload (st := []) 0 dX8_init_182 rfl ?_
  refine bw_iconst (nI 1) dX8_init_183 rfl ?_
  refine bw_bipush (nI 9) dX8_init_184 rfl ?_
  refine bw_callR (as := [.int (nI 1), .int (nI 9)]) (b := 67) (st := []) dX8_init_186 kX8_59 (m_tellsRoom (d := d + 1) d9 PF8_ok (by decide)) rfl rfl rfl rfl (Nat.le_of_ble_eq_true rfl) (Nat.le_of_ble_eq_true rfl) hcs ?_
  rintro _ h10 ⟨rfl, d10, g10, -⟩
  have f10 := f9.trans g10
  refine bw_aload (st := []) 0 dX8_init_189 rfl ?_
  refine bw_bipush (nI 6) dX8_init_190 rfl ?_
  refine bw_iconst (nI 3) dX8_init_192 rfl ?_
  refine bw_callR (as := [.int (nI 6), .int (nI 3)]) (b := 67) (st := []) dX8_init_193 kX8_59 (m_tellsRoom (d := d + 1) d10 PF9_ok (by decide)) rfl rfl rfl rfl (Nat.le_of_ble_eq_true rfl) (Nat.le_of_ble_eq_true rfl) hcs ?_
  rintro _ h11 ⟨rfl, d11, g11, -⟩
  have f11 := f10.trans g11
  refine bw_aload (st := []) 0 dX8_init_196 rfl ?_
  refine bw_iconst (nI 3) dX8_init_197 rfl ?_
  refine bw_iconst (nI 4) dX8_init_198 rfl ?_
  refine bw_callR (as := [.int (nI 3), .int (nI 4)]) (b := 67) (st := []) dX8_init_199 kX8_59 (m_tellsRoom (d := d + 1) d11 PF10_ok (by decide)) rfl rfl rfl rfl (Nat.le_of_ble_eq_true rfl) (Nat.le_of_ble_eq_true rfl) hcs ?_
  rintro _ h12 ⟨rfl, d12, g12, -⟩
  have f12 := f11.trans g12
  refine bw_aload (st := []) 0 dX8_init_202 rfl ?_
  refine bw_iconst (nI 0) dX8_init_203 rfl ?_
  refine bw_bipush (nI 7) dX8_init_204 rfl ?_
  refine bw_callR (as := [.int (nI 0), .int (nI 7)]) (b := 67) (st := []) dX8_init_206 kX8_59 (m_tellsRoom (d := d + 1) d12 PF11_ok (by decide)) rfl rfl rfl rfl (Nat.le_of_ble_eq_true rfl) (Nat.le_of_ble_eq_true rfl) hcs ?_
  rintro _ h13 ⟨rfl, d13, g13, -⟩
  have f13 := f12.trans g13
  refine bw_aload (st := []) 0 dX8_init_209 rfl ?_
  have ht : h13 67 12 = (xT (setT Xt (0, FHn))).1 ∧ ∀ k, k < (xT (setT Xt (0, FHn))).1 → h13 75 k = (xT (setT Xt (0, FHn))).2 k := ⟨(f13.1 12 (by decide) (by decide) (by decide)).trans h0, fun k hk => absurd hk (Nat.not_lt_zero k)⟩
  refine bw_callR (as := []) (b := 67) (st := []) dX8_init_210 kX8_63 (m_settles (d := d) (X := setT Xt (0, FHn)) d13 PF_ok PF_n ht) rfl rfl rfl rfl (Nat.le_of_ble_eq_true rfl) (Nat.le_of_ble_eq_true rfl) hcs ?_
  rintro _ h14 ⟨rfl, r14, f14⟩
  exact bw_vret dX8_init_213 rfl hcs (hq _ ((hr.fn XF_ok f13.fn).fn XF_ok f14) r14)
theorem x8_rows {B : BG} {d q mc ms : Nat} {U : va_W} {Q : va_W → Prop} (hmc : 14 ≤ mc ∧ 537 ≤ ms)
    (kk : ∀ a0 a1 a2 a3 a4 a5 a6 a7 a8 a9 a10 a11 a12 a13, BW mX8_init B (d + 1) mc ms 117 [(0, .ref q)] [] (U ++ [(q, .inr (8, [.int 0, .ref a0, .ref a1, .ref a2, .ref a3, .int 0, .ref a4, .int 0, .ref a5, .int 0, .ref a6, .ref a7, .int 0, .int 0, .ref a8, .int 0, .ref a9, .int 0, .ref a10, .ref a11, .ref a12, .ref a13, .int 0, .int 0, .int 0])), (a0, ia B 16), (a1, ia B 16), (a2, ia B 17), (a3, ia B 17), (a4, ia B 136), (a5, ia B 34), (a6, ia B 24), (a7, ia B 200), (a8, ia B 3), (a9, ia B 16), (a10, ia B 16), (a11, ia B 17), (a12, ia B 17), (a13, ia B 8)]) 14 537 Q) :
    BW mX8_init B (d + 1) mc ms 0 [(0, .ref q)] [] (U ++ [(q, .inr (8, [.int 0, .null, .null, .null, .null, .int 0, .null, .int 0, .null, .int 0, .null, .null, .int 0, .int 0, .null, .int 0, .null, .int 0, .null, .null, .null, .null, .int 0, .int 0, .int 0]))]) 0 0 Q := by
  refine bw_aload 0 dX8_init_0 rfl ?_
  refine bw_obj dX8_init_1 (bigI 808 (by decide +kernel) rfl) (Nat.zero_le _) ?_
  refine bw_aload 0 dX8_init_4 rfl ?_
  refine bw_bipush (nI 16) dX8_init_5 rfl ?_
  refine bw_newI dX8_init_7 (by decide) ⟨by omega, by omega⟩ (fun a0 => ?_)
  rw [List.append_assoc]
  dsimp only [List.cons_append, List.nil_append]
  refine bw_putF (k := 1) (q0 := U.length) (ty := .array .int) (C := RX8) (T := TX8) (N := 25) dX8_init_9 rfl (by decide) (bigI 832 (by decide +kernel) rfl) inX8 tyX8 tyX8_ok nmX8 rfl rfl (by decide +kernel) rfl rfl wl_getc (Nat.le_of_ble_eq_true rfl) ?_
  rw [wl_setc]
  dsimp only [List.set]
  refine bw_aload 0 dX8_init_12 rfl ?_
  refine bw_bipush (nI 16) dX8_init_13 rfl ?_
  refine bw_newI dX8_init_15 (by decide) ⟨by omega, by omega⟩ (fun a1 => ?_)
  rw [List.append_assoc]
  dsimp only [List.cons_append, List.nil_append]
  refine bw_putF (k := 2) (q0 := U.length) (ty := .array .int) (C := RX8) (T := TX8) (N := 25) dX8_init_17 rfl (by decide) (bigI 833 (by decide +kernel) rfl) inX8 tyX8 tyX8_ok nmX8 rfl rfl (by decide +kernel) rfl rfl wl_getc (Nat.le_of_ble_eq_true rfl) ?_
  rw [wl_setc]
  dsimp only [List.set]
  refine bw_aload 0 dX8_init_20 rfl ?_
  refine bw_bipush (nI 17) dX8_init_21 rfl ?_
  refine bw_newI dX8_init_23 (by decide) ⟨by omega, by omega⟩ (fun a2 => ?_)
  rw [List.append_assoc]
  dsimp only [List.cons_append, List.nil_append]
  refine bw_putF (k := 3) (q0 := U.length) (ty := .array .int) (C := RX8) (T := TX8) (N := 25) dX8_init_25 rfl (by decide) (bigI 834 (by decide +kernel) rfl) inX8 tyX8 tyX8_ok nmX8 rfl rfl (by decide +kernel) rfl rfl wl_getc (Nat.le_of_ble_eq_true rfl) ?_
  rw [wl_setc]
  dsimp only [List.set]
  refine bw_aload 0 dX8_init_28 rfl ?_
  refine bw_bipush (nI 17) dX8_init_29 rfl ?_
  refine bw_newI dX8_init_31 (by decide) ⟨by omega, by omega⟩ (fun a3 => ?_)
  rw [List.append_assoc]
  dsimp only [List.cons_append, List.nil_append]
  refine bw_putF (k := 4) (q0 := U.length) (ty := .array .int) (C := RX8) (T := TX8) (N := 25) dX8_init_33 rfl (by decide) (bigI 835 (by decide +kernel) rfl) inX8 tyX8 tyX8_ok nmX8 rfl rfl (by decide +kernel) rfl rfl wl_getc (Nat.le_of_ble_eq_true rfl) ?_
  rw [wl_setc]
  dsimp only [List.set]
  refine bw_aload 0 dX8_init_36 rfl ?_
  refine bw_sipush (nI 136) dX8_init_37 rfl ?_
  refine bw_newI dX8_init_40 (by decide) ⟨by omega, by omega⟩ (fun a4 => ?_)
  rw [List.append_assoc]
  dsimp only [List.cons_append, List.nil_append]
  refine bw_putF (k := 6) (q0 := U.length) (ty := .array .int) (C := RX8) (T := TX8) (N := 25) dX8_init_42 rfl (by decide) (bigI 837 (by decide +kernel) rfl) inX8 tyX8 tyX8_ok nmX8 rfl rfl (by decide +kernel) rfl rfl wl_getc (Nat.le_of_ble_eq_true rfl) ?_
  rw [wl_setc]
  dsimp only [List.set]
  refine bw_aload 0 dX8_init_45 rfl ?_
  refine bw_bipush (nI 34) dX8_init_46 rfl ?_
  refine bw_newI dX8_init_48 (by decide) ⟨by omega, by omega⟩ (fun a5 => ?_)
  rw [List.append_assoc]
  dsimp only [List.cons_append, List.nil_append]
  refine bw_putF (k := 8) (q0 := U.length) (ty := .array .int) (C := RX8) (T := TX8) (N := 25) dX8_init_50 rfl (by decide) (bigI 839 (by decide +kernel) rfl) inX8 tyX8 tyX8_ok nmX8 rfl rfl (by decide +kernel) rfl rfl wl_getc (Nat.le_of_ble_eq_true rfl) ?_
  rw [wl_setc]
  dsimp only [List.set]
  refine bw_aload 0 dX8_init_53 rfl ?_
  refine bw_bipush (nI 24) dX8_init_54 rfl ?_
  refine bw_newI dX8_init_56 (by decide) ⟨by omega, by omega⟩ (fun a6 => ?_)
  rw [List.append_assoc]
  dsimp only [List.cons_append, List.nil_append]
  refine bw_putF (k := 10) (q0 := U.length) (ty := .array .int) (C := RX8) (T := TX8) (N := 25) dX8_init_58 rfl (by decide) (bigI 841 (by decide +kernel) rfl) inX8 tyX8 tyX8_ok nmX8 rfl rfl (by decide +kernel) rfl rfl wl_getc (Nat.le_of_ble_eq_true rfl) ?_
  rw [wl_setc]
  dsimp only [List.set]
  refine bw_aload 0 dX8_init_61 rfl ?_
  refine bw_sipush (nI 200) dX8_init_62 rfl ?_
  refine bw_newI dX8_init_65 (by decide) ⟨by omega, by omega⟩ (fun a7 => ?_)
  rw [List.append_assoc]
  dsimp only [List.cons_append, List.nil_append]
  refine bw_putF (k := 11) (q0 := U.length) (ty := .array .int) (C := RX8) (T := TX8) (N := 25) dX8_init_67 rfl (by decide) (bigI 842 (by decide +kernel) rfl) inX8 tyX8 tyX8_ok nmX8 rfl rfl (by decide +kernel) rfl rfl wl_getc (Nat.le_of_ble_eq_true rfl) ?_
  rw [wl_setc]
  dsimp only [List.set]
  refine bw_aload 0 dX8_init_70 rfl ?_
  refine bw_iconst (nI 3) dX8_init_71 rfl ?_
  refine bw_newI dX8_init_72 (by decide) ⟨by omega, by omega⟩ (fun a8 => ?_)
  rw [List.append_assoc]
  dsimp only [List.cons_append, List.nil_append]
  refine bw_putF (k := 14) (q0 := U.length) (ty := .array .int) (C := RX8) (T := TX8) (N := 25) dX8_init_74 rfl (by decide) (bigI 845 (by decide +kernel) rfl) inX8 tyX8 tyX8_ok nmX8 rfl rfl (by decide +kernel) rfl rfl wl_getc (Nat.le_of_ble_eq_true rfl) ?_
  rw [wl_setc]
  dsimp only [List.set]
  refine bw_aload 0 dX8_init_77 rfl ?_
  refine bw_bipush (nI 16) dX8_init_78 rfl ?_
  refine bw_newI dX8_init_80 (by decide) ⟨by omega, by omega⟩ (fun a9 => ?_)
  rw [List.append_assoc]
  dsimp only [List.cons_append, List.nil_append]
  refine bw_putF (k := 16) (q0 := U.length) (ty := .array .int) (C := RX8) (T := TX8) (N := 25) dX8_init_82 rfl (by decide) (bigI 847 (by decide +kernel) rfl) inX8 tyX8 tyX8_ok nmX8 rfl rfl (by decide +kernel) rfl rfl wl_getc (Nat.le_of_ble_eq_true rfl) ?_
  rw [wl_setc]
  dsimp only [List.set]
  refine bw_aload 0 dX8_init_85 rfl ?_
  refine bw_bipush (nI 16) dX8_init_86 rfl ?_
  refine bw_newI dX8_init_88 (by decide) ⟨by omega, by omega⟩ (fun a10 => ?_)
  rw [List.append_assoc]
  dsimp only [List.cons_append, List.nil_append]
  refine bw_putF (k := 18) (q0 := U.length) (ty := .array .int) (C := RX8) (T := TX8) (N := 25) dX8_init_90 rfl (by decide) (bigI 849 (by decide +kernel) rfl) inX8 tyX8 tyX8_ok nmX8 rfl rfl (by decide +kernel) rfl rfl wl_getc (Nat.le_of_ble_eq_true rfl) ?_
  rw [wl_setc]
  dsimp only [List.set]
  refine bw_aload 0 dX8_init_93 rfl ?_
  refine bw_bipush (nI 17) dX8_init_94 rfl ?_
  refine bw_newI dX8_init_96 (by decide) ⟨by omega, by omega⟩ (fun a11 => ?_)
  rw [List.append_assoc]
  dsimp only [List.cons_append, List.nil_append]
  refine bw_putF (k := 19) (q0 := U.length) (ty := .array .int) (C := RX8) (T := TX8) (N := 25) dX8_init_98 rfl (by decide) (bigI 850 (by decide +kernel) rfl) inX8 tyX8 tyX8_ok nmX8 rfl rfl (by decide +kernel) rfl rfl wl_getc (Nat.le_of_ble_eq_true rfl) ?_
  rw [wl_setc]
  dsimp only [List.set]
  refine bw_aload 0 dX8_init_101 rfl ?_
  refine bw_bipush (nI 17) dX8_init_102 rfl ?_
  refine bw_newI dX8_init_104 (by decide) ⟨by omega, by omega⟩ (fun a12 => ?_)
  rw [List.append_assoc]
  dsimp only [List.cons_append, List.nil_append]
  refine bw_putF (k := 20) (q0 := U.length) (ty := .array .int) (C := RX8) (T := TX8) (N := 25) dX8_init_106 rfl (by decide) (bigI 851 (by decide +kernel) rfl) inX8 tyX8 tyX8_ok nmX8 rfl rfl (by decide +kernel) rfl rfl wl_getc (Nat.le_of_ble_eq_true rfl) ?_
  rw [wl_setc]
  dsimp only [List.set]
  refine bw_aload 0 dX8_init_109 rfl ?_
  refine bw_bipush (nI 8) dX8_init_110 rfl ?_
  refine bw_newI dX8_init_112 (by decide) ⟨by omega, by omega⟩ (fun a13 => ?_)
  rw [List.append_assoc]
  dsimp only [List.cons_append, List.nil_append]
  refine bw_putF (k := 21) (q0 := U.length) (ty := .array .int) (C := RX8) (T := TX8) (N := 25) dX8_init_114 rfl (by decide) (bigI 852 (by decide +kernel) rfl) inX8 tyX8 tyX8_ok nmX8 rfl rfl (by decide +kernel) rfl rfl wl_getc (Nat.le_of_ble_eq_true rfl) ?_
  rw [wl_setc]
  dsimp only [List.set]
  exact kk a0 a1 a2 a3 a4 a5 a6 a7 a8 a9 a10 a11 a12 a13
theorem b_X8_init {B : BG} {d q : Nat} {ad : Nat → Nat} {h : Hp} (hr : RX h XF) : BW mX8_init B (d + 2) 14 537 0 [(0, .ref q)] [] (zwl (B.1, B.2.1, ad, B.2.2) h ++ [(q, .inr (8, [.int 0, .null, .null, .null, .null, .int 0, .null, .int 0, .null, .int 0, .null, .null, .int 0, .int 0, .null, .int 0, .null, .int 0, .null, .null, .null, .null, .int 0, .int 0, .int 0]))]) 0 0 (fun ws2 => ∃ (ad2 : Nat → Nat) (h2 : Hp), ad2 0 = ad 0 ∧ ad2 67 = q ∧ ws2 = wl (B.1, B.2.1, ad2, B.2.2) h2 ∧ RX h2 XF ∧ RM h2 XF) := by
  refine x8_rows ⟨by omega, by omega⟩ (fun a0 a1 a2 a3 a4 a5 a6 a7 a8 a9 a10 a11 a12 a13 => ?_)
  rw [w_all (B := B) (q := q) (a0 := a0) (a1 := a1) (a2 := a2) (a3 := a3) (a4 := a4) (a5 := a5) (a6 := a6) (a7 := a7) (a8 := a8) (a9 := a9) (a10 := a10) (a11 := a11) (a12 := a12) (a13 := a13) (ad2 := (adX ad (q :: a0 :: a1 :: a2 :: a3 :: a4 :: a5 :: a6 :: a7 :: a8 :: a9 :: a10 :: a11 :: a12 :: a13 :: []))) (h2 := (hpX h)) (fun r hr => if_pos hr) (fun u hu => funext fun j => if_pos hu) hpX_z rfl rfl rfl rfl rfl rfl rfl rfl rfl rfl rfl rfl rfl rfl rfl]
  refine x8_tail (G := (B.1, B.2.1, (adX ad (q :: a0 :: a1 :: a2 :: a3 :: a4 :: a5 :: a6 :: a7 :: a8 :: a9 :: a10 :: a11 :: a12 :: a13 :: [])), B.2.2)) rfl ?_ ⟨by omega, by omega⟩ (fun h' r1 m1 => ⟨(adX ad (q :: a0 :: a1 :: a2 :: a3 :: a4 :: a5 :: a6 :: a7 :: a8 :: a9 :: a10 :: a11 :: a12 :: a13 :: [])), h', rfl, rfl, rfl, r1, m1⟩)
  exact hr.fn XF_ok (fun u hu => funext fun j => if_pos hu)
