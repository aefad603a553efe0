section AWR
variable {M : MI} {d pc : Nat} {lv : List (Option Value)} {st : List Value} {h : Hp} {Q : Option Value → Hp → Prop}
theorem aw_iconst {n : Int} {v : Int32} (hd : decode M.2.1 pc = .ok (.iconst n, 1)) (hv : Int32.ofInt n = v) (kk : AW M d (pc + 1) lv (.int v :: st) h Q) : AW M d (pc) lv (st) h Q := by
  intro p l e s m args below meth c G H locs ls hc hwd hl
  obtain ⟨hx, hb, hr, hml, hown, hts, hns, hlk⟩ := id hc
  exact lv_iconst hx hb hd hv (kk p l e s m args below meth c G H locs ls hc hwd hl)
theorem aw_bipush {n : Int} {v : Int32} (hd : decode M.2.1 pc = .ok (.bipush n, 2)) (hv : (Int8.ofInt n).toInt32 = v) (kk : AW M d (pc + 2) lv (.int v :: st) h Q) : AW M d (pc) lv (st) h Q := by
  intro p l e s m args below meth c G H locs ls hc hwd hl
  obtain ⟨hx, hb, hr, hml, hown, hts, hns, hlk⟩ := id hc
  exact lv_bipush hx hb hd hv (kk p l e s m args below meth c G H locs ls hc hwd hl)
theorem aw_sipush {n : Int} {v : Int32} (hd : decode M.2.1 pc = .ok (.sipush n, 3)) (hv : (Int16.ofInt n).toInt32 = v) (kk : AW M d (pc + 3) lv (.int v :: st) h Q) : AW M d (pc) lv (st) h Q := by
  intro p l e s m args below meth c G H locs ls hc hwd hl
  obtain ⟨hx, hb, hr, hml, hown, hts, hns, hlk⟩ := id hc
  exact lv_sipush hx hb hd hv (kk p l e s m args below meth c G H locs ls hc hwd hl)
theorem aw_lconst {n : Fin 2} {v : Int64} (hd : decode M.2.1 pc = .ok (.lconst n, 1)) (hv : Int64.ofNat (n : Nat) = v) (kk : AW M d (pc + 1) lv (.long v :: st) h Q) : AW M d (pc) lv (st) h Q := by
  intro p l e s m args below meth c G H locs ls hc hwd hl
  obtain ⟨hx, hb, hr, hml, hown, hts, hns, hlk⟩ := id hc
  exact lv_lconst hx hb hd hv (kk p l e s m args below meth c G H locs ls hc hwd hl)
theorem aw_null (hd : decode M.2.1 pc = .ok (.aconst_null, 1)) (kk : AW M d (pc + 1) lv (.null :: st) h Q) : AW M d (pc) lv (st) h Q := by
  intro p l e s m args below meth c G H locs ls hc hwd hl
  obtain ⟨hx, hb, hr, hml, hown, hts, hns, hlk⟩ := id hc
  exact lv_null hx hb hd (kk p l e s m args below meth c G H locs ls hc hwd hl)
theorem aw_iload_n {k : Fin 4} {i : Nat} {x : Int32} (hd : decode M.2.1 pc = .ok (.iload_n k, 1)) (hi : (k : Nat) = i) (hv : lv[i]? = some (some (.int x))) (kk : AW M d (pc + 1) lv (.int x :: st) h Q) : AW M d (pc) lv (st) h Q := by
  intro p l e s m args below meth c G H locs ls hc hwd hl
  obtain ⟨hx, hb, hr, hml, hown, hts, hns, hlk⟩ := id hc
  exact lv_iload_n hx hb hd hi (hl.at hv) (kk p l e s m args below meth c G H locs ls hc hwd hl)
theorem aw_iload {i : Nat} {x : Int32} (hd : decode M.2.1 pc = .ok (.iload i, 2)) (hv : lv[i]? = some (some (.int x))) (kk : AW M d (pc + 2) lv (.int x :: st) h Q) : AW M d (pc) lv (st) h Q := by
  intro p l e s m args below meth c G H locs ls hc hwd hl
  obtain ⟨hx, hb, hr, hml, hown, hts, hns, hlk⟩ := id hc
  exact lv_iload hx hb hd (hl.at hv) (kk p l e s m args below meth c G H locs ls hc hwd hl)
theorem aw_lload_n {k : Fin 4} {i : Nat} {x : Int64} (hd : decode M.2.1 pc = .ok (.lload_n k, 1)) (hi : (k : Nat) = i) (hv : lv[i]? = some (some (.long x))) (kk : AW M d (pc + 1) lv (.long x :: st) h Q) : AW M d (pc) lv (st) h Q := by
  intro p l e s m args below meth c G H locs ls hc hwd hl
  obtain ⟨hx, hb, hr, hml, hown, hts, hns, hlk⟩ := id hc
  exact lv_lload_n hx hb hd hi (hl.at hv) (kk p l e s m args below meth c G H locs ls hc hwd hl)
theorem aw_lload {i : Nat} {x : Int64} (hd : decode M.2.1 pc = .ok (.lload i, 2)) (hv : lv[i]? = some (some (.long x))) (kk : AW M d (pc + 2) lv (.long x :: st) h Q) : AW M d (pc) lv (st) h Q := by
  intro p l e s m args below meth c G H locs ls hc hwd hl
  obtain ⟨hx, hb, hr, hml, hown, hts, hns, hlk⟩ := id hc
  exact lv_lload hx hb hd (hl.at hv) (kk p l e s m args below meth c G H locs ls hc hwd hl)
theorem aw_aload_n {k : Fin 4} {i : Nat} {x : Nat} (hd : decode M.2.1 pc = .ok (.aload_n k, 1)) (hi : (k : Nat) = i) (hv : lv[i]? = some (some (.ref x))) (kk : AW M d (pc + 1) lv (.ref x :: st) h Q) : AW M d (pc) lv (st) h Q := by
  intro p l e s m args below meth c G H locs ls hc hwd hl
  obtain ⟨hx, hb, hr, hml, hown, hts, hns, hlk⟩ := id hc
  exact lv_aload_n hx hb hd hi (hl.at hv) (kk p l e s m args below meth c G H locs ls hc hwd hl)
theorem aw_aload {i : Nat} {x : Nat} (hd : decode M.2.1 pc = .ok (.aload i, 2)) (hv : lv[i]? = some (some (.ref x))) (kk : AW M d (pc + 2) lv (.ref x :: st) h Q) : AW M d (pc) lv (st) h Q := by
  intro p l e s m args below meth c G H locs ls hc hwd hl
  obtain ⟨hx, hb, hr, hml, hown, hts, hns, hlk⟩ := id hc
  exact lv_aload hx hb hd (hl.at hv) (kk p l e s m args below meth c G H locs ls hc hwd hl)
theorem aw_aload_nN {k : Fin 4} {i : Nat} (hd : decode M.2.1 pc = .ok (.aload_n k, 1)) (hi : (k : Nat) = i) (hv : lv[i]? = some (some .null)) (kk : AW M d (pc + 1) lv (.null :: st) h Q) : AW M d (pc) lv (st) h Q := by
  intro p l e s m args below meth c G H locs ls hc hwd hl
  obtain ⟨hx, hb, hr, hml, hown, hts, hns, hlk⟩ := id hc
  exact lv_aload_nN hx hb hd hi (hl.at hv) (kk p l e s m args below meth c G H locs ls hc hwd hl)
theorem aw_istore_n {k : Fin 4} {i : Nat} {x : Int32} (hd : decode M.2.1 pc = .ok (.istore_n k, 1)) (hi : (k : Nat) = i) (hn : i < lv.length) (hg : nolong lv i = true) (kk : AW M d (pc + 1) (lv.set i (some (.int x))) (st) h Q) : AW M d (pc) lv (.int x :: st) h Q := by
  intro p l e s m args below meth c G H locs ls hc hwd hl
  obtain ⟨hx, hb, hr, hml, hown, hts, hns, hlk⟩ := id hc
  exact lv_istore_n hx hb hd hi hl.2 (by rw [← hl.1]; exact hn) rfl (fun ls' hl' => kk p l e s m args below meth c G H locs ls' hc hwd (hl.set1 (v := .int x) hg hl'))
theorem aw_istore {i : Nat} {x : Int32} (hd : decode M.2.1 pc = .ok (.istore i, 2)) (hn : i < lv.length) (hg : nolong lv i = true) (kk : AW M d (pc + 2) (lv.set i (some (.int x))) (st) h Q) : AW M d (pc) lv (.int x :: st) h Q := by
  intro p l e s m args below meth c G H locs ls hc hwd hl
  obtain ⟨hx, hb, hr, hml, hown, hts, hns, hlk⟩ := id hc
  exact lv_istore hx hb hd hl.2 (by rw [← hl.1]; exact hn) rfl (fun ls' hl' => kk p l e s m args below meth c G H locs ls' hc hwd (hl.set1 (v := .int x) hg hl'))
theorem aw_astore_n {k : Fin 4} {i : Nat} {x : Nat} (hd : decode M.2.1 pc = .ok (.astore_n k, 1)) (hi : (k : Nat) = i) (hn : i < lv.length) (hg : nolong lv i = true) (kk : AW M d (pc + 1) (lv.set i (some (.ref x))) (st) h Q) : AW M d (pc) lv (.ref x :: st) h Q := by
  intro p l e s m args below meth c G H locs ls hc hwd hl
  obtain ⟨hx, hb, hr, hml, hown, hts, hns, hlk⟩ := id hc
  exact lv_astore_n hx hb hd hi hl.2 (by rw [← hl.1]; exact hn) rfl (fun ls' hl' => kk p l e s m args below meth c G H locs ls' hc hwd (hl.set1 (v := .ref x) hg hl'))
theorem aw_astore {i : Nat} {x : Nat} (hd : decode M.2.1 pc = .ok (.astore i, 2)) (hn : i < lv.length) (hg : nolong lv i = true) (kk : AW M d (pc + 2) (lv.set i (some (.ref x))) (st) h Q) : AW M d (pc) lv (.ref x :: st) h Q := by
  intro p l e s m args below meth c G H locs ls hc hwd hl
  obtain ⟨hx, hb, hr, hml, hown, hts, hns, hlk⟩ := id hc
  exact lv_astore hx hb hd hl.2 (by rw [← hl.1]; exact hn) rfl (fun ls' hl' => kk p l e s m args below meth c G H locs ls' hc hwd (hl.set1 (v := .ref x) hg hl'))
theorem aw_astore_nN {k : Fin 4} {i : Nat} (hd : decode M.2.1 pc = .ok (.astore_n k, 1)) (hi : (k : Nat) = i) (hn : i < lv.length) (hg : nolong lv i = true) (kk : AW M d (pc + 1) (lv.set i (some .null)) (st) h Q) : AW M d (pc) lv (.null :: st) h Q := by
  intro p l e s m args below meth c G H locs ls hc hwd hl
  obtain ⟨hx, hb, hr, hml, hown, hts, hns, hlk⟩ := id hc
  exact lv_astore_nN hx hb hd hi hl.2 (by rw [← hl.1]; exact hn) rfl (fun ls' hl' => kk p l e s m args below meth c G H locs ls' hc hwd (hl.set1 (v := .null) hg hl'))
theorem aw_lstore_n {k : Fin 4} {i : Nat} {x : Int64} (hd : decode M.2.1 pc = .ok (.lstore_n k, 1)) (hi : (k : Nat) = i) (hn : i + 1 < lv.length) (hg : nolong lv i = true) (kk : AW M d (pc + 1) ((lv.set (i + 1) none).set i (some (.long x))) (st) h Q) : AW M d (pc) lv (.long x :: st) h Q := by
  intro p l e s m args below meth c G H locs ls hc hwd hl
  obtain ⟨hx, hb, hr, hml, hown, hts, hns, hlk⟩ := id hc
  exact lv_lstore_n hx hb hd hi hl.2 (by rw [← hl.1]; exact hn) rfl (fun ls' hl' => kk p l e s m args below meth c G H locs ls' hc hwd (hl.set2 (v := .long x) hg hl'))
theorem aw_lstore {i : Nat} {x : Int64} (hd : decode M.2.1 pc = .ok (.lstore i, 2)) (hn : i + 1 < lv.length) (hg : nolong lv i = true) (kk : AW M d (pc + 2) ((lv.set (i + 1) none).set i (some (.long x))) (st) h Q) : AW M d (pc) lv (.long x :: st) h Q := by
  intro p l e s m args below meth c G H locs ls hc hwd hl
  obtain ⟨hx, hb, hr, hml, hown, hts, hns, hlk⟩ := id hc
  exact lv_lstore hx hb hd hl.2 (by rw [← hl.1]; exact hn) rfl (fun ls' hl' => kk p l e s m args below meth c G H locs ls' hc hwd (hl.set2 (v := .long x) hg hl'))
theorem aw_iinc {i : Nat} {n : Int} {x v : Int32} (hd : decode M.2.1 pc = .ok (.iinc i n, 3)) (hv : lv[i]? = some (some (.int x))) (hs : x + Int32.ofInt n = v) (hg : nolong lv i = true) (kk : AW M d (pc + 3) (lv.set i (some (.int v))) (st) h Q) : AW M d (pc) lv (st) h Q := by
  intro p l e s m args below meth c G H locs ls hc hwd hl
  obtain ⟨hx, hb, hr, hml, hown, hts, hns, hlk⟩ := id hc
  have hm : (i, Value.int x) ∈ prs (ga G) lv := prs_mem.mpr ⟨_, hv, rfl⟩
  obtain ⟨k, hk⟩ := List.getElem?_of_mem hm
  exact lv_iinc hx hb hd hl.2 hk hs (by rw [← hl.1]; exact (List.getElem?_eq_some_iff.mp hv).1) rfl (fun ls' hl' => kk p l e s m args below meth c G H locs ls' hc hwd (hl.set1 (v := .int v) hg hl'))
theorem aw_iadd {x y : Int32} (hd : decode M.2.1 pc = .ok (.iadd, 1)) (kk : AW M d (pc + 1) lv (.int (x + y) :: st) h Q) : AW M d (pc) lv (.int y :: .int x :: st) h Q := by
  intro p l e s m args below meth c G H locs ls hc hwd hl
  obtain ⟨hx, hb, hr, hml, hown, hts, hns, hlk⟩ := id hc
  exact lv_iadd hx hb hd (kk p l e s m args below meth c G H locs ls hc hwd hl)
theorem aw_isub {x y : Int32} (hd : decode M.2.1 pc = .ok (.isub, 1)) (kk : AW M d (pc + 1) lv (.int (x - y) :: st) h Q) : AW M d (pc) lv (.int y :: .int x :: st) h Q := by
  intro p l e s m args below meth c G H locs ls hc hwd hl
  obtain ⟨hx, hb, hr, hml, hown, hts, hns, hlk⟩ := id hc
  exact lv_isub hx hb hd (kk p l e s m args below meth c G H locs ls hc hwd hl)
theorem aw_imul {x y : Int32} (hd : decode M.2.1 pc = .ok (.imul, 1)) (kk : AW M d (pc + 1) lv (.int (x * y) :: st) h Q) : AW M d (pc) lv (.int y :: .int x :: st) h Q := by
  intro p l e s m args below meth c G H locs ls hc hwd hl
  obtain ⟨hx, hb, hr, hml, hown, hts, hns, hlk⟩ := id hc
  exact lv_imul hx hb hd (kk p l e s m args below meth c G H locs ls hc hwd hl)
theorem aw_iand {x y : Int32} (hd : decode M.2.1 pc = .ok (.iand, 1)) (kk : AW M d (pc + 1) lv (.int (x &&& y) :: st) h Q) : AW M d (pc) lv (.int y :: .int x :: st) h Q := by
  intro p l e s m args below meth c G H locs ls hc hwd hl
  obtain ⟨hx, hb, hr, hml, hown, hts, hns, hlk⟩ := id hc
  exact lv_iand hx hb hd (kk p l e s m args below meth c G H locs ls hc hwd hl)
theorem aw_ior {x y : Int32} (hd : decode M.2.1 pc = .ok (.ior, 1)) (kk : AW M d (pc + 1) lv (.int (x ||| y) :: st) h Q) : AW M d (pc) lv (.int y :: .int x :: st) h Q := by
  intro p l e s m args below meth c G H locs ls hc hwd hl
  obtain ⟨hx, hb, hr, hml, hown, hts, hns, hlk⟩ := id hc
  exact lv_ior hx hb hd (kk p l e s m args below meth c G H locs ls hc hwd hl)
theorem aw_ixor {x y : Int32} (hd : decode M.2.1 pc = .ok (.ixor, 1)) (kk : AW M d (pc + 1) lv (.int (x ^^^ y) :: st) h Q) : AW M d (pc) lv (.int y :: .int x :: st) h Q := by
  intro p l e s m args below meth c G H locs ls hc hwd hl
  obtain ⟨hx, hb, hr, hml, hown, hts, hns, hlk⟩ := id hc
  exact lv_ixor hx hb hd (kk p l e s m args below meth c G H locs ls hc hwd hl)
theorem aw_ishl {x y : Int32} (hd : decode M.2.1 pc = .ok (.ishl, 1)) (kk : AW M d (pc + 1) lv (.int (x <<< (y &&& 31)) :: st) h Q) : AW M d (pc) lv (.int y :: .int x :: st) h Q := by
  intro p l e s m args below meth c G H locs ls hc hwd hl
  obtain ⟨hx, hb, hr, hml, hown, hts, hns, hlk⟩ := id hc
  exact lv_ishl hx hb hd (kk p l e s m args below meth c G H locs ls hc hwd hl)
theorem aw_ishr {x y : Int32} (hd : decode M.2.1 pc = .ok (.ishr, 1)) (kk : AW M d (pc + 1) lv (.int (x >>> (y &&& 31)) :: st) h Q) : AW M d (pc) lv (.int y :: .int x :: st) h Q := by
  intro p l e s m args below meth c G H locs ls hc hwd hl
  obtain ⟨hx, hb, hr, hml, hown, hts, hns, hlk⟩ := id hc
  exact lv_ishr hx hb hd (kk p l e s m args below meth c G H locs ls hc hwd hl)
theorem aw_idiv {x y : Int32} (hd : decode M.2.1 pc = .ok (.idiv, 1)) (hne : ¬ y = 0) (kk : AW M d (pc + 1) lv (.int (x / y) :: st) h Q) : AW M d (pc) lv (.int y :: .int x :: st) h Q := by
  intro p l e s m args below meth c G H locs ls hc hwd hl
  obtain ⟨hx, hb, hr, hml, hown, hts, hns, hlk⟩ := id hc
  exact lv_idiv hx hb hd hne (kk p l e s m args below meth c G H locs ls hc hwd hl)
theorem aw_irem {x y : Int32} (hd : decode M.2.1 pc = .ok (.irem, 1)) (hne : ¬ y = 0) (kk : AW M d (pc + 1) lv (.int (x - x / y * y) :: st) h Q) : AW M d (pc) lv (.int y :: .int x :: st) h Q := by
  intro p l e s m args below meth c G H locs ls hc hwd hl
  obtain ⟨hx, hb, hr, hml, hown, hts, hns, hlk⟩ := id hc
  exact lv_irem hx hb hd hne (kk p l e s m args below meth c G H locs ls hc hwd hl)
theorem aw_ladd {x y : Int64} (hd : decode M.2.1 pc = .ok (.ladd, 1)) (kk : AW M d (pc + 1) lv (.long (x + y) :: st) h Q) : AW M d (pc) lv (.long y :: .long x :: st) h Q := by
  intro p l e s m args below meth c G H locs ls hc hwd hl
  obtain ⟨hx, hb, hr, hml, hown, hts, hns, hlk⟩ := id hc
  exact lv_ladd hx hb hd (kk p l e s m args below meth c G H locs ls hc hwd hl)
theorem aw_lmul {x y : Int64} (hd : decode M.2.1 pc = .ok (.lmul, 1)) (kk : AW M d (pc + 1) lv (.long (x * y) :: st) h Q) : AW M d (pc) lv (.long y :: .long x :: st) h Q := by
  intro p l e s m args below meth c G H locs ls hc hwd hl
  obtain ⟨hx, hb, hr, hml, hown, hts, hns, hlk⟩ := id hc
  exact lv_lmul hx hb hd (kk p l e s m args below meth c G H locs ls hc hwd hl)
theorem aw_ldiv {x y : Int64} (hd : decode M.2.1 pc = .ok (.ldiv, 1)) (hne : ¬ y = 0) (kk : AW M d (pc + 1) lv (.long (x / y) :: st) h Q) : AW M d (pc) lv (.long y :: .long x :: st) h Q := by
  intro p l e s m args below meth c G H locs ls hc hwd hl
  obtain ⟨hx, hb, hr, hml, hown, hts, hns, hlk⟩ := id hc
  exact lv_ldiv hx hb hd hne (kk p l e s m args below meth c G H locs ls hc hwd hl)
theorem aw_lrem {x y : Int64} (hd : decode M.2.1 pc = .ok (.lrem, 1)) (hne : ¬ y = 0) (kk : AW M d (pc + 1) lv (.long (x - x / y * y) :: st) h Q) : AW M d (pc) lv (.long y :: .long x :: st) h Q := by
  intro p l e s m args below meth c G H locs ls hc hwd hl
  obtain ⟨hx, hb, hr, hml, hown, hts, hns, hlk⟩ := id hc
  exact lv_lrem hx hb hd hne (kk p l e s m args below meth c G H locs ls hc hwd hl)
theorem aw_i2l {x : Int32} (hd : decode M.2.1 pc = .ok (.i2l, 1)) (kk : AW M d (pc + 1) lv (.long x.toInt64 :: st) h Q) : AW M d (pc) lv (.int x :: st) h Q := by
  intro p l e s m args below meth c G H locs ls hc hwd hl
  obtain ⟨hx, hb, hr, hml, hown, hts, hns, hlk⟩ := id hc
  exact lv_i2l hx hb hd rfl (kk p l e s m args below meth c G H locs ls hc hwd hl)
theorem aw_l2i {x : Int64} (hd : decode M.2.1 pc = .ok (.l2i, 1)) (kk : AW M d (pc + 1) lv (.int x.toInt32 :: st) h Q) : AW M d (pc) lv (.long x :: st) h Q := by
  intro p l e s m args below meth c G H locs ls hc hwd hl
  obtain ⟨hx, hb, hr, hml, hown, hts, hns, hlk⟩ := id hc
  exact lv_l2i hx hb hd rfl (kk p l e s m args below meth c G H locs ls hc hwd hl)
theorem aw_i2c {x v : Int32} (hd : decode M.2.1 pc = .ok (.i2c, 1)) (hv : (x.toUInt32 % 65536).toInt32 = v) (kk : AW M d (pc + 1) lv (.int v :: st) h Q) : AW M d (pc) lv (.int x :: st) h Q := by
  intro p l e s m args below meth c G H locs ls hc hwd hl
  obtain ⟨hx, hb, hr, hml, hown, hts, hns, hlk⟩ := id hc
  exact lv_i2c hx hb hd hv (kk p l e s m args below meth c G H locs ls hc hwd hl)
theorem aw_dup {v : Value} (hd : decode M.2.1 pc = .ok (.dup, 1)) (hv : v.category = 1) (kk : AW M d (pc + 1) lv (v :: v :: st) h Q) : AW M d (pc) lv (v :: st) h Q := by
  intro p l e s m args below meth c G H locs ls hc hwd hl
  obtain ⟨hx, hb, hr, hml, hown, hts, hns, hlk⟩ := id hc
  exact lv_dup hx hb hd (by rw [cv_cat]; exact hv) (kk p l e s m args below meth c G H locs ls hc hwd hl)
theorem aw_pop {v : Value} (hd : decode M.2.1 pc = .ok (.pop, 1)) (hv : v.category = 1) (kk : AW M d (pc + 1) lv (st) h Q) : AW M d (pc) lv (v :: st) h Q := by
  intro p l e s m args below meth c G H locs ls hc hwd hl
  obtain ⟨hx, hb, hr, hml, hown, hts, hns, hlk⟩ := id hc
  exact lv_pop hx hb hd (by rw [cv_cat]; exact hv) (kk p l e s m args below meth c G H locs ls hc hwd hl)
theorem aw_dup2 {v w : Value} (hd : decode M.2.1 pc = .ok (.dup2, 1)) (hv : v.category = 1) (hw1 : w.category = 1) (kk : AW M d (pc + 1) lv (v :: w :: v :: w :: st) h Q) : AW M d (pc) lv (v :: w :: st) h Q := by
  intro p l e s m args below meth c G H locs ls hc hwd hl
  obtain ⟨hx, hb, hr, hml, hown, hts, hns, hlk⟩ := id hc
  exact lv_dup2_11 hx hb hd (by rw [cv_cat]; exact hv) (by rw [cv_cat]; exact hw1) (kk p l e s m args below meth c G H locs ls hc hwd hl)
theorem aw_topi {x : Int32} (kk : ∀ y : Int32, y = x → AW M d (pc) lv (.int y :: st) h Q) : AW M d (pc) lv (.int x :: st) h Q := by
  intro p l e s m args below meth c G H locs ls hc hwd hl
  obtain ⟨hx, hb, hr, hml, hown, hts, hns, hlk⟩ := id hc
  exact kk x rfl p l e s m args below meth c G H locs ls hc hwd hl
theorem aw_if_eq {x : Int32} {off : Int} {tgt : Nat} (hd : decode M.2.1 pc = .ok (.ifCond .eq off, 3)) (ht : (pc : Int) + off = (tgt : Int)) (kt : x = 0 → AW M d (tgt) lv (st) h Q) (kf : ¬ x = 0 → AW M d (pc + 3) lv (st) h Q) : AW M d (pc) lv (.int x :: st) h Q := by
  intro p l e s m args below meth c G H locs ls hc hwd hl
  obtain ⟨hx, hb, hr, hml, hown, hts, hns, hlk⟩ := id hc
  exact lv_if_eq hx hb hd ht (fun q => kt q p l e s m args below meth c G H locs ls hc hwd hl) (fun q => kf q p l e s m args below meth c G H locs ls hc hwd hl)
theorem aw_icmp_eq {x y : Int32} {off : Int} {tgt : Nat} (hd : decode M.2.1 pc = .ok (.if_icmp .eq off, 3)) (ht : (pc : Int) + off = (tgt : Int)) (kt : x = y → AW M d (tgt) lv (st) h Q) (kf : ¬ x = y → AW M d (pc + 3) lv (st) h Q) : AW M d (pc) lv (.int y :: .int x :: st) h Q := by
  intro p l e s m args below meth c G H locs ls hc hwd hl
  obtain ⟨hx, hb, hr, hml, hown, hts, hns, hlk⟩ := id hc
  exact lv_icmp_eq hx hb hd ht (fun q => kt q p l e s m args below meth c G H locs ls hc hwd hl) (fun q => kf q p l e s m args below meth c G H locs ls hc hwd hl)
theorem aw_if_ne {x : Int32} {off : Int} {tgt : Nat} (hd : decode M.2.1 pc = .ok (.ifCond .ne off, 3)) (ht : (pc : Int) + off = (tgt : Int)) (kt : ¬ x = 0 → AW M d (tgt) lv (st) h Q) (kf : x = 0 → AW M d (pc + 3) lv (st) h Q) : AW M d (pc) lv (.int x :: st) h Q := by
  intro p l e s m args below meth c G H locs ls hc hwd hl
  obtain ⟨hx, hb, hr, hml, hown, hts, hns, hlk⟩ := id hc
  exact lv_if_ne hx hb hd ht (fun q => kt q p l e s m args below meth c G H locs ls hc hwd hl) (fun q => kf q p l e s m args below meth c G H locs ls hc hwd hl)
theorem aw_icmp_ne {x y : Int32} {off : Int} {tgt : Nat} (hd : decode M.2.1 pc = .ok (.if_icmp .ne off, 3)) (ht : (pc : Int) + off = (tgt : Int)) (kt : ¬ x = y → AW M d (tgt) lv (st) h Q) (kf : x = y → AW M d (pc + 3) lv (st) h Q) : AW M d (pc) lv (.int y :: .int x :: st) h Q := by
  intro p l e s m args below meth c G H locs ls hc hwd hl
  obtain ⟨hx, hb, hr, hml, hown, hts, hns, hlk⟩ := id hc
  exact lv_icmp_ne hx hb hd ht (fun q => kt q p l e s m args below meth c G H locs ls hc hwd hl) (fun q => kf q p l e s m args below meth c G H locs ls hc hwd hl)
theorem aw_if_lt {x : Int32} {off : Int} {tgt : Nat} (hd : decode M.2.1 pc = .ok (.ifCond .lt off, 3)) (ht : (pc : Int) + off = (tgt : Int)) (kt : x < 0 → AW M d (tgt) lv (st) h Q) (kf : ¬ x < 0 → AW M d (pc + 3) lv (st) h Q) : AW M d (pc) lv (.int x :: st) h Q := by
  intro p l e s m args below meth c G H locs ls hc hwd hl
  obtain ⟨hx, hb, hr, hml, hown, hts, hns, hlk⟩ := id hc
  exact lv_if_lt hx hb hd ht (fun q => kt q p l e s m args below meth c G H locs ls hc hwd hl) (fun q => kf q p l e s m args below meth c G H locs ls hc hwd hl)
theorem aw_icmp_lt {x y : Int32} {off : Int} {tgt : Nat} (hd : decode M.2.1 pc = .ok (.if_icmp .lt off, 3)) (ht : (pc : Int) + off = (tgt : Int)) (kt : x < y → AW M d (tgt) lv (st) h Q) (kf : ¬ x < y → AW M d (pc + 3) lv (st) h Q) : AW M d (pc) lv (.int y :: .int x :: st) h Q := by
  intro p l e s m args below meth c G H locs ls hc hwd hl
  obtain ⟨hx, hb, hr, hml, hown, hts, hns, hlk⟩ := id hc
  exact lv_icmp_lt hx hb hd ht (fun q => kt q p l e s m args below meth c G H locs ls hc hwd hl) (fun q => kf q p l e s m args below meth c G H locs ls hc hwd hl)
theorem aw_if_ge {x : Int32} {off : Int} {tgt : Nat} (hd : decode M.2.1 pc = .ok (.ifCond .ge off, 3)) (ht : (pc : Int) + off = (tgt : Int)) (kt : 0 ≤ x → AW M d (tgt) lv (st) h Q) (kf : ¬ 0 ≤ x → AW M d (pc + 3) lv (st) h Q) : AW M d (pc) lv (.int x :: st) h Q := by
  intro p l e s m args below meth c G H locs ls hc hwd hl
  obtain ⟨hx, hb, hr, hml, hown, hts, hns, hlk⟩ := id hc
  exact lv_if_ge hx hb hd ht (fun q => kt q p l e s m args below meth c G H locs ls hc hwd hl) (fun q => kf q p l e s m args below meth c G H locs ls hc hwd hl)
theorem aw_icmp_ge {x y : Int32} {off : Int} {tgt : Nat} (hd : decode M.2.1 pc = .ok (.if_icmp .ge off, 3)) (ht : (pc : Int) + off = (tgt : Int)) (kt : y ≤ x → AW M d (tgt) lv (st) h Q) (kf : ¬ y ≤ x → AW M d (pc + 3) lv (st) h Q) : AW M d (pc) lv (.int y :: .int x :: st) h Q := by
  intro p l e s m args below meth c G H locs ls hc hwd hl
  obtain ⟨hx, hb, hr, hml, hown, hts, hns, hlk⟩ := id hc
  exact lv_icmp_ge hx hb hd ht (fun q => kt q p l e s m args below meth c G H locs ls hc hwd hl) (fun q => kf q p l e s m args below meth c G H locs ls hc hwd hl)
theorem aw_if_gt {x : Int32} {off : Int} {tgt : Nat} (hd : decode M.2.1 pc = .ok (.ifCond .gt off, 3)) (ht : (pc : Int) + off = (tgt : Int)) (kt : 0 < x → AW M d (tgt) lv (st) h Q) (kf : ¬ 0 < x → AW M d (pc + 3) lv (st) h Q) : AW M d (pc) lv (.int x :: st) h Q := by
  intro p l e s m args below meth c G H locs ls hc hwd hl
  obtain ⟨hx, hb, hr, hml, hown, hts, hns, hlk⟩ := id hc
  exact lv_if_gt hx hb hd ht (fun q => kt q p l e s m args below meth c G H locs ls hc hwd hl) (fun q => kf q p l e s m args below meth c G H locs ls hc hwd hl)
theorem aw_icmp_gt {x y : Int32} {off : Int} {tgt : Nat} (hd : decode M.2.1 pc = .ok (.if_icmp .gt off, 3)) (ht : (pc : Int) + off = (tgt : Int)) (kt : y < x → AW M d (tgt) lv (st) h Q) (kf : ¬ y < x → AW M d (pc + 3) lv (st) h Q) : AW M d (pc) lv (.int y :: .int x :: st) h Q := by
  intro p l e s m args below meth c G H locs ls hc hwd hl
  obtain ⟨hx, hb, hr, hml, hown, hts, hns, hlk⟩ := id hc
  exact lv_icmp_gt hx hb hd ht (fun q => kt q p l e s m args below meth c G H locs ls hc hwd hl) (fun q => kf q p l e s m args below meth c G H locs ls hc hwd hl)
theorem aw_if_le {x : Int32} {off : Int} {tgt : Nat} (hd : decode M.2.1 pc = .ok (.ifCond .le off, 3)) (ht : (pc : Int) + off = (tgt : Int)) (kt : x ≤ 0 → AW M d (tgt) lv (st) h Q) (kf : ¬ x ≤ 0 → AW M d (pc + 3) lv (st) h Q) : AW M d (pc) lv (.int x :: st) h Q := by
  intro p l e s m args below meth c G H locs ls hc hwd hl
  obtain ⟨hx, hb, hr, hml, hown, hts, hns, hlk⟩ := id hc
  exact lv_if_le hx hb hd ht (fun q => kt q p l e s m args below meth c G H locs ls hc hwd hl) (fun q => kf q p l e s m args below meth c G H locs ls hc hwd hl)
theorem aw_icmp_le {x y : Int32} {off : Int} {tgt : Nat} (hd : decode M.2.1 pc = .ok (.if_icmp .le off, 3)) (ht : (pc : Int) + off = (tgt : Int)) (kt : x ≤ y → AW M d (tgt) lv (st) h Q) (kf : ¬ x ≤ y → AW M d (pc + 3) lv (st) h Q) : AW M d (pc) lv (.int y :: .int x :: st) h Q := by
  intro p l e s m args below meth c G H locs ls hc hwd hl
  obtain ⟨hx, hb, hr, hml, hown, hts, hns, hlk⟩ := id hc
  exact lv_icmp_le hx hb hd ht (fun q => kt q p l e s m args below meth c G H locs ls hc hwd hl) (fun q => kf q p l e s m args below meth c G H locs ls hc hwd hl)
theorem aw_goto {off : Int} {tgt : Nat} (hd : decode M.2.1 pc = .ok (.goto off, 3)) (ht : (pc : Int) + off = (tgt : Int)) (kk : AW M d (tgt) lv (st) h Q) : AW M d (pc) lv (st) h Q := by
  intro p l e s m args below meth c G H locs ls hc hwd hl
  obtain ⟨hx, hb, hr, hml, hown, hts, hns, hlk⟩ := id hc
  exact lv_goto hx hb hd ht (kk p l e s m args below meth c G H locs ls hc hwd hl)
theorem aw_ifnull {x : Nat} {off : Int} (hd : decode M.2.1 pc = .ok (.ifnull off, 3)) (kk : AW M d (pc + 3) lv (st) h Q) : AW M d (pc) lv (.ref x :: st) h Q := by
  intro p l e s m args below meth c G H locs ls hc hwd hl
  obtain ⟨hx, hb, hr, hml, hown, hts, hns, hlk⟩ := id hc
  exact lv_ifnull hx hb hd (kk p l e s m args below meth c G H locs ls hc hwd hl)
theorem aw_ifnullN {off : Int} {tgt : Nat} (hd : decode M.2.1 pc = .ok (.ifnull off, 3)) (ht : (pc : Int) + off = (tgt : Int)) (kk : AW M d (tgt) lv (st) h Q) : AW M d (pc) lv (.null :: st) h Q := by
  intro p l e s m args below meth c G H locs ls hc hwd hl
  obtain ⟨hx, hb, hr, hml, hown, hts, hns, hlk⟩ := id hc
  exact lv_ifnullN hx hb hd ht (kk p l e s m args below meth c G H locs ls hc hwd hl)
theorem aw_ifnonnull {x : Nat} {off : Int} {tgt : Nat} (hd : decode M.2.1 pc = .ok (.ifnonnull off, 3)) (ht : (pc : Int) + off = (tgt : Int)) (kk : AW M d (tgt) lv (st) h Q) : AW M d (pc) lv (.ref x :: st) h Q := by
  intro p l e s m args below meth c G H locs ls hc hwd hl
  obtain ⟨hx, hb, hr, hml, hown, hts, hns, hlk⟩ := id hc
  exact lv_ifnonnull hx hb hd ht (kk p l e s m args below meth c G H locs ls hc hwd hl)
theorem aw_ifnonnullN {off : Int} (hd : decode M.2.1 pc = .ok (.ifnonnull off, 3)) (kk : AW M d (pc + 3) lv (st) h Q) : AW M d (pc) lv (.null :: st) h Q := by
  intro p l e s m args below meth c G H locs ls hc hwd hl
  obtain ⟨hx, hb, hr, hml, hown, hts, hns, hlk⟩ := id hc
  exact lv_ifnonnullN hx hb hd (kk p l e s m args below meth c G H locs ls hc hwd hl)
theorem aw_tableIn {dflt lo hi : Int} {offs : Array Int} {len : Nat} {x : Int32} {off : Int} {tgt : Nat} (hd : decode M.2.1 pc = .ok (.tableswitch dflt lo hi offs, len)) (h1 : ¬ x.toInt < lo) (h2 : ¬ hi < x.toInt) (ho : offs[(x.toInt - lo).toNat]? = some off) (ht : (pc : Int) + off = (tgt : Int)) (kk : AW M d (tgt) lv (st) h Q) : AW M d (pc) lv (.int x :: st) h Q := by
  intro p l e s m args below meth c G H locs ls hc hwd hl
  obtain ⟨hx, hb, hr, hml, hown, hts, hns, hlk⟩ := id hc
  exact lv_tableIn hx hb hd h1 h2 ho ht (kk p l e s m args below meth c G H locs ls hc hwd hl)
theorem aw_tableOut {dflt lo hi : Int} {offs : Array Int} {len : Nat} {x : Int32} {tgt : Nat} (hd : decode M.2.1 pc = .ok (.tableswitch dflt lo hi offs, len)) (h1 : x.toInt < lo ∨ hi < x.toInt) (ht : (pc : Int) + dflt = (tgt : Int)) (kk : AW M d (tgt) lv (st) h Q) : AW M d (pc) lv (.int x :: st) h Q := by
  intro p l e s m args below meth c G H locs ls hc hwd hl
  obtain ⟨hx, hb, hr, hml, hown, hts, hns, hlk⟩ := id hc
  exact lv_tableOut hx hb hd h1 ht (kk p l e s m args below meth c G H locs ls hc hwd hl)
theorem aw_lookup {dflt : Int} {ps : Array (Int × Int)} {len : Nat} {x : Int32} {off : Int} {tgt : Nat} (hd : decode M.2.1 pc = .ok (.lookupswitch dflt ps, len)) (hp : (ps.toList.zip (ps.toList.drop 1)).all (fun (a, next) => a.1 < next.1) = true) (ho : Op.lookupswitch.offset ps.toList dflt x.toInt = off) (ht : (pc : Int) + off = (tgt : Int)) (kk : AW M d (tgt) lv (st) h Q) : AW M d (pc) lv (.int x :: st) h Q := by
  intro p l e s m args below meth c G H locs ls hc hwd hl
  obtain ⟨hx, hb, hr, hml, hown, hts, hns, hlk⟩ := id hc
  exact lv_lookup hx hb hd hp ho ht (kk p l e s m args below meth c G H locs ls hc hwd hl)
theorem hbig {M : MI} {args : Array Value} {s : State} (hts : ∀ w ∈ mW M, w.before args s = true) {w : Cond} (hw : w ∈ bigW) : w.before args s = true := hts w (List.mem_cons_of_mem _ hw)
/-- the field that a getfield or putfield of that index means: field k of class ci -/
def FL (own : String) (idx ci k : Nat) : Prop := ∃ (C : String) (T : u_T) (N : Nat) (ty : Nat → FieldType), vwCl[ci]? = some (C, T, N) ∧ k < N ∧ Cond.fieldLink own idx (T k).1 (T k).2.1 (T k).2.2.1 ∈ bigW ∧ (∀ w ∈ u_ws C T N, w ∈ bigW) ∧ (∀ k, k < N → parseFieldDescriptor (T k).2.2.1 = some (ty k)) ∧ (∀ a, a < N → ∀ b, b < N → a ≠ b → (T a).2.1 ≠ (T b).2.1)
/-- such a field that holds an int and may be written -/
def FW (own : String) (idx ci k : Nat) : Prop := ∃ (C : String) (T : u_T) (N : Nat) (ty : Nat → FieldType), vwCl[ci]? = some (C, T, N) ∧ k < N ∧ Cond.fieldLink own idx (T k).1 (T k).2.1 (T k).2.2.1 ∈ bigW ∧ (∀ w ∈ u_ws C T N, w ∈ bigW) ∧ (∀ k, k < N → parseFieldDescriptor (T k).2.2.1 = some (ty k)) ∧ (∀ a, a < N → ∀ b, b < N → a ≠ b → (T a).2.1 ≠ (T b).2.1) ∧ (T k).2.2.2 = false ∧ ty k = .int
def fv (h : Hp) (o k : Nat) (f : Option Nat) : Value := match f with
  | none => .int (nI (h o k))
  | some r => .ref r
theorem cv_fv (G : Gx) (h : Hp) (o k : Nat) (f : Option Nat) : cv (ga G) (fv h o k f) = fvv G h o k f := by cases f <;> rfl
theorem aw_getfield {idx ci k a : Nat} {fs : List (Option Nat)} {f : Option Nat} (hd : decode M.2.1 pc = .ok (.getfield idx, 3)) (hf : FL M.1.cls idx ci k) (ho : lay[a]? = some (oO ci fs)) (hk : fs[k]? = some f) (kk : AW M d (pc + 3) lv (fv h a k f :: st) h Q) : AW M d (pc) lv (.ref a :: st) h Q := by
  intro p l e s m args below meth c G H locs ls hc hwd hl
  obtain ⟨hx, hb, hr, hml, hown, hts, hns, hlk⟩ := id hc
  obtain ⟨C, T, N, ty, hC, hkN, hlk2, hin, hty, hnm⟩ := hf
  obtain ⟨hK, hP, hD, hS, hA⟩   := id hwd
  refine va_get (ws := wl G h) (T := T) (Ts := mW M) hx hb hts (fun w q => List.mem_cons_of_mem _ (hin w q)) hown hK hP a (wl_at ho) hC k hkN (hbig hts hlk2) (fun _ h9 => h9) (v := fvv G h a k f) (by simp [hk]) hd ?_
  have := kk p l e s m args below meth c G H locs ls hc hwd hl
  simp only [List.map_cons, cv_fv] at this
  exact this
theorem aw_putfield {idx ci k a x : Nat} {fs : List (Option Nat)} (hd : decode M.2.1 pc = .ok (.putfield idx, 3)) (hf : FW M.1.cls idx ci k) (ho : lay[a]? = some (oO ci fs)) (hk : fs[k]? = some none) (kk : AW M d (pc + 3) lv (st) (hw h a k x) Q) : AW M d (pc) lv (.int (nI x) :: .ref a :: st) h Q := by
  intro p l e s m args below meth c G H locs ls hc hwd hl
  obtain ⟨hx, hb, hr, hml, hown, hts, hns, hlk⟩ := id hc
  obtain ⟨C, T, N, ty, hC, hkN, hlk2, hin, hty, hnm, hfin, htyi⟩ := hf
  obtain ⟨hK, hP, hD, hS, hA⟩   := id hwd
  refine va_put (ws := wl G h) (T := T) (Ts := mW M) (ty := .int) (v := .int (nI x)) hx hb hts (fun w q => List.mem_cons_of_mem _ (hin w q)) ty hty hnm hown hK hP hD hS a (wl_at ho) hC k hkN (hbig hts hlk2) (fun _ h9 => h9) hfin (by rw [hty k hkN, htyi]) rfl rfl (by simp [(List.getElem?_eq_some_iff.mp hk).1]) hd (fun H1 locs1 hP1 hD1 hS1 => ?_)
  rw [wl_hw (x := x) (k := k) ho (cel_hwO hk)] at hP1 hD1
  exact kk p l e s m args below meth c G H1 locs1 ls hc ⟨hK, hP1, hD1, hS1, hA⟩ hl
theorem aw_iaload {a n i : Nat} (hd : decode M.2.1 pc = .ok (.iaload, 1)) (ho : lay[a]? = some (oI n)) (hi : i < n) (hn : n < 2 ^ 31) (kk : AW M d (pc + 1) lv (.int (nI (h a i)) :: st) h Q) : AW M d (pc) lv (.int (nI i) :: .ref a :: st) h Q := by
  intro p l e s m args below meth c G H locs ls hc hwd hl
  obtain ⟨hx, hb, hr, hml, hown, hts, hns, hlk⟩ := id hc
  obtain ⟨hK, hP, hD, hS, hA⟩   := id hwd
  refine va_iald (ws := wl G h) hx hb hK hP a 0 (wl_at ho) rfl (vp_in_nI hi hn) hd ?_
  rw [nI_clamp (Nat.lt_trans hi hn)]
  exact (kk p l e s m args below meth c G H locs ls hc hwd hl)
theorem aw_caload {a n i : Nat} (hd : decode M.2.1 pc = .ok (.caload, 1)) (ho : lay[a]? = some (oC n)) (hi : i < n) (hn : n < 2 ^ 31) (kk : AW M d (pc + 1) lv (.int (nI (h a i)) :: st) h Q) : AW M d (pc) lv (.int (nI i) :: .ref a :: st) h Q := by
  intro p l e s m args below meth c G H locs ls hc hwd hl
  obtain ⟨hx, hb, hr, hml, hown, hts, hns, hlk⟩ := id hc
  obtain ⟨hK, hP, hD, hS, hA⟩   := id hwd
  refine va_cald (ws := wl G h) hx hb hK hP a 1 (wl_at ho) rfl (vp_in_nI hi hn) hd ?_
  rw [nI_clamp (Nat.lt_trans hi hn)]
  exact (kk p l e s m args below meth c G H locs ls hc hwd hl)
theorem aw_aaload {a r i : Nat} {rs : List Nat} (hd : decode M.2.1 pc = .ok (.aaload, 1)) (ho : lay[a]? = some (oR rs)) (hr0 : rs[i]? = some r) (hn : rs.length < 2 ^ 31) (kk : AW M d (pc + 1) lv (.ref r :: st) h Q) : AW M d (pc) lv (.int (nI i) :: .ref a :: st) h Q := by
  intro p l e s m args below meth c G H locs ls hc hwd hl
  obtain ⟨hx, hb, hr, hml, hown, hts, hns, hlk⟩ := id hc
  obtain ⟨hK, hP, hD, hS, hA⟩ := id hwd
  have hi : i < rs.length := (List.getElem?_eq_some_iff.mp hr0).1
  refine va_aldq (ws := wl G h) hx hb hK hP a 2 (wl_at ho) rfl (vp_in_nI hi hn) hd ?_
  rw [nI_clamp (Nat.lt_trans hi hn), hr0]
  exact (kk p l e s m args below meth c G H locs ls hc hwd hl)
theorem aw_iastore {a n i x : Nat} (hd : decode M.2.1 pc = .ok (.iastore, 1)) (ho : lay[a]? = some (oI n)) (hi : i < n) (hn : n < 2 ^ 31) (kk : AW M d (pc + 1) lv (st) (hw h a i x) Q) : AW M d (pc) lv (.int (nI x) :: .int (nI i) :: .ref a :: st) h Q := by
  intro p l e s m args below meth c G H locs ls hc hwd hl
  obtain ⟨hx, hb, hr, hml, hown, hts, hns, hlk⟩ := id hc
  obtain ⟨hK, hP, hD, hS, hA⟩ := id hwd
  refine va_iast (ws := wl G h) hx hb hK hP hD hS a 0 (wl_at ho) rfl (vp_in_nI hi hn) hd (fun H1 locs1 hP1 hD1 hS1 => ?_)
  rw [nI_clamp (Nat.lt_trans hi hn)] at hP1 hD1
  have he := wl_hw (G := G) (h := h) (x := x) (k := i) ho cel_hwA
  have hP1 : va_P G.1 vwCl (wl G (hw h a i x)) H1 := by rw [← he]; exact hP1
  have hD1 : va_D (gA G) (wl G (hw h a i x)) := by rw [← he]; exact hD1
  exact kk p l e s m args below meth c G H1 locs1 ls hc ⟨hK, hP1, hD1, hS1, hA⟩ hl
theorem aw_castore {a n i x : Nat} (hd : decode M.2.1 pc = .ok (.castore, 1)) (ho : lay[a]? = some (oC n)) (hi : i < n) (hn : n < 2 ^ 31) (hx0 : x < 65536) (kk : AW M d (pc + 1) lv (st) (hw h a i x) Q) : AW M d (pc) lv (.int (nI x) :: .int (nI i) :: .ref a :: st) h Q := by
  intro p l e s m args below meth c G H locs ls hc hwd hl
  obtain ⟨hx, hb, hr, hml, hown, hts, hns, hlk⟩ := id hc
  obtain ⟨hK, hP, hD, hS, hA⟩ := id hwd
  refine va_cast (ws := wl G h) hx hb hK hP hD hS a 1 (wl_at ho) rfl (vp_in_nI hi hn) hd (fun H1 locs1 hP1 hD1 hS1 => ?_)
  have hnar : vp_nar .char (nI x) = nI x := by unfold vp_nar; rw [(pk_charN hx0).1]
  rw [nI_clamp (Nat.lt_trans hi hn), hnar] at hP1 hD1
  have he := wl_hw (G := G) (h := h) (x := x) (k := i) ho cel_hwA
  have hP1 : va_P G.1 vwCl (wl G (hw h a i x)) H1 := by rw [← he]; exact hP1
  have hD1 : va_D (gA G) (wl G (hw h a i x)) := by rw [← he]; exact hD1
  exact kk p l e s m args below meth c G H1 locs1 ls hc ⟨hK, hP1, hD1, hS1, hA⟩ hl
theorem aw_alen {a n : Nat} (hd : decode M.2.1 pc = .ok (.arraylength, 1)) (ho : lay[a]? = some (oI n)) (kk : AW M d (pc + 1) lv (.int (nI n) :: st) h Q) : AW M d (pc) lv (.ref a :: st) h Q := by
  intro p l e s m args below meth c G H locs ls hc hwd hl
  obtain ⟨hx, hb, hr, hml, hown, hts, hns, hlk⟩ := id hc
  obtain ⟨hK, hP, hD, hS, hA⟩   := id hwd
  exact va_alen (ws := wl G h) hx hb hK hP a 0 (wl_at ho) rfl rfl hd (kk p l e s m args below meth c G H locs ls hc hwd hl)
theorem aw_alenC {a n : Nat} (hd : decode M.2.1 pc = .ok (.arraylength, 1)) (ho : lay[a]? = some (oC n)) (kk : AW M d (pc + 1) lv (.int (nI n) :: st) h Q) : AW M d (pc) lv (.ref a :: st) h Q := by
  intro p l e s m args below meth c G H locs ls hc hwd hl
  obtain ⟨hx, hb, hr, hml, hown, hts, hns, hlk⟩ := id hc
  obtain ⟨hK, hP, hD, hS, hA⟩   := id hwd
  exact va_alen (ws := wl G h) hx hb hK hP a 1 (wl_at ho) rfl rfl hd (kk p l e s m args below meth c G H locs ls hc hwd hl)
theorem aw_alenR {a : Nat} {rs : List Nat} (hd : decode M.2.1 pc = .ok (.arraylength, 1)) (ho : lay[a]? = some (oR rs)) (kk : AW M d (pc + 1) lv (.int (nI rs.length) :: st) h Q) : AW M d (pc) lv (.ref a :: st) h Q := by
  intro p l e s m args below meth c G H locs ls hc hwd hl
  obtain ⟨hx, hb, hr, hml, hown, hts, hns, hlk⟩ := id hc
  obtain ⟨hK, hP, hD, hS, hA⟩   := id hwd
  exact va_alen (ws := wl G h) hx hb hK hP a 2 (wl_at ho) rfl rfl hd (kk p l e s m args below meth c G H locs ls hc hwd hl)
theorem aw_ldc2 {idx : Nat} {v : Int64} (hd : decode M.2.1 pc = .ok (.ldc2_w idx, 3)) (hk : Cond.constantLong M.1.cls idx v ∈ bigW) (kk : AW M d (pc + 3) lv (.long v :: st) h Q) : AW M d (pc) lv (st) h Q := by
  intro p l e s m args below meth c G H locs ls hc hwd hl
  obtain ⟨hx, hb, hr, hml, hown, hts, hns, hlk⟩ := id hc
  exact lv_ldc2 hx hb hown (hbig hts hk) hd (kk p l e s m args below meth c G H locs ls hc hwd hl)
theorem aw_iret {x : Int32} {ty : FieldType} (hd : decode M.2.1 pc = .ok (.ireturn, 1)) (hr0 : M.2.2.2 = some ty) (hn : narrow ty (.int x) = .int x) (hq : Q (some (.int x)) h) : AW M d (pc) lv ([.int x]) h Q := by
  intro p l e s m args below meth c G H locs ls hc hwd hl
  obtain ⟨hx, hb, hr, hml, hown, hts, hns, hlk⟩ := id hc
  obtain ⟨hK, hP, hD, hS, hA⟩   := id hwd
  exact W.zret (v := x) hx hb (hr.trans hr0) hn (fun t ht hW => ⟨some (.int x), h, rfl, hq, by rw [ht]; exact hP, hD, hS.F ht⟩) hS.2.2 hd hlk
theorem aw_vret (hd : decode M.2.1 pc = .ok (.return_, 1)) (hr0 : M.2.2.2 = none) (hq : Q none h) : AW M d (pc) lv ([]) h Q := by
  intro p l e s m args below meth c G H locs ls hc hwd hl
  obtain ⟨hx, hb, hr, hml, hown, hts, hns, hlk⟩ := id hc
  obtain ⟨hK, hP, hD, hS, hA⟩   := id hwd
  exact W.vret hx hb (hr.trans hr0) (fun t ht hW => ⟨none, h, rfl, hq, by rw [ht]; exact hP, hD, hS.F ht⟩) hS.2.2 hd hlk
theorem aw_aret {v : Value} {ty : FieldType} (hd : decode M.2.1 pc = .ok (.areturn, 1)) (hr0 : M.2.2.2 = some ty) (hrt : (∃ n, ty = .object n) ∨ ∃ t, ty = .array t) (hv : v = .null ∨ ∃ a, v = .ref a) (hq : Q (some v) h) : AW M d (pc) lv ([v]) h Q := by
  intro p l e s m args below meth c G H locs ls hc hwd hl
  obtain ⟨hx, hb, hr, hml, hown, hts, hns, hlk⟩ := id hc
  obtain ⟨hK, hP, hD, hS, hA⟩   := id hwd
  refine W.aret (v := cv (ga G) v) hx hb (hr.trans hr0) hrt (by rcases hv with rfl | ⟨a, rfl⟩; exact Or.inl rfl; exact Or.inr ⟨_, rfl⟩) (fun t ht hW => ⟨some v, h, rfl, hq, by rw [ht]; exact hP, hD, hS.F ht⟩) hS.2.2 hd hlk
theorem aw_iaddN {x y : Nat} (hd : decode M.2.1 pc = .ok (.iadd, 1)) (kk : AW M d (pc + 1) lv (.int (nI (x + y)) :: st) h Q) : AW M d (pc) lv (.int (nI y) :: .int (nI x) :: st) h Q := by
  intro p l e s m args below meth c G H locs ls hc hwd hl
  obtain ⟨hx, hb, hr, hml, hown, hts, hns, hlk⟩ := id hc
  refine lv_iadd hx hb hd ?_
  rw [nI_add]
  exact (kk p l e s m args below meth c G H locs ls hc hwd hl)
theorem aw_imulN {x y : Nat} (hd : decode M.2.1 pc = .ok (.imul, 1)) (kk : AW M d (pc + 1) lv (.int (nI (x * y)) :: st) h Q) : AW M d (pc) lv (.int (nI y) :: .int (nI x) :: st) h Q := by
  intro p l e s m args below meth c G H locs ls hc hwd hl
  obtain ⟨hx, hb, hr, hml, hown, hts, hns, hlk⟩ := id hc
  refine lv_imul hx hb hd ?_
  rw [pk_mul]
  exact (kk p l e s m args below meth c G H locs ls hc hwd hl)
theorem aw_isubN {x y : Nat} (hd : decode M.2.1 pc = .ok (.isub, 1)) (hle : y ≤ x) (kk : AW M d (pc + 1) lv (.int (nI (x - y)) :: st) h Q) : AW M d (pc) lv (.int (nI y) :: .int (nI x) :: st) h Q := by
  intro p l e s m args below meth c G H locs ls hc hwd hl
  obtain ⟨hx, hb, hr, hml, hown, hts, hns, hlk⟩ := id hc
  refine lv_isub hx hb hd ?_
  rw [pk_sub hle]
  exact (kk p l e s m args below meth c G H locs ls hc hwd hl)
theorem aw_idivN {x y : Nat} (hd : decode M.2.1 pc = .ok (.idiv, 1)) (hx0 : x < 2 ^ 31) (hy0 : 0 < y) (hy1 : y < 2 ^ 31) (kk : AW M d (pc + 1) lv (.int (nI (x / y)) :: st) h Q) : AW M d (pc) lv (.int (nI y) :: .int (nI x) :: st) h Q := by
  intro p l e s m args below meth c G H locs ls hc hwd hl
  obtain ⟨hx, hb, hr, hml, hown, hts, hns, hlk⟩ := id hc
  refine lv_idiv hx hb hd (nI_ne0 hy0 hy1) ?_
  rw [pk_div hx0 hy0 hy1]
  exact (kk p l e s m args below meth c G H locs ls hc hwd hl)
theorem aw_iremN {x y : Nat} (hd : decode M.2.1 pc = .ok (.irem, 1)) (hx0 : x < 2 ^ 31) (hy0 : 0 < y) (hy1 : y < 2 ^ 31) (kk : AW M d (pc + 1) lv (.int (nI (x % y)) :: st) h Q) : AW M d (pc) lv (.int (nI y) :: .int (nI x) :: st) h Q := by
  intro p l e s m args below meth c G H locs ls hc hwd hl
  obtain ⟨hx, hb, hr, hml, hown, hts, hns, hlk⟩ := id hc
  refine lv_irem hx hb hd (nI_ne0 hy0 hy1) ?_
  rw [pk_rem hx0 hy0 hy1]
  exact (kk p l e s m args below meth c G H locs ls hc hwd hl)
theorem aw_iincN {i v x : Nat} (hd : decode M.2.1 pc = .ok (.iinc i v, 3)) (hv : lv[i]? = some (some (.int (nI x)))) (hg : nolong lv i = true) (kk : AW M d (pc + 3) (lv.set i (some (.int (nI (x + v))))) (st) h Q) : AW M d (pc) lv (st) h Q := by
  intro p l e s m args below meth c G H locs ls hc hwd hl
  obtain ⟨hx, hb, hr, hml, hown, hts, hns, hlk⟩ := id hc
  exact aw_iinc hd hv (by rw [show Int32.ofInt (v : Int) = nI v from rfl, nI_add]) hg kk p l e s m args below meth c G H locs ls hc hwd hl
theorem aw_iincM {i x : Nat} (hd : decode M.2.1 pc = .ok (.iinc i (-1), 3)) (hv : lv[i]? = some (some (.int (nI x)))) (hp : 0 < x) (hg : nolong lv i = true) (kk : AW M d (pc + 3) (lv.set i (some (.int (nI (x - 1))))) (st) h Q) : AW M d (pc) lv (st) h Q := by
  intro p l e s m args below meth c G H locs ls hc hwd hl
  obtain ⟨hx, hb, hr, hml, hown, hts, hns, hlk⟩ := id hc
  exact aw_iinc hd hv (by rw [show Int32.ofInt (-1) = -1 from rfl]; exact sb_m1 hp) hg kk p l e s m args below meth c G H locs ls hc hwd hl
theorem aw_icmp_eqN {x y : Nat} {off : Int} {tgt : Nat} (hd : decode M.2.1 pc = .ok (.if_icmp .eq off, 3)) (ht : (pc : Int) + off = (tgt : Int)) (hx0 : x < 2 ^ 31) (hy0 : y < 2 ^ 31) (kt : x = y → AW M d (tgt) lv (st) h Q) (kf : ¬ x = y → AW M d (pc + 3) lv (st) h Q) : AW M d (pc) lv (.int (nI y) :: .int (nI x) :: st) h Q := by
  intro p l e s m args below meth c G H locs ls hc hwd hl
  obtain ⟨hx, hb, hr, hml, hown, hts, hns, hlk⟩ := id hc
  exact aw_icmp_eq hd ht (fun q => kt (by rw [nI_eq hx0 hy0] at q; exact q)) (fun q => kf (by rw [nI_eq hx0 hy0] at q; exact q)) p l e s m args below meth c G H locs ls hc hwd hl
theorem aw_icmp_neN {x y : Nat} {off : Int} {tgt : Nat} (hd : decode M.2.1 pc = .ok (.if_icmp .ne off, 3)) (ht : (pc : Int) + off = (tgt : Int)) (hx0 : x < 2 ^ 31) (hy0 : y < 2 ^ 31) (kt : ¬ x = y → AW M d (tgt) lv (st) h Q) (kf : x = y → AW M d (pc + 3) lv (st) h Q) : AW M d (pc) lv (.int (nI y) :: .int (nI x) :: st) h Q := by
  intro p l e s m args below meth c G H locs ls hc hwd hl
  obtain ⟨hx, hb, hr, hml, hown, hts, hns, hlk⟩ := id hc
  exact aw_icmp_ne hd ht (fun q => kt (by rw [nI_eq hx0 hy0] at q; exact q)) (fun q => kf (by rw [nI_eq hx0 hy0] at q; exact q)) p l e s m args below meth c G H locs ls hc hwd hl
theorem aw_icmp_ltN {x y : Nat} {off : Int} {tgt : Nat} (hd : decode M.2.1 pc = .ok (.if_icmp .lt off, 3)) (ht : (pc : Int) + off = (tgt : Int)) (hx0 : x < 2 ^ 31) (hy0 : y < 2 ^ 31) (kt : x < y → AW M d (tgt) lv (st) h Q) (kf : ¬ x < y → AW M d (pc + 3) lv (st) h Q) : AW M d (pc) lv (.int (nI y) :: .int (nI x) :: st) h Q := by
  intro p l e s m args below meth c G H locs ls hc hwd hl
  obtain ⟨hx, hb, hr, hml, hown, hts, hns, hlk⟩ := id hc
  exact aw_icmp_lt hd ht (fun q => kt (by rw [nI_ltI hx0 hy0] at q; exact q)) (fun q => kf (by rw [nI_ltI hx0 hy0] at q; exact q)) p l e s m args below meth c G H locs ls hc hwd hl
theorem aw_icmp_geN {x y : Nat} {off : Int} {tgt : Nat} (hd : decode M.2.1 pc = .ok (.if_icmp .ge off, 3)) (ht : (pc : Int) + off = (tgt : Int)) (hx0 : x < 2 ^ 31) (hy0 : y < 2 ^ 31) (kt : y ≤ x → AW M d (tgt) lv (st) h Q) (kf : ¬ y ≤ x → AW M d (pc + 3) lv (st) h Q) : AW M d (pc) lv (.int (nI y) :: .int (nI x) :: st) h Q := by
  intro p l e s m args below meth c G H locs ls hc hwd hl
  obtain ⟨hx, hb, hr, hml, hown, hts, hns, hlk⟩ := id hc
  exact aw_icmp_ge hd ht (fun q => kt (by rw [nI_leI hy0 hx0] at q; exact q)) (fun q => kf (by rw [nI_leI hy0 hx0] at q; exact q)) p l e s m args below meth c G H locs ls hc hwd hl
theorem aw_icmp_gtN {x y : Nat} {off : Int} {tgt : Nat} (hd : decode M.2.1 pc = .ok (.if_icmp .gt off, 3)) (ht : (pc : Int) + off = (tgt : Int)) (hx0 : x < 2 ^ 31) (hy0 : y < 2 ^ 31) (kt : y < x → AW M d (tgt) lv (st) h Q) (kf : ¬ y < x → AW M d (pc + 3) lv (st) h Q) : AW M d (pc) lv (.int (nI y) :: .int (nI x) :: st) h Q := by
  intro p l e s m args below meth c G H locs ls hc hwd hl
  obtain ⟨hx, hb, hr, hml, hown, hts, hns, hlk⟩ := id hc
  exact aw_icmp_gt hd ht (fun q => kt (by rw [nI_ltI hy0 hx0] at q; exact q)) (fun q => kf (by rw [nI_ltI hy0 hx0] at q; exact q)) p l e s m args below meth c G H locs ls hc hwd hl
theorem aw_icmp_leN {x y : Nat} {off : Int} {tgt : Nat} (hd : decode M.2.1 pc = .ok (.if_icmp .le off, 3)) (ht : (pc : Int) + off = (tgt : Int)) (hx0 : x < 2 ^ 31) (hy0 : y < 2 ^ 31) (kt : x ≤ y → AW M d (tgt) lv (st) h Q) (kf : ¬ x ≤ y → AW M d (pc + 3) lv (st) h Q) : AW M d (pc) lv (.int (nI y) :: .int (nI x) :: st) h Q := by
  intro p l e s m args below meth c G H locs ls hc hwd hl
  obtain ⟨hx, hb, hr, hml, hown, hts, hns, hlk⟩ := id hc
  exact aw_icmp_le hd ht (fun q => kt (by rw [nI_leI hx0 hy0] at q; exact q)) (fun q => kf (by rw [nI_leI hx0 hy0] at q; exact q)) p l e s m args below meth c G H locs ls hc hwd hl
theorem aw_if_eqN {x : Nat} {off : Int} {tgt : Nat} (hd : decode M.2.1 pc = .ok (.ifCond .eq off, 3)) (ht : (pc : Int) + off = (tgt : Int)) (hx0 : x < 2 ^ 31) (kt : x = 0 → AW M d (tgt) lv (st) h Q) (kf : ¬ x = 0 → AW M d (pc + 3) lv (st) h Q) : AW M d (pc) lv (.int (nI x) :: st) h Q := by
  intro p l e s m args below meth c G H locs ls hc hwd hl
  obtain ⟨hx, hb, hr, hml, hown, hts, hns, hlk⟩ := id hc
  exact aw_if_eq hd ht (fun q => kt (by rw [← nI_0, nI_eq hx0 (by decide)] at q; exact q)) (fun q => kf (by rw [← nI_0, nI_eq hx0 (by decide)] at q; exact q)) p l e s m args below meth c G H locs ls hc hwd hl
theorem aw_if_neN {x : Nat} {off : Int} {tgt : Nat} (hd : decode M.2.1 pc = .ok (.ifCond .ne off, 3)) (ht : (pc : Int) + off = (tgt : Int)) (hx0 : x < 2 ^ 31) (kt : ¬ x = 0 → AW M d (tgt) lv (st) h Q) (kf : x = 0 → AW M d (pc + 3) lv (st) h Q) : AW M d (pc) lv (.int (nI x) :: st) h Q := by
  intro p l e s m args below meth c G H locs ls hc hwd hl
  obtain ⟨hx, hb, hr, hml, hown, hts, hns, hlk⟩ := id hc
  exact aw_if_ne hd ht (fun q => kt (by rw [← nI_0, nI_eq hx0 (by decide)] at q; exact q)) (fun q => kf (by rw [← nI_0, nI_eq hx0 (by decide)] at q; exact q)) p l e s m args below meth c G H locs ls hc hwd hl
theorem aw_if_ltN {x : Nat} {off : Int} {tgt : Nat} (hd : decode M.2.1 pc = .ok (.ifCond .lt off, 3)) (ht : (pc : Int) + off = (tgt : Int)) (hx0 : x < 2 ^ 31) (kt : x < 0 → AW M d (tgt) lv (st) h Q) (kf : ¬ x < 0 → AW M d (pc + 3) lv (st) h Q) : AW M d (pc) lv (.int (nI x) :: st) h Q := by
  intro p l e s m args below meth c G H locs ls hc hwd hl
  obtain ⟨hx, hb, hr, hml, hown, hts, hns, hlk⟩ := id hc
  exact aw_if_lt hd ht (fun q => kt (by rw [← nI_0, nI_ltI hx0 (by decide)] at q; exact q)) (fun q => kf (by rw [← nI_0, nI_ltI hx0 (by decide)] at q; exact q)) p l e s m args below meth c G H locs ls hc hwd hl
theorem aw_if_geN {x : Nat} {off : Int} {tgt : Nat} (hd : decode M.2.1 pc = .ok (.ifCond .ge off, 3)) (ht : (pc : Int) + off = (tgt : Int)) (hx0 : x < 2 ^ 31) (kt : 0 ≤ x → AW M d (tgt) lv (st) h Q) (kf : ¬ 0 ≤ x → AW M d (pc + 3) lv (st) h Q) : AW M d (pc) lv (.int (nI x) :: st) h Q := by
  intro p l e s m args below meth c G H locs ls hc hwd hl
  obtain ⟨hx, hb, hr, hml, hown, hts, hns, hlk⟩ := id hc
  exact aw_if_ge hd ht (fun q => kt (by rw [← nI_0, nI_leI (by decide) hx0] at q; exact q)) (fun q => kf (by rw [← nI_0, nI_leI (by decide) hx0] at q; exact q)) p l e s m args below meth c G H locs ls hc hwd hl
theorem aw_if_gtN {x : Nat} {off : Int} {tgt : Nat} (hd : decode M.2.1 pc = .ok (.ifCond .gt off, 3)) (ht : (pc : Int) + off = (tgt : Int)) (hx0 : x < 2 ^ 31) (kt : 0 < x → AW M d (tgt) lv (st) h Q) (kf : ¬ 0 < x → AW M d (pc + 3) lv (st) h Q) : AW M d (pc) lv (.int (nI x) :: st) h Q := by
  intro p l e s m args below meth c G H locs ls hc hwd hl
  obtain ⟨hx, hb, hr, hml, hown, hts, hns, hlk⟩ := id hc
  exact aw_if_gt hd ht (fun q => kt (by rw [← nI_0, nI_ltI (by decide) hx0] at q; exact q)) (fun q => kf (by rw [← nI_0, nI_ltI (by decide) hx0] at q; exact q)) p l e s m args below meth c G H locs ls hc hwd hl
theorem aw_if_leN {x : Nat} {off : Int} {tgt : Nat} (hd : decode M.2.1 pc = .ok (.ifCond .le off, 3)) (ht : (pc : Int) + off = (tgt : Int)) (hx0 : x < 2 ^ 31) (kt : x ≤ 0 → AW M d (tgt) lv (st) h Q) (kf : ¬ x ≤ 0 → AW M d (pc + 3) lv (st) h Q) : AW M d (pc) lv (.int (nI x) :: st) h Q := by
  intro p l e s m args below meth c G H locs ls hc hwd hl
  obtain ⟨hx, hb, hr, hml, hown, hts, hns, hlk⟩ := id hc
  exact aw_if_le hd ht (fun q => kt (by rw [← nI_0, nI_leI hx0 (by decide)] at q; exact q)) (fun q => kf (by rw [← nI_0, nI_leI hx0 (by decide)] at q; exact q)) p l e s m args below meth c G H locs ls hc hwd hl
theorem cats_cv (ad : Nat → Nat) (st : List Value) : ((st.map (cv ad)).map fun v => v.category).sum = (st.map fun v => v.category).sum := by
  rw [List.map_map]
  congr 2
  funext v
  exact cv_cat _ v
theorem aw_mmax {idx : Nat} {x y : Int32} (hd : decode M.2.1 pc = .ok (.invokestatic idx, 3)) (hk : Cond.methodLink M.1.cls idx Lib.Math.max.name ∈ bigW ∧ Cond.static Lib.Math.max.name ∈ bigW ∧ Cond.initialized "java/lang/Math" ∈ bigW ∧ Cond.code Lib.Math.max.name Lib.Math.max.code 2 (some .int) ∈ bigW) (hz : (st.map fun v => v.category).sum ≤ 8) (kk : AW M (d + 1) (pc + 3) lv (.int (if x < y then y else x) :: st) h Q) : AW M (d + 1) pc lv (.int y :: .int x :: st) h Q := by
  intro p l e s m args below meth c G H locs ls hc hwd hl
  obtain ⟨hx, hb, hr, hml, hown, hts, hns, hlk⟩ := id hc
  have hz1 : ((st.map (cv (ga G))).map fun v => v.category).sum + 13 ≤ (rmD (d + 1)).locals := by
    rw [cats_cv]
    show _ + 13 ≤ 36 * (d + 1)
    omega
  have hz2 : 1 ≤ (rmD (d + 1)).frames := Nat.succ_le_succ (Nat.zero_le d)
  exact va_mmax (R := rmD (d + 1)) (rest := st.map (cv (ga G))) hx hb (by rw [hml]; exact hl.2.1.symm) hown (hbig hts hk.1) (hbig hts hk.2.1) (hbig hts hk.2.2.1) (hbig hts hk.2.2.2) hz2 hz1 (Nat.zero_le _) (Nat.zero_le _) hd (kk p l e s m args below meth c G H locs ls hc hwd hl)
theorem aw_mmin {idx : Nat} {x y : Int32} (hd : decode M.2.1 pc = .ok (.invokestatic idx, 3)) (hk : Cond.methodLink M.1.cls idx Lib.Math.min.name ∈ bigW ∧ Cond.static Lib.Math.min.name ∈ bigW ∧ Cond.initialized "java/lang/Math" ∈ bigW ∧ Cond.code Lib.Math.min.name Lib.Math.min.code 2 (some .int) ∈ bigW) (hz : (st.map fun v => v.category).sum ≤ 8) (kk : AW M (d + 1) (pc + 3) lv (.int (if y < x then y else x) :: st) h Q) : AW M (d + 1) pc lv (.int y :: .int x :: st) h Q := by
  intro p l e s m args below meth c G H locs ls hc hwd hl
  obtain ⟨hx, hb, hr, hml, hown, hts, hns, hlk⟩ := id hc
  have hz1 : ((st.map (cv (ga G))).map fun v => v.category).sum + 13 ≤ (rmD (d + 1)).locals := by
    rw [cats_cv]
    show _ + 13 ≤ 36 * (d + 1)
    omega
  have hz2 : 1 ≤ (rmD (d + 1)).frames := Nat.succ_le_succ (Nat.zero_le d)
  exact va_mmin (R := rmD (d + 1)) (rest := st.map (cv (ga G))) hx hb (by rw [hml]; exact hl.2.1.symm) hown (hbig hts hk.1) (hbig hts hk.2.1) (hbig hts hk.2.2.1) (hbig hts hk.2.2.2) hz2 hz1 (Nat.zero_le _) (Nat.zero_le _) hd (kk p l e s m args below meth c G H locs ls hc hwd hl)
end AWR
