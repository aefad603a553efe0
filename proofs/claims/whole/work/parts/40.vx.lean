/-! every act keeps the state well formed -/
theorem v_write {X : XS} (hv : VX X) (x : Int32) : VX (a_write X x).2 := by
  unfold a_write
  split
  · exact hv
  · rename_i j e
    obtain ⟨rfl, h1, h2⟩ := ix_s (by omega) (by omega) e
    split
    · exact hv
    · rename_i q
      obtain ⟨v1, v2, v3, v4, v5, v6, v7⟩ := hv
      refine ⟨v1, v2, v3, v4, v5, v6, ?_⟩
      show TOk (fu (xT X).2 (xT X).1 j) ((xT X).1 + 1)
      obtain ⟨t1, t2⟩ := v7
      refine ⟨by omega, fun k hk => ?_⟩
      unfold fu
      by_cases qk : k = (xT X).1
      · rw [if_pos qk]; exact ⟨h1, h2⟩
      · rw [if_neg qk]; exact t2 k (by omega)
theorem v_wipe {X : XS} (hv : VX X) : VX (a_wipe X).2 := by
  obtain ⟨v1, v2, v3, v4, v5, v6, v7⟩ := hv
  exact ⟨v1, v2, v3, v4, v5, v6, ⟨Nat.zero_le _, fun k hk => by have hk : k < 0 := hk; omega⟩⟩
theorem v_lay {X : XS} (hv : VX X) : VX (a_lay X).2 := by
  unfold a_lay
  split
  · exact hv
  · rename_i P hz
    split
    · rename_i q
      exact layX_ok hv (psr_ok (ltr_lt hv.2.2.2.2.2.2) _ _ _ _ P00_ok hz) q
    · exact hv
theorem v_pass {X : XS} (hv : VX X) (t : Int32) : VX (a_pass X t).2 := by
  unfold a_pass
  split
  · exact hv
  · split
    · exact hv
    · rename_i t _ q
      refine setC_ok (pushX_ok hv) ⟨?_, rmX_pm hv t, hv.2.1.2.2⟩
      show (xC X).1 + t ≤ 9999
      omega
theorem v_swap {X : XS} (hv : VX X) (i j : Int32) : VX (a_swap X i j).2 := by
  have hn := hv.n
  unfold a_swap
  split
  · exact hv
  · rename_i a ea
    obtain ⟨rfl, h1, h2⟩ := ix_s (by omega) (by omega) ea
    split
    · exact hv
    · rename_i b eb
      obtain ⟨rfl, h3, h4⟩ := ix_s (by omega) (by omega) eb
      split
      · exact hv
      · exact setC_ok (pushX_ok hv) ⟨hv.2.1.1, PM_swp hv.2.1.2.1 (show a < xn X by omega) (show b < xn X by omega), hv.2.1.2.2⟩
theorem v_alter {X : XS} (hv : VX X) (i x : Int32) : VX (a_alter X i x).2 := by
  have hn := hv.n
  unfold a_alter
  split
  · exact hv
  · rename_i a ea
    split
    · exact hv
    · rename_i b eb
      obtain ⟨rfl, h3, h4⟩ := ix_s (by omega) (by omega) eb
      refine setC_ok (pushX_ok hv) ⟨hv.2.1.1, hv.2.1.2.1, fun k hk => ?_⟩
      show fu (xC X).2.1 a b k < 60
      unfold fu
      split
      · omega
      · exact hv.2.1.2.2 k hk
theorem v_undo {X : XS} (hv : VX X) : VX (a_undo X).2 := by
  unfold a_undo
  split
  · exact hv
  · exact setC_ok (setU_ok hv (by omega)) (hv.2.2.2.1.2 _ (by omega))
theorem v_keep {X : XS} (hv : VX X) : VX (a_keep X).2 := by
  unfold a_keep
  split
  · exact hv
  · obtain ⟨v1, v2, v3, v4, v5, v6, v7⟩ := hv
    refine ⟨v1, v2, v3, v4, ⟨?_, fun k hk => ?_⟩, v6, v7⟩
    · have := v5.1
      show (xV X).1 + 1 ≤ 2
      omega
    · have hk : k < (xV X).1 + 1 := hk
      show SvOk (xn X) (if k = (xV X).1 then xC X else (xV X).2 k)
      split
      · exact v2
      · exact v5.2 k (by omega)
theorem v_back {X : XS} (hv : VX X) : VX (a_back X).2 := by
  unfold a_back
  split
  · exact hv
  · obtain ⟨v1, v2, v3, v4, v5, v6, v7⟩ := hv
    refine ⟨v1, v5.2 _ (by omega), v3, ⟨Nat.zero_le _, fun k hk => by have hk : k < 0 := hk; omega⟩, ⟨?_, fun k hk => ?_⟩, v6, v7⟩
    · have := v5.1
      show (xV X).1 - 1 ≤ 2
      omega
    · have hk : k < (xV X).1 - 1 := hk
      exact v5.2 k (by omega)
theorem v_seen {X : XS} (hv : VX X) (i r t : Int32) : VX (a_seen X i r t).2 := by
  have hn := hv.n
  unfold a_seen
  split
  · exact hv
  · rename_i a ea
    obtain ⟨rfl, h1, h2⟩ := ix_s (by omega) (by omega) ea
    split
    · exact hv
    · rename_i b eb
      obtain ⟨rfl, h3, h4⟩ := ix_s (by omega) (by omega) eb
      split
      · exact hv
      · rename_i c ec
        obtain ⟨rfl, h5, h6⟩ := ix_s (by omega) (by omega) ec
        split
        · exact hv
        · obtain ⟨v1, v2, v3, v4, v5, v6, v7⟩ := hv
          refine ⟨v1, v2, v3, v4, v5, ⟨?_, fun k hk => ?_⟩, v7⟩
          · have := v6.1
            show (xZ X).1 + 1 ≤ 8
            omega
          · have hk : k < (xZ X).1 + 1 := hk
            show zOk (xn X) (if k = (xZ X).1 then (a, b, c) else (xZ X).2 k)
            split
            · exact ⟨by show a < xn X; omega, by show b < xn X; omega, h6⟩
            · exact v6.2 k (by omega)
theorem v_forget {X : XS} (hv : VX X) : VX (a_forget X).2 := by
  obtain ⟨v1, v2, v3, v4, v5, v6, v7⟩ := hv
  exact ⟨v1, v2, v3, v4, v5, ⟨Nat.zero_le _, fun k hk => by have hk : k < 0 := hk; omega⟩, v7⟩
