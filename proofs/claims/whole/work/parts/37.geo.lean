/-! the grids: coordinates, opposite sides -/
section GE
theorem plA_at {W H x y x0 y0 : Int} (hx : x = x0) (hy : y = y0) (h : 0 ≤ x0 ∧ x0 < W ∧ 0 ≤ y0 ∧ y0 < H) : plA W H x y = W * y0 + x0 := by
  subst hx hy
  exact plA_in h
theorem plA_c {W H x y : Int} (h : plA W H x y ≠ -1) : 0 ≤ x ∧ x < W ∧ 0 ≤ y ∧ y < H := by
  unfold plA at h
  by_cases e : 0 ≤ x ∧ x < W ∧ 0 ≤ y ∧ y < H
  · exact e
  · rw [if_neg e] at h; exact absurd rfl h
theorem co_x {W x y : Int} (h : 0 ≤ x ∧ x < W) : (W * y + x) % W = x ∧ (W * y + x) / W = y := by
  constructor
  · rw [Int.mul_add_emod_self_left, Int.emod_eq_of_lt h.1 h.2]
  · rw [Int.mul_add_ediv_left y x (by omega : W ≠ 0), Int.ediv_eq_zero_of_lt h.1 h.2, Int.add_zero]
theorem plA_inj {W H x y x' y' : Int} (h : plA W H x y ≠ -1) (e : plA W H x y = plA W H x' y') : x = x' ∧ y = y' := by
  have c1 := plA_c h
  have c2 := plA_c (e ▸ h)
  rw [plA_in c1, plA_in c2] at e
  have a1 := co_x (y := y) (x := x) (W := W) ⟨c1.1, c1.2.1⟩
  have a2 := co_x (y := y') (x := x') (W := W) ⟨c2.1, c2.2.1⟩
  rw [e] at a1
  exact ⟨a1.1.symm.trans a2.1, a1.2.symm.trans a2.2⟩
variable {W H x y : Int}
theorem s0_0 : stp 0 W H x y 0 = plA W H (x) (y - 1) := by
  show sqS W H x y 0 = _
  unfold sqS
  rw [if_pos rfl]
theorem s0_1 : stp 0 W H x y 1 = plA W H (x + 1) (y) := by
  show sqS W H x y 1 = _
  unfold sqS
  rw [if_neg (by decide), if_pos rfl]
theorem s0_2 : stp 0 W H x y 2 = plA W H (x) (y + 1) := by
  show sqS W H x y 2 = _
  unfold sqS
  rw [if_neg (by decide), if_neg (by decide), if_pos rfl]
theorem s0_3 : stp 0 W H x y 3 = plA W H (x - 1) (y) := by
  show sqS W H x y 3 = _
  unfold sqS
  rw [if_neg (by decide), if_neg (by decide), if_neg (by decide), if_pos rfl]
theorem s0_4 : stp 0 W H x y 4 = -1 := by
  show sqS W H x y 4 = _
  unfold sqS
  rw [if_neg (by decide), if_neg (by decide), if_neg (by decide), if_neg (by decide)]
theorem s0_5 : stp 0 W H x y 5 = -1 := by
  show sqS W H x y 5 = _
  unfold sqS
  rw [if_neg (by decide), if_neg (by decide), if_neg (by decide), if_neg (by decide)]
theorem s1_0 : stp 1 W H x y 0 = plA W H (x + y % 2) (y - 1) := by
  show hxS W H x y 0 = _
  unfold hxS
  rw [if_pos rfl]
theorem s1_1 : stp 1 W H x y 1 = plA W H (x + 1) (y) := by
  show hxS W H x y 1 = _
  unfold hxS
  rw [if_neg (by decide), if_pos rfl]
theorem s1_2 : stp 1 W H x y 2 = plA W H (x + y % 2) (y + 1) := by
  show hxS W H x y 2 = _
  unfold hxS
  rw [if_neg (by decide), if_neg (by decide), if_pos rfl]
theorem s1_3 : stp 1 W H x y 3 = plA W H (x + y % 2 - 1) (y + 1) := by
  show hxS W H x y 3 = _
  unfold hxS
  rw [if_neg (by decide), if_neg (by decide), if_neg (by decide), if_pos rfl]
theorem s1_4 : stp 1 W H x y 4 = plA W H (x - 1) (y) := by
  show hxS W H x y 4 = _
  unfold hxS
  rw [if_neg (by decide), if_neg (by decide), if_neg (by decide), if_neg (by decide), if_pos rfl]
theorem s1_5 : stp 1 W H x y 5 = plA W H (x + y % 2 - 1) (y - 1) := by
  show hxS W H x y 5 = _
  unfold hxS
  rw [if_neg (by decide), if_neg (by decide), if_neg (by decide), if_neg (by decide), if_neg (by decide), if_pos rfl]
theorem s2_0 : stp 2 W H x y 0 = plA W H (x - 1) (y) := by
  show trS W H x y 0 = _
  unfold trS
  rw [if_pos rfl]
theorem s2_1 : stp 2 W H x y 1 = plA W H (x + 1) (y) := by
  show trS W H x y 1 = _
  unfold trS
  rw [if_neg (by decide), if_pos rfl]
theorem s2_2 : stp 2 W H x y 2 = plA W H (x) (if (x + y) % 2 = 0 then y + 1 else y - 1) := by
  show trS W H x y 2 = _
  unfold trS
  rw [if_neg (by decide), if_neg (by decide), if_pos rfl]
theorem s2_3 : stp 2 W H x y 3 = -1 := by
  show trS W H x y 3 = _
  unfold trS
  rw [if_neg (by decide), if_neg (by decide), if_neg (by decide)]
theorem s2_4 : stp 2 W H x y 4 = -1 := by
  show trS W H x y 4 = _
  unfold trS
  rw [if_neg (by decide), if_neg (by decide), if_neg (by decide)]
theorem s2_5 : stp 2 W H x y 5 = -1 := by
  show trS W H x y 5 = _
  unfold trS
  rw [if_neg (by decide), if_neg (by decide), if_neg (by decide)]
theorem s3_0 : stp 3 W H x y 0 = plA W H (x) (y - 1) := by
  show rgS W H x y 0 = _
  unfold rgS
  rw [if_pos rfl]
theorem s3_1 (h : 2 ≤ W) : stp 3 W H x y 1 = plA W H (if x = W - 1 then 0 else x + 1) (y) := by
  show rgS W H x y 1 = _
  unfold rgS
  rw [if_neg (by decide), if_pos rfl, if_neg (by omega)]
theorem s3_2 : stp 3 W H x y 2 = plA W H (x) (y + 1) := by
  show rgS W H x y 2 = _
  unfold rgS
  rw [if_neg (by decide), if_neg (by decide), if_pos rfl]
theorem s3_3 (h : 3 ≤ W) : stp 3 W H x y 3 = plA W H (if x = 0 then W - 1 else x - 1) (y) := by
  show rgS W H x y 3 = _
  unfold rgS
  rw [if_neg (by decide), if_neg (by decide), if_neg (by decide), if_pos rfl, if_neg (by omega)]
theorem s3_4 : stp 3 W H x y 4 = -1 := by
  show rgS W H x y 4 = _
  unfold rgS
  rw [if_neg (by decide), if_neg (by decide), if_neg (by decide), if_neg (by decide)]
theorem s3_5 : stp 3 W H x y 5 = -1 := by
  show rgS W H x y 5 = _
  unfold rgS
  rw [if_neg (by decide), if_neg (by decide), if_neg (by decide), if_neg (by decide)]
theorem s3_1n (h : W < 2) : stp 3 W H x y 1 = -1 := by
  show rgS W H x y 1 = _
  unfold rgS
  rw [if_neg (by decide), if_pos rfl, if_pos h]
theorem s3_3n (h : W < 3) : stp 3 W H x y 3 = -1 := by
  show rgS W H x y 3 = _
  unfold rgS
  rw [if_neg (by decide), if_neg (by decide), if_neg (by decide), if_pos rfl, if_pos h]
theorem s4_n (s : Int) : stp 4 W H x y s = -1 := rfl
set_option maxHeartbeats 4000000 in
theorem stp_sym {k s : Int} (hk : 0 ≤ k ∧ k ≤ 4) (hxy : 0 ≤ x ∧ x < W ∧ 0 ≤ y ∧ y < H) (hs : 0 ≤ s ∧ s < 6) (h : stp k W H x y s ≠ -1) : ∃ x' y' s' : Int, (0 ≤ x' ∧ x' < W ∧ 0 ≤ y' ∧ y' < H) ∧ (0 ≤ s' ∧ s' < 6) ∧ stp k W H x y s = W * y' + x' ∧ stp k W H x' y' s' = W * y + x := by
  have hk5 : k = 0 ∨ k = 1 ∨ k = 2 ∨ k = 3 ∨ k = 4 := by omega
  have hs6 : s = 0 ∨ s = 1 ∨ s = 2 ∨ s = 3 ∨ s = 4 ∨ s = 5 := by omega
  rcases hk5 with rfl | rfl | rfl | rfl | rfl
  · rcases hs6 with rfl | rfl | rfl | rfl | rfl | rfl
    · rw [s0_0] at h ⊢
      have c := plA_c h
      refine ⟨_, _, 2, c, by omega, plA_at rfl rfl c, ?_⟩
      rw [s0_2]
      exact plA_at (by omega) (by omega) hxy
    · rw [s0_1] at h ⊢
      have c := plA_c h
      refine ⟨_, _, 3, c, by omega, plA_at rfl rfl c, ?_⟩
      rw [s0_3]
      exact plA_at (by omega) (by omega) hxy
    · rw [s0_2] at h ⊢
      have c := plA_c h
      refine ⟨_, _, 0, c, by omega, plA_at rfl rfl c, ?_⟩
      rw [s0_0]
      exact plA_at (by omega) (by omega) hxy
    · rw [s0_3] at h ⊢
      have c := plA_c h
      refine ⟨_, _, 1, c, by omega, plA_at rfl rfl c, ?_⟩
      rw [s0_1]
      exact plA_at (by omega) (by omega) hxy
    · exact absurd s0_4 h
    · exact absurd s0_5 h
  · rcases hs6 with rfl | rfl | rfl | rfl | rfl | rfl
    · rw [s1_0] at h ⊢
      have c := plA_c h
      refine ⟨_, _, 3, c, by omega, plA_at rfl rfl c, ?_⟩
      rw [s1_3]
      exact plA_at (by omega) (by omega) hxy
    · rw [s1_1] at h ⊢
      have c := plA_c h
      refine ⟨_, _, 4, c, by omega, plA_at rfl rfl c, ?_⟩
      rw [s1_4]
      exact plA_at (by omega) (by omega) hxy
    · rw [s1_2] at h ⊢
      have c := plA_c h
      refine ⟨_, _, 5, c, by omega, plA_at rfl rfl c, ?_⟩
      rw [s1_5]
      exact plA_at (by omega) (by omega) hxy
    · rw [s1_3] at h ⊢
      have c := plA_c h
      refine ⟨_, _, 0, c, by omega, plA_at rfl rfl c, ?_⟩
      rw [s1_0]
      exact plA_at (by omega) (by omega) hxy
    · rw [s1_4] at h ⊢
      have c := plA_c h
      refine ⟨_, _, 1, c, by omega, plA_at rfl rfl c, ?_⟩
      rw [s1_1]
      exact plA_at (by omega) (by omega) hxy
    · rw [s1_5] at h ⊢
      have c := plA_c h
      refine ⟨_, _, 2, c, by omega, plA_at rfl rfl c, ?_⟩
      rw [s1_2]
      exact plA_at (by omega) (by omega) hxy
  · rcases hs6 with rfl | rfl | rfl | rfl | rfl | rfl
    · rw [s2_0] at h ⊢
      have c := plA_c h
      refine ⟨_, _, 1, c, by omega, plA_at rfl rfl c, ?_⟩
      rw [s2_1]
      exact plA_at (by omega) (by omega) hxy
    · rw [s2_1] at h ⊢
      have c := plA_c h
      refine ⟨_, _, 0, c, by omega, plA_at rfl rfl c, ?_⟩
      rw [s2_0]
      exact plA_at (by omega) (by omega) hxy
    · rw [s2_2] at h ⊢
      have c := plA_c h
      refine ⟨_, _, 2, c, by omega, plA_at rfl rfl c, ?_⟩
      rw [s2_2]
      refine plA_at rfl ?_ hxy
      by_cases e : (x + y) % 2 = 0
      · rw [if_pos e, if_neg (by omega)]; omega
      · rw [if_neg e, if_pos (by omega)]; omega
    · exact absurd s2_3 h
    · exact absurd s2_4 h
    · exact absurd s2_5 h
  · rcases hs6 with rfl | rfl | rfl | rfl | rfl | rfl
    · rw [s3_0] at h ⊢
      have c := plA_c h
      refine ⟨_, _, 2, c, by omega, plA_at rfl rfl c, ?_⟩
      rw [s3_2]
      exact plA_at (by omega) (by omega) hxy
    · by_cases hW : W < 2
      · exact absurd (s3_1n hW) h
      · rw [s3_1 (by omega)] at h ⊢
        have c := plA_c h
        by_cases hW3 : W < 3
        · refine ⟨_, _, 1, c, by omega, plA_at rfl rfl c, ?_⟩
          rw [s3_1 (by omega)]
          refine plA_at ?_ rfl hxy
          by_cases e : x = W - 1
          · rw [if_pos e, if_neg (by omega)]; omega
          · rw [if_neg e, if_pos (by omega)]; omega
        · refine ⟨_, _, 3, c, by omega, plA_at rfl rfl c, ?_⟩
          rw [s3_3 (by omega)]
          refine plA_at ?_ rfl hxy
          by_cases e : x = W - 1
          · rw [if_pos e, if_pos rfl]; omega
          · rw [if_neg e, if_neg (by omega)]; omega
    · rw [s3_2] at h ⊢
      have c := plA_c h
      refine ⟨_, _, 0, c, by omega, plA_at rfl rfl c, ?_⟩
      rw [s3_0]
      exact plA_at (by omega) (by omega) hxy
    · by_cases hW : W < 3
      · exact absurd (s3_3n hW) h
      · rw [s3_3 (by omega)] at h ⊢
        have c := plA_c h
        refine ⟨_, _, 1, c, by omega, plA_at rfl rfl c, ?_⟩
        rw [s3_1 (by omega)]
        refine plA_at ?_ rfl hxy
        by_cases e : x = 0
        · rw [if_pos e, if_pos rfl]; omega
        · rw [if_neg e, if_neg (by omega)]; omega
    · exact absurd s3_4 h
    · exact absurd s3_5 h
  · exact absurd (s4_n s) h
set_option maxHeartbeats 4000000 in
theorem stp_uni {k s s' : Int} (hk : 0 ≤ k ∧ k ≤ 4) (hxy : 0 ≤ x ∧ x < W ∧ 0 ≤ y ∧ y < H) (hs : 0 ≤ s ∧ s < 6) (hs' : 0 ≤ s' ∧ s' < 6) (h : stp k W H x y s ≠ -1) (e : stp k W H x y s = stp k W H x y s') : s = s' := by
  have hk5 : k = 0 ∨ k = 1 ∨ k = 2 ∨ k = 3 ∨ k = 4 := by omega
  have hs6 : s = 0 ∨ s = 1 ∨ s = 2 ∨ s = 3 ∨ s = 4 ∨ s = 5 := by omega
  have hs7 : s' = 0 ∨ s' = 1 ∨ s' = 2 ∨ s' = 3 ∨ s' = 4 ∨ s' = 5 := by omega
  have h' : stp k W H x y s' ≠ -1 := e ▸ h
  rcases hk5 with rfl | rfl | rfl | rfl | rfl
  · rcases hs6 with rfl | rfl | rfl | rfl | rfl | rfl
    · rcases hs7 with rfl | rfl | rfl | rfl | rfl | rfl
      · rfl
      · rw [s0_0] at h e
        rw [s0_1] at e
        have i := plA_inj h e
        exfalso
        revert i
        first | omega | (split <;> first | omega | (split <;> omega))
      · rw [s0_0] at h e
        rw [s0_2] at e
        have i := plA_inj h e
        exfalso
        revert i
        first | omega | (split <;> first | omega | (split <;> omega))
      · rw [s0_0] at h e
        rw [s0_3] at e
        have i := plA_inj h e
        exfalso
        revert i
        first | omega | (split <;> first | omega | (split <;> omega))
      · exact absurd s0_4 h'
      · exact absurd s0_5 h'
    · rcases hs7 with rfl | rfl | rfl | rfl | rfl | rfl
      · rw [s0_1] at h e
        rw [s0_0] at e
        have i := plA_inj h e
        exfalso
        revert i
        first | omega | (split <;> first | omega | (split <;> omega))
      · rfl
      · rw [s0_1] at h e
        rw [s0_2] at e
        have i := plA_inj h e
        exfalso
        revert i
        first | omega | (split <;> first | omega | (split <;> omega))
      · rw [s0_1] at h e
        rw [s0_3] at e
        have i := plA_inj h e
        exfalso
        revert i
        first | omega | (split <;> first | omega | (split <;> omega))
      · exact absurd s0_4 h'
      · exact absurd s0_5 h'
    · rcases hs7 with rfl | rfl | rfl | rfl | rfl | rfl
      · rw [s0_2] at h e
        rw [s0_0] at e
        have i := plA_inj h e
        exfalso
        revert i
        first | omega | (split <;> first | omega | (split <;> omega))
      · rw [s0_2] at h e
        rw [s0_1] at e
        have i := plA_inj h e
        exfalso
        revert i
        first | omega | (split <;> first | omega | (split <;> omega))
      · rfl
      · rw [s0_2] at h e
        rw [s0_3] at e
        have i := plA_inj h e
        exfalso
        revert i
        first | omega | (split <;> first | omega | (split <;> omega))
      · exact absurd s0_4 h'
      · exact absurd s0_5 h'
    · rcases hs7 with rfl | rfl | rfl | rfl | rfl | rfl
      · rw [s0_3] at h e
        rw [s0_0] at e
        have i := plA_inj h e
        exfalso
        revert i
        first | omega | (split <;> first | omega | (split <;> omega))
      · rw [s0_3] at h e
        rw [s0_1] at e
        have i := plA_inj h e
        exfalso
        revert i
        first | omega | (split <;> first | omega | (split <;> omega))
      · rw [s0_3] at h e
        rw [s0_2] at e
        have i := plA_inj h e
        exfalso
        revert i
        first | omega | (split <;> first | omega | (split <;> omega))
      · rfl
      · exact absurd s0_4 h'
      · exact absurd s0_5 h'
    · exact absurd s0_4 h
    · exact absurd s0_5 h
  · rcases hs6 with rfl | rfl | rfl | rfl | rfl | rfl
    · rcases hs7 with rfl | rfl | rfl | rfl | rfl | rfl
      · rfl
      · rw [s1_0] at h e
        rw [s1_1] at e
        have i := plA_inj h e
        exfalso
        revert i
        first | omega | (split <;> first | omega | (split <;> omega))
      · rw [s1_0] at h e
        rw [s1_2] at e
        have i := plA_inj h e
        exfalso
        revert i
        first | omega | (split <;> first | omega | (split <;> omega))
      · rw [s1_0] at h e
        rw [s1_3] at e
        have i := plA_inj h e
        exfalso
        revert i
        first | omega | (split <;> first | omega | (split <;> omega))
      · rw [s1_0] at h e
        rw [s1_4] at e
        have i := plA_inj h e
        exfalso
        revert i
        first | omega | (split <;> first | omega | (split <;> omega))
      · rw [s1_0] at h e
        rw [s1_5] at e
        have i := plA_inj h e
        exfalso
        revert i
        first | omega | (split <;> first | omega | (split <;> omega))
    · rcases hs7 with rfl | rfl | rfl | rfl | rfl | rfl
      · rw [s1_1] at h e
        rw [s1_0] at e
        have i := plA_inj h e
        exfalso
        revert i
        first | omega | (split <;> first | omega | (split <;> omega))
      · rfl
      · rw [s1_1] at h e
        rw [s1_2] at e
        have i := plA_inj h e
        exfalso
        revert i
        first | omega | (split <;> first | omega | (split <;> omega))
      · rw [s1_1] at h e
        rw [s1_3] at e
        have i := plA_inj h e
        exfalso
        revert i
        first | omega | (split <;> first | omega | (split <;> omega))
      · rw [s1_1] at h e
        rw [s1_4] at e
        have i := plA_inj h e
        exfalso
        revert i
        first | omega | (split <;> first | omega | (split <;> omega))
      · rw [s1_1] at h e
        rw [s1_5] at e
        have i := plA_inj h e
        exfalso
        revert i
        first | omega | (split <;> first | omega | (split <;> omega))
    · rcases hs7 with rfl | rfl | rfl | rfl | rfl | rfl
      · rw [s1_2] at h e
        rw [s1_0] at e
        have i := plA_inj h e
        exfalso
        revert i
        first | omega | (split <;> first | omega | (split <;> omega))
      · rw [s1_2] at h e
        rw [s1_1] at e
        have i := plA_inj h e
        exfalso
        revert i
        first | omega | (split <;> first | omega | (split <;> omega))
      · rfl
      · rw [s1_2] at h e
        rw [s1_3] at e
        have i := plA_inj h e
        exfalso
        revert i
        first | omega | (split <;> first | omega | (split <;> omega))
      · rw [s1_2] at h e
        rw [s1_4] at e
        have i := plA_inj h e
        exfalso
        revert i
        first | omega | (split <;> first | omega | (split <;> omega))
      · rw [s1_2] at h e
        rw [s1_5] at e
        have i := plA_inj h e
        exfalso
        revert i
        first | omega | (split <;> first | omega | (split <;> omega))
    · rcases hs7 with rfl | rfl | rfl | rfl | rfl | rfl
      · rw [s1_3] at h e
        rw [s1_0] at e
        have i := plA_inj h e
        exfalso
        revert i
        first | omega | (split <;> first | omega | (split <;> omega))
      · rw [s1_3] at h e
        rw [s1_1] at e
        have i := plA_inj h e
        exfalso
        revert i
        first | omega | (split <;> first | omega | (split <;> omega))
      · rw [s1_3] at h e
        rw [s1_2] at e
        have i := plA_inj h e
        exfalso
        revert i
        first | omega | (split <;> first | omega | (split <;> omega))
      · rfl
      · rw [s1_3] at h e
        rw [s1_4] at e
        have i := plA_inj h e
        exfalso
        revert i
        first | omega | (split <;> first | omega | (split <;> omega))
      · rw [s1_3] at h e
        rw [s1_5] at e
        have i := plA_inj h e
        exfalso
        revert i
        first | omega | (split <;> first | omega | (split <;> omega))
    · rcases hs7 with rfl | rfl | rfl | rfl | rfl | rfl
      · rw [s1_4] at h e
        rw [s1_0] at e
        have i := plA_inj h e
        exfalso
        revert i
        first | omega | (split <;> first | omega | (split <;> omega))
      · rw [s1_4] at h e
        rw [s1_1] at e
        have i := plA_inj h e
        exfalso
        revert i
        first | omega | (split <;> first | omega | (split <;> omega))
      · rw [s1_4] at h e
        rw [s1_2] at e
        have i := plA_inj h e
        exfalso
        revert i
        first | omega | (split <;> first | omega | (split <;> omega))
      · rw [s1_4] at h e
        rw [s1_3] at e
        have i := plA_inj h e
        exfalso
        revert i
        first | omega | (split <;> first | omega | (split <;> omega))
      · rfl
      · rw [s1_4] at h e
        rw [s1_5] at e
        have i := plA_inj h e
        exfalso
        revert i
        first | omega | (split <;> first | omega | (split <;> omega))
    · rcases hs7 with rfl | rfl | rfl | rfl | rfl | rfl
      · rw [s1_5] at h e
        rw [s1_0] at e
        have i := plA_inj h e
        exfalso
        revert i
        first | omega | (split <;> first | omega | (split <;> omega))
      · rw [s1_5] at h e
        rw [s1_1] at e
        have i := plA_inj h e
        exfalso
        revert i
        first | omega | (split <;> first | omega | (split <;> omega))
      · rw [s1_5] at h e
        rw [s1_2] at e
        have i := plA_inj h e
        exfalso
        revert i
        first | omega | (split <;> first | omega | (split <;> omega))
      · rw [s1_5] at h e
        rw [s1_3] at e
        have i := plA_inj h e
        exfalso
        revert i
        first | omega | (split <;> first | omega | (split <;> omega))
      · rw [s1_5] at h e
        rw [s1_4] at e
        have i := plA_inj h e
        exfalso
        revert i
        first | omega | (split <;> first | omega | (split <;> omega))
      · rfl
  · rcases hs6 with rfl | rfl | rfl | rfl | rfl | rfl
    · rcases hs7 with rfl | rfl | rfl | rfl | rfl | rfl
      · rfl
      · rw [s2_0] at h e
        rw [s2_1] at e
        have i := plA_inj h e
        exfalso
        revert i
        first | omega | (split <;> first | omega | (split <;> omega))
      · rw [s2_0] at h e
        rw [s2_2] at e
        have i := plA_inj h e
        exfalso
        revert i
        first | omega | (split <;> first | omega | (split <;> omega))
      · exact absurd s2_3 h'
      · exact absurd s2_4 h'
      · exact absurd s2_5 h'
    · rcases hs7 with rfl | rfl | rfl | rfl | rfl | rfl
      · rw [s2_1] at h e
        rw [s2_0] at e
        have i := plA_inj h e
        exfalso
        revert i
        first | omega | (split <;> first | omega | (split <;> omega))
      · rfl
      · rw [s2_1] at h e
        rw [s2_2] at e
        have i := plA_inj h e
        exfalso
        revert i
        first | omega | (split <;> first | omega | (split <;> omega))
      · exact absurd s2_3 h'
      · exact absurd s2_4 h'
      · exact absurd s2_5 h'
    · rcases hs7 with rfl | rfl | rfl | rfl | rfl | rfl
      · rw [s2_2] at h e
        rw [s2_0] at e
        have i := plA_inj h e
        exfalso
        revert i
        first | omega | (split <;> first | omega | (split <;> omega))
      · rw [s2_2] at h e
        rw [s2_1] at e
        have i := plA_inj h e
        exfalso
        revert i
        first | omega | (split <;> first | omega | (split <;> omega))
      · rfl
      · exact absurd s2_3 h'
      · exact absurd s2_4 h'
      · exact absurd s2_5 h'
    · exact absurd s2_3 h
    · exact absurd s2_4 h
    · exact absurd s2_5 h
  · have h1 : W < 2 → stp 3 W H x y 1 = -1 := s3_1n
    have h3 : W < 3 → stp 3 W H x y 3 = -1 := s3_3n
    rcases hs6 with rfl | rfl | rfl | rfl | rfl | rfl
    · rcases hs7 with rfl | rfl | rfl | rfl | rfl | rfl
      · rfl
      · have hc1 : 2 ≤ W := by by_cases q : W < 2; (exact absurd (h1 q) h'); omega
        rw [s3_0] at h e
        rw [(s3_1 hc1)] at e
        have i := plA_inj h e
        exfalso
        revert i
        first | omega | (split <;> first | omega | (split <;> omega))
      · rw [s3_0] at h e
        rw [s3_2] at e
        have i := plA_inj h e
        exfalso
        revert i
        first | omega | (split <;> first | omega | (split <;> omega))
      · have hc3 : 3 ≤ W := by by_cases q : W < 3; (exact absurd (h3 q) h'); omega
        rw [s3_0] at h e
        rw [(s3_3 hc3)] at e
        have i := plA_inj h e
        exfalso
        revert i
        first | omega | (split <;> first | omega | (split <;> omega))
      · exact absurd s3_4 h'
      · exact absurd s3_5 h'
    · have hb1 : 2 ≤ W := by by_cases q : W < 2; (exact absurd (h1 q) h); omega
      rcases hs7 with rfl | rfl | rfl | rfl | rfl | rfl
      · rw [(s3_1 hb1)] at h e
        rw [s3_0] at e
        have i := plA_inj h e
        exfalso
        revert i
        first | omega | (split <;> first | omega | (split <;> omega))
      · rfl
      · rw [(s3_1 hb1)] at h e
        rw [s3_2] at e
        have i := plA_inj h e
        exfalso
        revert i
        first | omega | (split <;> first | omega | (split <;> omega))
      · have hc3 : 3 ≤ W := by by_cases q : W < 3; (exact absurd (h3 q) h'); omega
        rw [(s3_1 hb1)] at h e
        rw [(s3_3 hc3)] at e
        have i := plA_inj h e
        exfalso
        revert i
        first | omega | (split <;> first | omega | (split <;> omega))
      · exact absurd s3_4 h'
      · exact absurd s3_5 h'
    · rcases hs7 with rfl | rfl | rfl | rfl | rfl | rfl
      · rw [s3_2] at h e
        rw [s3_0] at e
        have i := plA_inj h e
        exfalso
        revert i
        first | omega | (split <;> first | omega | (split <;> omega))
      · have hc1 : 2 ≤ W := by by_cases q : W < 2; (exact absurd (h1 q) h'); omega
        rw [s3_2] at h e
        rw [(s3_1 hc1)] at e
        have i := plA_inj h e
        exfalso
        revert i
        first | omega | (split <;> first | omega | (split <;> omega))
      · rfl
      · have hc3 : 3 ≤ W := by by_cases q : W < 3; (exact absurd (h3 q) h'); omega
        rw [s3_2] at h e
        rw [(s3_3 hc3)] at e
        have i := plA_inj h e
        exfalso
        revert i
        first | omega | (split <;> first | omega | (split <;> omega))
      · exact absurd s3_4 h'
      · exact absurd s3_5 h'
    · have hb3 : 3 ≤ W := by by_cases q : W < 3; (exact absurd (h3 q) h); omega
      rcases hs7 with rfl | rfl | rfl | rfl | rfl | rfl
      · rw [(s3_3 hb3)] at h e
        rw [s3_0] at e
        have i := plA_inj h e
        exfalso
        revert i
        first | omega | (split <;> first | omega | (split <;> omega))
      · have hc1 : 2 ≤ W := by by_cases q : W < 2; (exact absurd (h1 q) h'); omega
        rw [(s3_3 hb3)] at h e
        rw [(s3_1 hc1)] at e
        have i := plA_inj h e
        exfalso
        revert i
        first | omega | (split <;> first | omega | (split <;> omega))
      · rw [(s3_3 hb3)] at h e
        rw [s3_2] at e
        have i := plA_inj h e
        exfalso
        revert i
        first | omega | (split <;> first | omega | (split <;> omega))
      · rfl
      · exact absurd s3_4 h'
      · exact absurd s3_5 h'
    · exact absurd s3_4 h
    · exact absurd s3_5 h
  · exact absurd (s4_n s) h
set_option maxHeartbeats 4000000 in
theorem stp_pot {k : Int} {n : Nat} (hF : fOK k W H n) {p r : Int} (hp : 0 ≤ p ∧ p < n) (hr : 0 ≤ r ∧ r < dirN k) : ∃ (φ : Int → Nat) (I : Int → Prop), φ p < n ∧ I p ∧ ∀ q : Int, I q → 0 ≤ q → q < n → stp k W H (q % W) (q / W) r ≠ -1 → stp k W H (q % W) (q / W) r ≠ p → I (stp k W H (q % W) (q / W) r) ∧ φ (stp k W H (q % W) (q / W) r) < φ q := by
  have hnb := hF.n
  obtain ⟨hk0, hk4, hW1, hW2, hH1, hH2, hn, hg4⟩ := hF
  have hc : ∀ q : Int, 0 ≤ q → q < n → 0 ≤ q % W ∧ q % W < W ∧ 0 ≤ q / W ∧ q / W < H := fun q h0 h1 => ⟨Int.emod_nonneg _ (by omega), Int.emod_lt_of_pos _ (by omega), Int.ediv_nonneg h0 (by omega), Int.ediv_lt_of_lt_mul (by omega) (by rw [Int.mul_comm, ← hn]; exact h1)⟩
  have hWn : W ≤ n := by rw [hn]; have := Int.mul_le_mul_of_nonneg_left hH1 (show 0 ≤ W by omega); omega
  have hHn : H ≤ n := by rw [hn]; have := Int.mul_le_mul_of_nonneg_right hW1 (show 0 ≤ H by omega); omega
  have hcp := hc p hp.1 hp.2
  have hk5 : k = 0 ∨ k = 1 ∨ k = 2 ∨ k = 3 ∨ k = 4 := by omega
  have hr6 : r = 0 ∨ r = 1 ∨ r = 2 ∨ r = 3 ∨ r = 4 ∨ r = 5 := by
    have : dirN k ≤ 6 := by unfold dirN; split <;> first | omega | (split <;> first | omega | (split <;> omega))
    omega
  rcases hk5 with rfl | rfl | rfl | rfl | rfl
  · have hdir : dirN 0 = 4 := rfl
    rcases hr6 with rfl | rfl | rfl | rfl | rfl | rfl
    · refine ⟨fun q => (q / W).toNat, fun _ => True, by show (p / W).toNat < n; omega, trivial, fun q _ h0 h1 h _ => ⟨trivial, ?_⟩⟩
      have c0 := hc q h0 h1
      rw [s0_0] at h ⊢
      have c := plA_c h
      rw [plA_at rfl rfl c]
      have cx := co_x (y := (q / W) - 1) (x := (q % W)) (W := W) ⟨c.1, c.2.1⟩
      show ((W * ((q / W) - 1) + ((q % W))) / W).toNat < (q / W).toNat
      first | rw [cx.1] | rw [cx.2]
      omega
    · refine ⟨fun q => (W - 1 - q % W).toNat, fun _ => True, by show (W - 1 - p % W).toNat < n; omega, trivial, fun q _ h0 h1 h _ => ⟨trivial, ?_⟩⟩
      have c0 := hc q h0 h1
      rw [s0_1] at h ⊢
      have c := plA_c h
      rw [plA_at rfl rfl c]
      have cx := co_x (y := (q / W)) (x := (q % W) + 1) (W := W) ⟨c.1, c.2.1⟩
      show (W - 1 - (W * ((q / W)) + ((q % W) + 1)) % W).toNat < (W - 1 - q % W).toNat
      first | rw [cx.1] | rw [cx.2]
      omega
    · refine ⟨fun q => (H - 1 - q / W).toNat, fun _ => True, by show (H - 1 - p / W).toNat < n; omega, trivial, fun q _ h0 h1 h _ => ⟨trivial, ?_⟩⟩
      have c0 := hc q h0 h1
      rw [s0_2] at h ⊢
      have c := plA_c h
      rw [plA_at rfl rfl c]
      have cx := co_x (y := (q / W) + 1) (x := (q % W)) (W := W) ⟨c.1, c.2.1⟩
      show (H - 1 - (W * ((q / W) + 1) + ((q % W))) / W).toNat < (H - 1 - q / W).toNat
      first | rw [cx.1] | rw [cx.2]
      omega
    · refine ⟨fun q => (q % W).toNat, fun _ => True, by show (p % W).toNat < n; omega, trivial, fun q _ h0 h1 h _ => ⟨trivial, ?_⟩⟩
      have c0 := hc q h0 h1
      rw [s0_3] at h ⊢
      have c := plA_c h
      rw [plA_at rfl rfl c]
      have cx := co_x (y := (q / W)) (x := (q % W) - 1) (W := W) ⟨c.1, c.2.1⟩
      show ((W * ((q / W)) + ((q % W) - 1)) % W).toNat < (q % W).toNat
      first | rw [cx.1] | rw [cx.2]
      omega
    · omega
    · omega
  · have hdir : dirN 1 = 6 := rfl
    rcases hr6 with rfl | rfl | rfl | rfl | rfl | rfl
    · refine ⟨fun q => (q / W).toNat, fun _ => True, by show (p / W).toNat < n; omega, trivial, fun q _ h0 h1 h _ => ⟨trivial, ?_⟩⟩
      have c0 := hc q h0 h1
      rw [s1_0] at h ⊢
      have c := plA_c h
      rw [plA_at rfl rfl c]
      have cx := co_x (y := (q / W) - 1) (x := (q % W) + (q / W) % 2) (W := W) ⟨c.1, c.2.1⟩
      show ((W * ((q / W) - 1) + ((q % W) + (q / W) % 2)) / W).toNat < (q / W).toNat
      first | rw [cx.1] | rw [cx.2]
      omega
    · refine ⟨fun q => (W - 1 - q % W).toNat, fun _ => True, by show (W - 1 - p % W).toNat < n; omega, trivial, fun q _ h0 h1 h _ => ⟨trivial, ?_⟩⟩
      have c0 := hc q h0 h1
      rw [s1_1] at h ⊢
      have c := plA_c h
      rw [plA_at rfl rfl c]
      have cx := co_x (y := (q / W)) (x := (q % W) + 1) (W := W) ⟨c.1, c.2.1⟩
      show (W - 1 - (W * ((q / W)) + ((q % W) + 1)) % W).toNat < (W - 1 - q % W).toNat
      first | rw [cx.1] | rw [cx.2]
      omega
    · refine ⟨fun q => (H - 1 - q / W).toNat, fun _ => True, by show (H - 1 - p / W).toNat < n; omega, trivial, fun q _ h0 h1 h _ => ⟨trivial, ?_⟩⟩
      have c0 := hc q h0 h1
      rw [s1_2] at h ⊢
      have c := plA_c h
      rw [plA_at rfl rfl c]
      have cx := co_x (y := (q / W) + 1) (x := (q % W) + (q / W) % 2) (W := W) ⟨c.1, c.2.1⟩
      show (H - 1 - (W * ((q / W) + 1) + ((q % W) + (q / W) % 2)) / W).toNat < (H - 1 - q / W).toNat
      first | rw [cx.1] | rw [cx.2]
      omega
    · refine ⟨fun q => (H - 1 - q / W).toNat, fun _ => True, by show (H - 1 - p / W).toNat < n; omega, trivial, fun q _ h0 h1 h _ => ⟨trivial, ?_⟩⟩
      have c0 := hc q h0 h1
      rw [s1_3] at h ⊢
      have c := plA_c h
      rw [plA_at rfl rfl c]
      have cx := co_x (y := (q / W) + 1) (x := (q % W) + (q / W) % 2 - 1) (W := W) ⟨c.1, c.2.1⟩
      show (H - 1 - (W * ((q / W) + 1) + ((q % W) + (q / W) % 2 - 1)) / W).toNat < (H - 1 - q / W).toNat
      first | rw [cx.1] | rw [cx.2]
      omega
    · refine ⟨fun q => (q % W).toNat, fun _ => True, by show (p % W).toNat < n; omega, trivial, fun q _ h0 h1 h _ => ⟨trivial, ?_⟩⟩
      have c0 := hc q h0 h1
      rw [s1_4] at h ⊢
      have c := plA_c h
      rw [plA_at rfl rfl c]
      have cx := co_x (y := (q / W)) (x := (q % W) - 1) (W := W) ⟨c.1, c.2.1⟩
      show ((W * ((q / W)) + ((q % W) - 1)) % W).toNat < (q % W).toNat
      first | rw [cx.1] | rw [cx.2]
      omega
    · refine ⟨fun q => (q / W).toNat, fun _ => True, by show (p / W).toNat < n; omega, trivial, fun q _ h0 h1 h _ => ⟨trivial, ?_⟩⟩
      have c0 := hc q h0 h1
      rw [s1_5] at h ⊢
      have c := plA_c h
      rw [plA_at rfl rfl c]
      have cx := co_x (y := (q / W) - 1) (x := (q % W) + (q / W) % 2 - 1) (W := W) ⟨c.1, c.2.1⟩
      show ((W * ((q / W) - 1) + ((q % W) + (q / W) % 2 - 1)) / W).toNat < (q / W).toNat
      first | rw [cx.1] | rw [cx.2]
      omega
  · have hdir : dirN 2 = 2 := rfl
    rcases hr6 with rfl | rfl | rfl | rfl | rfl | rfl
    · refine ⟨fun q => (q % W).toNat, fun _ => True, by show (p % W).toNat < n; omega, trivial, fun q _ h0 h1 h _ => ⟨trivial, ?_⟩⟩
      have c0 := hc q h0 h1
      rw [s2_0] at h ⊢
      have c := plA_c h
      rw [plA_at rfl rfl c]
      have cx := co_x (y := (q / W)) (x := (q % W) - 1) (W := W) ⟨c.1, c.2.1⟩
      show ((W * ((q / W)) + ((q % W) - 1)) % W).toNat < (q % W).toNat
      first | rw [cx.1] | rw [cx.2]
      omega
    · refine ⟨fun q => (W - 1 - q % W).toNat, fun _ => True, by show (W - 1 - p % W).toNat < n; omega, trivial, fun q _ h0 h1 h _ => ⟨trivial, ?_⟩⟩
      have c0 := hc q h0 h1
      rw [s2_1] at h ⊢
      have c := plA_c h
      rw [plA_at rfl rfl c]
      have cx := co_x (y := (q / W)) (x := (q % W) + 1) (W := W) ⟨c.1, c.2.1⟩
      show (W - 1 - (W * ((q / W)) + ((q % W) + 1)) % W).toNat < (W - 1 - q % W).toNat
      first | rw [cx.1] | rw [cx.2]
      omega
    · omega
    · omega
    · omega
    · omega
  · have hdir : dirN 3 = 4 := rfl
    rcases hr6 with rfl | rfl | rfl | rfl | rfl | rfl
    · refine ⟨fun q => (q / W).toNat, fun _ => True, by show (p / W).toNat < n; omega, trivial, fun q _ h0 h1 h _ => ⟨trivial, ?_⟩⟩
      have c0 := hc q h0 h1
      rw [s3_0] at h ⊢
      have c := plA_c h
      rw [plA_at rfl rfl c]
      have cx := co_x (y := (q / W) - 1) (x := (q % W)) (W := W) ⟨c.1, c.2.1⟩
      show ((W * ((q / W) - 1) + ((q % W))) / W).toNat < (q / W).toNat
      first | rw [cx.1] | rw [cx.2]
      omega
    · refine ⟨fun q => (if q % W < p % W then p % W - 1 - q % W else p % W - 1 - q % W + W).toNat, fun q => q / W = p / W, by show (if p % W < p % W then p % W - 1 - p % W else p % W - 1 - p % W + W).toNat < n; rw [if_neg (by omega)]; omega, rfl, fun q hI h0 h1 h hne => ?_⟩
      have c0 := hc q h0 h1
      have hI : q / W = p / W := hI
      have hpp := Int.mul_ediv_add_emod p W
      have hW2' : 2 ≤ W := by by_cases z : W < 2; (exact absurd (s3_1n z) h); omega
      rw [s3_1 hW2'] at h hne ⊢
      have c := plA_c h
      rw [plA_at rfl rfl c] at hne ⊢
      have cx := co_x (y := q / W) (x := (if q % W = W - 1 then 0 else q % W + 1)) (W := W) ⟨c.1, c.2.1⟩
      have hx : (if q % W = W - 1 then 0 else q % W + 1) ≠ p % W := fun z => hne (by rw [z, hI]; exact hpp)
      refine ⟨cx.2.trans hI, ?_⟩
      show (if (W * (q / W) + (if q % W = W - 1 then 0 else q % W + 1)) % W < p % W then p % W - 1 - (W * (q / W) + (if q % W = W - 1 then 0 else q % W + 1)) % W else p % W - 1 - (W * (q / W) + (if q % W = W - 1 then 0 else q % W + 1)) % W + W).toNat < (if q % W < p % W then p % W - 1 - q % W else p % W - 1 - q % W + W).toNat
      rw [cx.1]
      revert hx
      generalize q % W = u at *
      generalize p % W = v at *
      intro hx
      by_cases g1 : u = W - 1
      · rw [if_pos g1] at hx ⊢
        by_cases g2 : u < v
        · omega
        · rw [if_neg g2]
          by_cases g3 : 0 < v
          · rw [if_pos g3]; omega
          · omega
      · rw [if_neg g1] at hx ⊢
        by_cases g2 : u < v
        · rw [if_pos g2, if_pos (by omega)]; omega
        · rw [if_neg g2, if_neg (by omega)]; omega
    · refine ⟨fun q => (H - 1 - q / W).toNat, fun _ => True, by show (H - 1 - p / W).toNat < n; omega, trivial, fun q _ h0 h1 h _ => ⟨trivial, ?_⟩⟩
      have c0 := hc q h0 h1
      rw [s3_2] at h ⊢
      have c := plA_c h
      rw [plA_at rfl rfl c]
      have cx := co_x (y := (q / W) + 1) (x := (q % W)) (W := W) ⟨c.1, c.2.1⟩
      show (H - 1 - (W * ((q / W) + 1) + ((q % W))) / W).toNat < (H - 1 - q / W).toNat
      first | rw [cx.1] | rw [cx.2]
      omega
    · refine ⟨fun q => (if p % W < q % W then q % W - 1 - p % W else q % W - 1 - p % W + W).toNat, fun q => q / W = p / W, by show (if p % W < p % W then p % W - 1 - p % W else p % W - 1 - p % W + W).toNat < n; rw [if_neg (by omega)]; omega, rfl, fun q hI h0 h1 h hne => ?_⟩
      have c0 := hc q h0 h1
      have hI : q / W = p / W := hI
      have hpp := Int.mul_ediv_add_emod p W
      have hW2' : 3 ≤ W := by by_cases z : W < 3; (exact absurd (s3_3n z) h); omega
      rw [s3_3 hW2'] at h hne ⊢
      have c := plA_c h
      rw [plA_at rfl rfl c] at hne ⊢
      have cx := co_x (y := q / W) (x := (if q % W = 0 then W - 1 else q % W - 1)) (W := W) ⟨c.1, c.2.1⟩
      have hx : (if q % W = 0 then W - 1 else q % W - 1) ≠ p % W := fun z => hne (by rw [z, hI]; exact hpp)
      refine ⟨cx.2.trans hI, ?_⟩
      show (if p % W < (W * (q / W) + (if q % W = 0 then W - 1 else q % W - 1)) % W then (W * (q / W) + (if q % W = 0 then W - 1 else q % W - 1)) % W - 1 - p % W else (W * (q / W) + (if q % W = 0 then W - 1 else q % W - 1)) % W - 1 - p % W + W).toNat < (if p % W < q % W then q % W - 1 - p % W else q % W - 1 - p % W + W).toNat
      rw [cx.1]
      revert hx
      generalize q % W = u at *
      generalize p % W = v at *
      intro hx
      by_cases g1 : u = 0
      · rw [if_pos g1] at hx ⊢
        by_cases g2 : v < u
        · omega
        · rw [if_neg g2]
          by_cases g3 : v < W - 1
          · rw [if_pos g3]; omega
          · omega
      · rw [if_neg g1] at hx ⊢
        by_cases g2 : v < u
        · rw [if_pos g2, if_pos (by omega)]; omega
        · rw [if_neg g2, if_neg (by omega)]; omega
    · omega
    · omega
  · have hdir : dirN 4 = 0 := rfl
    omega
end GE
