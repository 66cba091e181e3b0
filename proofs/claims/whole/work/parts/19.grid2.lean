/-! GridShapes: areas, marks, images, pairs, what is seen; and the calls that throw -/
section GY
variable {G : mG} {w : List mC}
theorem cX.xy {k W H : Int} {n sl m : Nat} {col row bes : Nat → Int} {wal : Nat → Bool} (h : cX w k W H n sl m col row bes wal) {z : Int} (hz : 0 ≤ z ∧ z < n) : 0 ≤ col z.toNat ∧ col z.toNat < W ∧ 0 ≤ row z.toNat ∧ row z.toNat < H := by
  obtain ⟨-, -, -, -, -, -, -, -, ⟨-, -, hW1, -, hH1, -, hn, -⟩, -, -, hcr, -⟩ := h
  obtain ⟨h1, h2⟩ := hcr z.toNat (by omega)
  rw [h1, h2, Int.toNat_of_nonneg hz.1]
  refine ⟨Int.emod_nonneg _ (by omega), Int.emod_lt_of_pos _ (by omega), Int.ediv_nonneg hz.1 (by omega), Int.ediv_lt_of_lt_mul (by omega) ?_⟩
  rw [Int.mul_comm]
  omega

set_option maxHeartbeats 4000000 in
set_option maxRecDepth 100000 in
theorem c_X7_areaY (hG : m_G G) (d : Nat) {k W H : Int} {n sl m : Nat} {col row bes : Nat → Int} {wal : Nat → Bool} (hX : cX w k W H n sl m col row bes wal) {p a : Int} {ar : Nat → Int} (h21 : w[21]? = some (cI n ar)) (hp : 0 ≤ p ∧ p < n) (ha : 0 ≤ a ∧ a < n) : m_Cv G MX7_area (m_r (d + 3) 0 0) [.ref 1, vI p, vI a] w (some (vB true)) (w.set 21 (cI n (up ar p.toNat a))) := by
  have hXX := hX
  obtain ⟨h1, h2, h3, h4, h5, h6, h7, h8, hF, hN, hsl, hcr, hbs⟩ := hX
  have hFF := hF
  have hNN := hN
  have hnb := hF.n
  obtain ⟨hk0, hk4, hW1, hW2, hH1, hH2, hn, hg4⟩ := hF
  obtain ⟨hn1, hn2, hl1, hl2, hm, hm2⟩ := hN
  refine m_enter (L := [some (.ref 1), some (vI p), some (vI a)]) (by decide) hG (m_c1 rfl) (Nat.le_of_ble_eq_true rfl) rfl ?_
  refine m_aload_n 1 dX7_area_0 rfl rfl ?_
  refine m_iload_n 2 dX7_area_1 rfl rfl ?_
  refine m_cV (M' := MX7_demandPlace) 5 [_] kX7_77 imX7_demandPlace seX7_demandPlace clX7_demandPlace dX7_area_2 rfl rfl rfl (by first | rfl | assumption) (m_rmI (by omega) (Nat.le_of_ble_eq_true rfl) (Nat.le_refl _) (Nat.le_refl _)) (c_X7_demandPlace hG (d + 1) hXX ⟨by omega, by omega⟩) ?_
  refine m_iload_n 6 dX7_area_5 rfl rfl ?_
  refine i_if_lt 9 20 ⟨by omega, by omega⟩ dX7_area_6 rfl (by decide) (fun h => absurd h (by omega)) (fun _ => ?_)
  refine m_iload_n 10 dX7_area_9 rfl rfl ?_
  refine m_aload_n 11 dX7_area_10 rfl rfl ?_
  refine m_getf 14 foX7_12 dX7_area_11 rfl (by first | rfl | assumption) (by rfl) ?_
  refine m_getf 17 foX7_66 dX7_area_14 rfl (by first | rfl | assumption) (by rfl) ?_
  refine i_icmp_lt 20 22 ⟨by omega, by omega⟩ ⟨by omega, by omega⟩ dX7_area_17 rfl (by decide) (fun _ => ?_) (fun h => absurd h (by omega))
  refine m_aload_n 23 dX7_area_22 rfl rfl ?_
  refine m_getf 26 foX7_74 dX7_area_23 rfl (by first | rfl | assumption) (by rfl) ?_
  refine m_iload_n 27 dX7_area_26 rfl rfl ?_
  refine m_iload_n 28 dX7_area_27 rfl rfl ?_
  refine i_ast 29 dX7_area_28 rfl (by first | rfl | assumption) ⟨by omega, by omega, by omega⟩ ?_
  refine i_const 30 dX7_area_29 rfl ?_
  refine i_retB _ dX7_area_30 rfl ⟨Nat.le_refl _, Nat.le_refl _⟩ ?_ ⟨rfl, rfl⟩
  refine i_eq1 ?_
  rfl
set_option maxHeartbeats 4000000 in
set_option maxRecDepth 100000 in
theorem c_X7_areaN (hG : m_G G) (d : Nat) {k W H : Int} {n sl m : Nat} {col row bes : Nat → Int} {wal : Nat → Bool} (hX : cX w k W H n sl m col row bes wal) {p a : Int} (hp : 0 ≤ p ∧ p < n) (ha : ¬ (0 ≤ a ∧ a < n)) (hr : iR a) : m_Cv G MX7_area (m_r (d + 3) 0 0) [.ref 1, vI p, vI a] w (some (vB false)) w := by
  have hXX := hX
  obtain ⟨h1, h2, h3, h4, h5, h6, h7, h8, hF, hN, hsl, hcr, hbs⟩ := hX
  have hFF := hF
  have hNN := hN
  have hnb := hF.n
  obtain ⟨hk0, hk4, hW1, hW2, hH1, hH2, hn, hg4⟩ := hF
  obtain ⟨hn1, hn2, hl1, hl2, hm, hm2⟩ := hN
  obtain ⟨hr1, hr2⟩ := hr
  refine m_enter (L := [some (.ref 1), some (vI p), some (vI a)]) (by decide) hG (m_c1 rfl) (Nat.le_of_ble_eq_true rfl) rfl ?_
  refine m_aload_n 1 dX7_area_0 rfl rfl ?_
  refine m_iload_n 2 dX7_area_1 rfl rfl ?_
  refine m_cV (M' := MX7_demandPlace) 5 [_] kX7_77 imX7_demandPlace seX7_demandPlace clX7_demandPlace dX7_area_2 rfl rfl rfl (by first | rfl | assumption) (m_rmI (by omega) (Nat.le_of_ble_eq_true rfl) (Nat.le_refl _) (Nat.le_refl _)) (c_X7_demandPlace hG (d + 1) hXX ⟨by omega, by omega⟩) ?_
  refine m_iload_n 6 dX7_area_5 rfl rfl ?_
  refine i_if_lt 9 20 ⟨by omega, by omega⟩ dX7_area_6 rfl (by decide) (fun q6 => ?_) (fun q6 => ?_)
  · refine i_const 21 dX7_area_20 rfl ?_
    refine i_retB _ dX7_area_21 rfl ⟨Nat.le_refl _, Nat.le_refl _⟩ ?_ ⟨rfl, rfl⟩
    refine i_eq0 ?_
    rfl
  · refine m_iload_n 10 dX7_area_9 rfl rfl ?_
    refine m_aload_n 11 dX7_area_10 rfl rfl ?_
    refine m_getf 14 foX7_12 dX7_area_11 rfl (by first | rfl | assumption) (by rfl) ?_
    refine m_getf 17 foX7_66 dX7_area_14 rfl (by first | rfl | assumption) (by rfl) ?_
    refine i_icmp_lt 20 22 ⟨by omega, by omega⟩ ⟨by omega, by omega⟩ dX7_area_17 rfl (by decide) (fun q17 => ?_) (fun q17 => ?_)
    · exact absurd ha (by omega)
    · refine i_const 21 dX7_area_20 rfl ?_
      refine i_retB _ dX7_area_21 rfl ⟨Nat.le_refl _, Nat.le_refl _⟩ ?_ ⟨rfl, rfl⟩
      refine i_eq0 ?_
      rfl
set_option maxHeartbeats 4000000 in
set_option maxRecDepth 100000 in
theorem c_X7_markY (hG : m_G G) (d : Nat) {k W H : Int} {n sl m : Nat} {col row bes : Nat → Int} {wal : Nat → Bool} (hX : cX w k W H n sl m col row bes wal) {p a : Int} {mk : Nat → Int} (h20 : w[20]? = some (cI n mk)) (hp : 0 ≤ p ∧ p < n) (ha : 0 ≤ a ∧ a ≤ 99) : m_Cv G MX7_mark (m_r (d + 3) 0 0) [.ref 1, vI p, vI a] w (some (vB true)) (w.set 20 (cI n (up mk p.toNat a))) := by
  have hXX := hX
  obtain ⟨h1, h2, h3, h4, h5, h6, h7, h8, hF, hN, hsl, hcr, hbs⟩ := hX
  have hFF := hF
  have hNN := hN
  have hnb := hF.n
  obtain ⟨hk0, hk4, hW1, hW2, hH1, hH2, hn, hg4⟩ := hF
  obtain ⟨hn1, hn2, hl1, hl2, hm, hm2⟩ := hN
  refine m_enter (L := [some (.ref 1), some (vI p), some (vI a)]) (by decide) hG (m_c1 rfl) (Nat.le_of_ble_eq_true rfl) rfl ?_
  refine m_aload_n 1 dX7_mark_0 rfl rfl ?_
  refine m_iload_n 2 dX7_mark_1 rfl rfl ?_
  refine m_cV (M' := MX7_demandPlace) 5 [_] kX7_77 imX7_demandPlace seX7_demandPlace clX7_demandPlace dX7_mark_2 rfl rfl rfl (by first | rfl | assumption) (m_rmI (by omega) (Nat.le_of_ble_eq_true rfl) (Nat.le_refl _) (Nat.le_refl _)) (c_X7_demandPlace hG (d + 1) hXX ⟨by omega, by omega⟩) ?_
  refine m_iload_n 6 dX7_mark_5 rfl rfl ?_
  refine i_if_lt 9 15 ⟨by omega, by omega⟩ dX7_mark_6 rfl (by decide) (fun h => absurd h (by omega)) (fun _ => ?_)
  refine m_iload_n 10 dX7_mark_9 rfl rfl ?_
  refine i_bipush 12 99 dX7_mark_10 rfl (by decide) ?_
  refine i_icmp_le 15 17 ⟨by omega, by omega⟩ ⟨by omega, by omega⟩ dX7_mark_12 rfl (by decide) (fun _ => ?_) (fun h => absurd h (by omega))
  refine m_aload_n 18 dX7_mark_17 rfl rfl ?_
  refine m_getf 21 foX7_70 dX7_mark_18 rfl (by first | rfl | assumption) (by rfl) ?_
  refine m_iload_n 22 dX7_mark_21 rfl rfl ?_
  refine m_iload_n 23 dX7_mark_22 rfl rfl ?_
  refine i_ast 24 dX7_mark_23 rfl (by first | rfl | assumption) ⟨by omega, by omega, by omega⟩ ?_
  refine i_const 25 dX7_mark_24 rfl ?_
  refine i_retB _ dX7_mark_25 rfl ⟨Nat.le_refl _, Nat.le_refl _⟩ ?_ ⟨rfl, rfl⟩
  refine i_eq1 ?_
  rfl
set_option maxHeartbeats 4000000 in
set_option maxRecDepth 100000 in
theorem c_X7_markN (hG : m_G G) (d : Nat) {k W H : Int} {n sl m : Nat} {col row bes : Nat → Int} {wal : Nat → Bool} (hX : cX w k W H n sl m col row bes wal) {p a : Int} (hp : 0 ≤ p ∧ p < n) (ha : ¬ (0 ≤ a ∧ a ≤ 99)) (hr : iR a) : m_Cv G MX7_mark (m_r (d + 3) 0 0) [.ref 1, vI p, vI a] w (some (vB false)) w := by
  have hXX := hX
  obtain ⟨h1, h2, h3, h4, h5, h6, h7, h8, hF, hN, hsl, hcr, hbs⟩ := hX
  have hFF := hF
  have hNN := hN
  have hnb := hF.n
  obtain ⟨hk0, hk4, hW1, hW2, hH1, hH2, hn, hg4⟩ := hF
  obtain ⟨hn1, hn2, hl1, hl2, hm, hm2⟩ := hN
  obtain ⟨hr1, hr2⟩ := hr
  refine m_enter (L := [some (.ref 1), some (vI p), some (vI a)]) (by decide) hG (m_c1 rfl) (Nat.le_of_ble_eq_true rfl) rfl ?_
  refine m_aload_n 1 dX7_mark_0 rfl rfl ?_
  refine m_iload_n 2 dX7_mark_1 rfl rfl ?_
  refine m_cV (M' := MX7_demandPlace) 5 [_] kX7_77 imX7_demandPlace seX7_demandPlace clX7_demandPlace dX7_mark_2 rfl rfl rfl (by first | rfl | assumption) (m_rmI (by omega) (Nat.le_of_ble_eq_true rfl) (Nat.le_refl _) (Nat.le_refl _)) (c_X7_demandPlace hG (d + 1) hXX ⟨by omega, by omega⟩) ?_
  refine m_iload_n 6 dX7_mark_5 rfl rfl ?_
  refine i_if_lt 9 15 ⟨by omega, by omega⟩ dX7_mark_6 rfl (by decide) (fun q6 => ?_) (fun q6 => ?_)
  · refine i_const 16 dX7_mark_15 rfl ?_
    refine i_retB _ dX7_mark_16 rfl ⟨Nat.le_refl _, Nat.le_refl _⟩ ?_ ⟨rfl, rfl⟩
    refine i_eq0 ?_
    rfl
  · refine m_iload_n 10 dX7_mark_9 rfl rfl ?_
    refine i_bipush 12 99 dX7_mark_10 rfl (by decide) ?_
    refine i_icmp_le 15 17 ⟨by omega, by omega⟩ ⟨by omega, by omega⟩ dX7_mark_12 rfl (by decide) (fun q12 => ?_) (fun q12 => ?_)
    · exact absurd ha (by omega)
    · refine i_const 16 dX7_mark_15 rfl ?_
      refine i_retB _ dX7_mark_16 rfl ⟨Nat.le_refl _, Nat.le_refl _⟩ ?_ ⟨rfl, rfl⟩
      refine i_eq0 ?_
      rfl
set_option maxHeartbeats 4000000 in
set_option maxRecDepth 100000 in
theorem l_X7_size (hG : m_G G) (d : Nat) {k W H : Int} {n sl m : Nat} {col row bes : Nat → Int} {wal : Nat → Bool} (hX : cX w k W H n sl m col row bes wal) {a t : Int} {ar : Nat → Int} (h21 : w[21]? = some (cI n ar)) (hr : iR a) (hA : ∀ j, j < n → iR (ar j)) :
    ∀ (j : Nat) (i f : Int), 0 ≤ i → i + j = n → f + cntF (fun s => ar s.toNat == a) j i = t → m_J G MX7_size (m_r d 0 0) (fun r x => r = some (some (vI t)) ∧ x = w) 0 0 4 [some (.ref 1), some (vI a), some (vI f), some (vI i)] [] w := by
  have hXX := hX
  obtain ⟨h1, h2, h3, h4, h5, h6, h7, h8, hF, hN, hsl, hcr, hbs⟩ := hX
  have hFF := hF
  have hNN := hN
  have hnb := hF.n
  obtain ⟨hk0, hk4, hW1, hW2, hH1, hH2, hn, hg4⟩ := hF
  obtain ⟨hn1, hn2, hl1, hl2, hm, hm2⟩ := hN
  obtain ⟨hr1, hr2⟩ := hr
  intro j
  induction j with
  | zero =>
    intro i f hi0 hij ht
    refine m_iload_n 5 dX7_size_4 rfl rfl ?_
    refine m_aload_n 6 dX7_size_5 rfl rfl ?_
    refine m_getf 9 foX7_74 dX7_size_6 rfl (by first | rfl | assumption) (by rfl) ?_
    refine i_len 10 dX7_size_9 rfl (by first | rfl | assumption) ?_
    refine i_icmp_ge 13 32 ⟨by omega, by omega⟩ ⟨by omega, by omega⟩ dX7_size_10 rfl (by decide) (fun _ => ?_) (fun h => absurd h (by omega))
    refine m_iload_n 33 dX7_size_32 rfl rfl ?_
    refine i_ret _ dX7_size_33 rfl ⟨Nat.le_refl _, Nat.le_refl _⟩ ?_ ⟨rfl, rfl⟩
    simp only [cntF] at ht; omega
  | succ j ih =>
    intro i f hi0 hij ht
    obtain ⟨hA1, hA2⟩ := hA i.toNat (by omega)
    unfold cntF at ht
    refine m_iload_n 5 dX7_size_4 rfl rfl ?_
    refine m_aload_n 6 dX7_size_5 rfl rfl ?_
    refine m_getf 9 foX7_74 dX7_size_6 rfl (by first | rfl | assumption) (by rfl) ?_
    refine i_len 10 dX7_size_9 rfl (by first | rfl | assumption) ?_
    refine i_icmp_ge 13 32 ⟨by omega, by omega⟩ ⟨by omega, by omega⟩ dX7_size_10 rfl (by decide) (fun h => absurd h (by omega)) (fun _ => ?_)
    refine m_aload_n 14 dX7_size_13 rfl rfl ?_
    refine m_getf 17 foX7_74 dX7_size_14 rfl (by first | rfl | assumption) (by rfl) ?_
    refine m_iload_n 18 dX7_size_17 rfl rfl ?_
    refine i_ald 19 dX7_size_18 rfl (by first | rfl | assumption) ⟨by omega, by omega, by omega⟩ ?_
    refine m_iload_n 20 dX7_size_19 rfl rfl ?_
    refine i_icmp_ne 23 26 ⟨by omega, by omega⟩ ⟨by omega, by omega⟩ dX7_size_20 rfl (by decide) (fun q20 => ?_) (fun q20 => ?_)
    · refine i_inc 29 dX7_size_26 rfl rfl (by decide) ?_
      refine m_goto 4 dX7_size_29 (by decide) ?_
      first
        | (refine ih _ _ (by omega) (by omega) ?_; rw [if_neg (by simpa using q20)] at ht; omega)
        | (refine ih _ _ (by omega) (by omega) ?_; rw [if_pos (by simpa using q20)] at ht; omega)
    · refine i_inc 26 dX7_size_23 rfl rfl (by decide) ?_
      refine i_inc 29 dX7_size_26 rfl rfl (by decide) ?_
      refine m_goto 4 dX7_size_29 (by decide) ?_
      first
        | (refine ih _ _ (by omega) (by omega) ?_; rw [if_neg (by simpa using q20)] at ht; omega)
        | (refine ih _ _ (by omega) (by omega) ?_; rw [if_pos (by simpa using q20)] at ht; omega)
set_option maxHeartbeats 4000000 in
set_option maxRecDepth 100000 in
theorem c_X7_size (hG : m_G G) (d : Nat) {k W H : Int} {n sl m : Nat} {col row bes : Nat → Int} {wal : Nat → Bool} (hX : cX w k W H n sl m col row bes wal) {a : Int} {ar : Nat → Int} (h21 : w[21]? = some (cI n ar)) (hr : iR a) (hA : ∀ j, j < n → iR (ar j)) : m_Cv G MX7_size (m_r d 0 0) [.ref 1, vI a] w (some (vI (cntF (fun s => ar s.toNat == a) n 0))) w := by
  refine m_enter (L := [some (.ref 1), some (vI a), none, none]) (by decide) hG (m_c1 rfl) (Nat.le_of_ble_eq_true rfl) rfl ?_
  refine i_const 1 dX7_size_0 rfl ?_
  refine m_istore_n 2 dX7_size_1 rfl (by decide) ?_
  refine i_const 3 dX7_size_2 rfl ?_
  refine m_istore_n 4 dX7_size_3 rfl (by decide) ?_
  exact l_X7_size hG d hX h21 hr hA n 0 0 (by omega) (by omega) (by omega)
theorem tuR {k W H t : Int} (hF : 0 ≤ k ∧ k ≤ 4 ∧ 1 ≤ W ∧ W ≤ 16) (h : 0 ≤ t ∧ t < tuN k W H) : 0 ≤ t ∧ (k = 3 → t < 2 * W) ∧ (k ≠ 3 → t < 8) := by
  unfold tuN at h
  refine ⟨h.1, fun hk => ?_, fun hk => ?_⟩
  · rw [if_neg (by omega), if_pos hk] at h; exact h.2
  · by_cases h4 : k = 4
    · rw [if_pos h4] at h; omega
    · rw [if_neg h4, if_neg hk] at h
      split at h <;> omega
theorem tuB {k W H : Int} (hF : 0 ≤ k ∧ k ≤ 4 ∧ 1 ≤ W ∧ W ≤ 16) : 1 ≤ tuN k W H ∧ tuN k W H ≤ 32 := by
  unfold tuN
  repeat' split
  all_goals omega
set_option maxHeartbeats 4000000 in
set_option maxRecDepth 100000 in
theorem c_X7_image (hG : m_G G) (d : Nat) {k W H : Int} {n sl m : Nat} {col row bes : Nat → Int} {wal : Nat → Bool} (hX : cX w k W H n sl m col row bes wal) {t p : Int} (hp : 0 ≤ p ∧ p < n) (ht : iR t) : m_Cv G MX7_image (m_r (d + 3) 0 0) [.ref 1, vI t, vI p] w (some (vI (if inB t (tuN k W H) then trn k W H t (col p.toNat) (row p.toNat) else -1))) w := by
  have hXX := hX
  obtain ⟨h1, h2, h3, h4, h5, h6, h7, h8, hF, hN, hsl, hcr, hbs⟩ := hX
  have hFF := hF
  have hNN := hN
  have hnb := hF.n
  obtain ⟨hk0, hk4, hW1, hW2, hH1, hH2, hn, hg4⟩ := hF
  obtain ⟨hn1, hn2, hl1, hl2, hm, hm2⟩ := hN
  have htb := tuB (k := k) (W := W) (H := H) ⟨by omega, by omega, by omega, by omega⟩
  refine m_enter (L := [some (.ref 1), some (vI t), some (vI p)]) (by decide) hG (m_c1 rfl) (Nat.le_of_ble_eq_true rfl) rfl ?_
  refine m_aload_n 1 dX7_image_0 rfl rfl ?_
  refine m_iload_n 2 dX7_image_1 rfl rfl ?_
  refine m_cV (M' := MX7_demandPlace) 5 [_] kX7_77 imX7_demandPlace seX7_demandPlace clX7_demandPlace dX7_image_2 rfl rfl rfl (by first | rfl | assumption) (m_rmI (by omega) (Nat.le_of_ble_eq_true rfl) (Nat.le_refl _) (Nat.le_refl _)) (c_X7_demandPlace hG (d + 1) hXX ⟨by omega, by omega⟩) ?_
  refine m_aload_n 6 dX7_image_5 rfl rfl ?_
  refine m_getf 9 foX7_30 dX7_image_6 rfl (by first | rfl | assumption) (by rfl) ?_
  refine m_iload_n 10 dX7_image_9 rfl rfl ?_
  refine m_cV (M' := MX5_has) 13 [_] kX7_135 imX5_has seX5_has clX5_has dX7_image_10 rfl rfl rfl (by first | rfl | assumption) (m_rmI (by omega) (Nat.le_of_ble_eq_true rfl) (Nat.le_refl _) (Nat.le_refl _)) (c_X5_has hG (d + 2) h8 ⟨by omega, by omega⟩ ht) ?_
  refine b_if_eq 16 28 dX7_image_13 rfl (by decide) (fun q13 => ?_) (fun q13 => ?_)
  · refine i_const 29 dX7_image_28 rfl ?_
    refine i_ret _ dX7_image_29 rfl ⟨Nat.le_refl _, Nat.le_refl _⟩ ?_ ⟨rfl, rfl⟩
    first | (rw [if_pos q13]) | (rw [if_neg (by rw [q13]; decide)])
  · refine m_aload_n 17 dX7_image_16 rfl rfl ?_
    refine m_getf 20 foX7_30 dX7_image_17 rfl (by first | rfl | assumption) (by rfl) ?_
    refine m_iload_n 21 dX7_image_20 rfl rfl ?_
    refine m_iload_n 22 dX7_image_21 rfl rfl ?_
    refine m_cV (M' := MX5_placeAfter) 25 [_, _] kX7_139 imX5_placeAfter seX5_placeAfter clX5_placeAfter dX7_image_22 rfl rfl rfl (by first | rfl | assumption) (m_rmI (by omega) (Nat.le_of_ble_eq_true rfl) (Nat.le_refl _) (Nat.le_refl _)) (c_X5_placeAfter hG d h8 h2 hFF h3 h4 hp (hXX.xy hp) (tuR ⟨by omega, by omega, by omega, by omega⟩ (inB_t.mp q13))) ?_
    refine m_goto 29 dX7_image_25 (by decide) ?_
    refine i_ret _ dX7_image_29 rfl ⟨Nat.le_refl _, Nat.le_refl _⟩ ?_ ⟨rfl, rfl⟩
    first | (rw [if_pos q13]) | (rw [if_neg (by rw [q13]; decide)])
def sumF (g : Int → Int) : Nat → Int → Int
  | 0, _ => 0
  | k + 1, i => g i + sumF g k (i + 1)
def prP (sl : Nat) (bes : Nat → Int) (wal : Nat → Bool) (wd : Bool) (p : Int) : Int → Bool := fun s => decide (p < bAt sl bes p s) && (!wd || wAt sl wal p s)
set_option maxHeartbeats 4000000 in
set_option maxRecDepth 100000 in
theorem l_X7_pairsI (hG : m_G G) (d : Nat) {k W H : Int} {n sl m : Nat} {col row bes : Nat → Int} {wal : Nat → Bool} (hX : cX w k W H n sl m col row bes wal) {p t : Int} {wd : Bool} {Q : Option (Option Value) → List mC → Prop} (hp : 0 ≤ p ∧ p < n)
    (kk : ∀ (x4 x5 : Option Value), m_J G MX7_pairs (m_r (d + 2) 0 0) Q 0 0 82 [some (.ref 1), some (vB wd), some (vI t), some (vI p), x4, x5] [] w) :
    ∀ (j : Nat) (i f : Int) (x5 : Option Value), 0 ≤ i → i + j = sl → f + cntF (prP sl bes wal wd p) j i = t → m_J G MX7_pairs (m_r (d + 2) 0 0) Q 0 0 18 [some (.ref 1), some (vB wd), some (vI f), some (vI p), some (vI i), x5] [] w := by
  have hXX := hX
  obtain ⟨h1, h2, h3, h4, h5, h6, h7, h8, hF, hN, hsl, hcr, hbs⟩ := hX
  have hFF := hF
  have hNN := hN
  have hnb := hF.n
  obtain ⟨hk0, hk4, hW1, hW2, hH1, hH2, hn, hg4⟩ := hF
  obtain ⟨hn1, hn2, hl1, hl2, hm, hm2⟩ := hN
  intro j
  induction j with
  | zero =>
    intro i f x5 hi0 hij ht
    have hft : f = t := by simp only [cntF] at ht; omega
    subst hft
    refine m_iload 20 dX7_pairs_18 rfl rfl ?_
    refine m_aload_n 21 dX7_pairs_20 rfl rfl ?_
    refine m_getf 24 foX7_23 dX7_pairs_21 rfl (by first | rfl | assumption) (by rfl) ?_
    refine m_getf 27 foX7_91 dX7_pairs_24 rfl (by first | rfl | assumption) (by rfl) ?_
    refine i_icmp_ge 30 82 ⟨by omega, by omega⟩ ⟨by omega, by omega⟩ dX7_pairs_27 rfl (by decide) (fun _ => ?_) (fun h => absurd h (by omega))
    exact kk _ _
  | succ j ih =>
    intro i f x5 hi0 hij ht
    have hs : 0 ≤ i ∧ i < (sl : Int) := by omega
    have hb := hXX.bes hp i hs.1 hs.2
    unfold cntF at ht
    unfold prP at ht ih
    refine m_iload 20 dX7_pairs_18 rfl rfl ?_
    refine m_aload_n 21 dX7_pairs_20 rfl rfl ?_
    refine m_getf 24 foX7_23 dX7_pairs_21 rfl (by first | rfl | assumption) (by rfl) ?_
    refine m_getf 27 foX7_91 dX7_pairs_24 rfl (by first | rfl | assumption) (by rfl) ?_
    refine i_icmp_ge 30 82 ⟨by omega, by omega⟩ ⟨by omega, by omega⟩ dX7_pairs_27 rfl (by decide) (fun h => absurd h (by omega)) (fun _ => ?_)
    refine m_aload_n 31 dX7_pairs_30 rfl rfl ?_
    refine m_getf 34 foX7_23 dX7_pairs_31 rfl (by first | rfl | assumption) (by rfl) ?_
    refine m_iload_n 35 dX7_pairs_34 rfl rfl ?_
    refine m_iload 37 dX7_pairs_35 rfl rfl ?_
    refine m_cV (M' := MX2_besideAt) 40 [_, _] kX7_97 imX2_besideAt seX2_besideAt clX2_besideAt dX7_pairs_37 rfl rfl rfl (by first | rfl | assumption) (m_rmI (by omega) (Nat.le_of_ble_eq_true rfl) (Nat.le_refl _) (Nat.le_refl _)) (c_X2_besideAt hG d h5 hNN h6 hp hs) ?_
    refine m_iload_n 41 dX7_pairs_40 rfl rfl ?_
    refine i_icmp_le 44 48 ⟨by omega, by omega⟩ ⟨by omega, by omega⟩ dX7_pairs_41 rfl (by decide) (fun q41 => ?_) (fun q41 => ?_)
    · refine i_const 49 dX7_pairs_48 rfl ?_
      refine m_istore 51 dX7_pairs_49 rfl (by decide) ?_
      refine m_iload 53 dX7_pairs_51 rfl rfl ?_
      refine i_if_eq 56 76 ⟨by omega, by omega⟩ dX7_pairs_53 rfl (by decide) (fun _ => ?_) (fun h => absurd h (by decide))
      refine i_inc 79 dX7_pairs_76 rfl rfl (by decide) ?_
      refine m_goto 18 dX7_pairs_79 (by decide) ?_
      refine ih _ _ _ (by omega) (by omega) ?_
      first
        | (rw [if_neg (by simp only [Bool.and_eq_true, decide_eq_true_eq]; omega)] at ht; omega)
        | (rw [if_neg (by simp_all)] at ht; omega)
        | (rw [if_pos (by simp_all)] at ht; omega)
    · refine i_const 45 dX7_pairs_44 rfl ?_
      refine m_goto 49 dX7_pairs_45 (by decide) ?_
      refine m_istore 51 dX7_pairs_49 rfl (by decide) ?_
      refine m_iload 53 dX7_pairs_51 rfl rfl ?_
      refine i_if_eq 56 76 ⟨by omega, by omega⟩ dX7_pairs_53 rfl (by decide) (fun h => absurd h (by decide)) (fun _ => ?_)
      refine m_iload_n 57 dX7_pairs_56 rfl rfl ?_
      refine b_if_eq 60 73 dX7_pairs_57 rfl (by decide) (fun q57 => ?_) (fun q57 => ?_)
      · refine i_inc 76 dX7_pairs_73 rfl rfl (by decide) ?_
        refine i_inc 79 dX7_pairs_76 rfl rfl (by decide) ?_
        refine m_goto 18 dX7_pairs_79 (by decide) ?_
        refine ih _ _ _ (by omega) (by omega) ?_
        first
          | (rw [if_neg (by simp only [Bool.and_eq_true, decide_eq_true_eq]; omega)] at ht; omega)
          | (rw [if_neg (by simp_all)] at ht; omega)
          | (rw [if_pos (by simp_all)] at ht; omega)
      · refine m_aload_n 61 dX7_pairs_60 rfl rfl ?_
        refine m_getf 64 foX7_23 dX7_pairs_61 rfl (by first | rfl | assumption) (by rfl) ?_
        refine m_iload_n 65 dX7_pairs_64 rfl rfl ?_
        refine m_iload 67 dX7_pairs_65 rfl rfl ?_
        refine m_cV (M' := MX2_walledAt) 70 [_, _] kX7_100 imX2_walledAt seX2_walledAt clX2_walledAt dX7_pairs_67 rfl rfl rfl (by first | rfl | assumption) (m_rmI (by omega) (Nat.le_of_ble_eq_true rfl) (Nat.le_refl _) (Nat.le_refl _)) (c_X2_walledAt hG d h5 hNN h7 hp hs) ?_
        refine b_if_eq 73 76 dX7_pairs_70 rfl (by decide) (fun q70 => ?_) (fun q70 => ?_)
        · refine i_inc 79 dX7_pairs_76 rfl rfl (by decide) ?_
          refine m_goto 18 dX7_pairs_79 (by decide) ?_
          refine ih _ _ _ (by omega) (by omega) ?_
          first
            | (rw [if_neg (by simp only [Bool.and_eq_true, decide_eq_true_eq]; omega)] at ht; omega)
            | (rw [if_neg (by simp_all)] at ht; omega)
            | (rw [if_pos (by simp_all)] at ht; omega)
        · refine i_inc 76 dX7_pairs_73 rfl rfl (by decide) ?_
          refine i_inc 79 dX7_pairs_76 rfl rfl (by decide) ?_
          refine m_goto 18 dX7_pairs_79 (by decide) ?_
          refine ih _ _ _ (by omega) (by omega) ?_
          first
            | (rw [if_neg (by simp only [Bool.and_eq_true, decide_eq_true_eq]; omega)] at ht; omega)
            | (rw [if_neg (by simp_all)] at ht; omega)
            | (rw [if_pos (by simp_all)] at ht; omega)
set_option maxHeartbeats 4000000 in
set_option maxRecDepth 100000 in
theorem l_X7_pairs (hG : m_G G) (d : Nat) {k W H : Int} {n sl m : Nat} {col row bes : Nat → Int} {wal : Nat → Bool} (hX : cX w k W H n sl m col row bes wal) {t : Int} {wd : Bool} :
    ∀ (j : Nat) (p f : Int) (x4 x5 : Option Value), 0 ≤ p → p + j = n → f + sumF (fun p => cntF (prP sl bes wal wd p) sl 0) j p = t → m_J G MX7_pairs (m_r (d + 2) 0 0) (fun r x => r = some (some (vI t)) ∧ x = w) 0 0 4 [some (.ref 1), some (vB wd), some (vI f), some (vI p), x4, x5] [] w := by
  have hXX := hX
  obtain ⟨h1, h2, h3, h4, h5, h6, h7, h8, hF, hN, hsl, hcr, hbs⟩ := hX
  have hFF := hF
  have hNN := hN
  have hnb := hF.n
  obtain ⟨hk0, hk4, hW1, hW2, hH1, hH2, hn, hg4⟩ := hF
  obtain ⟨hn1, hn2, hl1, hl2, hm, hm2⟩ := hN
  intro j
  induction j with
  | zero =>
    intro p f x4 x5 hi0 hij ht
    refine m_iload_n 5 dX7_pairs_4 rfl rfl ?_
    refine m_aload_n 6 dX7_pairs_5 rfl rfl ?_
    refine m_getf 9 foX7_12 dX7_pairs_6 rfl (by first | rfl | assumption) (by rfl) ?_
    refine m_getf 12 foX7_66 dX7_pairs_9 rfl (by first | rfl | assumption) (by rfl) ?_
    refine i_icmp_ge 15 88 ⟨by omega, by omega⟩ ⟨by omega, by omega⟩ dX7_pairs_12 rfl (by decide) (fun _ => ?_) (fun h => absurd h (by omega))
    refine m_iload_n 89 dX7_pairs_88 rfl rfl ?_
    refine i_ret _ dX7_pairs_89 rfl ⟨Nat.le_refl _, Nat.le_refl _⟩ ?_ ⟨rfl, rfl⟩
    simp only [sumF] at ht; omega
  | succ j ih =>
    intro p f x4 x5 hi0 hij ht
    unfold sumF at ht
    refine m_iload_n 5 dX7_pairs_4 rfl rfl ?_
    refine m_aload_n 6 dX7_pairs_5 rfl rfl ?_
    refine m_getf 9 foX7_12 dX7_pairs_6 rfl (by first | rfl | assumption) (by rfl) ?_
    refine m_getf 12 foX7_66 dX7_pairs_9 rfl (by first | rfl | assumption) (by rfl) ?_
    refine i_icmp_ge 15 88 ⟨by omega, by omega⟩ ⟨by omega, by omega⟩ dX7_pairs_12 rfl (by decide) (fun h => absurd h (by omega)) (fun _ => ?_)
    refine i_const 16 dX7_pairs_15 rfl ?_
    refine m_istore 18 dX7_pairs_16 rfl (by decide) ?_
    refine l_X7_pairsI hG d hXX ⟨hi0, by omega⟩ (t := f + cntF (prP sl bes wal wd p) sl 0) (fun x4 x5 => ?_) sl 0 f _ (by omega) (by omega) rfl
    refine i_inc 85 dX7_pairs_82 rfl rfl (by decide) ?_
    refine m_goto 4 dX7_pairs_85 (by decide) ?_
    exact ih _ _ _ _ (by omega) (by omega) (by omega)
set_option maxHeartbeats 4000000 in
set_option maxRecDepth 100000 in
theorem c_X7_pairs (hG : m_G G) (d : Nat) {k W H : Int} {n sl m : Nat} {col row bes : Nat → Int} {wal : Nat → Bool} (hX : cX w k W H n sl m col row bes wal) {wd : Bool} : m_Cv G MX7_pairs (m_r (d + 2) 0 0) [.ref 1, vB wd] w (some (vI (sumF (fun p => cntF (prP sl bes wal wd p) sl 0) n 0))) w := by
  refine m_enter (L := [some (.ref 1), some (vB wd), none, none, none, none]) (by decide) hG (m_c1 rfl) (Nat.le_of_ble_eq_true rfl) rfl ?_
  refine i_const 1 dX7_pairs_0 rfl ?_
  refine m_istore_n 2 dX7_pairs_1 rfl (by decide) ?_
  refine i_const 3 dX7_pairs_2 rfl ?_
  refine m_istore_n 4 dX7_pairs_3 rfl (by decide) ?_
  exact l_X7_pairs hG d hX n 0 0 _ _ (by omega) (by omega) (by omega)
theorem lbF_r {f : Int → Int} {b hi : Int} : ∀ (k : Nat) (i l : Int), (∀ s, i ≤ s → s < i + k → f s < hi) → -1 ≤ b → (l = -1 ∨ (b < l ∧ l < hi)) → lbF f b k i l = -1 ∨ (b < lbF f b k i l ∧ lbF f b k i l < hi)
  | 0, i, l, _, _, h => h
  | k + 1, i, l, hf, hb, h => by
    unfold lbF
    refine lbF_r k (i + 1) _ (fun s h1 h2 => hf s (by omega) (by omega)) hb ?_
    have := hf i (by omega) (by omega)
    split <;> omega
/-- the pairs of the lesser place l, from o on: the answer, or how many were passed -/
def prI (lb : Int → Int) (c l : Int) (gr : Bool) : Nat → Int → Int → Int ⊕ Int
  | 0, _, f => .inr f
  | k + 1, o, f => if o = -1 then .inr f else if f = c then .inl (if gr then o else l) else prI lb c l gr k (lb o) (f + 1)
def prO (sl : Nat) (bes : Nat → Int) (c : Int) (gr : Bool) : Nat → Int → Int → Int
  | 0, _, _ => -1
  | k + 1, l, f => match prI (lbN sl bes l) c l gr sl (lbN sl bes l l) f with
    | .inl v => v
    | .inr f2 => prO sl bes c gr k (l + 1) f2
theorem prI_le (lb : Int → Int) (c l : Int) (gr : Bool) : ∀ (k : Nat) (o f f2 : Int), prI lb c l gr k o f = .inr f2 → f ≤ f2 ∧ f2 ≤ f + k
  | 0, o, f, f2, h => by simp only [prI, Sum.inr.injEq] at h; omega
  | k + 1, o, f, f2, h => by
    unfold prI at h
    split at h
    · simp only [Sum.inr.injEq] at h; omega
    · split at h
      · cases h
      · have := prI_le lb c l gr k _ _ f2 h
        omega
set_option maxHeartbeats 4000000 in
set_option maxRecDepth 100000 in
theorem l_X7_pairI (hG : m_G G) (d : Nat) {k W H : Int} {n sl m : Nat} {col row bes : Nat → Int} {wal : Nat → Bool} (hX : cX w k W H n sl m col row bes wal) {l c : Int} {gr : Bool} {Q : Option (Option Value) → List mC → Prop} (hl : 0 ≤ l ∧ l < n) (hc : iR c) {res : Int ⊕ Int}
    (kr : ∀ v : Int, res = .inl v → Q (some (some (vI v))) w) (kk : ∀ (f2 : Int) (x5 x6 : Option Value), res = .inr f2 → m_J G MX7_pair (m_r (d + 3) 0 0) Q 0 0 90 [some (.ref 1), some (vI c), some (vB gr), some (vI f2), some (vI l), x5, x6] [] w) :
    ∀ (j : Nat) (i f o : Int), 0 ≤ i → i + j = sl → (o = -1 ∨ (l < o ∧ o < n)) → 0 ≤ f → f + j ≤ 65536 → prI (lbN sl bes l) c l gr j o f = res → m_J G MX7_pair (m_r (d + 3) 0 0) Q 0 0 33 [some (.ref 1), some (vI c), some (vB gr), some (vI f), some (vI l), some (vI o), some (vI i)] [] w := by
  have hXX := hX
  obtain ⟨h1, h2, h3, h4, h5, h6, h7, h8, hF, hN, hsl, hcr, hbs⟩ := hX
  have hFF := hF
  have hNN := hN
  have hnb := hF.n
  obtain ⟨hk0, hk4, hW1, hW2, hH1, hH2, hn, hg4⟩ := hF
  obtain ⟨hn1, hn2, hl1, hl2, hm, hm2⟩ := hN
  obtain ⟨hc1, hc2⟩ := hc
  intro j
  induction j with
  | zero =>
    intro i f o hi0 hij ho hf0 hf1 ht
    refine m_iload 35 dX7_pair_33 rfl rfl ?_
    refine m_aload_n 36 dX7_pair_35 rfl rfl ?_
    refine m_getf 39 foX7_23 dX7_pair_36 rfl (by first | rfl | assumption) (by rfl) ?_
    refine m_getf 42 foX7_91 dX7_pair_39 rfl (by first | rfl | assumption) (by rfl) ?_
    refine i_icmp_ge 45 90 ⟨by omega, by omega⟩ ⟨by omega, by omega⟩ dX7_pair_42 rfl (by decide) (fun _ => ?_) (fun h => absurd h (by omega))
    exact kk _ _ _ ht.symm
  | succ j ih =>
    intro i f o hi0 hij ho hf0 hf1 ht
    unfold prI at ht
    refine m_iload 35 dX7_pair_33 rfl rfl ?_
    refine m_aload_n 36 dX7_pair_35 rfl rfl ?_
    refine m_getf 39 foX7_23 dX7_pair_36 rfl (by first | rfl | assumption) (by rfl) ?_
    refine m_getf 42 foX7_91 dX7_pair_39 rfl (by first | rfl | assumption) (by rfl) ?_
    refine i_icmp_ge 45 90 ⟨by omega, by omega⟩ ⟨by omega, by omega⟩ dX7_pair_42 rfl (by decide) (fun h => absurd h (by omega)) (fun _ => ?_)
    refine m_iload 47 dX7_pair_45 rfl rfl ?_
    refine i_const 48 dX7_pair_47 rfl ?_
    refine i_icmp_eq 51 90 ⟨by omega, by omega⟩ ⟨by omega, by omega⟩ dX7_pair_48 rfl (by decide) (fun q48 => ?_) (fun q48 => ?_)
    · rw [if_pos q48] at ht; exact kk _ _ _ ht.symm
    · refine m_iload_n 52 dX7_pair_51 rfl rfl ?_
      refine m_iload_n 53 dX7_pair_52 rfl rfl ?_
      refine i_icmp_ne 56 68 ⟨by omega, by omega⟩ ⟨by omega, by omega⟩ dX7_pair_53 rfl (by decide) (fun q53 => ?_) (fun q53 => ?_)
      · refine i_inc 71 dX7_pair_68 rfl rfl (by decide) ?_
        refine m_aload_n 72 dX7_pair_71 rfl rfl ?_
        refine m_getf 75 foX7_23 dX7_pair_72 rfl (by first | rfl | assumption) (by rfl) ?_
        refine m_iload 77 dX7_pair_75 rfl rfl ?_
        refine m_iload 79 dX7_pair_77 rfl rfl ?_
        refine m_cV (M' := MX2_leastBeyond) 82 [_, _] kX7_108 imX2_leastBeyond seX2_leastBeyond clX2_leastBeyond dX7_pair_79 rfl rfl rfl (by first | rfl | assumption) (m_rmI (by omega) (Nat.le_of_ble_eq_true rfl) (Nat.le_refl _) (Nat.le_refl _)) (c_X2_leastBeyond hG d h5 hNN h6 hl ⟨by omega, by omega⟩ (hXX.besR hl)) ?_
        refine m_istore 84 dX7_pair_82 rfl (by decide) ?_
        refine i_inc 87 dX7_pair_84 rfl rfl (by decide) ?_
        refine m_goto 33 dX7_pair_87 (by decide) ?_
        rw [if_neg q48, if_neg q53] at ht
        refine ih _ _ _ (by omega) (by omega) ?_ (by omega) (by omega) ht
        have h9 := lbF_r (f := bAt sl bes l) (b := o) (hi := n) sl 0 (-1) (fun s h1 h2 => (hXX.bes hl s h1 (by omega)).2) (by omega) (Or.inl rfl)
        unfold lbN
        omega
      · refine m_iload_n 57 dX7_pair_56 rfl rfl ?_
        refine b_if_eq 60 65 dX7_pair_57 rfl (by decide) (fun q57 => ?_) (fun q57 => ?_)
        · refine m_iload 67 dX7_pair_65 rfl rfl ?_
          rw [if_neg q48, if_pos q53] at ht
          refine i_ret _ dX7_pair_67 rfl ⟨Nat.le_refl _, Nat.le_refl _⟩ ?_ (kr _ ht.symm)
          simp [q57]
        · refine m_iload 62 dX7_pair_60 rfl rfl ?_
          refine m_goto 67 dX7_pair_62 (by decide) ?_
          rw [if_neg q48, if_pos q53] at ht
          refine i_ret _ dX7_pair_67 rfl ⟨Nat.le_refl _, Nat.le_refl _⟩ ?_ (kr _ ht.symm)
          simp [q57]
set_option maxHeartbeats 4000000 in
set_option maxRecDepth 100000 in
theorem l_X7_pair (hG : m_G G) (d : Nat) {k W H : Int} {n sl m : Nat} {col row bes : Nat → Int} {wal : Nat → Bool} (hX : cX w k W H n sl m col row bes wal) {c t : Int} {gr : Bool} (hc : iR c) :
    ∀ (j : Nat) (l f : Int) (x5 x6 : Option Value), 0 ≤ l → l + j = n → 0 ≤ f → f ≤ l * 256 → prO sl bes c gr j l f = t → m_J G MX7_pair (m_r (d + 3) 0 0) (fun r x => r = some (some (vI t)) ∧ x = w) 0 0 5 [some (.ref 1), some (vI c), some (vB gr), some (vI f), some (vI l), x5, x6] [] w := by
  have hXX := hX
  obtain ⟨h1, h2, h3, h4, h5, h6, h7, h8, hF, hN, hsl, hcr, hbs⟩ := hX
  have hFF := hF
  have hNN := hN
  have hnb := hF.n
  obtain ⟨hk0, hk4, hW1, hW2, hH1, hH2, hn, hg4⟩ := hF
  obtain ⟨hn1, hn2, hl1, hl2, hm, hm2⟩ := hN
  intro j
  induction j with
  | zero =>
    intro l f x5 x6 hi0 hij hf0 hf1 ht
    refine m_iload 7 dX7_pair_5 rfl rfl ?_
    refine m_aload_n 8 dX7_pair_7 rfl rfl ?_
    refine m_getf 11 foX7_12 dX7_pair_8 rfl (by first | rfl | assumption) (by rfl) ?_
    refine m_getf 14 foX7_66 dX7_pair_11 rfl (by first | rfl | assumption) (by rfl) ?_
    refine i_icmp_ge 17 96 ⟨by omega, by omega⟩ ⟨by omega, by omega⟩ dX7_pair_14 rfl (by decide) (fun _ => ?_) (fun h => absurd h (by omega))
    refine i_const 97 dX7_pair_96 rfl ?_
    refine i_ret _ dX7_pair_97 rfl ⟨Nat.le_refl _, Nat.le_refl _⟩ ?_ ⟨rfl, rfl⟩
    exact ht
  | succ j ih =>
    intro l f x5 x6 hi0 hij hf0 hf1 ht
    have hl : 0 ≤ l ∧ l < (n : Int) := by omega
    unfold prO at ht
    have h9 := lbF_r (f := bAt sl bes l) (b := l) (hi := n) sl 0 (-1) (fun s h1 h2 => (hXX.bes hl s h1 (by omega)).2) (by omega) (Or.inl rfl)
    refine m_iload 7 dX7_pair_5 rfl rfl ?_
    refine m_aload_n 8 dX7_pair_7 rfl rfl ?_
    refine m_getf 11 foX7_12 dX7_pair_8 rfl (by first | rfl | assumption) (by rfl) ?_
    refine m_getf 14 foX7_66 dX7_pair_11 rfl (by first | rfl | assumption) (by rfl) ?_
    refine i_icmp_ge 17 96 ⟨by omega, by omega⟩ ⟨by omega, by omega⟩ dX7_pair_14 rfl (by decide) (fun h => absurd h (by omega)) (fun _ => ?_)
    refine m_aload_n 18 dX7_pair_17 rfl rfl ?_
    refine m_getf 21 foX7_23 dX7_pair_18 rfl (by first | rfl | assumption) (by rfl) ?_
    refine m_iload 23 dX7_pair_21 rfl rfl ?_
    refine m_iload 25 dX7_pair_23 rfl rfl ?_
    refine m_cV (M' := MX2_leastBeyond) 28 [_, _] kX7_108 imX2_leastBeyond seX2_leastBeyond clX2_leastBeyond dX7_pair_25 rfl rfl rfl (by first | rfl | assumption) (m_rmI (by omega) (Nat.le_of_ble_eq_true rfl) (Nat.le_refl _) (Nat.le_refl _)) (c_X2_leastBeyond hG d h5 hNN h6 hl ⟨by omega, by omega⟩ (hXX.besR hl)) ?_
    refine m_istore 30 dX7_pair_28 rfl (by decide) ?_
    refine i_const 31 dX7_pair_30 rfl ?_
    refine m_istore 33 dX7_pair_31 rfl (by decide) ?_
    refine l_X7_pairI hG d hXX hl hc (res := prI (lbN sl bes l) c l gr sl (lbN sl bes l l) f) (fun v hv => ?_) (fun f2 x5 x6 hv => ?_) sl 0 f _ (by omega) (by omega) (by unfold lbN; omega) (by omega) (by omega) rfl
    · rw [hv] at ht
      exact ⟨by rw [← ht], rfl⟩
    · rw [hv] at ht
      have h8 := prI_le _ _ _ _ _ _ _ _ hv
      refine i_inc 93 dX7_pair_90 rfl rfl (by decide) ?_
      refine m_goto 5 dX7_pair_93 (by decide) ?_
      exact ih _ _ _ _ (by omega) (by omega) (by omega) (by omega) ht
set_option maxHeartbeats 4000000 in
set_option maxRecDepth 100000 in
theorem c_X7_pair (hG : m_G G) (d : Nat) {k W H : Int} {n sl m : Nat} {col row bes : Nat → Int} {wal : Nat → Bool} (hX : cX w k W H n sl m col row bes wal) {c : Int} {gr : Bool} (hc : iR c) : m_Cv G MX7_pair (m_r (d + 3) 0 0) [.ref 1, vI c, vB gr] w (some (vI (prO sl bes c gr n 0 0))) w := by
  refine m_enter (L := [some (.ref 1), some (vI c), some (vB gr), none, none, none, none]) (by decide) hG (m_c1 rfl) (Nat.le_of_ble_eq_true rfl) rfl ?_
  refine i_const 1 dX7_pair_0 rfl ?_
  refine m_istore_n 2 dX7_pair_1 rfl (by decide) ?_
  refine i_const 3 dX7_pair_2 rfl ?_
  refine m_istore 5 dX7_pair_3 rfl (by decide) ?_
  exact l_X7_pair hG d hX hc n 0 0 _ _ (by omega) (by omega) (by omega) (by omega) rfl
def seF (op : Int → Int) (p i : Int) : Nat → Int → Int → Int
  | 0, _, _ => -1
  | k + 1, q, l => if l = -1 then -1 else if l = p then -1 else if q = i then l else seF op p i k (q + 1) (op l)
set_option maxHeartbeats 4000000 in
set_option maxRecDepth 100000 in
theorem l_X7_seen (hG : m_G G) (d : Nat) {k W H : Int} {n sl m : Nat} {col row bes : Nat → Int} {wal : Nat → Bool} (hX : cX w k W H n sl m col row bes wal) {p r i t : Int} (hp : 0 ≤ p ∧ p < n) (hr : 0 ≤ r ∧ r < sl) (hi : iR i) :
    ∀ (j : Nat) (q l : Int), 0 ≤ q → q + j = n → -1 ≤ l ∧ l < n → seF (fun z => oAt sl bes wal z r) p i j q l = t → m_J G MX7_seen (m_r (d + 3) 0 0) (fun r x => r = some (some (vI t)) ∧ x = w) 0 0 36 [some (.ref 1), some (vI p), some (vI r), some (vI i), some (vI l), some (vI q)] [] w := by
  have hXX := hX
  obtain ⟨h1, h2, h3, h4, h5, h6, h7, h8, hF, hN, hsl, hcr, hbs⟩ := hX
  have hFF := hF
  have hNN := hN
  have hnb := hF.n
  obtain ⟨hk0, hk4, hW1, hW2, hH1, hH2, hn, hg4⟩ := hF
  obtain ⟨hn1, hn2, hl1, hl2, hm, hm2⟩ := hN
  obtain ⟨hi1, hi2⟩ := hi
  intro j
  induction j with
  | zero =>
    intro q l hq0 hqj hl ht
    refine m_iload 38 dX7_seen_36 rfl rfl ?_
    refine m_aload_n 39 dX7_seen_38 rfl rfl ?_
    refine m_getf 42 foX7_12 dX7_seen_39 rfl (by first | rfl | assumption) (by rfl) ?_
    refine m_getf 45 foX7_66 dX7_seen_42 rfl (by first | rfl | assumption) (by rfl) ?_
    refine i_icmp_ge 48 87 ⟨by omega, by omega⟩ ⟨by omega, by omega⟩ dX7_seen_45 rfl (by decide) (fun _ => ?_) (fun h => absurd h (by omega))
    refine i_const 88 dX7_seen_87 rfl ?_
    refine i_ret _ dX7_seen_88 rfl ⟨Nat.le_refl _, Nat.le_refl _⟩ ?_ ⟨rfl, rfl⟩
    exact ht
  | succ j ih =>
    intro q l hq0 hqj hl ht
    unfold seF at ht
    refine m_iload 38 dX7_seen_36 rfl rfl ?_
    refine m_aload_n 39 dX7_seen_38 rfl rfl ?_
    refine m_getf 42 foX7_12 dX7_seen_39 rfl (by first | rfl | assumption) (by rfl) ?_
    refine m_getf 45 foX7_66 dX7_seen_42 rfl (by first | rfl | assumption) (by rfl) ?_
    refine i_icmp_ge 48 87 ⟨by omega, by omega⟩ ⟨by omega, by omega⟩ dX7_seen_45 rfl (by decide) (fun h => absurd h (by omega)) (fun _ => ?_)
    refine m_iload 50 dX7_seen_48 rfl rfl ?_
    refine i_const 51 dX7_seen_50 rfl ?_
    refine i_icmp_eq 54 87 ⟨by omega, by omega⟩ ⟨by omega, by omega⟩ dX7_seen_51 rfl (by decide) (fun q51 => ?_) (fun q51 => ?_)
    · refine i_const 88 dX7_seen_87 rfl ?_
      refine i_ret _ dX7_seen_88 rfl ⟨Nat.le_refl _, Nat.le_refl _⟩ ?_ ⟨rfl, rfl⟩
      first | (rw [if_pos q51] at ht; exact ht) | (rw [if_neg q51, if_pos q57] at ht; exact ht) | (rw [if_neg q51, if_neg q57, if_pos q63] at ht; exact ht)
    · refine m_iload 56 dX7_seen_54 rfl rfl ?_
      refine m_iload_n 57 dX7_seen_56 rfl rfl ?_
      refine i_icmp_eq 60 87 ⟨by omega, by omega⟩ ⟨by omega, by omega⟩ dX7_seen_57 rfl (by decide) (fun q57 => ?_) (fun q57 => ?_)
      · refine i_const 88 dX7_seen_87 rfl ?_
        refine i_ret _ dX7_seen_88 rfl ⟨Nat.le_refl _, Nat.le_refl _⟩ ?_ ⟨rfl, rfl⟩
        first | (rw [if_pos q51] at ht; exact ht) | (rw [if_neg q51, if_pos q57] at ht; exact ht) | (rw [if_neg q51, if_neg q57, if_pos q63] at ht; exact ht)
      · refine m_iload 62 dX7_seen_60 rfl rfl ?_
        refine m_iload_n 63 dX7_seen_62 rfl rfl ?_
        refine i_icmp_ne 66 69 ⟨by omega, by omega⟩ ⟨by omega, by omega⟩ dX7_seen_63 rfl (by decide) (fun q63 => ?_) (fun q63 => ?_)
        · refine m_aload_n 70 dX7_seen_69 rfl rfl ?_
          refine m_getf 73 foX7_23 dX7_seen_70 rfl (by first | rfl | assumption) (by rfl) ?_
          refine m_iload 75 dX7_seen_73 rfl rfl ?_
          refine m_iload_n 76 dX7_seen_75 rfl rfl ?_
          refine m_cV (M' := MX2_openAt) 79 [_, _] kX7_94 imX2_openAt seX2_openAt clX2_openAt dX7_seen_76 rfl rfl rfl (by first | rfl | assumption) (m_rmI (by omega) (Nat.le_of_ble_eq_true rfl) (Nat.le_refl _) (Nat.le_refl _)) (c_X2_openAt hG d h5 hNN h6 h7 ⟨by omega, by omega⟩ hr) ?_
          refine m_istore 81 dX7_seen_79 rfl (by decide) ?_
          refine i_inc 84 dX7_seen_81 rfl rfl (by decide) ?_
          refine m_goto 36 dX7_seen_84 (by decide) ?_
          rw [if_neg q51, if_neg q57, if_neg q63] at ht
          exact ih _ _ (by omega) (by omega) (hXX.oat ⟨by omega, by omega⟩ hr.1 hr.2) ht
        · refine m_iload 68 dX7_seen_66 rfl rfl ?_
          refine i_ret _ dX7_seen_68 rfl ⟨Nat.le_refl _, Nat.le_refl _⟩ ?_ ⟨rfl, rfl⟩
          first | (rw [if_pos q51] at ht; exact ht) | (rw [if_neg q51, if_pos q57] at ht; exact ht) | (rw [if_neg q51, if_neg q57, if_pos q63] at ht; exact ht)
theorem dirB {k : Int} {n sl : Nat} (h : sl = slN k n) {r : Int} (hr : 0 ≤ r ∧ r < dirN k) : 0 ≤ r ∧ r < sl := by
  unfold dirN at hr
  unfold slN at h
  split at hr
  · rename_i hk; rw [if_pos hk] at h; omega
  · rename_i hk
    rw [if_neg hk] at h
    split at hr
    · rename_i hk2; rw [if_pos hk2] at h; omega
    · rename_i hk2
      rw [if_neg hk2] at h
      split at hr
      · omega
      · rename_i hk3; rw [if_neg hk3] at h; omega
theorem dirR (k : Int) : 0 ≤ dirN k ∧ dirN k ≤ 6 := by unfold dirN; repeat' split
                                                       all_goals omega
set_option maxHeartbeats 4000000 in
set_option maxRecDepth 100000 in
theorem c_X7_seen (hG : m_G G) (d : Nat) {k W H : Int} {n sl m : Nat} {col row bes : Nat → Int} {wal : Nat → Bool} (hX : cX w k W H n sl m col row bes wal) {p r i : Int} (hp : 0 ≤ p ∧ p < n) (hr : iR r) (hi : iR i) : m_Cv G MX7_seen (m_r (d + 3) 0 0) [.ref 1, vI p, vI r, vI i] w (some (vI (if inB r (dirN k) then seF (fun z => oAt sl bes wal z r) p i n 0 (oAt sl bes wal p r) else -1))) w := by
  have hXX := hX
  obtain ⟨h1, h2, h3, h4, h5, h6, h7, h8, hF, hN, hsl, hcr, hbs⟩ := hX
  have hFF := hF
  have hNN := hN
  have hnb := hF.n
  obtain ⟨hk0, hk4, hW1, hW2, hH1, hH2, hn, hg4⟩ := hF
  obtain ⟨hn1, hn2, hl1, hl2, hm, hm2⟩ := hN
  obtain ⟨hr1, hr2⟩ := hr
  have hdr := dirR k
  refine m_enter (L := [some (.ref 1), some (vI p), some (vI r), some (vI i), none, none]) (by decide) hG (m_c1 rfl) (Nat.le_of_ble_eq_true rfl) rfl ?_
  refine m_aload_n 1 dX7_seen_0 rfl rfl ?_
  refine m_iload_n 2 dX7_seen_1 rfl rfl ?_
  refine m_cV (M' := MX7_demandPlace) 5 [_] kX7_77 imX7_demandPlace seX7_demandPlace clX7_demandPlace dX7_seen_2 rfl rfl rfl (by first | rfl | assumption) (m_rmI (by omega) (Nat.le_of_ble_eq_true rfl) (Nat.le_refl _) (Nat.le_refl _)) (c_X7_demandPlace hG (d + 1) hXX ⟨by omega, by omega⟩) ?_
  refine m_iload_n 6 dX7_seen_5 rfl rfl ?_
  refine i_if_lt 9 20 ⟨by omega, by omega⟩ dX7_seen_6 rfl (by decide) (fun q6 => ?_) (fun q6 => ?_)
  · refine i_const 21 dX7_seen_20 rfl ?_
    refine i_ret _ dX7_seen_21 rfl ⟨Nat.le_refl _, Nat.le_refl _⟩ ?_ ⟨rfl, rfl⟩
    rw [if_neg (by rw [inB_0 (by omega)]; decide)]
  · refine m_iload_n 10 dX7_seen_9 rfl rfl ?_
    refine m_aload_n 11 dX7_seen_10 rfl rfl ?_
    refine m_getf 14 foX7_12 dX7_seen_11 rfl (by first | rfl | assumption) (by rfl) ?_
    refine m_cV (M' := MX1_directions) 17 [] kX7_111 imX1_directions seX1_directions clX1_directions dX7_seen_14 rfl rfl rfl (by first | rfl | assumption) (m_rmI (by omega) (Nat.le_of_ble_eq_true rfl) (Nat.le_refl _) (Nat.le_refl _)) (c_X1_directions hG (d + 2) h2 hFF) ?_
    refine i_icmp_lt 20 22 ⟨by omega, by omega⟩ ⟨by omega, by omega⟩ dX7_seen_17 rfl (by decide) (fun q17 => ?_) (fun q17 => ?_)
    · have hrr : 0 ≤ r ∧ r < dirN k := ⟨by omega, q17⟩
      have hrs := dirB hsl hrr
      refine m_aload_n 23 dX7_seen_22 rfl rfl ?_
      refine m_getf 26 foX7_23 dX7_seen_23 rfl (by first | rfl | assumption) (by rfl) ?_
      refine m_iload_n 27 dX7_seen_26 rfl rfl ?_
      refine m_iload_n 28 dX7_seen_27 rfl rfl ?_
      refine m_cV (M' := MX2_openAt) 31 [_, _] kX7_94 imX2_openAt seX2_openAt clX2_openAt dX7_seen_28 rfl rfl rfl (by first | rfl | assumption) (m_rmI (by omega) (Nat.le_of_ble_eq_true rfl) (Nat.le_refl _) (Nat.le_refl _)) (c_X2_openAt hG d h5 hNN h6 h7 hp hrs) ?_
      refine m_istore 33 dX7_seen_31 rfl (by decide) ?_
      refine i_const 34 dX7_seen_33 rfl ?_
      refine m_istore 36 dX7_seen_34 rfl (by decide) ?_
      rw [if_pos (inB_1 hrr)]
      exact l_X7_seen hG d hXX hp hrs hi n 0 _ (by omega) (by omega) (hXX.oat hp hrs.1 hrs.2) rfl
    · refine i_const 21 dX7_seen_20 rfl ?_
      refine i_ret _ dX7_seen_21 rfl ⟨Nat.le_refl _, Nat.le_refl _⟩ ?_ ⟨rfl, rfl⟩
      rw [if_neg (by rw [inB_0 (by omega)]; decide)]
set_option maxHeartbeats 4000000 in
set_option maxRecDepth 100000 in
theorem c_X7_unitN (hG : m_G G) (d : Nat) {u f : Int} {g : Nat → Int} (h1 : w[1]? = some oGrid) (h18 : w[18]? = some (oRow 19 f)) (h19 : w[19]? = some (cI 1200 g)) (hf : 0 ≤ f ∧ f ≤ 1200) (hu : iR u) (hno : ¬ (0 ≤ u ∧ u ≤ 255 ∧ f < 1200)) : m_Cv G MX7_unit (m_r (d + 1) 0 0) [.ref 1, vI u] w (some (vB false)) w := by
  obtain ⟨hu1, hu2⟩ := hu
  refine m_enter (L := [some (.ref 1), some (vI u)]) (by decide) hG (m_c1 rfl) (Nat.le_of_ble_eq_true rfl) rfl ?_
  refine m_iload_n 1 dX7_unit_0 rfl rfl ?_
  refine i_if_lt 4 26 ⟨by omega, by omega⟩ dX7_unit_1 rfl (by decide) (fun q1 => ?_) (fun q1 => ?_)
  · refine i_const 27 dX7_unit_26 rfl ?_
    refine i_retB _ dX7_unit_27 rfl ⟨Nat.le_refl _, Nat.le_refl _⟩ ?_ ⟨rfl, rfl⟩
    refine i_eq0 ?_
    first | rfl | exact absurd q19 (by decide)
  · refine m_iload_n 5 dX7_unit_4 rfl rfl ?_
    refine i_sipush 8 255 dX7_unit_5 rfl (by decide) ?_
    refine i_icmp_gt 11 26 ⟨by omega, by omega⟩ ⟨by omega, by omega⟩ dX7_unit_8 rfl (by decide) (fun q8 => ?_) (fun q8 => ?_)
    · refine i_const 27 dX7_unit_26 rfl ?_
      refine i_retB _ dX7_unit_27 rfl ⟨Nat.le_refl _, Nat.le_refl _⟩ ?_ ⟨rfl, rfl⟩
      refine i_eq0 ?_
      first | rfl | exact absurd q19 (by decide)
    · refine m_aload_n 12 dX7_unit_11 rfl rfl ?_
      refine m_getf 15 foX7_62 dX7_unit_12 rfl (by first | rfl | assumption) (by rfl) ?_
      refine m_iload_n 16 dX7_unit_15 rfl rfl ?_
      refine m_cV (M' := MX3_put) 19 [_] kX7_156 imX3_put seX3_put clX3_put dX7_unit_16 rfl rfl rfl (by first | rfl | assumption) (m_rmI (by omega) (Nat.le_of_ble_eq_true rfl) (Nat.le_refl _) (Nat.le_refl _)) (c_X3_putF hG d h18 h19 (by omega) ⟨by omega, by omega⟩ (by omega)) ?_
      refine b_if_eq 22 26 dX7_unit_19 rfl (by decide) (fun q19 => ?_) (fun q19 => ?_)
      · refine i_const 27 dX7_unit_26 rfl ?_
        refine i_retB _ dX7_unit_27 rfl ⟨Nat.le_refl _, Nat.le_refl _⟩ ?_ ⟨rfl, rfl⟩
        refine i_eq0 ?_
        first | rfl | exact absurd q19 (by decide)
      · refine i_const 23 dX7_unit_22 rfl ?_
        refine m_goto 27 dX7_unit_23 (by decide) ?_
        refine i_retB _ dX7_unit_27 rfl ⟨Nat.le_refl _, Nat.le_refl _⟩ ?_ ⟨rfl, rfl⟩
        refine i_eq1 ?_
        first | rfl | exact absurd q19 (by decide)
set_option maxHeartbeats 4000000 in
set_option maxRecDepth 100000 in
theorem c_X7_unitY (hG : m_G G) (d : Nat) {u f : Int} {g : Nat → Int} (h1 : w[1]? = some oGrid) (h18 : w[18]? = some (oRow 19 f)) (h19 : w[19]? = some (cI 1200 g)) (hf : 0 ≤ f ∧ f < 1200) (hu : 0 ≤ u ∧ u ≤ 255) : m_Cv G MX7_unit (m_r (d + 1) 0 0) [.ref 1, vI u] w (some (vB true)) ((w.set 19 (cI 1200 (up g f.toNat u))).set 18 (oRow 19 (f + 1))) := by
  refine m_enter (L := [some (.ref 1), some (vI u)]) (by decide) hG (m_c1 rfl) (Nat.le_of_ble_eq_true rfl) rfl ?_
  refine m_iload_n 1 dX7_unit_0 rfl rfl ?_
  refine i_if_lt 4 26 ⟨by omega, by omega⟩ dX7_unit_1 rfl (by decide) (fun h => absurd h (by omega)) (fun _ => ?_)
  refine m_iload_n 5 dX7_unit_4 rfl rfl ?_
  refine i_sipush 8 255 dX7_unit_5 rfl (by decide) ?_
  refine i_icmp_gt 11 26 ⟨by omega, by omega⟩ ⟨by omega, by omega⟩ dX7_unit_8 rfl (by decide) (fun h => absurd h (by omega)) (fun _ => ?_)
  refine m_aload_n 12 dX7_unit_11 rfl rfl ?_
  refine m_getf 15 foX7_62 dX7_unit_12 rfl (by first | rfl | assumption) (by rfl) ?_
  refine m_iload_n 16 dX7_unit_15 rfl rfl ?_
  refine m_cV (M' := MX3_put) 19 [_] kX7_156 imX3_put seX3_put clX3_put dX7_unit_16 rfl rfl rfl (by first | rfl | assumption) (m_rmI (by omega) (Nat.le_of_ble_eq_true rfl) (Nat.le_refl _) (Nat.le_refl _)) (c_X3_put (i := 17) (c := 18) hG d h18 h19 (by decide) (by omega) (by omega)) ?_
  refine b_if_eq 22 26 dX7_unit_19 rfl (by decide) (fun h => absurd h (by decide)) (fun _ => ?_)
  refine i_const 23 dX7_unit_22 rfl ?_
  refine m_goto 27 dX7_unit_23 (by decide) ?_
  refine i_retB _ dX7_unit_27 rfl ⟨Nat.le_refl _, Nat.le_refl _⟩ ?_ ⟨rfl, rfl⟩
  refine i_eq1 ?_
  rfl
set_option maxHeartbeats 4000000 in
set_option maxRecDepth 100000 in
theorem c_X7_joinX (hG : m_G G) (d : Nat) {k W H : Int} {n sl m : Nat} {col row bes : Nat → Int} {wal : Nat → Bool} (hX : cX w k W H n sl m col row bes wal) {a : Int} {b : Int} (hb : ¬ (0 ≤ a ∧ a < n)) (hr : iR a) : m_Cx0 G MX7_join (m_r (d + 8) 1 6) [.ref 1, vI a, vI b] w (w ++ [mU]) := by
  have hXX := hX
  obtain ⟨h1, h2, h3, h4, h5, h6, h7, h8, hF, hN, hsl, hcr, hbs⟩ := hX
  have hFF := hF
  have hNN := hN
  have hnb := hF.n
  obtain ⟨hk0, hk4, hW1, hW2, hH1, hH2, hn, hg4⟩ := hF
  obtain ⟨hn1, hn2, hl1, hl2, hm, hm2⟩ := hN
  refine m_enter (L := [some (.ref 1), some (vI a), some (vI b)]) (by decide) hG (m_c1 rfl) (Nat.le_of_ble_eq_true rfl) rfl ?_
  refine m_aload_n 1 dX7_join_0 rfl rfl ?_
  refine m_iload_n 2 dX7_join_1 rfl rfl ?_
  exact m_cVx (M' := MX7_demandPlace) [_] kX7_77 imX7_demandPlace seX7_demandPlace clX7_demandPlace dX7_join_2 rfl rfl (by first | rfl | assumption) (m_rmI (by omega) (Nat.le_of_ble_eq_true rfl) (Nat.le_refl _) (Nat.le_refl _)) (c_X7_demandPlaceX hG d hXX hb hr) (m_T_out rfl ⟨Nat.le_refl _, Nat.le_refl _⟩ ⟨rfl, rfl⟩)
set_option maxHeartbeats 4000000 in
set_option maxRecDepth 100000 in
theorem c_X7_joinX2 (hG : m_G G) (d : Nat) {k W H : Int} {n sl m : Nat} {col row bes : Nat → Int} {wal : Nat → Bool} (hX : cX w k W H n sl m col row bes wal) {a : Int} {b : Int} (ha : 0 ≤ a ∧ a < n) (hb : ¬ (0 ≤ b ∧ b < n)) (hr : iR b) : m_Cx0 G MX7_join (m_r (d + 8) 1 6) [.ref 1, vI a, vI b] w (w ++ [mU]) := by
  have hXX := hX
  obtain ⟨h1, h2, h3, h4, h5, h6, h7, h8, hF, hN, hsl, hcr, hbs⟩ := hX
  have hFF := hF
  have hNN := hN
  have hnb := hF.n
  obtain ⟨hk0, hk4, hW1, hW2, hH1, hH2, hn, hg4⟩ := hF
  obtain ⟨hn1, hn2, hl1, hl2, hm, hm2⟩ := hN
  refine m_enter (L := [some (.ref 1), some (vI a), some (vI b)]) (by decide) hG (m_c1 rfl) (Nat.le_of_ble_eq_true rfl) rfl ?_
  refine m_aload_n 1 dX7_join_0 rfl rfl ?_
  refine m_iload_n 2 dX7_join_1 rfl rfl ?_
  refine m_cV (M' := MX7_demandPlace) 5 [_] kX7_77 imX7_demandPlace seX7_demandPlace clX7_demandPlace dX7_join_2 rfl rfl rfl (by first | rfl | assumption) (m_rmI (by omega) (Nat.le_of_ble_eq_true rfl) (Nat.zero_le _) (Nat.zero_le _)) (c_X7_demandPlace hG (d + 6) hXX ha) ?_
  refine m_aload_n 6 dX7_join_5 rfl rfl ?_
  refine m_iload_n 7 dX7_join_6 rfl rfl ?_
  exact m_cVx (M' := MX7_demandPlace) [_] kX7_77 imX7_demandPlace seX7_demandPlace clX7_demandPlace dX7_join_7 rfl rfl (by first | rfl | assumption) (m_rmI (by omega) (Nat.le_of_ble_eq_true rfl) (Nat.le_refl _) (Nat.le_refl _)) (c_X7_demandPlaceX hG d hXX hb hr) (m_T_out rfl ⟨Nat.le_refl _, Nat.le_refl _⟩ ⟨rfl, rfl⟩)
set_option maxHeartbeats 4000000 in
set_option maxRecDepth 100000 in
theorem c_X7_degreeX (hG : m_G G) (d : Nat) {k W H : Int} {n sl m : Nat} {col row bes : Nat → Int} {wal : Nat → Bool} (hX : cX w k W H n sl m col row bes wal) {a : Int} {nx : Bool} (hb : ¬ (0 ≤ a ∧ a < n)) (hr : iR a) : m_Cx0 G MX7_degree (m_r (d + 8) 1 6) [.ref 1, vI a, vB nx] w (w ++ [mU]) := by
  have hXX := hX
  obtain ⟨h1, h2, h3, h4, h5, h6, h7, h8, hF, hN, hsl, hcr, hbs⟩ := hX
  have hFF := hF
  have hNN := hN
  have hnb := hF.n
  obtain ⟨hk0, hk4, hW1, hW2, hH1, hH2, hn, hg4⟩ := hF
  obtain ⟨hn1, hn2, hl1, hl2, hm, hm2⟩ := hN
  refine m_enter (L := [some (.ref 1), some (vI a), some (vB nx), none, none, none]) (by decide) hG (m_c1 rfl) (Nat.le_of_ble_eq_true rfl) rfl ?_
  refine m_aload_n 1 dX7_degree_0 rfl rfl ?_
  refine m_iload_n 2 dX7_degree_1 rfl rfl ?_
  exact m_cVx (M' := MX7_demandPlace) [_] kX7_77 imX7_demandPlace seX7_demandPlace clX7_demandPlace dX7_degree_2 rfl rfl (by first | rfl | assumption) (m_rmI (by omega) (Nat.le_of_ble_eq_true rfl) (Nat.le_refl _) (Nat.le_refl _)) (c_X7_demandPlaceX hG d hXX hb hr) (m_T_out rfl ⟨Nat.le_refl _, Nat.le_refl _⟩ ⟨rfl, rfl⟩)
set_option maxHeartbeats 4000000 in
set_option maxRecDepth 100000 in
theorem c_X7_neighbourX (hG : m_G G) (d : Nat) {k W H : Int} {n sl m : Nat} {col row bes : Nat → Int} {wal : Nat → Bool} (hX : cX w k W H n sl m col row bes wal) {a : Int} {b : Int} (hb : ¬ (0 ≤ a ∧ a < n)) (hr : iR a) : m_Cx0 G MX7_neighbour (m_r (d + 8) 1 6) [.ref 1, vI a, vI b] w (w ++ [mU]) := by
  have hXX := hX
  obtain ⟨h1, h2, h3, h4, h5, h6, h7, h8, hF, hN, hsl, hcr, hbs⟩ := hX
  have hFF := hF
  have hNN := hN
  have hnb := hF.n
  obtain ⟨hk0, hk4, hW1, hW2, hH1, hH2, hn, hg4⟩ := hF
  obtain ⟨hn1, hn2, hl1, hl2, hm, hm2⟩ := hN
  refine m_enter (L := [some (.ref 1), some (vI a), some (vI b), none, none, none]) (by decide) hG (m_c1 rfl) (Nat.le_of_ble_eq_true rfl) rfl ?_
  refine m_aload_n 1 dX7_neighbour_0 rfl rfl ?_
  refine m_iload_n 2 dX7_neighbour_1 rfl rfl ?_
  exact m_cVx (M' := MX7_demandPlace) [_] kX7_77 imX7_demandPlace seX7_demandPlace clX7_demandPlace dX7_neighbour_2 rfl rfl (by first | rfl | assumption) (m_rmI (by omega) (Nat.le_of_ble_eq_true rfl) (Nat.le_refl _) (Nat.le_refl _)) (c_X7_demandPlaceX hG d hXX hb hr) (m_T_out rfl ⟨Nat.le_refl _, Nat.le_refl _⟩ ⟨rfl, rfl⟩)
set_option maxHeartbeats 4000000 in
set_option maxRecDepth 100000 in
theorem c_X7_wallX (hG : m_G G) (d : Nat) {k W H : Int} {n sl m : Nat} {col row bes : Nat → Int} {wal : Nat → Bool} (hX : cX w k W H n sl m col row bes wal) {a : Int} {b : Int} {on : Bool} (hb : ¬ (0 ≤ a ∧ a < n)) (hr : iR a) : m_Cx0 G MX7_wall (m_r (d + 8) 1 6) [.ref 1, vI a, vI b, vB on] w (w ++ [mU]) := by
  have hXX := hX
  obtain ⟨h1, h2, h3, h4, h5, h6, h7, h8, hF, hN, hsl, hcr, hbs⟩ := hX
  have hFF := hF
  have hNN := hN
  have hnb := hF.n
  obtain ⟨hk0, hk4, hW1, hW2, hH1, hH2, hn, hg4⟩ := hF
  obtain ⟨hn1, hn2, hl1, hl2, hm, hm2⟩ := hN
  refine m_enter (L := [some (.ref 1), some (vI a), some (vI b), some (vB on), none]) (by decide) hG (m_c1 rfl) (Nat.le_of_ble_eq_true rfl) rfl ?_
  refine m_aload_n 1 dX7_wall_0 rfl rfl ?_
  refine m_iload_n 2 dX7_wall_1 rfl rfl ?_
  exact m_cVx (M' := MX7_demandPlace) [_] kX7_77 imX7_demandPlace seX7_demandPlace clX7_demandPlace dX7_wall_2 rfl rfl (by first | rfl | assumption) (m_rmI (by omega) (Nat.le_of_ble_eq_true rfl) (Nat.le_refl _) (Nat.le_refl _)) (c_X7_demandPlaceX hG d hXX hb hr) (m_T_out rfl ⟨Nat.le_refl _, Nat.le_refl _⟩ ⟨rfl, rfl⟩)
set_option maxHeartbeats 4000000 in
set_option maxRecDepth 100000 in
theorem c_X7_wallX2 (hG : m_G G) (d : Nat) {k W H : Int} {n sl m : Nat} {col row bes : Nat → Int} {wal : Nat → Bool} (hX : cX w k W H n sl m col row bes wal) {a : Int} {b : Int} {on : Bool} (ha : 0 ≤ a ∧ a < n) (hb : ¬ (0 ≤ b ∧ b < n)) (hr : iR b) : m_Cx0 G MX7_wall (m_r (d + 8) 1 6) [.ref 1, vI a, vI b, vB on] w (w ++ [mU]) := by
  have hXX := hX
  obtain ⟨h1, h2, h3, h4, h5, h6, h7, h8, hF, hN, hsl, hcr, hbs⟩ := hX
  have hFF := hF
  have hNN := hN
  have hnb := hF.n
  obtain ⟨hk0, hk4, hW1, hW2, hH1, hH2, hn, hg4⟩ := hF
  obtain ⟨hn1, hn2, hl1, hl2, hm, hm2⟩ := hN
  refine m_enter (L := [some (.ref 1), some (vI a), some (vI b), some (vB on), none]) (by decide) hG (m_c1 rfl) (Nat.le_of_ble_eq_true rfl) rfl ?_
  refine m_aload_n 1 dX7_wall_0 rfl rfl ?_
  refine m_iload_n 2 dX7_wall_1 rfl rfl ?_
  refine m_cV (M' := MX7_demandPlace) 5 [_] kX7_77 imX7_demandPlace seX7_demandPlace clX7_demandPlace dX7_wall_2 rfl rfl rfl (by first | rfl | assumption) (m_rmI (by omega) (Nat.le_of_ble_eq_true rfl) (Nat.zero_le _) (Nat.zero_le _)) (c_X7_demandPlace hG (d + 6) hXX ha) ?_
  refine m_aload_n 6 dX7_wall_5 rfl rfl ?_
  refine m_iload_n 7 dX7_wall_6 rfl rfl ?_
  exact m_cVx (M' := MX7_demandPlace) [_] kX7_77 imX7_demandPlace seX7_demandPlace clX7_demandPlace dX7_wall_7 rfl rfl (by first | rfl | assumption) (m_rmI (by omega) (Nat.le_of_ble_eq_true rfl) (Nat.le_refl _) (Nat.le_refl _)) (c_X7_demandPlaceX hG d hXX hb hr) (m_T_out rfl ⟨Nat.le_refl _, Nat.le_refl _⟩ ⟨rfl, rfl⟩)
set_option maxHeartbeats 4000000 in
set_option maxRecDepth 100000 in
theorem c_X7_seenX (hG : m_G G) (d : Nat) {k W H : Int} {n sl m : Nat} {col row bes : Nat → Int} {wal : Nat → Bool} (hX : cX w k W H n sl m col row bes wal) {a : Int} {b : Int} {i : Int} (hb : ¬ (0 ≤ a ∧ a < n)) (hr : iR a) : m_Cx0 G MX7_seen (m_r (d + 8) 1 6) [.ref 1, vI a, vI b, vI i] w (w ++ [mU]) := by
  have hXX := hX
  obtain ⟨h1, h2, h3, h4, h5, h6, h7, h8, hF, hN, hsl, hcr, hbs⟩ := hX
  have hFF := hF
  have hNN := hN
  have hnb := hF.n
  obtain ⟨hk0, hk4, hW1, hW2, hH1, hH2, hn, hg4⟩ := hF
  obtain ⟨hn1, hn2, hl1, hl2, hm, hm2⟩ := hN
  refine m_enter (L := [some (.ref 1), some (vI a), some (vI b), some (vI i), none, none]) (by decide) hG (m_c1 rfl) (Nat.le_of_ble_eq_true rfl) rfl ?_
  refine m_aload_n 1 dX7_seen_0 rfl rfl ?_
  refine m_iload_n 2 dX7_seen_1 rfl rfl ?_
  exact m_cVx (M' := MX7_demandPlace) [_] kX7_77 imX7_demandPlace seX7_demandPlace clX7_demandPlace dX7_seen_2 rfl rfl (by first | rfl | assumption) (m_rmI (by omega) (Nat.le_of_ble_eq_true rfl) (Nat.le_refl _) (Nat.le_refl _)) (c_X7_demandPlaceX hG d hXX hb hr) (m_T_out rfl ⟨Nat.le_refl _, Nat.le_refl _⟩ ⟨rfl, rfl⟩)
set_option maxHeartbeats 4000000 in
set_option maxRecDepth 100000 in
theorem c_X7_farX (hG : m_G G) (d : Nat) {k W H : Int} {n sl m : Nat} {col row bes : Nat → Int} {wal : Nat → Bool} (hX : cX w k W H n sl m col row bes wal) {a : Int} {b : Int} (hb : ¬ (0 ≤ a ∧ a < n)) (hr : iR a) : m_Cx0 G MX7_far (m_r (d + 8) 1 6) [.ref 1, vI a, vI b] w (w ++ [mU]) := by
  have hXX := hX
  obtain ⟨h1, h2, h3, h4, h5, h6, h7, h8, hF, hN, hsl, hcr, hbs⟩ := hX
  have hFF := hF
  have hNN := hN
  have hnb := hF.n
  obtain ⟨hk0, hk4, hW1, hW2, hH1, hH2, hn, hg4⟩ := hF
  obtain ⟨hn1, hn2, hl1, hl2, hm, hm2⟩ := hN
  refine m_enter (L := [some (.ref 1), some (vI a), some (vI b)]) (by decide) hG (m_c1 rfl) (Nat.le_of_ble_eq_true rfl) rfl ?_
  refine m_aload_n 1 dX7_far_0 rfl rfl ?_
  refine m_iload_n 2 dX7_far_1 rfl rfl ?_
  exact m_cVx (M' := MX7_demandPlace) [_] kX7_77 imX7_demandPlace seX7_demandPlace clX7_demandPlace dX7_far_2 rfl rfl (by first | rfl | assumption) (m_rmI (by omega) (Nat.le_of_ble_eq_true rfl) (Nat.le_refl _) (Nat.le_refl _)) (c_X7_demandPlaceX hG d hXX hb hr) (m_T_out rfl ⟨Nat.le_refl _, Nat.le_refl _⟩ ⟨rfl, rfl⟩)
set_option maxHeartbeats 4000000 in
set_option maxRecDepth 100000 in
theorem c_X7_farX2 (hG : m_G G) (d : Nat) {k W H : Int} {n sl m : Nat} {col row bes : Nat → Int} {wal : Nat → Bool} (hX : cX w k W H n sl m col row bes wal) {a : Int} {b : Int} (ha : 0 ≤ a ∧ a < n) (hb : ¬ (0 ≤ b ∧ b < n)) (hr : iR b) : m_Cx0 G MX7_far (m_r (d + 8) 1 6) [.ref 1, vI a, vI b] w (w ++ [mU]) := by
  have hXX := hX
  obtain ⟨h1, h2, h3, h4, h5, h6, h7, h8, hF, hN, hsl, hcr, hbs⟩ := hX
  have hFF := hF
  have hNN := hN
  have hnb := hF.n
  obtain ⟨hk0, hk4, hW1, hW2, hH1, hH2, hn, hg4⟩ := hF
  obtain ⟨hn1, hn2, hl1, hl2, hm, hm2⟩ := hN
  refine m_enter (L := [some (.ref 1), some (vI a), some (vI b)]) (by decide) hG (m_c1 rfl) (Nat.le_of_ble_eq_true rfl) rfl ?_
  refine m_aload_n 1 dX7_far_0 rfl rfl ?_
  refine m_iload_n 2 dX7_far_1 rfl rfl ?_
  refine m_cV (M' := MX7_demandPlace) 5 [_] kX7_77 imX7_demandPlace seX7_demandPlace clX7_demandPlace dX7_far_2 rfl rfl rfl (by first | rfl | assumption) (m_rmI (by omega) (Nat.le_of_ble_eq_true rfl) (Nat.zero_le _) (Nat.zero_le _)) (c_X7_demandPlace hG (d + 6) hXX ha) ?_
  refine m_aload_n 6 dX7_far_5 rfl rfl ?_
  refine m_iload_n 7 dX7_far_6 rfl rfl ?_
  exact m_cVx (M' := MX7_demandPlace) [_] kX7_77 imX7_demandPlace seX7_demandPlace clX7_demandPlace dX7_far_7 rfl rfl (by first | rfl | assumption) (m_rmI (by omega) (Nat.le_of_ble_eq_true rfl) (Nat.le_refl _) (Nat.le_refl _)) (c_X7_demandPlaceX hG d hXX hb hr) (m_T_out rfl ⟨Nat.le_refl _, Nat.le_refl _⟩ ⟨rfl, rfl⟩)
set_option maxHeartbeats 4000000 in
set_option maxRecDepth 100000 in
theorem c_X7_withoutX (hG : m_G G) (d : Nat) {k W H : Int} {n sl m : Nat} {col row bes : Nat → Int} {wal : Nat → Bool} (hX : cX w k W H n sl m col row bes wal) {a : Int} (hb : ¬ (0 ≤ a ∧ a < n)) (hr : iR a) : m_Cx0 G MX7_without (m_r (d + 8) 1 6) [.ref 1, vI a] w (w ++ [mU]) := by
  have hXX := hX
  obtain ⟨h1, h2, h3, h4, h5, h6, h7, h8, hF, hN, hsl, hcr, hbs⟩ := hX
  have hFF := hF
  have hNN := hN
  have hnb := hF.n
  obtain ⟨hk0, hk4, hW1, hW2, hH1, hH2, hn, hg4⟩ := hF
  obtain ⟨hn1, hn2, hl1, hl2, hm, hm2⟩ := hN
  refine m_enter (L := [some (.ref 1), some (vI a)]) (by decide) hG (m_c1 rfl) (Nat.le_of_ble_eq_true rfl) rfl ?_
  refine m_aload_n 1 dX7_without_0 rfl rfl ?_
  refine m_iload_n 2 dX7_without_1 rfl rfl ?_
  exact m_cVx (M' := MX7_demandPlace) [_] kX7_77 imX7_demandPlace seX7_demandPlace clX7_demandPlace dX7_without_2 rfl rfl (by first | rfl | assumption) (m_rmI (by omega) (Nat.le_of_ble_eq_true rfl) (Nat.le_refl _) (Nat.le_refl _)) (c_X7_demandPlaceX hG d hXX hb hr) (m_T_out rfl ⟨Nat.le_refl _, Nat.le_refl _⟩ ⟨rfl, rfl⟩)
set_option maxHeartbeats 4000000 in
set_option maxRecDepth 100000 in
theorem c_X7_areaX (hG : m_G G) (d : Nat) {k W H : Int} {n sl m : Nat} {col row bes : Nat → Int} {wal : Nat → Bool} (hX : cX w k W H n sl m col row bes wal) {a : Int} {b : Int} (hb : ¬ (0 ≤ a ∧ a < n)) (hr : iR a) : m_Cx0 G MX7_area (m_r (d + 8) 1 6) [.ref 1, vI a, vI b] w (w ++ [mU]) := by
  have hXX := hX
  obtain ⟨h1, h2, h3, h4, h5, h6, h7, h8, hF, hN, hsl, hcr, hbs⟩ := hX
  have hFF := hF
  have hNN := hN
  have hnb := hF.n
  obtain ⟨hk0, hk4, hW1, hW2, hH1, hH2, hn, hg4⟩ := hF
  obtain ⟨hn1, hn2, hl1, hl2, hm, hm2⟩ := hN
  refine m_enter (L := [some (.ref 1), some (vI a), some (vI b)]) (by decide) hG (m_c1 rfl) (Nat.le_of_ble_eq_true rfl) rfl ?_
  refine m_aload_n 1 dX7_area_0 rfl rfl ?_
  refine m_iload_n 2 dX7_area_1 rfl rfl ?_
  exact m_cVx (M' := MX7_demandPlace) [_] kX7_77 imX7_demandPlace seX7_demandPlace clX7_demandPlace dX7_area_2 rfl rfl (by first | rfl | assumption) (m_rmI (by omega) (Nat.le_of_ble_eq_true rfl) (Nat.le_refl _) (Nat.le_refl _)) (c_X7_demandPlaceX hG d hXX hb hr) (m_T_out rfl ⟨Nat.le_refl _, Nat.le_refl _⟩ ⟨rfl, rfl⟩)
set_option maxHeartbeats 4000000 in
set_option maxRecDepth 100000 in
theorem c_X7_markX (hG : m_G G) (d : Nat) {k W H : Int} {n sl m : Nat} {col row bes : Nat → Int} {wal : Nat → Bool} (hX : cX w k W H n sl m col row bes wal) {a : Int} {b : Int} (hb : ¬ (0 ≤ a ∧ a < n)) (hr : iR a) : m_Cx0 G MX7_mark (m_r (d + 8) 1 6) [.ref 1, vI a, vI b] w (w ++ [mU]) := by
  have hXX := hX
  obtain ⟨h1, h2, h3, h4, h5, h6, h7, h8, hF, hN, hsl, hcr, hbs⟩ := hX
  have hFF := hF
  have hNN := hN
  have hnb := hF.n
  obtain ⟨hk0, hk4, hW1, hW2, hH1, hH2, hn, hg4⟩ := hF
  obtain ⟨hn1, hn2, hl1, hl2, hm, hm2⟩ := hN
  refine m_enter (L := [some (.ref 1), some (vI a), some (vI b)]) (by decide) hG (m_c1 rfl) (Nat.le_of_ble_eq_true rfl) rfl ?_
  refine m_aload_n 1 dX7_mark_0 rfl rfl ?_
  refine m_iload_n 2 dX7_mark_1 rfl rfl ?_
  exact m_cVx (M' := MX7_demandPlace) [_] kX7_77 imX7_demandPlace seX7_demandPlace clX7_demandPlace dX7_mark_2 rfl rfl (by first | rfl | assumption) (m_rmI (by omega) (Nat.le_of_ble_eq_true rfl) (Nat.le_refl _) (Nat.le_refl _)) (c_X7_demandPlaceX hG d hXX hb hr) (m_T_out rfl ⟨Nat.le_refl _, Nat.le_refl _⟩ ⟨rfl, rfl⟩)
set_option maxHeartbeats 4000000 in
set_option maxRecDepth 100000 in
theorem c_X7_imageX (hG : m_G G) (d : Nat) {k W H : Int} {n sl m : Nat} {col row bes : Nat → Int} {wal : Nat → Bool} (hX : cX w k W H n sl m col row bes wal) {a : Int} {b : Int} (hb : ¬ (0 ≤ b ∧ b < n)) (hr : iR b) : m_Cx0 G MX7_image (m_r (d + 8) 1 6) [.ref 1, vI a, vI b] w (w ++ [mU]) := by
  have hXX := hX
  obtain ⟨h1, h2, h3, h4, h5, h6, h7, h8, hF, hN, hsl, hcr, hbs⟩ := hX
  have hFF := hF
  have hNN := hN
  have hnb := hF.n
  obtain ⟨hk0, hk4, hW1, hW2, hH1, hH2, hn, hg4⟩ := hF
  obtain ⟨hn1, hn2, hl1, hl2, hm, hm2⟩ := hN
  refine m_enter (L := [some (.ref 1), some (vI a), some (vI b)]) (by decide) hG (m_c1 rfl) (Nat.le_of_ble_eq_true rfl) rfl ?_
  refine m_aload_n 1 dX7_image_0 rfl rfl ?_
  refine m_iload_n 2 dX7_image_1 rfl rfl ?_
  exact m_cVx (M' := MX7_demandPlace) [_] kX7_77 imX7_demandPlace seX7_demandPlace clX7_demandPlace dX7_image_2 rfl rfl (by first | rfl | assumption) (m_rmI (by omega) (Nat.le_of_ble_eq_true rfl) (Nat.le_refl _) (Nat.le_refl _)) (c_X7_demandPlaceX hG d hXX hb hr) (m_T_out rfl ⟨Nat.le_refl _, Nat.le_refl _⟩ ⟨rfl, rfl⟩)
end GY
