/-! GridShapes: turns that keep all -/
section GK
variable {G : mG} {w : List mC}
theorem plA_in {W H x y : Int} (h : 0 ≤ x ∧ x < W ∧ 0 ≤ y ∧ y < H) : plA W H x y = W * y + x := if_pos h
theorem plA_r {W H x y : Int} {n : Nat} (hn : (n : Int) = W * H) (h : 0 ≤ x ∧ x < W ∧ 0 ≤ y ∧ y < H) : 0 ≤ plA W H x y ∧ plA W H x y < n := by
  rw [plA_in h, hn]
  have a : W * (y + 1) ≤ W * H := Int.mul_le_mul_of_nonneg_left (by omega) (by omega)
  have b : 0 ≤ W * y := Int.mul_nonneg (by omega) (by omega)
  rw [Int.mul_add, Int.mul_one] at a
  omega
theorem rgC_r {W t x : Int} (ht : 0 ≤ t ∧ t < 2 * W) (hx : 0 ≤ x ∧ x < W) : 0 ≤ rgC W t x ∧ rgC W t x < W := by
  unfold rgC
  repeat' split
  all_goals omega
theorem trn_r {k W H t x y : Int} {n : Nat} (hF : fOK k W H n) (ht : 0 ≤ t ∧ t < tuN k W H) (h : 0 ≤ x ∧ x < W ∧ 0 ≤ y ∧ y < H) : 0 ≤ trn k W H t x y ∧ trn k W H t x y < n := by
  obtain ⟨hk0, hk4, hW1, hW2, hH1, hH2, hn, hg⟩ := hF
  have htu := tuR (k := k) (W := W) (H := H) (t := t) ⟨by omega, by omega, by omega, by omega⟩ ht
  unfold trn
  by_cases h3 : k = 3
  · rw [if_pos h3]
    have := rgC_r (x := x) ⟨htu.1, htu.2.1 h3⟩ ⟨h.1, h.2.1⟩
    exact plA_r hn ⟨this.1, this.2, h.2.2.1, h.2.2.2⟩
  · rw [if_neg h3]
    have hsq : 4 ≤ t → W = H := by
      intro h4
      have := ht.2
      unfold tuN at this
      rw [if_neg h3] at this
      split at this
      · omega
      · split at this
        · assumption
        · omega
    refine plA_r hn ?_
    by_cases h4 : t < 4
    · rw [if_pos h4, if_pos h4]
      refine ⟨?_, ?_, ?_, ?_⟩ <;> split <;> omega
    · have := hsq (by omega)
      rw [if_neg h4, if_neg h4]
      refine ⟨?_, ?_, ?_, ?_⟩ <;> split <;> omega
def allF (P : Int → Bool) : Nat → Int → Bool
  | 0, _ => true
  | k + 1, i => P i && allF P k (i + 1)
/-- slot s of p is as the turn's image has it -/
def kbP (sl : Nat) (bes : Nat → Int) (wal : Nat → Bool) (T : Int → Int) (p im : Int) : Int → Bool := fun s => bAt sl bes p s == -1 || (sOf sl bes im (T (bAt sl bes p s)) != -1 && wAt sl wal p s == wAt sl wal im (sOf sl bes im (T (bAt sl bes p s))))
def kaP (sl : Nat) (bes mk : Nat → Int) (wal : Nat → Bool) (T : Int → Int) : Int → Bool := fun p => mk p.toNat == mk (T p).toNat && allF (kbP sl bes wal T p (T p)) sl 0
/-- the turn's map -/
def tMap (k W H t : Int) (col row : Nat → Int) : Int → Int := fun z => trn k W H t (col z.toNat) (row z.toNat)
theorem tMap_r {k W H : Int} {n sl m : Nat} {col row bes : Nat → Int} {wal : Nat → Bool} (hX : cX w k W H n sl m col row bes wal) {t z : Int} (ht : 0 ≤ t ∧ t < tuN k W H) (hz : 0 ≤ z ∧ z < n) : 0 ≤ tMap k W H t col row z ∧ tMap k W H t col row z < n := trn_r hX.2.2.2.2.2.2.2.2.1 ht (hX.xy hz)

theorem c_X5_paM (hG : m_G G) (d : Nat) {k W H : Int} {n sl m : Nat} {col row bes : Nat → Int} {wal : Nat → Bool} (hX : cX w k W H n sl m col row bes wal) {t z : Int} (ht : 0 ≤ t ∧ t < tuN k W H) (hz : 0 ≤ z ∧ z < n) : m_Cv G MX5_placeAfter (m_r (d + 2) 0 0) [.ref 8, vI t, vI z] w (some (vI (tMap k W H t col row z))) w := by
  have hXX := hX
  obtain ⟨h1, h2, h3, h4, h5, h6, h7, h8, hF, hN, hsl, hcr, hbs⟩ := hX
  have hFF := hF
  have hNN := hN
  have hnb := hF.n
  obtain ⟨hk0, hk4, hW1, hW2, hH1, hH2, hn, hg4⟩ := hF
  obtain ⟨hn1, hn2, hl1, hl2, hm, hm2⟩ := hN
  exact c_X5_placeAfter hG d h8 h2 hFF h3 h4 hz (hXX.xy hz) (tuR ⟨by omega, by omega, by omega, by omega⟩ ht)
set_option maxHeartbeats 4000000 in
set_option maxRecDepth 100000 in
theorem l_X7_keepsBeside (hG : m_G G) (d : Nat) {k W H : Int} {n sl m : Nat} {col row bes : Nat → Int} {wal : Nat → Bool} (hX : cX w k W H n sl m col row bes wal) {t p im : Int} {b : Bool} (ht : 0 ≤ t ∧ t < tuN k W H) (hp : 0 ≤ p ∧ p < n) (hi : 0 ≤ im ∧ im < n) :
    ∀ (j : Nat) (i : Int) (x5 x6 : Option Value), 0 ≤ i → i + j = sl → allF (kbP sl bes wal (tMap k W H t col row) p im) j i = b → m_J G MX7_keepsBeside (m_r (d + 3) 0 0) (fun r x => r = some (some (vB b)) ∧ x = w) 0 0 3 [some (.ref 1), some (vI t), some (vI p), some (vI im), some (vI i), x5, x6] [] w := by
  have hXX := hX
  obtain ⟨h1, h2, h3, h4, h5, h6, h7, h8, hF, hN, hsl, hcr, hbs⟩ := hX
  have hFF := hF
  have hNN := hN
  have hnb := hF.n
  obtain ⟨hk0, hk4, hW1, hW2, hH1, hH2, hn, hg4⟩ := hF
  obtain ⟨hn1, hn2, hl1, hl2, hm, hm2⟩ := hN
  intro j
  induction j with
  | zero =>
    intro i x5 x6 hi0 hij hb
    refine m_iload 5 dX7_keepsBeside_3 rfl rfl ?_
    refine m_aload_n 6 dX7_keepsBeside_5 rfl rfl ?_
    refine m_getf 9 foX7_23 dX7_keepsBeside_6 rfl (by first | rfl | assumption) (by rfl) ?_
    refine m_getf 12 foX7_91 dX7_keepsBeside_9 rfl (by first | rfl | assumption) (by rfl) ?_
    refine i_icmp_ge 15 90 ⟨by omega, by omega⟩ ⟨by omega, by omega⟩ dX7_keepsBeside_12 rfl (by decide) (fun _ => ?_) (fun h => absurd h (by omega))
    refine i_const 91 dX7_keepsBeside_90 rfl ?_
    refine i_retB _ dX7_keepsBeside_91 rfl ⟨Nat.le_refl _, Nat.le_refl _⟩ ?_ ⟨rfl, rfl⟩
    refine i_eq1 ?_
    exact hb.symm
  | succ j ih =>
    intro i x5 x6 hi0 hij hb
    have hs : 0 ≤ i ∧ i < (sl : Int) := by omega
    have hbr := hXX.bes hp i hs.1 hs.2
    unfold allF at hb
    unfold kbP at hb ih
    have hso := sOf_r sl bes im (tMap k W H t col row (bAt sl bes p i))
    refine m_iload 5 dX7_keepsBeside_3 rfl rfl ?_
    refine m_aload_n 6 dX7_keepsBeside_5 rfl rfl ?_
    refine m_getf 9 foX7_23 dX7_keepsBeside_6 rfl (by first | rfl | assumption) (by rfl) ?_
    refine m_getf 12 foX7_91 dX7_keepsBeside_9 rfl (by first | rfl | assumption) (by rfl) ?_
    refine i_icmp_ge 15 90 ⟨by omega, by omega⟩ ⟨by omega, by omega⟩ dX7_keepsBeside_12 rfl (by decide) (fun h => absurd h (by omega)) (fun _ => ?_)
    refine m_aload_n 16 dX7_keepsBeside_15 rfl rfl ?_
    refine m_getf 19 foX7_23 dX7_keepsBeside_16 rfl (by first | rfl | assumption) (by rfl) ?_
    refine m_iload_n 20 dX7_keepsBeside_19 rfl rfl ?_
    refine m_iload 22 dX7_keepsBeside_20 rfl rfl ?_
    refine m_cV (M' := MX2_besideAt) 25 [_, _] kX7_97 imX2_besideAt seX2_besideAt clX2_besideAt dX7_keepsBeside_22 rfl rfl rfl (by first | rfl | assumption) (m_rmI (by omega) (Nat.le_of_ble_eq_true rfl) (Nat.le_refl _) (Nat.le_refl _)) (c_X2_besideAt hG (d + 1) h5 hNN h6 hp hs) ?_
    refine m_istore 27 dX7_keepsBeside_25 rfl (by decide) ?_
    refine m_iload 29 dX7_keepsBeside_27 rfl rfl ?_
    refine i_const 30 dX7_keepsBeside_29 rfl ?_
    refine i_icmp_eq 33 84 ⟨by omega, by omega⟩ ⟨by omega, by omega⟩ dX7_keepsBeside_30 rfl (by decide) (fun q30 => ?_) (fun q30 => ?_)
    · refine i_inc 87 dX7_keepsBeside_84 rfl rfl (by decide) ?_
      refine m_goto 3 dX7_keepsBeside_87 (by decide) ?_
      refine ih _ _ _ (by omega) (by omega) ?_
      rw [← hb]
      first | (simp [q30]; done) | (simp [q30, q56, q79]; done)
    · have hto := tMap_r hXX ht (z := bAt sl bes p i) ⟨by omega, by omega⟩
      refine m_aload_n 34 dX7_keepsBeside_33 rfl rfl ?_
      refine m_getf 37 foX7_23 dX7_keepsBeside_34 rfl (by first | rfl | assumption) (by rfl) ?_
      refine m_iload_n 38 dX7_keepsBeside_37 rfl rfl ?_
      refine m_aload_n 39 dX7_keepsBeside_38 rfl rfl ?_
      refine m_getf 42 foX7_30 dX7_keepsBeside_39 rfl (by first | rfl | assumption) (by rfl) ?_
      refine m_iload_n 43 dX7_keepsBeside_42 rfl rfl ?_
      refine m_iload 45 dX7_keepsBeside_43 rfl rfl ?_
      refine m_cV (M' := MX5_placeAfter) 48 [_, _] kX7_139 imX5_placeAfter seX5_placeAfter clX5_placeAfter dX7_keepsBeside_45 rfl rfl rfl (by first | rfl | assumption) (m_rmI (by omega) (Nat.le_of_ble_eq_true rfl) (Nat.le_refl _) (Nat.le_refl _)) (c_X5_paM hG d hXX ht ⟨by omega, by omega⟩) ?_
      refine m_cV (M' := MX2_slotOf) 51 [_, _] kX7_83 imX2_slotOf seX2_slotOf clX2_slotOf dX7_keepsBeside_48 rfl rfl rfl (by first | rfl | assumption) (m_rmI (by omega) (Nat.le_of_ble_eq_true rfl) (Nat.le_refl _) (Nat.le_refl _)) (c_X2_slotOf hG d h5 hNN h6 hi ⟨by omega, by omega⟩ (hXX.besR hi)) ?_
      refine m_istore 53 dX7_keepsBeside_51 rfl (by decide) ?_
      refine m_iload 55 dX7_keepsBeside_53 rfl rfl ?_
      refine i_const 56 dX7_keepsBeside_55 rfl ?_
      refine i_icmp_eq 59 82 ⟨by omega, by omega⟩ ⟨by omega, by omega⟩ dX7_keepsBeside_56 rfl (by decide) (fun q56 => ?_) (fun q56 => ?_)
      · refine i_const 83 dX7_keepsBeside_82 rfl ?_
        refine i_retB _ dX7_keepsBeside_83 rfl ⟨Nat.le_refl _, Nat.le_refl _⟩ ?_ ⟨rfl, rfl⟩
        refine i_eq0 ?_
        rw [← hb]
        first | (simp [q30, q56]; done) | (simp [q30, q56, q79]; done)
      · refine m_aload_n 60 dX7_keepsBeside_59 rfl rfl ?_
        refine m_getf 63 foX7_23 dX7_keepsBeside_60 rfl (by first | rfl | assumption) (by rfl) ?_
        refine m_iload_n 64 dX7_keepsBeside_63 rfl rfl ?_
        refine m_iload 66 dX7_keepsBeside_64 rfl rfl ?_
        refine m_cV (M' := MX2_walledAt) 69 [_, _] kX7_100 imX2_walledAt seX2_walledAt clX2_walledAt dX7_keepsBeside_66 rfl rfl rfl (by first | rfl | assumption) (m_rmI (by omega) (Nat.le_of_ble_eq_true rfl) (Nat.le_refl _) (Nat.le_refl _)) (c_X2_walledAt hG (d + 1) h5 hNN h7 hp hs) ?_
        refine m_aload_n 70 dX7_keepsBeside_69 rfl rfl ?_
        refine m_getf 73 foX7_23 dX7_keepsBeside_70 rfl (by first | rfl | assumption) (by rfl) ?_
        refine m_iload_n 74 dX7_keepsBeside_73 rfl rfl ?_
        refine m_iload 76 dX7_keepsBeside_74 rfl rfl ?_
        refine m_cV (M' := MX2_walledAt) 79 [_, _] kX7_100 imX2_walledAt seX2_walledAt clX2_walledAt dX7_keepsBeside_76 rfl rfl rfl (by first | rfl | assumption) (m_rmI (by omega) (Nat.le_of_ble_eq_true rfl) (Nat.le_refl _) (Nat.le_refl _)) (c_X2_walledAt hG (d + 1) h5 hNN h7 hi ⟨by omega, by omega⟩) ?_
        refine b_icmp_eq 82 84 dX7_keepsBeside_79 rfl (by decide) (fun q79 => ?_) (fun q79 => ?_)
        · refine i_inc 87 dX7_keepsBeside_84 rfl rfl (by decide) ?_
          refine m_goto 3 dX7_keepsBeside_87 (by decide) ?_
          refine ih _ _ _ (by omega) (by omega) ?_
          rw [← hb]
          first | (simp [q30]; done) | (simp [q30, q56, q79]; done)
        · refine i_const 83 dX7_keepsBeside_82 rfl ?_
          refine i_retB _ dX7_keepsBeside_83 rfl ⟨Nat.le_refl _, Nat.le_refl _⟩ ?_ ⟨rfl, rfl⟩
          refine i_eq0 ?_
          rw [← hb]
          first | (simp [q30, q56]; done) | (simp [q30, q56, q79]; done)
set_option maxHeartbeats 4000000 in
set_option maxRecDepth 100000 in
theorem c_X7_keepsBeside (hG : m_G G) (d : Nat) {k W H : Int} {n sl m : Nat} {col row bes : Nat → Int} {wal : Nat → Bool} (hX : cX w k W H n sl m col row bes wal) {t p im : Int} (ht : 0 ≤ t ∧ t < tuN k W H) (hp : 0 ≤ p ∧ p < n) (hi : 0 ≤ im ∧ im < n) : m_Cv G MX7_keepsBeside (m_r (d + 3) 0 0) [.ref 1, vI t, vI p, vI im] w (some (vB (allF (kbP sl bes wal (tMap k W H t col row) p im) sl 0))) w := by
  refine m_enter (L := [some (.ref 1), some (vI t), some (vI p), some (vI im), none, none, none]) (by decide) hG (m_c1 rfl) (Nat.le_of_ble_eq_true rfl) rfl ?_
  refine i_const 1 dX7_keepsBeside_0 rfl ?_
  refine m_istore 3 dX7_keepsBeside_1 rfl (by decide) ?_
  exact l_X7_keepsBeside hG d hX ht hp hi sl 0 _ _ (by omega) (by omega) rfl
set_option maxHeartbeats 4000000 in
set_option maxRecDepth 100000 in
theorem l_X7_keepsAllPlaces (hG : m_G G) (d : Nat) {k W H : Int} {n sl m : Nat} {col row bes : Nat → Int} {wal : Nat → Bool} (hX : cX w k W H n sl m col row bes wal) {mk : Nat → Int} (h20 : w[20]? = some (cI n mk)) (hM : ∀ j, j < n → iR (mk j)) {t : Int} {b : Bool} (ht : 0 ≤ t ∧ t < tuN k W H) :
    ∀ (j : Nat) (p : Int) (x3 : Option Value), 0 ≤ p → p + j = n → allF (kaP sl bes mk wal (tMap k W H t col row)) j p = b → m_J G MX7_keepsAllPlaces (m_r (d + 4) 0 0) (fun r x => r = some (some (vB b)) ∧ x = w) 0 0 2 [some (.ref 1), some (vI t), some (vI p), x3] [] w := by
  have hXX := hX
  obtain ⟨h1, h2, h3, h4, h5, h6, h7, h8, hF, hN, hsl, hcr, hbs⟩ := hX
  have hFF := hF
  have hNN := hN
  have hnb := hF.n
  obtain ⟨hk0, hk4, hW1, hW2, hH1, hH2, hn, hg4⟩ := hF
  obtain ⟨hn1, hn2, hl1, hl2, hm, hm2⟩ := hN
  intro j
  induction j with
  | zero =>
    intro p x3 hp0 hpj hb
    refine m_iload_n 3 dX7_keepsAllPlaces_2 rfl rfl ?_
    refine m_aload_n 4 dX7_keepsAllPlaces_3 rfl rfl ?_
    refine m_getf 7 foX7_70 dX7_keepsAllPlaces_4 rfl (by first | rfl | assumption) (by rfl) ?_
    refine i_len 8 dX7_keepsAllPlaces_7 rfl (by first | rfl | assumption) ?_
    refine i_icmp_ge 11 65 ⟨by omega, by omega⟩ ⟨by omega, by omega⟩ dX7_keepsAllPlaces_8 rfl (by decide) (fun _ => ?_) (fun h => absurd h (by omega))
    refine i_const 66 dX7_keepsAllPlaces_65 rfl ?_
    refine i_retB _ dX7_keepsAllPlaces_66 rfl ⟨Nat.le_refl _, Nat.le_refl _⟩ ?_ ⟨rfl, rfl⟩
    refine i_eq1 ?_
    exact hb.symm
  | succ j ih =>
    intro p x3 hp0 hpj hb
    have hp : 0 ≤ p ∧ p < (n : Int) := by omega
    have hto := tMap_r hXX ht hp
    obtain ⟨hM1, hM2⟩ := hM p.toNat (by omega)
    obtain ⟨hM3, hM4⟩ := hM (tMap k W H t col row p).toNat (by omega)
    unfold allF at hb
    unfold kaP at hb ih
    refine m_iload_n 3 dX7_keepsAllPlaces_2 rfl rfl ?_
    refine m_aload_n 4 dX7_keepsAllPlaces_3 rfl rfl ?_
    refine m_getf 7 foX7_70 dX7_keepsAllPlaces_4 rfl (by first | rfl | assumption) (by rfl) ?_
    refine i_len 8 dX7_keepsAllPlaces_7 rfl (by first | rfl | assumption) ?_
    refine i_icmp_ge 11 65 ⟨by omega, by omega⟩ ⟨by omega, by omega⟩ dX7_keepsAllPlaces_8 rfl (by decide) (fun h => absurd h (by omega)) (fun _ => ?_)
    refine m_aload_n 12 dX7_keepsAllPlaces_11 rfl rfl ?_
    refine m_getf 15 foX7_30 dX7_keepsAllPlaces_12 rfl (by first | rfl | assumption) (by rfl) ?_
    refine m_iload_n 16 dX7_keepsAllPlaces_15 rfl rfl ?_
    refine m_iload_n 17 dX7_keepsAllPlaces_16 rfl rfl ?_
    refine m_cV (M' := MX5_placeAfter) 20 [_, _] kX7_139 imX5_placeAfter seX5_placeAfter clX5_placeAfter dX7_keepsAllPlaces_17 rfl rfl rfl (by first | rfl | assumption) (m_rmI (by omega) (Nat.le_of_ble_eq_true rfl) (Nat.le_refl _) (Nat.le_refl _)) (c_X5_paM hG (d + 1) hXX ht hp) ?_
    refine m_istore_n 21 dX7_keepsAllPlaces_20 rfl (by decide) ?_
    refine m_aload_n 22 dX7_keepsAllPlaces_21 rfl rfl ?_
    refine m_getf 25 foX7_12 dX7_keepsAllPlaces_22 rfl (by first | rfl | assumption) (by rfl) ?_
    refine m_iload_n 26 dX7_keepsAllPlaces_25 rfl rfl ?_
    refine m_cV (M' := MX1_has) 29 [_] kX7_169 imX1_has seX1_has clX1_has dX7_keepsAllPlaces_26 rfl rfl rfl (by first | rfl | assumption) (m_rmI (by omega) (Nat.le_of_ble_eq_true rfl) (Nat.le_refl _) (Nat.le_refl _)) (c_X1_has hG (d + 3) h2 hFF ⟨by omega, by omega⟩) ?_
    refine b_if_eq 32 57 dX7_keepsAllPlaces_29 rfl (by decide) (fun h => absurd h (by rw [inB_1 hto]; decide)) (fun _ => ?_)
    refine m_aload_n 33 dX7_keepsAllPlaces_32 rfl rfl ?_
    refine m_getf 36 foX7_70 dX7_keepsAllPlaces_33 rfl (by first | rfl | assumption) (by rfl) ?_
    refine m_iload_n 37 dX7_keepsAllPlaces_36 rfl rfl ?_
    refine i_ald 38 dX7_keepsAllPlaces_37 rfl (by first | rfl | assumption) ⟨by omega, by omega, by omega⟩ ?_
    refine m_aload_n 39 dX7_keepsAllPlaces_38 rfl rfl ?_
    refine m_getf 42 foX7_70 dX7_keepsAllPlaces_39 rfl (by first | rfl | assumption) (by rfl) ?_
    refine m_iload_n 43 dX7_keepsAllPlaces_42 rfl rfl ?_
    refine i_ald 44 dX7_keepsAllPlaces_43 rfl (by first | rfl | assumption) ⟨by omega, by omega, by omega⟩ ?_
    refine i_icmp_ne 47 57 ⟨by omega, by omega⟩ ⟨by omega, by omega⟩ dX7_keepsAllPlaces_44 rfl (by decide) (fun q44 => ?_) (fun q44 => ?_)
    · refine i_const 58 dX7_keepsAllPlaces_57 rfl ?_
      refine i_retB _ dX7_keepsAllPlaces_58 rfl ⟨Nat.le_refl _, Nat.le_refl _⟩ ?_ ⟨rfl, rfl⟩
      refine i_eq0 ?_
      rw [← hb]
      first | (simp [q44]; done) | (simp [q44, q54]; done)
    · refine m_aload_n 48 dX7_keepsAllPlaces_47 rfl rfl ?_
      refine m_iload_n 49 dX7_keepsAllPlaces_48 rfl rfl ?_
      refine m_iload_n 50 dX7_keepsAllPlaces_49 rfl rfl ?_
      refine m_iload_n 51 dX7_keepsAllPlaces_50 rfl rfl ?_
      refine m_cV (M' := MX7_keepsBeside) 54 [_, _, _] kX7_177 imX7_keepsBeside seX7_keepsBeside clX7_keepsBeside dX7_keepsAllPlaces_51 rfl rfl rfl (by first | rfl | assumption) (m_rmI (by omega) (Nat.le_of_ble_eq_true rfl) (Nat.le_refl _) (Nat.le_refl _)) (c_X7_keepsBeside hG d hXX ht hp hto) ?_
      refine b_if_ne 57 59 dX7_keepsAllPlaces_54 rfl (by decide) (fun q54 => ?_) (fun q54 => ?_)
      · refine i_inc 62 dX7_keepsAllPlaces_59 rfl rfl (by decide) ?_
        refine m_goto 2 dX7_keepsAllPlaces_62 (by decide) ?_
        refine ih _ _ (by omega) (by omega) ?_
        rw [← hb]
        simp [q44, q54]
      · refine i_const 58 dX7_keepsAllPlaces_57 rfl ?_
        refine i_retB _ dX7_keepsAllPlaces_58 rfl ⟨Nat.le_refl _, Nat.le_refl _⟩ ?_ ⟨rfl, rfl⟩
        refine i_eq0 ?_
        rw [← hb]
        first | (simp [q44]; done) | (simp [q44, q54]; done)
set_option maxHeartbeats 4000000 in
set_option maxRecDepth 100000 in
theorem c_X7_keepsAllPlaces (hG : m_G G) (d : Nat) {k W H : Int} {n sl m : Nat} {col row bes : Nat → Int} {wal : Nat → Bool} (hX : cX w k W H n sl m col row bes wal) {mk : Nat → Int} (h20 : w[20]? = some (cI n mk)) (hM : ∀ j, j < n → iR (mk j)) {t : Int} (ht : 0 ≤ t ∧ t < tuN k W H) : m_Cv G MX7_keepsAllPlaces (m_r (d + 4) 0 0) [.ref 1, vI t] w (some (vB (allF (kaP sl bes mk wal (tMap k W H t col row)) n 0))) w := by
  refine m_enter (L := [some (.ref 1), some (vI t), none, none]) (by decide) hG (m_c1 rfl) (Nat.le_of_ble_eq_true rfl) rfl ?_
  refine i_const 1 dX7_keepsAllPlaces_0 rfl ?_
  refine m_istore_n 2 dX7_keepsAllPlaces_1 rfl (by decide) ?_
  exact l_X7_keepsAllPlaces hG d hX h20 hM ht n 0 _ (by omega) (by omega) rfl
set_option maxHeartbeats 4000000 in
set_option maxRecDepth 100000 in
theorem c_X7_keeps (hG : m_G G) (d : Nat) {k W H : Int} {n sl m : Nat} {col row bes : Nat → Int} {wal : Nat → Bool} (hX : cX w k W H n sl m col row bes wal) {mk : Nat → Int} (h20 : w[20]? = some (cI n mk)) (hM : ∀ j, j < n → iR (mk j)) {t : Int} (ht : iR t) : m_Cv G MX7_keeps (m_r (d + 5) 0 0) [.ref 1, vI t] w (some (vB (inB t (tuN k W H) && allF (kaP sl bes mk wal (tMap k W H t col row)) n 0))) w := by
  have hXX := hX
  obtain ⟨h1, h2, h3, h4, h5, h6, h7, h8, hF, hN, hsl, hcr, hbs⟩ := hX
  have hFF := hF
  have hNN := hN
  have hnb := hF.n
  obtain ⟨hk0, hk4, hW1, hW2, hH1, hH2, hn, hg4⟩ := hF
  obtain ⟨hn1, hn2, hl1, hl2, hm, hm2⟩ := hN
  have htb := tuB (k := k) (W := W) (H := H) ⟨by omega, by omega, by omega, by omega⟩
  refine m_enter (L := [some (.ref 1), some (vI t)]) (by decide) hG (m_c1 rfl) (Nat.le_of_ble_eq_true rfl) rfl ?_
  refine m_aload_n 1 dX7_keeps_0 rfl rfl ?_
  refine m_getf 4 foX7_30 dX7_keeps_1 rfl (by first | rfl | assumption) (by rfl) ?_
  refine m_iload_n 5 dX7_keeps_4 rfl rfl ?_
  refine m_cV (M' := MX5_has) 8 [_] kX7_135 imX5_has seX5_has clX5_has dX7_keeps_5 rfl rfl rfl (by first | rfl | assumption) (m_rmI (by omega) (Nat.le_of_ble_eq_true rfl) (Nat.le_refl _) (Nat.le_refl _)) (c_X5_has hG (d + 4) h8 ⟨by omega, by omega⟩ ht) ?_
  refine b_if_eq 11 23 dX7_keeps_8 rfl (by decide) (fun q8 => ?_) (fun q8 => ?_)
  · refine i_const 24 dX7_keeps_23 rfl ?_
    refine i_retB _ dX7_keeps_24 rfl ⟨Nat.le_refl _, Nat.le_refl _⟩ ?_ ⟨rfl, rfl⟩
    refine i_eq0 ?_
    simp_all
  · refine m_aload_n 12 dX7_keeps_11 rfl rfl ?_
    refine m_iload_n 13 dX7_keeps_12 rfl rfl ?_
    refine m_cV (M' := MX7_keepsAllPlaces) 16 [_] kX7_142 imX7_keepsAllPlaces seX7_keepsAllPlaces clX7_keepsAllPlaces dX7_keeps_13 rfl rfl rfl (by first | rfl | assumption) (m_rmI (by omega) (Nat.le_of_ble_eq_true rfl) (Nat.le_refl _) (Nat.le_refl _)) (c_X7_keepsAllPlaces hG d hXX h20 hM (inB_t.mp q8)) ?_
    refine b_if_eq 19 23 dX7_keeps_16 rfl (by decide) (fun q16 => ?_) (fun q16 => ?_)
    · refine i_const 24 dX7_keeps_23 rfl ?_
      refine i_retB _ dX7_keeps_24 rfl ⟨Nat.le_refl _, Nat.le_refl _⟩ ?_ ⟨rfl, rfl⟩
      refine i_eq0 ?_
      simp_all
    · refine i_const 20 dX7_keeps_19 rfl ?_
      refine m_goto 24 dX7_keeps_20 (by decide) ?_
      refine i_retB _ dX7_keeps_24 rfl ⟨Nat.le_refl _, Nat.le_refl _⟩ ?_ ⟨rfl, rfl⟩
      refine i_eq1 ?_
      simp_all
set_option maxHeartbeats 4000000 in
set_option maxRecDepth 100000 in
theorem l_X7_keeping (hG : m_G G) (d : Nat) {k W H : Int} {n sl m : Nat} {col row bes : Nat → Int} {wal : Nat → Bool} (hX : cX w k W H n sl m col row bes wal) {mk : Nat → Int} (h20 : w[20]? = some (cI n mk)) (hM : ∀ j, j < n → iR (mk j)) {t : Int} :
    ∀ (j : Nat) (i f : Int), 0 ≤ i → i + j = tuN k W H → f + cntF (fun t => allF (kaP sl bes mk wal (tMap k W H t col row)) n 0) j i = t → m_J G MX7_keeping (m_r (d + 5) 0 0) (fun r x => r = some (some (vI t)) ∧ x = w) 0 0 4 [some (.ref 1), some (vI f), some (vI i)] [] w := by
  have hXX := hX
  obtain ⟨h1, h2, h3, h4, h5, h6, h7, h8, hF, hN, hsl, hcr, hbs⟩ := hX
  have hFF := hF
  have hNN := hN
  have hnb := hF.n
  obtain ⟨hk0, hk4, hW1, hW2, hH1, hH2, hn, hg4⟩ := hF
  obtain ⟨hn1, hn2, hl1, hl2, hm, hm2⟩ := hN
  have htb := tuB (k := k) (W := W) (H := H) ⟨by omega, by omega, by omega, by omega⟩
  intro j
  induction j with
  | zero =>
    intro i f hi0 hij ht
    refine m_iload_n 5 dX7_keeping_4 rfl rfl ?_
    refine m_aload_n 6 dX7_keeping_5 rfl rfl ?_
    refine m_getf 9 foX7_30 dX7_keeping_6 rfl (by first | rfl | assumption) (by rfl) ?_
    refine m_getf 12 foX7_145 dX7_keeping_9 rfl (by first | rfl | assumption) (by rfl) ?_
    refine i_icmp_ge 15 32 ⟨by omega, by omega⟩ ⟨by omega, by omega⟩ dX7_keeping_12 rfl (by decide) (fun _ => ?_) (fun h => absurd h (by omega))
    refine m_iload_n 33 dX7_keeping_32 rfl rfl ?_
    refine i_ret _ dX7_keeping_33 rfl ⟨Nat.le_refl _, Nat.le_refl _⟩ ?_ ⟨rfl, rfl⟩
    simp only [cntF] at ht; omega
  | succ j ih =>
    intro i f hi0 hij ht
    unfold cntF at ht
    refine m_iload_n 5 dX7_keeping_4 rfl rfl ?_
    refine m_aload_n 6 dX7_keeping_5 rfl rfl ?_
    refine m_getf 9 foX7_30 dX7_keeping_6 rfl (by first | rfl | assumption) (by rfl) ?_
    refine m_getf 12 foX7_145 dX7_keeping_9 rfl (by first | rfl | assumption) (by rfl) ?_
    refine i_icmp_ge 15 32 ⟨by omega, by omega⟩ ⟨by omega, by omega⟩ dX7_keeping_12 rfl (by decide) (fun h => absurd h (by omega)) (fun _ => ?_)
    refine m_aload_n 16 dX7_keeping_15 rfl rfl ?_
    refine m_iload_n 17 dX7_keeping_16 rfl rfl ?_
    refine m_cV (M' := MX7_keepsAllPlaces) 20 [_] kX7_142 imX7_keepsAllPlaces seX7_keepsAllPlaces clX7_keepsAllPlaces dX7_keeping_17 rfl rfl rfl (by first | rfl | assumption) (m_rmI (by omega) (Nat.le_of_ble_eq_true rfl) (Nat.le_refl _) (Nat.le_refl _)) (c_X7_keepsAllPlaces hG d hXX h20 hM ⟨by omega, by omega⟩) ?_
    refine b_if_eq 23 26 dX7_keeping_20 rfl (by decide) (fun q20 => ?_) (fun q20 => ?_)
    · refine i_inc 29 dX7_keeping_26 rfl rfl (by decide) ?_
      refine m_goto 4 dX7_keeping_29 (by decide) ?_
      refine ih _ _ (by omega) (by omega) ?_
      first
        | (rw [if_neg (by rw [q20]; decide)] at ht; omega)
        | (rw [if_pos q20] at ht; omega)
    · refine i_inc 26 dX7_keeping_23 rfl rfl (by decide) ?_
      refine i_inc 29 dX7_keeping_26 rfl rfl (by decide) ?_
      refine m_goto 4 dX7_keeping_29 (by decide) ?_
      refine ih _ _ (by omega) (by omega) ?_
      first
        | (rw [if_neg (by rw [q20]; decide)] at ht; omega)
        | (rw [if_pos q20] at ht; omega)
set_option maxHeartbeats 4000000 in
set_option maxRecDepth 100000 in
theorem c_X7_keeping (hG : m_G G) (d : Nat) {k W H : Int} {n sl m : Nat} {col row bes : Nat → Int} {wal : Nat → Bool} (hX : cX w k W H n sl m col row bes wal) {mk : Nat → Int} (h20 : w[20]? = some (cI n mk)) (hM : ∀ j, j < n → iR (mk j)) : m_Cv G MX7_keeping (m_r (d + 5) 0 0) [.ref 1] w (some (vI (cntF (fun t => allF (kaP sl bes mk wal (tMap k W H t col row)) n 0) (tuN k W H).toNat 0))) w := by
  have hXX := hX
  obtain ⟨h1, h2, h3, h4, h5, h6, h7, h8, hF, hN, hsl, hcr, hbs⟩ := hX
  have hFF := hF
  have hNN := hN
  have hnb := hF.n
  obtain ⟨hk0, hk4, hW1, hW2, hH1, hH2, hn, hg4⟩ := hF
  obtain ⟨hn1, hn2, hl1, hl2, hm, hm2⟩ := hN
  have htb := tuB (k := k) (W := W) (H := H) ⟨by omega, by omega, by omega, by omega⟩
  refine m_enter (L := [some (.ref 1), none, none]) (by decide) hG (m_c1 rfl) (Nat.le_of_ble_eq_true rfl) rfl ?_
  refine i_const 1 dX7_keeping_0 rfl ?_
  refine m_istore_n 2 dX7_keeping_1 rfl (by decide) ?_
  refine i_const 3 dX7_keeping_2 rfl ?_
  refine m_istore_n 4 dX7_keeping_3 rfl (by decide) ?_
  exact l_X7_keeping hG d hXX h20 hM (tuN k W H).toNat 0 0 (by omega) (by omega) (by omega)
end GK
