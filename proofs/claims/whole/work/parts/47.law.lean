/-! the law: its loop, its start -/
section LL
variable {G : mG} {w : List mC}
theorem and31 (x : Int32) : ∃ z : Int, 0 ≤ z ∧ z < 32 ∧ x &&& iI 31 = iI z := by
  have h : (x &&& iI 31).toBitVec.toNat ≤ 31 := by
    rw [Int32.toBitVec_and, BitVec.toNat_and]
    exact Nat.le_trans Nat.and_le_right (by decide)
  have e : (x &&& iI 31).toInt = ((x &&& iI 31).toBitVec.toNat : Int) := BitVec.toInt_eq_toNat_of_lt (by omega)
  refine ⟨(x &&& iI 31).toInt, by omega, by omega, ?_⟩
  unfold iI
  exact (Int32.ofInt_toInt _).symm

set_option maxHeartbeats 4000000 in
set_option maxRecDepth 100000 in
theorem law_loop (hG : m_G G) {N : Nat} {g : Nat → Int} (hN : N ≤ 2051) (hg : ∀ j, iR (g j)) : ∀ (r i nc ns : Nat) (w : List mC) (x5 x6 : Option Value), INV (cI N g) w → N ≤ i + r → i ≤ 4000 → nc + r ≤ 601024 ∧ ns + 6 * r ≤ 7293000 → m_J G ML_law room_1 QL nc ns 53 [some (.ref 0), some (.ref 1), some (.ref 22), some (.ref 31), some (vI (i : Int)), x5, x6] [] w := by
  intro r
  induction r with
  | zero =>
    intro i nc ns w x5 x6 hI h1 h3 h2
    have h0 := hI.c0
    refine m_iload 55 dL_law_53 rfl rfl ?_
    refine m_aload_n 56 dL_law_55 rfl rfl ?_
    refine i_len 57 dL_law_56 rfl h0 ?_
    refine i_const 58 dL_law_57 rfl ?_
    refine i_sub 59 dL_law_58 rfl ?_
    refine i_icmp_gt 62 1180 ⟨by omega, by omega⟩ ⟨by omega, by omega⟩ dL_law_59 rfl (by decide) (fun q => ?_) (fun q => absurd q (by omega))
    refine i_const 1181 dL_law_1180 rfl ?_
    exact i_retB true dL_law_1181 rfl ⟨by show nc ≤ 601024; omega, by show ns ≤ 7293000; omega⟩ rfl rfl
  | succ r ih =>
    intro i nc ns w x5 x6 hI h1 h3 h2
    have h0 := hI.c0
    refine m_iload 55 dL_law_53 rfl rfl ?_
    refine m_aload_n 56 dL_law_55 rfl rfl ?_
    refine i_len 57 dL_law_56 rfl h0 ?_
    refine i_const 58 dL_law_57 rfl ?_
    refine i_sub 59 dL_law_58 rfl ?_
    refine i_icmp_gt 62 1180 ⟨by omega, by omega⟩ ⟨by omega, by omega⟩ dL_law_59 rfl (by decide) (fun q => ?_) (fun q => ?_)
    · refine i_const 1181 dL_law_1180 rfl ?_
      exact i_retB true dL_law_1181 rfl ⟨by show nc ≤ 601024; omega, by show ns ≤ 7293000; omega⟩ rfl rfl
    have hc : i + 3 < N := by omega
    have kk : ∀ (y : List mC) (nc' ns' : Nat) (x5 x6 : Option Value), INV (cI N g) y → nc' ≤ nc + 1 ∧ ns' ≤ ns + 6 → m_J G ML_law room_1 QL nc' ns' 1174 [some (.ref 0), some (.ref 1), some (.ref 22), some (.ref 31), some (vI (i : Int)), x5, x6] [] y := by
      intro y nc' ns' x5 x6 hy hb
      refine i_inc 1177 dL_law_1174 rfl rfl (by decide) ?_
      refine m_goto 53 dL_law_1177 (by decide) ?_
      exact ih (i + 4) nc' ns' y x5 x6 hy (by omega) (by omega) ⟨by omega, by omega⟩
    refine m_aload_n 63 dL_law_62 rfl rfl ?_
    refine m_iload 65 dL_law_63 rfl rfl ?_
    refine i_ald 66 dL_law_65 rfl h0 ⟨by omega, by omega, by omega⟩ ?_
    refine i_bipush 68 31 dL_law_66 rfl (by decide) ?_
    refine m_iand 69 dL_law_68 rfl ?_
    obtain ⟨z, z0, z1, ze⟩ := and31 (iI (g ((i : Int)).toNat))
    rw [ze]
    by_cases hz20 : 20 ≤ z
    · refine i_tableOut 1174 ⟨by omega, by omega⟩ dL_law_69 (by omega) (by decide) ?_
      exact kk w nc ns x5 x6 hI ⟨by omega, by omega⟩
    rcases (by omega : z = 0 ∨ z = 1 ∨ z = 2 ∨ z = 3 ∨ z = 4 ∨ z = 5 ∨ z = 6 ∨ z = 7 ∨ z = 8 ∨ z = 9 ∨ z = 10 ∨ z = 11 ∨ z = 12 ∨ z = 13 ∨ z = 14 ∨ z = 15 ∨ z = 16 ∨ z = 17 ∨ z = 18 ∨ z = 19) with rfl | rfl | rfl | rfl | rfl | rfl | rfl | rfl | rfl | rfl | rfl | rfl | rfl | rfl | rfl | rfl | rfl | rfl | rfl | rfl
    · refine i_tableIn 164 ⟨by decide, by decide⟩ dL_law_69 (by decide) (by decide) rfl (by decide) ?_
      exact g_join hG hI hN hc hg ⟨by omega, by omega⟩ (i_join hG hI (hg _) (hg _)) kk
    · refine i_tableIn 239 ⟨by decide, by decide⟩ dL_law_69 (by decide) (by decide) rfl (by decide) ?_
      exact g_places hG hI hN hc hg ⟨by omega, by omega⟩ (i_places hG hI) kk
    · refine i_tableIn 252 ⟨by decide, by decide⟩ dL_law_69 (by decide) (by decide) rfl (by decide) ?_
      by_cases hz : g (i + 2) = 0
      · exact g_degreeF hG hI hN hc hg ⟨by omega, by omega⟩ hz (i_degree hG hI (hg _)) kk
      · exact g_degreeT hG hI hN hc hg ⟨by omega, by omega⟩ hz (i_degree hG hI (hg _)) kk
    · refine i_tableIn 336 ⟨by decide, by decide⟩ dL_law_69 (by decide) (by decide) rfl (by decide) ?_
      exact g_neighbour hG hI hN hc hg ⟨by omega, by omega⟩ (i_neighbour hG hI (hg _) (hg _)) kk
    · refine i_tableIn 404 ⟨by decide, by decide⟩ dL_law_69 (by decide) (by decide) rfl (by decide) ?_
      by_cases hz : g (i + 3) = 0
      · exact g_wallF hG hI hN hc hg ⟨by omega, by omega⟩ hz (i_wall hG hI (hg _) (hg _)) kk
      · exact g_wallT hG hI hN hc hg ⟨by omega, by omega⟩ hz (i_wall hG hI (hg _) (hg _)) kk
    · refine i_tableIn 507 ⟨by decide, by decide⟩ dL_law_69 (by decide) (by decide) rfl (by decide) ?_
      by_cases hz : g (i + 1) = 0
      · exact g_pairsF hG hI hN hc hg ⟨by omega, by omega⟩ hz (i_pairs hG hI) kk
      · exact g_pairsT hG hI hN hc hg ⟨by omega, by omega⟩ hz (i_pairs hG hI) kk
    · refine i_tableIn 548 ⟨by decide, by decide⟩ dL_law_69 (by decide) (by decide) rfl (by decide) ?_
      by_cases hz : g (i + 2) = 0
      · exact g_pairF hG hI hN hc hg ⟨by omega, by omega⟩ hz (i_pair hG hI (hg _)) kk
      · exact g_pairT hG hI hN hc hg ⟨by omega, by omega⟩ hz (i_pair hG hI (hg _)) kk
    · refine i_tableIn 601 ⟨by decide, by decide⟩ dL_law_69 (by decide) (by decide) rfl (by decide) ?_
      exact g_seen hG hI hN hc hg ⟨by omega, by omega⟩ (i_seen hG hI (hg _) (hg _) (hg _)) kk
    · refine i_tableIn 681 ⟨by decide, by decide⟩ dL_law_69 (by decide) (by decide) rfl (by decide) ?_
      exact g_far hG hI hN hc hg ⟨by omega, by omega⟩ (i_far hG hI (hg _) (hg _)) kk
    · refine i_tableIn 749 ⟨by decide, by decide⟩ dL_law_69 (by decide) (by decide) rfl (by decide) ?_
      exact g_parts hG hI hN hc hg ⟨by omega, by omega⟩ (i_parts hG hI (hg _)) kk
    · refine i_tableIn 774 ⟨by decide, by decide⟩ dL_law_69 (by decide) (by decide) rfl (by decide) ?_
      exact g_without hG hI hN hc hg ⟨by omega, by omega⟩ (i_without hG hI (hg _)) kk
    · refine i_tableIn 830 ⟨by decide, by decide⟩ dL_law_69 (by decide) (by decide) rfl (by decide) ?_
      exact g_area hG hI hN hc hg ⟨by omega, by omega⟩ (i_area hG hI (hg _) (hg _)) kk
    · refine i_tableIn 905 ⟨by decide, by decide⟩ dL_law_69 (by decide) (by decide) rfl (by decide) ?_
      exact g_size hG hI hN hc hg ⟨by omega, by omega⟩ (i_size hG hI (hg _)) kk
    · refine i_tableIn 930 ⟨by decide, by decide⟩ dL_law_69 (by decide) (by decide) rfl (by decide) ?_
      exact g_mark hG hI hN hc hg ⟨by omega, by omega⟩ (i_mark hG hI (hg _) (hg _)) kk
    · refine i_tableIn 1005 ⟨by decide, by decide⟩ dL_law_69 (by decide) (by decide) rfl (by decide) ?_
      exact g_image hG hI hN hc hg ⟨by omega, by omega⟩ (i_image hG hI (hg _) (hg _)) kk
    · refine i_tableIn 1073 ⟨by decide, by decide⟩ dL_law_69 (by decide) (by decide) rfl (by decide) ?_
      exact g_keeps hG hI hN hc hg ⟨by omega, by omega⟩ (i_keeps hG hI (hg _)) kk
    · refine i_tableIn 1098 ⟨by decide, by decide⟩ dL_law_69 (by decide) (by decide) rfl (by decide) ?_
      exact g_keeping hG hI hN hc hg ⟨by omega, by omega⟩ (i_keeping hG hI) kk
    · refine i_tableIn 1111 ⟨by decide, by decide⟩ dL_law_69 (by decide) (by decide) rfl (by decide) ?_
      exact g_text hG hI hN hc hg ⟨by omega, by omega⟩ (i_text hG hI (hg _)) kk
    · refine i_tableIn 1136 ⟨by decide, by decide⟩ dL_law_69 (by decide) (by decide) rfl (by decide) ?_
      exact g_unit hG hI hN hc hg ⟨by omega, by omega⟩ (i_unit hG hI (hg _)) kk
    · refine i_tableIn 1161 ⟨by decide, by decide⟩ dL_law_69 (by decide) (by decide) rfl (by decide) ?_
      exact g_read hG hI hN hc hg ⟨by omega, by omega⟩ (i_read hG hI) kk
set_option maxHeartbeats 4000000 in
set_option maxRecDepth 100000 in
theorem inv_0 {k : Int} {W H n sl m N : Nat} {g : Nat → Int} {nb : Nat → Bool} (hF : fOK k W H n) (hn : n = W * H) (hsl : sl = slN k n) (hm : m = n * sl) (hnb : nbI k W H n n 0 nb) : INV (cI N g) ([cI N g, oGrid, oFrame k W H n, cI n (fC W n), cI n (fR W n), oNet n sl, cI m (fB k W H sl m), cZ m (fun _ => false), oTurns (tuN k W H), oWalk, cI n (fun _ => 0), oRow 12 0, cI n (fun _ => 0), oScribe, oRow 15 0, cI (3 * n) (fun _ => 0), oDraft 0 0, cI n (fun _ => 0), oRow 19 0, cI 1200 (fun _ => 0), cI n (fun _ => 0), cI n (fun _ => 0), oMod 0 k W H 0 0 0 0, cZ 65536 nb, cZ 65536 (fun _ => false), cI 256 (fun _ => 0), cI 256 (fun _ => 0), cI 256 (fun _ => 0), cZ 256 (fun _ => false), cI 1200 (fun _ => 0), cI 256 (fun _ => 0), mJ 1 (fun _ => 0)]) := by
  have hnn := hF.n
  have hWb : 1 ≤ W := by have := hF.2.2.1; omega
  have hsb : 1 ≤ sl ∧ sl ≤ 256 := by rw [hsl]; unfold slN; split <;> first | omega | (split <;> first | omega | (split <;> omega))
  have hmb : m ≤ 65536 := by rw [hm]; exact Nat.mul_le_mul hnn.2 hsb.2
  have hNk : nOK n sl m := ⟨by omega, by omega, by omega, by omega, by rw [hm]; exact Int.natCast_mul n sl, hmb⟩
  have hbs : ∀ j : Nat, j < m → fB k W H sl m j = stp k W H ((j / sl % W : Nat) : Int) ((j / sl / W : Nat) : Int) ((j % sl : Nat) : Int) := fun j hj => by
    show (if j < m then bs0 k W H sl j else _) = _
    rw [if_pos hj]
    rfl
  have hbr : ∀ j : Nat, j < m → -1 ≤ fB k W H sl m j ∧ fB k W H sl m j < n := fun j hj => by
    rw [hbs j hj]
    exact stp_r hF _ _ _
  have hxy : ∀ j : Nat, j < n → fC W n j = (j : Int) % (W : Int) ∧ fR W n j = (j : Int) / (W : Int) := fun j hj => by
    rw [fC_j hj, fR_j hj]
    exact ⟨Int.natCast_emod j W, Int.natCast_ediv j W⟩
  have hb : ∀ (p : Nat) (s : Int), p < n → 0 ≤ s → s < sl → bAt sl (fB k W H sl m) p s = stp k W H ((p : Int) % (W : Int)) ((p : Int) / (W : Int)) s := by
    intro p s hp h0 h1
    obtain ⟨s, rfl⟩ := Int.eq_ofNat_of_zero_le h0
    have hs : s < sl := by omega
    have ej : ((p : Int) * (sl : Int) + (s : Int)).toNat = p * sl + s := by
      rw [show (p : Int) * (sl : Int) + (s : Int) = ((p * sl + s : Nat) : Int) by rw [Int.natCast_add, Int.natCast_mul]]
      exact Int.toNat_natCast _
    have hjm : p * sl + s < m := by
      have q := nIx hNk (p := (p : Int)) (s := (s : Int)) ⟨by omega, by omega⟩ ⟨by omega, by omega⟩
      have q2 := q.2
      rw [show (p : Int) * (sl : Int) + (s : Int) = ((p * sl + s : Nat) : Int) by rw [Int.natCast_add, Int.natCast_mul]] at q2
      omega
    show fB k W H sl m ((p : Int) * (sl : Int) + (s : Int)).toNat = _
    rw [ej, hbs _ hjm]
    have d1 : (p * sl + s) / sl = p := by
      rw [Nat.mul_comm, Nat.mul_add_div (by omega), Nat.div_eq_of_lt hs, Nat.add_zero]
    have d2 : (p * sl + s) % sl = s := by
      rw [Nat.mul_comm, Nat.mul_add_mod, Nat.mod_eq_of_lt hs]
    rw [d1, d2]
    rw [Int.natCast_emod, Int.natCast_ediv]
  have hl := LK_0 hF hsl hb hnb
  refine ⟨0, k, W, H, n, sl, m, fC W n, fR W n, fB k W H sl m, fun _ => false, nb, fun _ => false, 0, fun _ => 0, fun _ => 0, fun _ => 0, fun _ => 0, ⟨Nat.le_of_ble_eq_true rfl, rfl, ⟨⟨rfl, rfl, rfl, rfl, rfl, rfl, rfl, rfl, hF, hNk, hsl, hxy, hbr⟩, rfl, rfl, rfl, rfl, rfl, rfl, _, _, _, _, _, _, _, _, rfl, rfl, rfl, rfl, rfl, rfl, rfl⟩, ⟨_, _, _, _, _, _, rfl, rfl, rfl, rfl, rfl, rfl, rfl, rfl, rfl⟩, rfl⟩, ⟨hl, fun j _ => ⟨Int.le_refl 0, (by decide : (0 : Int) ≤ 99)⟩, fun j _ => ⟨Int.le_refl 0, (by decide : (0 : Int) ≤ 256)⟩, fun j hj => absurd hj (by omega), by decide⟩, trivial⟩
set_option maxHeartbeats 4000000 in
set_option maxRecDepth 100000 in
theorem law_st (hG : m_G G) {N : Nat} {g : Nat → Int} (hN : N ≤ 2051) (hg : ∀ j, iR (g j)) {a b c k : Int} {W H n sl m : Nat} (ha : a = if 0 < N then g 0 else 0) (hb : b = if 1 < N then g 1 else 0) (hc : c = if 2 < N then g 2 else 0) (hF : fOK k W H n) (hn : n = W * H) (hsl : sl = slN k n) (hm : m = n * sl)
    (hI : m_Cv G MX1_init (m_r 6 2 512) [.ref 2, vI a, vI b, vI c] [cI N g, mO 7 dvX7, mO 1 dvX1] none [cI N g, mO 7 dvX7, oFrame k W H n, cI n (fC W n), cI n (fR W n)])
    (hM : m_Ct G MX8_init (m_r 9 8 133552) [.ref 22, vI a, vI b, vI c] ([cI N g, oGrid, oFrame k W H n, cI n (fC W n), cI n (fR W n), oNet n sl, cI m (fB k W H sl m), cZ m (fun _ => false), oTurns (tuN k W H), oWalk, cI n (fun _ => 0), oRow 12 0, cI n (fun _ => 0), oScribe, oRow 15 0, cI (3 * n) (fun _ => 0), oDraft 0 0, cI n (fun _ => 0), oRow 19 0, cI 1200 (fun _ => 0), cI n (fun _ => 0), cI n (fun _ => 0), mO 8 dvX8]) (fun r x => r = some none ∧ ∃ nb : Nat → Bool, nbI k W H n n 0 nb ∧ x = [cI N g, oGrid, oFrame k W H n, cI n (fC W n), cI n (fR W n), oNet n sl, cI m (fB k W H sl m), cZ m (fun _ => false), oTurns (tuN k W H), oWalk, cI n (fun _ => 0), oRow 12 0, cI n (fun _ => 0), oScribe, oRow 15 0, cI (3 * n) (fun _ => 0), oDraft 0 0, cI n (fun _ => 0), oRow 19 0, cI 1200 (fun _ => 0), cI n (fun _ => 0), cI n (fun _ => 0), oMod 0 k W H 0 0 0 0, cZ 65536 nb, cZ 65536 (fun _ => false), cI 256 (fun _ => 0), cI 256 (fun _ => 0), cI 256 (fun _ => 0), cZ 256 (fun _ => false), cI 1200 (fun _ => 0), cI 256 (fun _ => 0)])) : m_Ct G ML_law room_1 [.ref 0] [cI N g] QL := by
  refine m_enter (L := [some (.ref 0), none, none, none, none, none, none]) (by decide) hG (m_c1 rfl) (Nat.le_of_ble_eq_true rfl) rfl ?_
  have hcl : ∀ (w : List mC), w[0]? = some (cI N g) → ∀ j : Nat, j < 3 → m_Cv G ML_cell (m_r 9 0 0) [.ref 0, vI (j : Int)] w (some (vI (if j < N then g j else 0))) w := fun w h j hj => c_L_cell hG 9 h (by omega) hj
  refine m_new (ci := 7) (fs := dvX7) 3 tyX7 rfl tyX7_ok inX7 knL_8 ntX7 ndX7 dfX7 nrX7 dL_law_0 rfl (by constructor <;> first | (simp only [m_r, room_1]; omega) | (simp only [room_1]; omega)) ?_
  refine m_dup 4 dL_law_3 rfl rfl ?_
  have c0 := hcl [cI N g, mO 7 dvX7] rfl 0 (by decide)
  have c1 := hcl [cI N g, mO 7 dvX7] rfl 1 (by decide)
  have c2 := hcl [cI N g, mO 7 dvX7] rfl 2 (by decide)
  rw [← ha] at c0
  rw [← hb] at c1
  rw [← hc] at c2
  refine m_aload_n 5 dL_law_4 rfl rfl ?_
  refine i_const 6 dL_law_5 rfl ?_
  refine m_cS (M' := ML_cell) 9 [_, _] kL_47 stL_cell clL_cell dL_law_6 rfl rfl (m_rmL (by decide) (Nat.le_of_ble_eq_true rfl) (by first | omega | (simp only [m_r]; omega)) (by first | omega | (simp only [m_r]; omega))) (c0) ?_
  refine m_aload_n 10 dL_law_9 rfl rfl ?_
  refine i_const 11 dL_law_10 rfl ?_
  refine m_cS (M' := ML_cell) 14 [_, _] kL_47 stL_cell clL_cell dL_law_11 rfl rfl (m_rmL (by decide) (Nat.le_of_ble_eq_true rfl) (by first | omega | (simp only [m_r]; omega)) (by first | omega | (simp only [m_r]; omega))) (c1) ?_
  refine m_aload_n 15 dL_law_14 rfl rfl ?_
  refine i_const 16 dL_law_15 rfl ?_
  refine m_cS (M' := ML_cell) 19 [_, _] kL_47 stL_cell clL_cell dL_law_16 rfl rfl (m_rmL (by decide) (Nat.le_of_ble_eq_true rfl) (by first | omega | (simp only [m_r]; omega)) (by first | omega | (simp only [m_r]; omega))) (c2) ?_
  refine m_cI (M' := MX7_init) 22 [_, _, _] kL_53 imX7_init ⟨rfl, rfl⟩ clX7_init dL_law_19 rfl rfl (m_rmL (by decide) (Nat.le_of_ble_eq_true rfl) (by first | omega | (simp only [m_r]; omega)) (by first | omega | (simp only [m_r]; omega))) (c_X7_init hG 4 hF hn hsl hm hI) ?_
  refine m_astore_n 23 dL_law_22 rfl (by decide) ?_
  refine m_new (ci := 8) (fs := dvX8) 26 tyX8 rfl tyX8_ok inX8 knL_56 ntX8 ndX8 dfX8 nrX8 dL_law_23 rfl (by constructor <;> first | (simp only [m_r, room_1]; omega) | (simp only [room_1]; omega)) ?_
  refine m_dup 27 dL_law_26 rfl rfl ?_
  have d0 := hcl ([cI N g, oGrid, oFrame k W H n, cI n (fC W n), cI n (fR W n), oNet n sl, cI m (fB k W H sl m), cZ m (fun _ => false), oTurns (tuN k W H), oWalk, cI n (fun _ => 0), oRow 12 0, cI n (fun _ => 0), oScribe, oRow 15 0, cI (3 * n) (fun _ => 0), oDraft 0 0, cI n (fun _ => 0), oRow 19 0, cI 1200 (fun _ => 0), cI n (fun _ => 0), cI n (fun _ => 0), mO 8 dvX8]) rfl 0 (by decide)
  have d1 := hcl ([cI N g, oGrid, oFrame k W H n, cI n (fC W n), cI n (fR W n), oNet n sl, cI m (fB k W H sl m), cZ m (fun _ => false), oTurns (tuN k W H), oWalk, cI n (fun _ => 0), oRow 12 0, cI n (fun _ => 0), oScribe, oRow 15 0, cI (3 * n) (fun _ => 0), oDraft 0 0, cI n (fun _ => 0), oRow 19 0, cI 1200 (fun _ => 0), cI n (fun _ => 0), cI n (fun _ => 0), mO 8 dvX8]) rfl 1 (by decide)
  have d2 := hcl ([cI N g, oGrid, oFrame k W H n, cI n (fC W n), cI n (fR W n), oNet n sl, cI m (fB k W H sl m), cZ m (fun _ => false), oTurns (tuN k W H), oWalk, cI n (fun _ => 0), oRow 12 0, cI n (fun _ => 0), oScribe, oRow 15 0, cI (3 * n) (fun _ => 0), oDraft 0 0, cI n (fun _ => 0), oRow 19 0, cI 1200 (fun _ => 0), cI n (fun _ => 0), cI n (fun _ => 0), mO 8 dvX8]) rfl 2 (by decide)
  rw [← ha] at d0
  rw [← hb] at d1
  rw [← hc] at d2
  refine m_aload_n 28 dL_law_27 rfl rfl ?_
  refine i_const 29 dL_law_28 rfl ?_
  refine m_cS (M' := ML_cell) 32 [_, _] kL_47 stL_cell clL_cell dL_law_29 rfl rfl (m_rmL (by decide) (Nat.le_of_ble_eq_true rfl) (by first | omega | (simp only [m_r]; omega)) (by first | omega | (simp only [m_r]; omega))) (d0) ?_
  refine m_aload_n 33 dL_law_32 rfl rfl ?_
  refine i_const 34 dL_law_33 rfl ?_
  refine m_cS (M' := ML_cell) 37 [_, _] kL_47 stL_cell clL_cell dL_law_34 rfl rfl (m_rmL (by decide) (Nat.le_of_ble_eq_true rfl) (by first | omega | (simp only [m_r]; omega)) (by first | omega | (simp only [m_r]; omega))) (d1) ?_
  refine m_aload_n 38 dL_law_37 rfl rfl ?_
  refine i_const 39 dL_law_38 rfl ?_
  refine m_cS (M' := ML_cell) 42 [_, _] kL_47 stL_cell clL_cell dL_law_39 rfl rfl (m_rmL (by decide) (Nat.le_of_ble_eq_true rfl) (by first | omega | (simp only [m_r]; omega)) (by first | omega | (simp only [m_r]; omega))) (d2) ?_
  refine m_cIr (M' := MX8_init) 45 [_, _, _] kL_58 imX8_init ⟨rfl, rfl⟩ clX8_init dL_law_42 rfl rfl (m_rmL (by decide) (Nat.le_of_ble_eq_true rfl) (by first | omega | (simp only [m_r]; omega)) (by first | omega | (simp only [m_r]; omega))) hM (fun w2 h => by cases h.1) (fun v2 w2 h => ?_)
  obtain ⟨hv, nb, hnb, rfl⟩ := h
  cases hv
  refine m_astore_n 46 dL_law_45 rfl (by decide) ?_
  refine i_const 47 dL_law_46 rfl ?_
  refine i_newJ 49 1 dL_law_47 rfl rfl (by decide) (by constructor <;> first | (simp only [m_r, room_1]; omega) | (simp only [room_1]; omega)) ?_
  refine m_astore_n 50 dL_law_49 rfl (by decide) ?_
  refine i_const 51 dL_law_50 rfl ?_
  refine m_istore 53 dL_law_51 rfl (by decide) ?_
  exact law_loop hG hN hg N 3 _ _ _ none none (inv_0 hF hn hsl hm hnb) (by omega) (by omega) (by constructor <;> (simp only [m_r]; omega))
set_option maxHeartbeats 4000000 in
set_option maxRecDepth 100000 in
theorem law_all (hG : m_G G) {N : Nat} {g : Nat → Int} (hN : N ≤ 2051) (hg : ∀ j, iR (g j)) : m_Ct G ML_law room_1 [.ref 0] [cI N g] QL := by
  have r0 : iR 0 := ⟨by decide, by decide⟩
  obtain ⟨a, ha⟩ : ∃ a, a = if 0 < N then g 0 else 0 := ⟨_, rfl⟩
  obtain ⟨b, hb⟩ : ∃ a, a = if 1 < N then g 1 else 0 := ⟨_, rfl⟩
  obtain ⟨c, hc⟩ : ∃ a, a = if 2 < N then g 2 else 0 := ⟨_, rfl⟩
  have hra : iR a := by rw [ha]; split <;> first | exact hg _ | exact r0
  have hrb : iR b := by rw [hb]; split <;> first | exact hg _ | exact r0
  have hrc : iR c := by rw [hc]; split <;> first | exact hg _ | exact r0
  have wr : ∀ v x y : Int, x ≤ y → x ≤ wtn v x y ∧ wtn v x y ≤ y := fun v x y h => by
    unfold wtn
    split
    · omega
    · split <;> omega
  obtain ⟨k, hk⟩ : ∃ k, k = wtn a 0 4 := ⟨_, rfl⟩
  have hkb := wr a 0 4 (by decide)
  have hWb := wr b 1 16 (by decide)
  have hHb := wr c 1 16 (by decide)
  obtain ⟨W, hW⟩ := Int.eq_ofNat_of_zero_le (show 0 ≤ wtn b 1 16 by omega)
  by_cases h4 : k = 4
  · have hF : fOK k (W : Int) ((1 : Nat) : Int) (W * 1) := ⟨by omega, by omega, by omega, by omega, by omega, by omega, by rw [Int.natCast_mul], fun _ => rfl⟩
    exact law_st hG hN hg ha hb hc hF rfl rfl rfl (c_X1_initG hG 4 hra hrb hrc hk hW.symm rfl h4 rfl) (c_X8_initG hG 5 hF hra hrb hrc hk hW.symm rfl h4)
  · obtain ⟨H, hH⟩ := Int.eq_ofNat_of_zero_le (show 0 ≤ wtn c 1 16 by omega)
    have hF : fOK k (W : Int) (H : Int) (W * H) := ⟨by omega, by omega, by omega, by omega, by omega, by omega, by rw [Int.natCast_mul], fun e => absurd e h4⟩
    exact law_st hG hN hg ha hb hc hF rfl rfl rfl (c_X1_initN hG 4 hra hrb hrc hk hW.symm hH.symm h4 rfl) (c_X8_initN hG 5 hF hra hrb hrc hk hW.symm hH.symm h4)
end LL
