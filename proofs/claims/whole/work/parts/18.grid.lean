/-! GridShapes: what asks the net -/
section GX
variable {G : mG} {w : List mC}
abbrev oGrid : mC := mO 7 [.ref 2, .ref 5, .ref 8, .ref 9, .ref 13, .ref 16, .ref 18, .ref 20, .ref 21]
/-- the class's unchanging cells and its net -/
def cX (w : List mC) (k W H : Int) (n sl m : Nat) (col row bes : Nat → Int) (wal : Nat → Bool) : Prop :=
  w[1]? = some oGrid ∧ w[2]? = some (oFrame k W H n) ∧ w[3]? = some (cI n col) ∧ w[4]? = some (cI n row) ∧ w[5]? = some (oNet n sl) ∧ w[6]? = some (cI m bes) ∧ w[7]? = some (cZ m wal) ∧ w[8]? = some (oTurns (tuN k W H)) ∧ fOK k W H n ∧ nOK n sl m ∧ sl = slN k n ∧ (∀ j : Nat, j < n → col j = (j : Int) % W ∧ row j = (j : Int) / W) ∧ ∀ j : Nat, j < m → -1 ≤ bes j ∧ bes j < n
theorem cX.bes {w : List mC} {k W H : Int} {n sl m : Nat} {col row bes : Nat → Int} {wal : Nat → Bool} (h : cX w k W H n sl m col row bes wal) {p : Int} (hp : 0 ≤ p ∧ p < n) : ∀ s : Int, 0 ≤ s → s < sl → -1 ≤ bAt sl bes p s ∧ bAt sl bes p s < n := by
  obtain ⟨-, -, -, -, -, -, -, -, -, hN, -, -, hb⟩ := h
  intro s h1 h2
  have := nIx hN hp ⟨h1, h2⟩
  exact hb _ (by omega)
theorem cX.besR {w : List mC} {k W H : Int} {n sl m : Nat} {col row bes : Nat → Int} {wal : Nat → Bool} (h : cX w k W H n sl m col row bes wal) {p : Int} (hp : 0 ≤ p ∧ p < n) : ∀ s : Int, 0 ≤ s → s < sl → iR (bAt sl bes p s) := by
  intro s h1 h2
  have a := h.bes hp s h1 h2
  obtain ⟨-, -, -, -, -, -, -, -, -, ⟨hn1, hn2, -⟩, -⟩ := h
  exact ⟨by omega, by omega⟩
theorem cX.oat {w : List mC} {k W H : Int} {n sl m : Nat} {col row bes : Nat → Int} {wal : Nat → Bool} (h : cX w k W H n sl m col row bes wal) {p : Int} (hp : 0 ≤ p ∧ p < n) {s : Int} (h1 : 0 ≤ s) (h2 : s < sl) : -1 ≤ oAt sl bes wal p s ∧ oAt sl bes wal p s < n := by
  have a := h.bes hp s h1 h2
  obtain ⟨-, -, -, -, -, -, -, -, -, ⟨hn1, hn2, -⟩, -⟩ := h
  unfold oAt
  split <;> omega
/-- how many i from i on, of so many, with P -/
def cntF (P : Int → Bool) : Nat → Int → Int
  | 0, _ => 0
  | k + 1, i => (if P i then 1 else 0) + cntF P k (i + 1)
theorem cntF_le (P : Int → Bool) : ∀ (k : Nat) (i : Int), 0 ≤ cntF P k i ∧ cntF P k i ≤ k
  | 0, i => by simp [cntF]
  | k + 1, i => by
    have := cntF_le P k (i + 1)
    unfold cntF
    split <;> omega
/-- the c-th number that isn't -1, counting from f on -/
def nthF (g : Int → Int) (c : Int) : Nat → Int → Int → Int
  | 0, _, _ => -1
  | k + 1, i, f => if g i = -1 then nthF g c k (i + 1) f else if f = c then g i else nthF g c k (i + 1) (f + 1)

set_option maxHeartbeats 4000000 in
set_option maxRecDepth 100000 in
theorem c_X7_demandPlace (hG : m_G G) (d : Nat) {k W H : Int} {n sl m : Nat} {col row bes : Nat → Int} {wal : Nat → Bool} (hX : cX w k W H n sl m col row bes wal) {z : Int} (hz : 0 ≤ z ∧ z < n) : m_Cv G MX7_demandPlace (m_r (d + 1) 0 0) [.ref 1, vI z] w none w := by
  have hXX := hX
  obtain ⟨h1, h2, h3, h4, h5, h6, h7, h8, hF, hN, hsl, hcr, hbs⟩ := hX
  have hFF := hF
  have hNN := hN
  have hnb := hF.n
  obtain ⟨hk0, hk4, hW1, hW2, hH1, hH2, hn, hg4⟩ := hF
  obtain ⟨hn1, hn2, hl1, hl2, hm, hm2⟩ := hN
  refine m_enter (L := [some (.ref 1), some (vI z)]) (by decide) hG (m_c1 rfl) (Nat.le_of_ble_eq_true rfl) rfl ?_
  refine m_aload_n 1 dX7_demandPlace_0 rfl rfl ?_
  refine m_getf 4 foX7_12 dX7_demandPlace_1 rfl (by first | rfl | assumption) (by rfl) ?_
  refine m_iload_n 5 dX7_demandPlace_4 rfl rfl ?_
  refine m_cV (M' := MX1_has) 8 [_] kX7_169 imX1_has seX1_has clX1_has dX7_demandPlace_5 rfl rfl rfl (by first | rfl | assumption) (m_rmI (by omega) (Nat.le_of_ble_eq_true rfl) (Nat.le_refl _) (Nat.le_refl _)) (c_X1_has hG d h2 hFF ⟨by omega, by omega⟩) ?_
  refine b_if_ne 11 21 dX7_demandPlace_8 rfl (by decide) (fun _ => ?_) (fun h => absurd h (by rw [inB_1 hz]; decide))
  refine m_vret dX7_demandPlace_21 rfl ⟨Nat.le_refl _, Nat.le_refl _⟩ ?_
  exact ⟨rfl, rfl⟩
set_option maxHeartbeats 4000000 in
set_option maxRecDepth 100000 in
theorem c_X7_demandPlaceX (hG : m_G G) (d : Nat) {k W H : Int} {n sl m : Nat} {col row bes : Nat → Int} {wal : Nat → Bool} (hX : cX w k W H n sl m col row bes wal) {z : Int} (hz : ¬ (0 ≤ z ∧ z < n)) (hr : iR z) : m_Cx0 G MX7_demandPlace (m_r (d + 7) 1 6) [.ref 1, vI z] w (w ++ [mU]) := by
  have hXX := hX
  obtain ⟨h1, h2, h3, h4, h5, h6, h7, h8, hF, hN, hsl, hcr, hbs⟩ := hX
  have hFF := hF
  have hNN := hN
  have hnb := hF.n
  obtain ⟨hk0, hk4, hW1, hW2, hH1, hH2, hn, hg4⟩ := hF
  obtain ⟨hn1, hn2, hl1, hl2, hm, hm2⟩ := hN
  refine m_enter (L := [some (.ref 1), some (vI z)]) (by decide) hG (m_c1 rfl) (Nat.le_of_ble_eq_true rfl) rfl ?_
  refine m_aload_n 1 dX7_demandPlace_0 rfl rfl ?_
  refine m_getf 4 foX7_12 dX7_demandPlace_1 rfl (by first | rfl | assumption) (by rfl) ?_
  refine m_iload_n 5 dX7_demandPlace_4 rfl rfl ?_
  refine m_cV (M' := MX1_has) 8 [_] kX7_169 imX1_has seX1_has clX1_has dX7_demandPlace_5 rfl rfl rfl (by first | rfl | assumption) (m_rmI (by omega) (Nat.le_of_ble_eq_true rfl) (Nat.zero_le _) (Nat.zero_le _)) (c_X1_has hG (d + 6) h2 hFF hr) ?_
  refine b_if_ne 11 21 dX7_demandPlace_8 rfl (by decide) (fun h => absurd h (by rw [inB_0 hz]; decide)) (fun _ => ?_)
  exact m_throwNew rfl rfl dX7_demandPlace_11 dX7_demandPlace_14 dX7_demandPlace_15 dX7_demandPlace_17 dX7_demandPlace_20 kx170 kxi kxd (show 7 ≤ d + 7 by omega) (show 0 + 96 ≤ 36 * (d + 7) by omega) ⟨Nat.le_refl _, Nat.le_refl _⟩ ⟨rfl, rfl⟩
set_option maxHeartbeats 4000000 in
set_option maxRecDepth 100000 in
theorem c_X7_places (hG : m_G G) (d : Nat) {k W H : Int} {n sl m : Nat} {col row bes : Nat → Int} {wal : Nat → Bool} (hX : cX w k W H n sl m col row bes wal) : m_Cv G MX7_places (m_r d 0 0) [.ref 1] w (some (vI n)) w := by
  have hXX := hX
  obtain ⟨h1, h2, h3, h4, h5, h6, h7, h8, hF, hN, hsl, hcr, hbs⟩ := hX
  have hFF := hF
  have hNN := hN
  have hnb := hF.n
  obtain ⟨hk0, hk4, hW1, hW2, hH1, hH2, hn, hg4⟩ := hF
  obtain ⟨hn1, hn2, hl1, hl2, hm, hm2⟩ := hN
  refine m_enter (L := [some (.ref 1)]) (by decide) hG (m_c1 rfl) (Nat.le_of_ble_eq_true rfl) rfl ?_
  refine m_aload_n 1 dX7_places_0 rfl rfl ?_
  refine m_getf 4 foX7_12 dX7_places_1 rfl (by first | rfl | assumption) (by rfl) ?_
  refine m_getf 7 foX7_66 dX7_places_4 rfl (by first | rfl | assumption) (by rfl) ?_
  refine i_ret _ dX7_places_7 rfl ⟨Nat.le_refl _, Nat.le_refl _⟩ ?_ ⟨rfl, rfl⟩
  rfl
set_option maxHeartbeats 4000000 in
set_option maxRecDepth 100000 in
theorem l_X7_degree (hG : m_G G) (d : Nat) {k W H : Int} {n sl m : Nat} {col row bes : Nat → Int} {wal : Nat → Bool} (hX : cX w k W H n sl m col row bes wal) {p t : Int} {nx : Bool} (hp : 0 ≤ p ∧ p < n) :
    ∀ (j : Nat) (i f : Int) (x5 : Option Value), 0 ≤ i → i + j = sl → f + cntF (fun s => (if nx then oAt sl bes wal p s else bAt sl bes p s) != -1) j i = t → m_J G MX7_degree (m_r (d + 3) 0 0) (fun r x => r = some (some (vI t)) ∧ x = w) 0 0 10 [some (.ref 1), some (vI p), some (vB nx), some (vI f), some (vI i), x5] [] w := by
  have hXX := hX
  obtain ⟨h1, h2, h3, h4, h5, h6, h7, h8, hF, hN, hsl, hcr, hbs⟩ := hX
  have hFF := hF
  have hNN := hN
  have hnb := hF.n
  obtain ⟨hk0, hk4, hW1, hW2, hH1, hH2, hn, hg4⟩ := hF
  obtain ⟨hn1, hn2, hl1, hl2, hm, hm2⟩ := hN
  intro j
  induction j with
  | zero =>
    intro i f x5 hi0 hij ht
    refine m_iload 12 dX7_degree_10 rfl rfl ?_
    refine m_aload_n 13 dX7_degree_12 rfl rfl ?_
    refine m_getf 16 foX7_23 dX7_degree_13 rfl (by first | rfl | assumption) (by rfl) ?_
    refine m_getf 19 foX7_91 dX7_degree_16 rfl (by first | rfl | assumption) (by rfl) ?_
    refine i_icmp_ge 22 66 ⟨by omega, by omega⟩ ⟨by omega, by omega⟩ dX7_degree_19 rfl (by decide) (fun _ => ?_) (fun h => absurd h (by omega))
    refine m_iload_n 67 dX7_degree_66 rfl rfl ?_
    refine i_ret _ dX7_degree_67 rfl ⟨Nat.le_refl _, Nat.le_refl _⟩ ?_ ⟨rfl, rfl⟩
    simp only [cntF] at ht; omega
  | succ j ih =>
    intro i f x5 hi0 hij ht
    have hs : 0 ≤ i ∧ i < (sl : Int) := by omega
    have hb := hXX.bes hp i hs.1 hs.2
    have ho := hXX.oat hp hs.1 hs.2
    unfold cntF at ht
    refine m_iload 12 dX7_degree_10 rfl rfl ?_
    refine m_aload_n 13 dX7_degree_12 rfl rfl ?_
    refine m_getf 16 foX7_23 dX7_degree_13 rfl (by first | rfl | assumption) (by rfl) ?_
    refine m_getf 19 foX7_91 dX7_degree_16 rfl (by first | rfl | assumption) (by rfl) ?_
    refine i_icmp_ge 22 66 ⟨by omega, by omega⟩ ⟨by omega, by omega⟩ dX7_degree_19 rfl (by decide) (fun h => absurd h (by omega)) (fun _ => ?_)
    refine m_iload_n 23 dX7_degree_22 rfl rfl ?_
    refine b_if_eq 26 39 dX7_degree_23 rfl (by decide) (fun q23 => ?_) (fun q23 => ?_)
    · refine m_aload_n 40 dX7_degree_39 rfl rfl ?_
      refine m_getf 43 foX7_23 dX7_degree_40 rfl (by first | rfl | assumption) (by rfl) ?_
      refine m_iload_n 44 dX7_degree_43 rfl rfl ?_
      refine m_iload 46 dX7_degree_44 rfl rfl ?_
      refine m_cV (M' := MX2_besideAt) 49 [_, _] kX7_97 imX2_besideAt seX2_besideAt clX2_besideAt dX7_degree_46 rfl rfl rfl (by first | rfl | assumption) (m_rmI (by omega) (Nat.le_of_ble_eq_true rfl) (Nat.le_refl _) (Nat.le_refl _)) (c_X2_besideAt hG (d + 1) h5 hNN h6 hp hs) ?_
      refine m_istore 51 dX7_degree_49 rfl (by decide) ?_
      refine m_iload 53 dX7_degree_51 rfl rfl ?_
      refine i_const 54 dX7_degree_53 rfl ?_
      refine i_icmp_eq 57 60 ⟨by omega, by omega⟩ ⟨by omega, by omega⟩ dX7_degree_54 rfl (by decide) (fun q54 => ?_) (fun q54 => ?_)
      · refine i_inc 63 dX7_degree_60 rfl rfl (by decide) ?_
        refine m_goto 10 dX7_degree_63 (by decide) ?_
        subst q23
        first
          | (refine ih _ _ _ (by omega) (by omega) ?_; rw [if_neg (by simpa using q54)] at ht; omega)
          | (refine ih _ _ _ (by omega) (by omega) ?_; rw [if_pos (by simpa using q54)] at ht; omega)
      · refine i_inc 60 dX7_degree_57 rfl rfl (by decide) ?_
        refine i_inc 63 dX7_degree_60 rfl rfl (by decide) ?_
        refine m_goto 10 dX7_degree_63 (by decide) ?_
        subst q23
        first
          | (refine ih _ _ _ (by omega) (by omega) ?_; rw [if_neg (by simpa using q54)] at ht; omega)
          | (refine ih _ _ _ (by omega) (by omega) ?_; rw [if_pos (by simpa using q54)] at ht; omega)
    · refine m_aload_n 27 dX7_degree_26 rfl rfl ?_
      refine m_getf 30 foX7_23 dX7_degree_27 rfl (by first | rfl | assumption) (by rfl) ?_
      refine m_iload_n 31 dX7_degree_30 rfl rfl ?_
      refine m_iload 33 dX7_degree_31 rfl rfl ?_
      refine m_cV (M' := MX2_openAt) 36 [_, _] kX7_94 imX2_openAt seX2_openAt clX2_openAt dX7_degree_33 rfl rfl rfl (by first | rfl | assumption) (m_rmI (by omega) (Nat.le_of_ble_eq_true rfl) (Nat.le_refl _) (Nat.le_refl _)) (c_X2_openAt hG d h5 hNN h6 h7 hp hs) ?_
      refine m_goto 49 dX7_degree_36 (by decide) ?_
      refine m_istore 51 dX7_degree_49 rfl (by decide) ?_
      refine m_iload 53 dX7_degree_51 rfl rfl ?_
      refine i_const 54 dX7_degree_53 rfl ?_
      refine i_icmp_eq 57 60 ⟨by omega, by omega⟩ ⟨by omega, by omega⟩ dX7_degree_54 rfl (by decide) (fun q54 => ?_) (fun q54 => ?_)
      · refine i_inc 63 dX7_degree_60 rfl rfl (by decide) ?_
        refine m_goto 10 dX7_degree_63 (by decide) ?_
        subst q23
        first
          | (refine ih _ _ _ (by omega) (by omega) ?_; rw [if_neg (by simpa using q54)] at ht; omega)
          | (refine ih _ _ _ (by omega) (by omega) ?_; rw [if_pos (by simpa using q54)] at ht; omega)
      · refine i_inc 60 dX7_degree_57 rfl rfl (by decide) ?_
        refine i_inc 63 dX7_degree_60 rfl rfl (by decide) ?_
        refine m_goto 10 dX7_degree_63 (by decide) ?_
        subst q23
        first
          | (refine ih _ _ _ (by omega) (by omega) ?_; rw [if_neg (by simpa using q54)] at ht; omega)
          | (refine ih _ _ _ (by omega) (by omega) ?_; rw [if_pos (by simpa using q54)] at ht; omega)
set_option maxHeartbeats 4000000 in
set_option maxRecDepth 100000 in
theorem c_X7_degree (hG : m_G G) (d : Nat) {k W H : Int} {n sl m : Nat} {col row bes : Nat → Int} {wal : Nat → Bool} (hX : cX w k W H n sl m col row bes wal) {p : Int} {nx : Bool} (hp : 0 ≤ p ∧ p < n) : m_Cv G MX7_degree (m_r (d + 3) 0 0) [.ref 1, vI p, vB nx] w (some (vI (cntF (fun s => (if nx then oAt sl bes wal p s else bAt sl bes p s) != -1) sl 0))) w := by
  have hXX := hX
  obtain ⟨h1, h2, h3, h4, h5, h6, h7, h8, hF, hN, hsl, hcr, hbs⟩ := hX
  have hFF := hF
  have hNN := hN
  have hnb := hF.n
  obtain ⟨hk0, hk4, hW1, hW2, hH1, hH2, hn, hg4⟩ := hF
  obtain ⟨hn1, hn2, hl1, hl2, hm, hm2⟩ := hN
  refine m_enter (L := [some (.ref 1), some (vI p), some (vB nx), none, none, none]) (by decide) hG (m_c1 rfl) (Nat.le_of_ble_eq_true rfl) rfl ?_
  refine m_aload_n 1 dX7_degree_0 rfl rfl ?_
  refine m_iload_n 2 dX7_degree_1 rfl rfl ?_
  refine m_cV (M' := MX7_demandPlace) 5 [_] kX7_77 imX7_demandPlace seX7_demandPlace clX7_demandPlace dX7_degree_2 rfl rfl rfl (by first | rfl | assumption) (m_rmI (by omega) (Nat.le_of_ble_eq_true rfl) (Nat.le_refl _) (Nat.le_refl _)) (c_X7_demandPlace hG (d + 1) hXX ⟨by omega, by omega⟩) ?_
  refine i_const 6 dX7_degree_5 rfl ?_
  refine m_istore_n 7 dX7_degree_6 rfl (by decide) ?_
  refine i_const 8 dX7_degree_7 rfl ?_
  refine m_istore 10 dX7_degree_8 rfl (by decide) ?_
  exact l_X7_degree hG d hXX hp sl 0 0 _ (by omega) (by omega) (by omega)
set_option maxHeartbeats 4000000 in
set_option maxRecDepth 100000 in
theorem l_X7_neighbour (hG : m_G G) (d : Nat) {k W H : Int} {n sl m : Nat} {col row bes : Nat → Int} {wal : Nat → Bool} (hX : cX w k W H n sl m col row bes wal) {p c t : Int} (hp : 0 ≤ p ∧ p < n) (hc : iR c) :
    ∀ (j : Nat) (i f : Int) (x5 : Option Value), 0 ≤ i → i + j = sl → 0 ≤ f → f ≤ i → nthF (bAt sl bes p) c j i f = t → m_J G MX7_neighbour (m_r (d + 3) 0 0) (fun r x => r = some (some (vI t)) ∧ x = w) 0 0 10 [some (.ref 1), some (vI p), some (vI c), some (vI f), some (vI i), x5] [] w := by
  have hXX := hX
  obtain ⟨h1, h2, h3, h4, h5, h6, h7, h8, hF, hN, hsl, hcr, hbs⟩ := hX
  have hFF := hF
  have hNN := hN
  have hnb := hF.n
  obtain ⟨hk0, hk4, hW1, hW2, hH1, hH2, hn, hg4⟩ := hF
  obtain ⟨hn1, hn2, hl1, hl2, hm, hm2⟩ := hN
  obtain ⟨hc1, hc2⟩ := hc
  intro j
  induction j with
  | zero =>
    intro i f x5 hi0 hij hf0 hf1 ht
    refine m_iload 12 dX7_neighbour_10 rfl rfl ?_
    refine m_aload_n 13 dX7_neighbour_12 rfl rfl ?_
    refine m_getf 16 foX7_23 dX7_neighbour_13 rfl (by first | rfl | assumption) (by rfl) ?_
    refine m_getf 19 foX7_91 dX7_neighbour_16 rfl (by first | rfl | assumption) (by rfl) ?_
    refine i_icmp_ge 22 57 ⟨by omega, by omega⟩ ⟨by omega, by omega⟩ dX7_neighbour_19 rfl (by decide) (fun _ => ?_) (fun h => absurd h (by omega))
    refine i_const 58 dX7_neighbour_57 rfl ?_
    refine i_ret _ dX7_neighbour_58 rfl ⟨Nat.le_refl _, Nat.le_refl _⟩ ?_ ⟨rfl, rfl⟩
    exact ht
  | succ j ih =>
    intro i f x5 hi0 hij hf0 hf1 ht
    have hs : 0 ≤ i ∧ i < (sl : Int) := by omega
    have hb := hXX.bes hp i hs.1 hs.2
    unfold nthF at ht
    refine m_iload 12 dX7_neighbour_10 rfl rfl ?_
    refine m_aload_n 13 dX7_neighbour_12 rfl rfl ?_
    refine m_getf 16 foX7_23 dX7_neighbour_13 rfl (by first | rfl | assumption) (by rfl) ?_
    refine m_getf 19 foX7_91 dX7_neighbour_16 rfl (by first | rfl | assumption) (by rfl) ?_
    refine i_icmp_ge 22 57 ⟨by omega, by omega⟩ ⟨by omega, by omega⟩ dX7_neighbour_19 rfl (by decide) (fun h => absurd h (by omega)) (fun _ => ?_)
    refine m_aload_n 23 dX7_neighbour_22 rfl rfl ?_
    refine m_getf 26 foX7_23 dX7_neighbour_23 rfl (by first | rfl | assumption) (by rfl) ?_
    refine m_iload_n 27 dX7_neighbour_26 rfl rfl ?_
    refine m_iload 29 dX7_neighbour_27 rfl rfl ?_
    refine m_cV (M' := MX2_besideAt) 32 [_, _] kX7_97 imX2_besideAt seX2_besideAt clX2_besideAt dX7_neighbour_29 rfl rfl rfl (by first | rfl | assumption) (m_rmI (by omega) (Nat.le_of_ble_eq_true rfl) (Nat.le_refl _) (Nat.le_refl _)) (c_X2_besideAt hG (d + 1) h5 hNN h6 hp hs) ?_
    refine m_istore 34 dX7_neighbour_32 rfl (by decide) ?_
    refine m_iload 36 dX7_neighbour_34 rfl rfl ?_
    refine i_const 37 dX7_neighbour_36 rfl ?_
    refine i_icmp_eq 40 51 ⟨by omega, by omega⟩ ⟨by omega, by omega⟩ dX7_neighbour_37 rfl (by decide) (fun q37 => ?_) (fun q37 => ?_)
    · refine i_inc 54 dX7_neighbour_51 rfl rfl (by decide) ?_
      refine m_goto 10 dX7_neighbour_54 (by decide) ?_
      first
        | (rw [if_pos q37] at ht; exact ih _ _ _ (by omega) (by omega) (by omega) (by omega) ht)
        | (rw [if_neg q37, if_neg q42] at ht; exact ih _ _ _ (by omega) (by omega) (by omega) (by omega) ht)
    · refine m_iload_n 41 dX7_neighbour_40 rfl rfl ?_
      refine m_iload_n 42 dX7_neighbour_41 rfl rfl ?_
      refine i_icmp_ne 45 48 ⟨by omega, by omega⟩ ⟨by omega, by omega⟩ dX7_neighbour_42 rfl (by decide) (fun q42 => ?_) (fun q42 => ?_)
      · refine i_inc 51 dX7_neighbour_48 rfl rfl (by decide) ?_
        refine i_inc 54 dX7_neighbour_51 rfl rfl (by decide) ?_
        refine m_goto 10 dX7_neighbour_54 (by decide) ?_
        first
          | (rw [if_pos q37] at ht; exact ih _ _ _ (by omega) (by omega) (by omega) (by omega) ht)
          | (rw [if_neg q37, if_neg q42] at ht; exact ih _ _ _ (by omega) (by omega) (by omega) (by omega) ht)
      · refine m_iload 47 dX7_neighbour_45 rfl rfl ?_
        refine i_ret _ dX7_neighbour_47 rfl ⟨Nat.le_refl _, Nat.le_refl _⟩ ?_ ⟨rfl, rfl⟩
        rw [if_neg q37, if_pos q42] at ht; exact ht
set_option maxHeartbeats 4000000 in
set_option maxRecDepth 100000 in
theorem c_X7_neighbour (hG : m_G G) (d : Nat) {k W H : Int} {n sl m : Nat} {col row bes : Nat → Int} {wal : Nat → Bool} (hX : cX w k W H n sl m col row bes wal) {p c : Int} (hp : 0 ≤ p ∧ p < n) (hc : iR c) : m_Cv G MX7_neighbour (m_r (d + 3) 0 0) [.ref 1, vI p, vI c] w (some (vI (nthF (bAt sl bes p) c sl 0 0))) w := by
  have hXX := hX
  obtain ⟨h1, h2, h3, h4, h5, h6, h7, h8, hF, hN, hsl, hcr, hbs⟩ := hX
  have hFF := hF
  have hNN := hN
  have hnb := hF.n
  obtain ⟨hk0, hk4, hW1, hW2, hH1, hH2, hn, hg4⟩ := hF
  obtain ⟨hn1, hn2, hl1, hl2, hm, hm2⟩ := hN
  refine m_enter (L := [some (.ref 1), some (vI p), some (vI c), none, none, none]) (by decide) hG (m_c1 rfl) (Nat.le_of_ble_eq_true rfl) rfl ?_
  refine m_aload_n 1 dX7_neighbour_0 rfl rfl ?_
  refine m_iload_n 2 dX7_neighbour_1 rfl rfl ?_
  refine m_cV (M' := MX7_demandPlace) 5 [_] kX7_77 imX7_demandPlace seX7_demandPlace clX7_demandPlace dX7_neighbour_2 rfl rfl rfl (by first | rfl | assumption) (m_rmI (by omega) (Nat.le_of_ble_eq_true rfl) (Nat.le_refl _) (Nat.le_refl _)) (c_X7_demandPlace hG (d + 1) hXX ⟨by omega, by omega⟩) ?_
  refine i_const 6 dX7_neighbour_5 rfl ?_
  refine m_istore_n 7 dX7_neighbour_6 rfl (by decide) ?_
  refine i_const 8 dX7_neighbour_7 rfl ?_
  refine m_istore 10 dX7_neighbour_8 rfl (by decide) ?_
  exact l_X7_neighbour hG d hXX hp hc sl 0 0 _ (by omega) (by omega) (by omega) (by omega) rfl
theorem fndF_r (P : Int → Bool) : ∀ (k : Nat) (i : Int), fndF P k i = -1 ∨ (i ≤ fndF P k i ∧ fndF P k i < i + k ∧ P (fndF P k i) = true)
  | 0, i => by simp [fndF]
  | k + 1, i => by
    have := fndF_r P k (i + 1)
    unfold fndF
    by_cases h : P i = true
    · rw [if_pos h]; exact Or.inr ⟨by omega, by omega, h⟩
    · rw [if_neg h]
      rcases this with h1 | ⟨h1, h2, h3⟩
      · exact Or.inl h1
      · exact Or.inr ⟨by omega, by omega, h3⟩
theorem sOf_r (sl : Nat) (f : Nat → Int) (p o : Int) : sOf sl f p o = -1 ∨ (0 ≤ sOf sl f p o ∧ sOf sl f p o < sl ∧ bAt sl f p (sOf sl f p o) = o) := by
  unfold sOf
  split
  · exact Or.inl rfl
  · have := fndF_r (fun s => bAt sl f p s == o) sl 0
    rcases this with h | ⟨h1, h2, h3⟩
    · exact Or.inl h
    · exact Or.inr ⟨h1, by omega, by simpa using h3⟩
set_option maxHeartbeats 4000000 in
set_option maxRecDepth 100000 in
theorem c_X7_joinN (hG : m_G G) (d : Nat) {k W H : Int} {n sl m : Nat} {col row bes : Nat → Int} {wal : Nat → Bool} (hX : cX w k W H n sl m col row bes wal) {a b : Int} (ha : 0 ≤ a ∧ a < n) (hb : 0 ≤ b ∧ b < n) (hno : k ≠ 4 ∨ a = b ∨ sOf sl bes a b ≠ -1) : m_Cv G MX7_join (m_r (d + 3) 0 0) [.ref 1, vI a, vI b] w (some (vB false)) w := by
  have hXX := hX
  obtain ⟨h1, h2, h3, h4, h5, h6, h7, h8, hF, hN, hsl, hcr, hbs⟩ := hX
  have hFF := hF
  have hNN := hN
  have hnb := hF.n
  obtain ⟨hk0, hk4, hW1, hW2, hH1, hH2, hn, hg4⟩ := hF
  obtain ⟨hn1, hn2, hl1, hl2, hm, hm2⟩ := hN
  have hso := sOf_r sl bes a b
  refine m_enter (L := [some (.ref 1), some (vI a), some (vI b)]) (by decide) hG (m_c1 rfl) (Nat.le_of_ble_eq_true rfl) rfl ?_
  refine m_aload_n 1 dX7_join_0 rfl rfl ?_
  refine m_iload_n 2 dX7_join_1 rfl rfl ?_
  refine m_cV (M' := MX7_demandPlace) 5 [_] kX7_77 imX7_demandPlace seX7_demandPlace clX7_demandPlace dX7_join_2 rfl rfl rfl (by first | rfl | assumption) (m_rmI (by omega) (Nat.le_of_ble_eq_true rfl) (Nat.le_refl _) (Nat.le_refl _)) (c_X7_demandPlace hG (d + 1) hXX ⟨by omega, by omega⟩) ?_
  refine m_aload_n 6 dX7_join_5 rfl rfl ?_
  refine m_iload_n 7 dX7_join_6 rfl rfl ?_
  refine m_cV (M' := MX7_demandPlace) 10 [_] kX7_77 imX7_demandPlace seX7_demandPlace clX7_demandPlace dX7_join_7 rfl rfl rfl (by first | rfl | assumption) (m_rmI (by omega) (Nat.le_of_ble_eq_true rfl) (Nat.le_refl _) (Nat.le_refl _)) (c_X7_demandPlace hG (d + 1) hXX ⟨by omega, by omega⟩) ?_
  refine m_aload_n 11 dX7_join_10 rfl rfl ?_
  refine m_getf 14 foX7_12 dX7_join_11 rfl (by first | rfl | assumption) (by rfl) ?_
  refine m_getf 17 foX7_80 dX7_join_14 rfl (by first | rfl | assumption) (by rfl) ?_
  refine i_const 18 dX7_join_17 rfl ?_
  refine i_icmp_ne 21 39 ⟨by omega, by omega⟩ ⟨by omega, by omega⟩ dX7_join_18 rfl (by decide) (fun q18 => ?_) (fun q18 => ?_)
  · refine i_const 40 dX7_join_39 rfl ?_
    refine i_retB _ dX7_join_40 rfl ⟨Nat.le_refl _, Nat.le_refl _⟩ ?_ ⟨rfl, rfl⟩
    refine i_eq0 ?_
    rfl
  · refine m_iload_n 22 dX7_join_21 rfl rfl ?_
    refine m_iload_n 23 dX7_join_22 rfl rfl ?_
    refine i_icmp_eq 26 39 ⟨by omega, by omega⟩ ⟨by omega, by omega⟩ dX7_join_23 rfl (by decide) (fun q23 => ?_) (fun q23 => ?_)
    · refine i_const 40 dX7_join_39 rfl ?_
      refine i_retB _ dX7_join_40 rfl ⟨Nat.le_refl _, Nat.le_refl _⟩ ?_ ⟨rfl, rfl⟩
      refine i_eq0 ?_
      rfl
    · refine m_aload_n 27 dX7_join_26 rfl rfl ?_
      refine m_getf 30 foX7_23 dX7_join_27 rfl (by first | rfl | assumption) (by rfl) ?_
      refine m_iload_n 31 dX7_join_30 rfl rfl ?_
      refine m_iload_n 32 dX7_join_31 rfl rfl ?_
      refine m_cV (M' := MX2_slotOf) 35 [_, _] kX7_83 imX2_slotOf seX2_slotOf clX2_slotOf dX7_join_32 rfl rfl rfl (by first | rfl | assumption) (m_rmI (by omega) (Nat.le_of_ble_eq_true rfl) (Nat.le_refl _) (Nat.le_refl _)) (c_X2_slotOf hG (d) h5 hNN h6 ⟨by omega, by omega⟩ ⟨by omega, by omega⟩ (hXX.besR ⟨by omega, by omega⟩)) ?_
      refine i_const 36 dX7_join_35 rfl ?_
      refine i_icmp_eq 39 41 ⟨by omega, by omega⟩ ⟨by omega, by omega⟩ dX7_join_36 rfl (by decide) (fun q36 => ?_) (fun q36 => ?_)
      · exact absurd hno (by omega)
      · refine i_const 40 dX7_join_39 rfl ?_
        refine i_retB _ dX7_join_40 rfl ⟨Nat.le_refl _, Nat.le_refl _⟩ ?_ ⟨rfl, rfl⟩
        refine i_eq0 ?_
        rfl
set_option maxHeartbeats 4000000 in
set_option maxRecDepth 100000 in
theorem c_X7_joinY (hG : m_G G) (d : Nat) {k W H : Int} {n sl m : Nat} {col row bes : Nat → Int} {wal : Nat → Bool} (hX : cX w k W H n sl m col row bes wal) {a b : Int} (ha : 0 ≤ a ∧ a < n) (hb : 0 ≤ b ∧ b < n) (hk : k = 4) (hab : a ≠ b) (hs : sOf sl bes a b = -1) : m_Cv G MX7_join (m_r (d + 3) 0 0) [.ref 1, vI a, vI b] w (some (vB true)) (w.set 6 (cI m (up (up bes (a * sl + b).toNat b) (b * sl + a).toNat a))) := by
  have hXX := hX
  obtain ⟨h1, h2, h3, h4, h5, h6, h7, h8, hF, hN, hsl, hcr, hbs⟩ := hX
  have hFF := hF
  have hNN := hN
  have hnb := hF.n
  obtain ⟨hk0, hk4, hW1, hW2, hH1, hH2, hn, hg4⟩ := hF
  obtain ⟨hn1, hn2, hl1, hl2, hm, hm2⟩ := hN
  have hsn : sl = n := by rw [hsl]; unfold slN; subst hk; rfl
  refine m_enter (L := [some (.ref 1), some (vI a), some (vI b)]) (by decide) hG (m_c1 rfl) (Nat.le_of_ble_eq_true rfl) rfl ?_
  refine m_aload_n 1 dX7_join_0 rfl rfl ?_
  refine m_iload_n 2 dX7_join_1 rfl rfl ?_
  refine m_cV (M' := MX7_demandPlace) 5 [_] kX7_77 imX7_demandPlace seX7_demandPlace clX7_demandPlace dX7_join_2 rfl rfl rfl (by first | rfl | assumption) (m_rmI (by omega) (Nat.le_of_ble_eq_true rfl) (Nat.le_refl _) (Nat.le_refl _)) (c_X7_demandPlace hG (d + 1) hXX ⟨by omega, by omega⟩) ?_
  refine m_aload_n 6 dX7_join_5 rfl rfl ?_
  refine m_iload_n 7 dX7_join_6 rfl rfl ?_
  refine m_cV (M' := MX7_demandPlace) 10 [_] kX7_77 imX7_demandPlace seX7_demandPlace clX7_demandPlace dX7_join_7 rfl rfl rfl (by first | rfl | assumption) (m_rmI (by omega) (Nat.le_of_ble_eq_true rfl) (Nat.le_refl _) (Nat.le_refl _)) (c_X7_demandPlace hG (d + 1) hXX ⟨by omega, by omega⟩) ?_
  refine m_aload_n 11 dX7_join_10 rfl rfl ?_
  refine m_getf 14 foX7_12 dX7_join_11 rfl (by first | rfl | assumption) (by rfl) ?_
  refine m_getf 17 foX7_80 dX7_join_14 rfl (by first | rfl | assumption) (by rfl) ?_
  refine i_const 18 dX7_join_17 rfl ?_
  refine i_icmp_ne 21 39 ⟨by omega, by omega⟩ ⟨by omega, by omega⟩ dX7_join_18 rfl (by decide) (fun h => absurd h (by omega)) (fun _ => ?_)
  refine m_iload_n 22 dX7_join_21 rfl rfl ?_
  refine m_iload_n 23 dX7_join_22 rfl rfl ?_
  refine i_icmp_eq 26 39 ⟨by omega, by omega⟩ ⟨by omega, by omega⟩ dX7_join_23 rfl (by decide) (fun h => absurd h (by omega)) (fun _ => ?_)
  refine m_aload_n 27 dX7_join_26 rfl rfl ?_
  refine m_getf 30 foX7_23 dX7_join_27 rfl (by first | rfl | assumption) (by rfl) ?_
  refine m_iload_n 31 dX7_join_30 rfl rfl ?_
  refine m_iload_n 32 dX7_join_31 rfl rfl ?_
  refine m_cV (M' := MX2_slotOf) 35 [_, _] kX7_83 imX2_slotOf seX2_slotOf clX2_slotOf dX7_join_32 rfl rfl rfl (by first | rfl | assumption) (m_rmI (by omega) (Nat.le_of_ble_eq_true rfl) (Nat.le_refl _) (Nat.le_refl _)) (c_X2_slotOf hG d h5 hNN h6 ⟨by omega, by omega⟩ ⟨by omega, by omega⟩ (hXX.besR ⟨by omega, by omega⟩)) ?_
  refine i_const 36 dX7_join_35 rfl ?_
  refine i_icmp_eq 39 41 ⟨by omega, by omega⟩ ⟨by omega, by omega⟩ dX7_join_36 rfl (by decide) (fun _ => ?_) (fun h => absurd h (by omega))
  refine m_aload_n 42 dX7_join_41 rfl rfl ?_
  refine m_getf 45 foX7_23 dX7_join_42 rfl (by first | rfl | assumption) (by rfl) ?_
  refine m_iload_n 46 dX7_join_45 rfl rfl ?_
  refine m_iload_n 47 dX7_join_46 rfl rfl ?_
  refine m_cV (M' := MX2_tie) 50 [_, _] kX7_87 imX2_tie seX2_tie clX2_tie dX7_join_47 rfl rfl rfl (by first | rfl | assumption) (m_rmI (by omega) (Nat.le_of_ble_eq_true rfl) (Nat.le_refl _) (Nat.le_refl _)) (c_X2_tie hG (d + 1) h5 hNN h6 ⟨by omega, by omega, by omega⟩ ⟨by omega, by omega, by omega⟩) ?_
  refine i_const 51 dX7_join_50 rfl ?_
  refine i_retB _ dX7_join_51 rfl ⟨Nat.le_refl _, Nat.le_refl _⟩ ?_ ⟨rfl, rfl⟩
  refine i_eq1 ?_
  rfl
set_option maxHeartbeats 4000000 in
set_option maxRecDepth 100000 in
theorem c_X7_wallN (hG : m_G G) (d : Nat) {k W H : Int} {n sl m : Nat} {col row bes : Nat → Int} {wal : Nat → Bool} (hX : cX w k W H n sl m col row bes wal) {a b : Int} {on : Bool} (ha : 0 ≤ a ∧ a < n) (hb : 0 ≤ b ∧ b < n) (hno : sOf sl bes a b = -1 ∨ wAt sl wal a (sOf sl bes a b) = on) : m_Cv G MX7_wall (m_r (d + 3) 0 0) [.ref 1, vI a, vI b, vB on] w (some (vB false)) w := by
  have hXX := hX
  obtain ⟨h1, h2, h3, h4, h5, h6, h7, h8, hF, hN, hsl, hcr, hbs⟩ := hX
  have hFF := hF
  have hNN := hN
  have hnb := hF.n
  obtain ⟨hk0, hk4, hW1, hW2, hH1, hH2, hn, hg4⟩ := hF
  obtain ⟨hn1, hn2, hl1, hl2, hm, hm2⟩ := hN
  have hso := sOf_r sl bes a b
  refine m_enter (L := [some (.ref 1), some (vI a), some (vI b), some (vB on), none]) (by decide) hG (m_c1 rfl) (Nat.le_of_ble_eq_true rfl) rfl ?_
  refine m_aload_n 1 dX7_wall_0 rfl rfl ?_
  refine m_iload_n 2 dX7_wall_1 rfl rfl ?_
  refine m_cV (M' := MX7_demandPlace) 5 [_] kX7_77 imX7_demandPlace seX7_demandPlace clX7_demandPlace dX7_wall_2 rfl rfl rfl (by first | rfl | assumption) (m_rmI (by omega) (Nat.le_of_ble_eq_true rfl) (Nat.le_refl _) (Nat.le_refl _)) (c_X7_demandPlace hG (d + 1) hXX ⟨by omega, by omega⟩) ?_
  refine m_aload_n 6 dX7_wall_5 rfl rfl ?_
  refine m_iload_n 7 dX7_wall_6 rfl rfl ?_
  refine m_cV (M' := MX7_demandPlace) 10 [_] kX7_77 imX7_demandPlace seX7_demandPlace clX7_demandPlace dX7_wall_7 rfl rfl rfl (by first | rfl | assumption) (m_rmI (by omega) (Nat.le_of_ble_eq_true rfl) (Nat.le_refl _) (Nat.le_refl _)) (c_X7_demandPlace hG (d + 1) hXX ⟨by omega, by omega⟩) ?_
  refine m_aload_n 11 dX7_wall_10 rfl rfl ?_
  refine m_getf 14 foX7_23 dX7_wall_11 rfl (by first | rfl | assumption) (by rfl) ?_
  refine m_iload_n 15 dX7_wall_14 rfl rfl ?_
  refine m_iload_n 16 dX7_wall_15 rfl rfl ?_
  refine m_cV (M' := MX2_slotOf) 19 [_, _] kX7_83 imX2_slotOf seX2_slotOf clX2_slotOf dX7_wall_16 rfl rfl rfl (by first | rfl | assumption) (m_rmI (by omega) (Nat.le_of_ble_eq_true rfl) (Nat.le_refl _) (Nat.le_refl _)) (c_X2_slotOf hG d h5 hNN h6 ⟨by omega, by omega⟩ ⟨by omega, by omega⟩ (hXX.besR ⟨by omega, by omega⟩)) ?_
  refine m_istore 21 dX7_wall_19 rfl (by decide) ?_
  refine m_iload 23 dX7_wall_21 rfl rfl ?_
  refine i_const 24 dX7_wall_23 rfl ?_
  refine i_icmp_eq 27 41 ⟨by omega, by omega⟩ ⟨by omega, by omega⟩ dX7_wall_24 rfl (by decide) (fun q24 => ?_) (fun q24 => ?_)
  · refine i_const 42 dX7_wall_41 rfl ?_
    refine i_retB _ dX7_wall_42 rfl ⟨Nat.le_refl _, Nat.le_refl _⟩ ?_ ⟨rfl, rfl⟩
    refine i_eq0 ?_
    rfl
  · refine m_aload_n 28 dX7_wall_27 rfl rfl ?_
    refine m_getf 31 foX7_23 dX7_wall_28 rfl (by first | rfl | assumption) (by rfl) ?_
    refine m_iload_n 32 dX7_wall_31 rfl rfl ?_
    refine m_iload 34 dX7_wall_32 rfl rfl ?_
    refine m_cV (M' := MX2_walledAt) 37 [_, _] kX7_100 imX2_walledAt seX2_walledAt clX2_walledAt dX7_wall_34 rfl rfl rfl (by first | rfl | assumption) (m_rmI (by omega) (Nat.le_of_ble_eq_true rfl) (Nat.le_refl _) (Nat.le_refl _)) (c_X2_walledAt hG (d + 1) h5 hNN h7 ha ⟨by omega, by omega⟩) ?_
    refine m_iload_n 38 dX7_wall_37 rfl rfl ?_
    refine b_icmp_ne 41 43 dX7_wall_38 rfl (by decide) (fun q38 => ?_) (fun q38 => ?_)
    · exact hno.elim (fun h => absurd h q24) (fun h => absurd h q38)
    · refine i_const 42 dX7_wall_41 rfl ?_
      refine i_retB _ dX7_wall_42 rfl ⟨Nat.le_refl _, Nat.le_refl _⟩ ?_ ⟨rfl, rfl⟩
      refine i_eq0 ?_
      rfl
set_option maxHeartbeats 4000000 in
set_option maxRecDepth 100000 in
theorem c_X7_wallY (hG : m_G G) (d : Nat) {k W H : Int} {n sl m : Nat} {col row bes : Nat → Int} {wal : Nat → Bool} (hX : cX w k W H n sl m col row bes wal) {a b : Int} {on : Bool} (ha : 0 ≤ a ∧ a < n) (hb : 0 ≤ b ∧ b < n) (hs1 : 0 ≤ sOf sl bes a b ∧ sOf sl bes a b < sl) (hs2 : 0 ≤ sOf sl bes b a ∧ sOf sl bes b a < sl) (hwl : wAt sl wal a (sOf sl bes a b) ≠ on) : m_Cv G MX7_wall (m_r (d + 3) 0 0) [.ref 1, vI a, vI b, vB on] w (some (vB true)) (w.set 7 (cZ m (up (up wal (a * sl + sOf sl bes a b).toNat on) (b * sl + sOf sl bes b a).toNat on))) := by
  have hXX := hX
  obtain ⟨h1, h2, h3, h4, h5, h6, h7, h8, hF, hN, hsl, hcr, hbs⟩ := hX
  have hFF := hF
  have hNN := hN
  have hnb := hF.n
  obtain ⟨hk0, hk4, hW1, hW2, hH1, hH2, hn, hg4⟩ := hF
  obtain ⟨hn1, hn2, hl1, hl2, hm, hm2⟩ := hN
  have a1 : (w.set 7 (cZ m (up wal (a * sl + sOf sl bes a b).toNat on)))[1]? = some oGrid := by rw [List.getElem?_set_ne (by decide)]; exact h1
  have a5 : (w.set 7 (cZ m (up wal (a * sl + sOf sl bes a b).toNat on)))[5]? = some (oNet n sl) := by rw [List.getElem?_set_ne (by decide)]; exact h5
  have a6 : (w.set 7 (cZ m (up wal (a * sl + sOf sl bes a b).toNat on)))[6]? = some (cI m bes) := by rw [List.getElem?_set_ne (by decide)]; exact h6
  have a7 : (w.set 7 (cZ m (up wal (a * sl + sOf sl bes a b).toNat on)))[7]? = some (cZ m (up wal (a * sl + sOf sl bes a b).toNat on)) := List.getElem?_set_self (List.getElem?_eq_some_iff.mp h7).1
  refine m_enter (L := [some (.ref 1), some (vI a), some (vI b), some (vB on), none]) (by decide) hG (m_c1 rfl) (Nat.le_of_ble_eq_true rfl) rfl ?_
  refine m_aload_n 1 dX7_wall_0 rfl rfl ?_
  refine m_iload_n 2 dX7_wall_1 rfl rfl ?_
  refine m_cV (M' := MX7_demandPlace) 5 [_] kX7_77 imX7_demandPlace seX7_demandPlace clX7_demandPlace dX7_wall_2 rfl rfl rfl (by first | rfl | assumption) (m_rmI (by omega) (Nat.le_of_ble_eq_true rfl) (Nat.le_refl _) (Nat.le_refl _)) (c_X7_demandPlace hG (d + 1) hXX ⟨by omega, by omega⟩) ?_
  refine m_aload_n 6 dX7_wall_5 rfl rfl ?_
  refine m_iload_n 7 dX7_wall_6 rfl rfl ?_
  refine m_cV (M' := MX7_demandPlace) 10 [_] kX7_77 imX7_demandPlace seX7_demandPlace clX7_demandPlace dX7_wall_7 rfl rfl rfl (by first | rfl | assumption) (m_rmI (by omega) (Nat.le_of_ble_eq_true rfl) (Nat.le_refl _) (Nat.le_refl _)) (c_X7_demandPlace hG (d + 1) hXX ⟨by omega, by omega⟩) ?_
  refine m_aload_n 11 dX7_wall_10 rfl rfl ?_
  refine m_getf 14 foX7_23 dX7_wall_11 rfl (by first | rfl | assumption) (by rfl) ?_
  refine m_iload_n 15 dX7_wall_14 rfl rfl ?_
  refine m_iload_n 16 dX7_wall_15 rfl rfl ?_
  refine m_cV (M' := MX2_slotOf) 19 [_, _] kX7_83 imX2_slotOf seX2_slotOf clX2_slotOf dX7_wall_16 rfl rfl rfl (by first | rfl | assumption) (m_rmI (by omega) (Nat.le_of_ble_eq_true rfl) (Nat.le_refl _) (Nat.le_refl _)) (c_X2_slotOf hG d h5 hNN h6 ⟨by omega, by omega⟩ ⟨by omega, by omega⟩ (hXX.besR ⟨by omega, by omega⟩)) ?_
  refine m_istore 21 dX7_wall_19 rfl (by decide) ?_
  refine m_iload 23 dX7_wall_21 rfl rfl ?_
  refine i_const 24 dX7_wall_23 rfl ?_
  refine i_icmp_eq 27 41 ⟨by omega, by omega⟩ ⟨by omega, by omega⟩ dX7_wall_24 rfl (by decide) (fun h => absurd h (by omega)) (fun _ => ?_)
  refine m_aload_n 28 dX7_wall_27 rfl rfl ?_
  refine m_getf 31 foX7_23 dX7_wall_28 rfl (by first | rfl | assumption) (by rfl) ?_
  refine m_iload_n 32 dX7_wall_31 rfl rfl ?_
  refine m_iload 34 dX7_wall_32 rfl rfl ?_
  refine m_cV (M' := MX2_walledAt) 37 [_, _] kX7_100 imX2_walledAt seX2_walledAt clX2_walledAt dX7_wall_34 rfl rfl rfl (by first | rfl | assumption) (m_rmI (by omega) (Nat.le_of_ble_eq_true rfl) (Nat.le_refl _) (Nat.le_refl _)) (c_X2_walledAt hG (d + 1) h5 hNN h7 ha hs1) ?_
  refine m_iload_n 38 dX7_wall_37 rfl rfl ?_
  refine b_icmp_ne 41 43 dX7_wall_38 rfl (by decide) (fun _ => ?_) (fun h => absurd h hwl)
  refine m_aload_n 44 dX7_wall_43 rfl rfl ?_
  refine m_getf 47 foX7_23 dX7_wall_44 rfl (by first | rfl | assumption) (by rfl) ?_
  refine m_iload_n 48 dX7_wall_47 rfl rfl ?_
  refine m_iload 50 dX7_wall_48 rfl rfl ?_
  refine m_iload_n 51 dX7_wall_50 rfl rfl ?_
  refine m_cV (M' := MX2_setWall) 54 [_, _, _] kX7_104 imX2_setWall seX2_setWall clX2_setWall dX7_wall_51 rfl rfl rfl (by first | rfl | assumption) (m_rmI (by omega) (Nat.le_of_ble_eq_true rfl) (Nat.le_refl _) (Nat.le_refl _)) (c_X2_setWall hG (d + 1) h5 hNN h7 ha hs1) ?_
  refine m_aload_n 55 dX7_wall_54 rfl rfl ?_
  refine m_getf 58 foX7_23 dX7_wall_55 rfl (by first | rfl | assumption) (by rfl) ?_
  refine m_iload_n 59 dX7_wall_58 rfl rfl ?_
  refine m_aload_n 60 dX7_wall_59 rfl rfl ?_
  refine m_getf 63 foX7_23 dX7_wall_60 rfl (by first | rfl | assumption) (by rfl) ?_
  refine m_iload_n 64 dX7_wall_63 rfl rfl ?_
  refine m_iload_n 65 dX7_wall_64 rfl rfl ?_
  refine m_cV (M' := MX2_slotOf) 68 [_, _] kX7_83 imX2_slotOf seX2_slotOf clX2_slotOf dX7_wall_65 rfl rfl rfl (by first | rfl | assumption) (m_rmI (by omega) (Nat.le_of_ble_eq_true rfl) (Nat.le_refl _) (Nat.le_refl _)) (c_X2_slotOf hG d a5 hNN a6 hb ⟨by omega, by omega⟩ (hXX.besR hb)) ?_
  refine m_iload_n 69 dX7_wall_68 rfl rfl ?_
  refine m_cV (M' := MX2_setWall) 72 [_, _, _] kX7_104 imX2_setWall seX2_setWall clX2_setWall dX7_wall_69 rfl rfl rfl (by first | rfl | assumption) (m_rmI (by omega) (Nat.le_of_ble_eq_true rfl) (Nat.le_refl _) (Nat.le_refl _)) (c_X2_setWall hG (d + 1) a5 hNN a7 hb hs2) ?_
  refine i_const 73 dX7_wall_72 rfl ?_
  refine i_retB _ dX7_wall_73 rfl ⟨Nat.le_refl _, Nat.le_refl _⟩ ?_ ⟨rfl, List.set_set _⟩
  refine i_eq1 ?_
  rfl
end GX
