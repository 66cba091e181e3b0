/-! Draft: reading -/
section DR
variable {G : mG} {w : List mC}
abbrev oDraft (F D : Int) : mC := mO 0 [.ref 17, vI F, vI D]
def wD (w : List mC) (b c : mC) : List mC := (w.set 16 b).set 17 c
theorem wD_16 (w : List mC) (b c b' : mC) : (wD w b c).set 16 b' = wD w b' c := by
  unfold wD
  rw [List.set_comm _ _ (by decide : (17 : Nat) ≠ 16), List.set_set]
theorem wD_17 (w : List mC) (b c c' : mC) : (wD w b c).set 17 c' = wD w b c' := by
  unfold wD
  rw [List.set_set]
theorem wD_n {w : List mC} {b c : mC} {i : Nat} (h2 : i ≠ 16) (h3 : i ≠ 17) : (wD w b c)[i]? = w[i]? := by
  unfold wD
  rw [List.getElem?_set_ne (Ne.symm h3), List.getElem?_set_ne (Ne.symm h2)]
theorem wD_b {w : List mC} {b c : mC} (h : 17 < w.length) : (wD w b c)[16]? = some b := by
  unfold wD
  rw [List.getElem?_set_ne (by decide), List.getElem?_set_self (by omega)]
theorem wD_c {w : List mC} {b c : mC} (h : 17 < w.length) : (wD w b c)[17]? = some c := by
  unfold wD
  rw [List.getElem?_set_self (by simp; omega)]
def isD (u : Int) : Bool := decide (48 ≤ u) && decide (u ≤ 57)
theorem isD_t {u : Int} : isD u = true ↔ 48 ≤ u ∧ u ≤ 57 := by unfold isD; simp
theorem isD_1 {u : Int} (h : 48 ≤ u ∧ u ≤ 57) : isD u = true := isD_t.mpr h
theorem isD_0 {u : Int} (h : ¬ (48 ≤ u ∧ u ≤ 57)) : isD u = false := by
  cases hh : isD u with
  | false => rfl
  | true => exact absurd (isD_t.mp hh) h
theorem isD_f {u : Int} (h : isD u = false) : ¬ (48 ≤ u ∧ u ≤ 57) := fun q => by rw [isD_1 q] at h; cases h
/-- c zeros from F on -/
def zer (m : Nat → Int) (F c : Nat) : Nat → Int := fun j => if F ≤ j ∧ j < F + c then 0 else m j
theorem zer_0 (m : Nat → Int) (F : Nat) : zer m F 0 = m := by funext j; unfold zer; rw [if_neg (by omega)]
theorem zer_s (m : Nat → Int) (F c : Nat) : up (zer m F c) (F + c) 0 = zer m F (c + 1) := by
  funext j
  unfold up zer
  by_cases h : j = F + c
  · rw [if_pos h, if_pos (by omega)]
  · rw [if_neg h]
    by_cases h2 : F ≤ j ∧ j < F + c
    · rw [if_pos h2, if_pos (by omega)]
    · rw [if_neg h2, if_neg (by omega)]
def tk (n : Nat) (F D : Int) (m : Nat → Int) (u v : Int) : Option (Int × Int × (Nat → Int)) :=
  if isD u then (if D = 0 then (if u = 48 ∨ (n : Int) ≤ F then none else some (F + 1, 1, up m F.toNat (u - 48))) else if D = 1 then some (F, 2, up m (F - 1).toNat (10 * m (F - 1).toNat + (u - 48))) else none)
  else if u = 32 then (if 0 < D ∧ isD v = true then some (F, 0, m) else none)
  else if 96 < u ∧ u ≤ 122 ∧ u - 96 ≤ (n : Int) - F then some (F + (u - 96), 0, zer m F.toNat (u - 96).toNat) else none
def dOK (n : Nat) (F D : Int) : Prop := 0 ≤ F ∧ F ≤ n ∧ 0 ≤ D ∧ D ≤ 2 ∧ (0 < D → 1 ≤ F)

set_option maxHeartbeats 4000000 in
set_option maxRecDepth 100000 in
theorem c_X7_isDigit (hG : m_G G) (d : Nat) {u : Int} (hu : iR u) : m_Cv G MX7_isDigit (m_r d 0 0) [vI u] w (some (vB (isD u))) w := by
  obtain ⟨hu1, hu2⟩ := hu
  refine m_enter (L := [some (vI u)]) (by decide) hG (m_c1 rfl) (Nat.le_of_ble_eq_true rfl) rfl ?_
  refine m_iload_n 1 dX7_isDigit_0 rfl rfl ?_
  refine i_bipush 3 48 dX7_isDigit_1 rfl (by decide) ?_
  refine i_icmp_lt 6 16 ⟨by omega, by omega⟩ ⟨by omega, by omega⟩ dX7_isDigit_3 rfl (by decide) (fun q3 => ?_) (fun q3 => ?_)
  · refine i_const 17 dX7_isDigit_16 rfl ?_
    refine i_retB _ dX7_isDigit_17 rfl ⟨Nat.le_refl _, Nat.le_refl _⟩ ?_ ⟨rfl, rfl⟩
    refine i_eq0 ?_
    exact isD_0 (by omega)
  · refine m_iload_n 7 dX7_isDigit_6 rfl rfl ?_
    refine i_bipush 9 57 dX7_isDigit_7 rfl (by decide) ?_
    refine i_icmp_gt 12 16 ⟨by omega, by omega⟩ ⟨by omega, by omega⟩ dX7_isDigit_9 rfl (by decide) (fun q9 => ?_) (fun q9 => ?_)
    · refine i_const 17 dX7_isDigit_16 rfl ?_
      refine i_retB _ dX7_isDigit_17 rfl ⟨Nat.le_refl _, Nat.le_refl _⟩ ?_ ⟨rfl, rfl⟩
      refine i_eq0 ?_
      exact isD_0 (by omega)
    · refine i_const 13 dX7_isDigit_12 rfl ?_
      refine m_goto 17 dX7_isDigit_13 (by decide) ?_
      refine i_retB _ dX7_isDigit_17 rfl ⟨Nat.le_refl _, Nat.le_refl _⟩ ?_ ⟨rfl, rfl⟩
      refine i_eq1 ?_
      exact isD_1 (by omega)
set_option maxHeartbeats 4000000 in
set_option maxRecDepth 100000 in
theorem c_X0_beginsN (hG : m_G G) (d : Nat) (hw : 17 < w.length) {n : Nat} (hn : n ≤ 256) {F D : Int} {m : Nat → Int} (hd : dOK n F D) {u : Int} (hu : 0 ≤ u ∧ u ≤ 9) (hno : u = 0 ∨ (n : Int) ≤ F) : m_Cv G MX0_beginsNumber (m_r d 0 0) [.ref 16, vI u] (wD w (oDraft F D) (cI n m)) (some (vB false)) (wD w (oDraft F D) (cI n m)) := by
  obtain ⟨hF0, hF1, hD0, hD1, hD2⟩ := hd
  have b16 : (wD w (oDraft F D) (cI n m))[16]? = some (oDraft F D) := wD_b hw
  have b17 : (wD w (oDraft F D) (cI n m))[17]? = some (cI n m) := wD_c hw
  refine m_enter (L := [some (.ref 16), some (vI u)]) (by decide) hG (m_c1 rfl) (Nat.le_of_ble_eq_true rfl) rfl ?_
  refine m_iload_n 1 dX0_beginsNumber_0 rfl rfl ?_
  refine i_if_eq 4 23 ⟨by omega, by omega⟩ dX0_beginsNumber_1 rfl (by decide) (fun q1 => ?_) (fun q1 => ?_)
  · refine i_const 24 dX0_beginsNumber_23 rfl ?_
    refine i_retB _ dX0_beginsNumber_24 rfl ⟨Nat.le_refl _, Nat.le_refl _⟩ ?_ ⟨rfl, rfl⟩
    refine i_eq0 ?_
    rfl
  · refine m_aload_n 5 dX0_beginsNumber_4 rfl rfl ?_
    refine m_getf 8 foX0_21 dX0_beginsNumber_5 rfl (by first | rfl | assumption) (by rfl) ?_
    refine i_if_lt 11 23 ⟨by omega, by omega⟩ dX0_beginsNumber_8 rfl (by decide) (fun q8 => ?_) (fun q8 => ?_)
    · refine i_const 24 dX0_beginsNumber_23 rfl ?_
      refine i_retB _ dX0_beginsNumber_24 rfl ⟨Nat.le_refl _, Nat.le_refl _⟩ ?_ ⟨rfl, rfl⟩
      refine i_eq0 ?_
      rfl
    · refine m_aload_n 12 dX0_beginsNumber_11 rfl rfl ?_
      refine m_getf 15 foX0_21 dX0_beginsNumber_12 rfl (by first | rfl | assumption) (by rfl) ?_
      refine m_aload_n 16 dX0_beginsNumber_15 rfl rfl ?_
      refine m_getf 19 foX0_15 dX0_beginsNumber_16 rfl (by first | rfl | assumption) (by rfl) ?_
      refine i_len 20 dX0_beginsNumber_19 rfl (by first | rfl | assumption) ?_
      refine i_icmp_lt 23 25 ⟨by omega, by omega⟩ ⟨by omega, by omega⟩ dX0_beginsNumber_20 rfl (by decide) (fun q20 => ?_) (fun q20 => ?_)
      · exact absurd hno (by omega)
      · refine i_const 24 dX0_beginsNumber_23 rfl ?_
        refine i_retB _ dX0_beginsNumber_24 rfl ⟨Nat.le_refl _, Nat.le_refl _⟩ ?_ ⟨rfl, rfl⟩
        refine i_eq0 ?_
        rfl
set_option maxHeartbeats 4000000 in
set_option maxRecDepth 100000 in
theorem c_X0_beginsY (hG : m_G G) (d : Nat) (hw : 17 < w.length) {n : Nat} (hn : n ≤ 256) {F D : Int} {m : Nat → Int} (hd : dOK n F D) {u : Int} (hu : 1 ≤ u ∧ u ≤ 9) (hF : F < n) : m_Cv G MX0_beginsNumber (m_r d 0 0) [.ref 16, vI u] (wD w (oDraft F D) (cI n m)) (some (vB true)) (wD w (oDraft (F + 1) 1) (cI n (up m F.toNat u))) := by
  obtain ⟨hF0, hF1, hD0, hD1, hD2⟩ := hd
  have b16 : (wD w (oDraft F D) (cI n m))[16]? = some (oDraft F D) := wD_b hw
  have b17 : (wD w (oDraft F D) (cI n m))[17]? = some (cI n m) := wD_c hw
  have c16 : (wD w (oDraft F D) (cI n (up m F.toNat u)))[16]? = some (oDraft F D) := wD_b hw
  have d16 : (wD w (oDraft (F + 1) D) (cI n (up m F.toNat u)))[16]? = some (oDraft (F + 1) D) := wD_b hw
  refine m_enter (L := [some (.ref 16), some (vI u)]) (by decide) hG (m_c1 rfl) (Nat.le_of_ble_eq_true rfl) rfl ?_
  refine m_iload_n 1 dX0_beginsNumber_0 rfl rfl ?_
  refine i_if_eq 4 23 ⟨by omega, by omega⟩ dX0_beginsNumber_1 rfl (by decide) (fun h => absurd h (by omega)) (fun _ => ?_)
  refine m_aload_n 5 dX0_beginsNumber_4 rfl rfl ?_
  refine m_getf 8 foX0_21 dX0_beginsNumber_5 rfl (by first | rfl | assumption) (by rfl) ?_
  refine i_if_lt 11 23 ⟨by omega, by omega⟩ dX0_beginsNumber_8 rfl (by decide) (fun h => absurd h (by omega)) (fun _ => ?_)
  refine m_aload_n 12 dX0_beginsNumber_11 rfl rfl ?_
  refine m_getf 15 foX0_21 dX0_beginsNumber_12 rfl (by first | rfl | assumption) (by rfl) ?_
  refine m_aload_n 16 dX0_beginsNumber_15 rfl rfl ?_
  refine m_getf 19 foX0_15 dX0_beginsNumber_16 rfl (by first | rfl | assumption) (by rfl) ?_
  refine i_len 20 dX0_beginsNumber_19 rfl (by first | rfl | assumption) ?_
  refine i_icmp_lt 23 25 ⟨by omega, by omega⟩ ⟨by omega, by omega⟩ dX0_beginsNumber_20 rfl (by decide) (fun _ => ?_) (fun h => absurd h (by omega))
  refine m_aload_n 26 dX0_beginsNumber_25 rfl rfl ?_
  refine m_getf 29 foX0_15 dX0_beginsNumber_26 rfl (by first | rfl | assumption) (by rfl) ?_
  refine m_aload_n 30 dX0_beginsNumber_29 rfl rfl ?_
  refine m_getf 33 foX0_21 dX0_beginsNumber_30 rfl (by first | rfl | assumption) (by rfl) ?_
  refine m_iload_n 34 dX0_beginsNumber_33 rfl rfl ?_
  refine i_ast 35 dX0_beginsNumber_34 rfl (by first | rfl | assumption) ⟨by omega, by omega, by omega⟩ ?_
  rw [wD_17]
  refine m_aload_n 36 dX0_beginsNumber_35 rfl rfl ?_
  refine m_dup 37 dX0_beginsNumber_36 rfl rfl ?_
  refine m_getf 40 foX0_21 dX0_beginsNumber_37 rfl (by first | rfl | assumption) (by rfl) ?_
  refine i_const 41 dX0_beginsNumber_40 rfl ?_
  refine i_add 42 dX0_beginsNumber_41 rfl ?_
  refine m_putf 45 tyX0 rfl tyX0_ok nmX0 (Or.inl rfl) foX0_21 dX0_beginsNumber_42 rfl (by first | rfl | assumption) (Nat.le_of_ble_eq_true rfl) (Or.inl ⟨rfl, _, rfl⟩) ?_
  rw [show ((wD w (oDraft F D) (cI n (up m F.toNat u))).set (15 + 1) (mO 0 ([Value.ref 17, vI F, vI D].set 1 (vI (F + 1))))) = wD w (oDraft (F + 1) D) (cI n (up m F.toNat u)) from wD_16 _ _ _ _]
  refine m_aload_n 46 dX0_beginsNumber_45 rfl rfl ?_
  refine i_const 47 dX0_beginsNumber_46 rfl ?_
  refine m_putf 50 tyX0 rfl tyX0_ok nmX0 (Or.inl rfl) foX0_24 dX0_beginsNumber_47 rfl (by first | rfl | assumption) (Nat.le_of_ble_eq_true rfl) (Or.inl ⟨rfl, _, rfl⟩) ?_
  refine i_const 51 dX0_beginsNumber_50 rfl ?_
  refine i_retB _ dX0_beginsNumber_51 rfl ⟨Nat.le_refl _, Nat.le_refl _⟩ ?_ ⟨rfl, wD_16 _ _ _ _⟩
  refine i_eq1 ?_
  rfl
set_option maxHeartbeats 4000000 in
set_option maxRecDepth 100000 in
theorem c_X0_endsN (hG : m_G G) (d : Nat) (hw : 17 < w.length) {n : Nat} (hn : n ≤ 256) {F D : Int} {m : Nat → Int} (hd : dOK n F D) {u : Int} (hno : D ≠ 1) : m_Cv G MX0_endsNumber (m_r d 0 0) [.ref 16, vI u] (wD w (oDraft F D) (cI n m)) (some (vB false)) (wD w (oDraft F D) (cI n m)) := by
  obtain ⟨hF0, hF1, hD0, hD1, hD2⟩ := hd
  have b16 : (wD w (oDraft F D) (cI n m))[16]? = some (oDraft F D) := wD_b hw
  have b17 : (wD w (oDraft F D) (cI n m))[17]? = some (cI n m) := wD_c hw
  refine m_enter (L := [some (.ref 16), some (vI u), none]) (by decide) hG (m_c1 rfl) (Nat.le_of_ble_eq_true rfl) rfl ?_
  refine m_aload_n 1 dX0_endsNumber_0 rfl rfl ?_
  refine m_getf 4 foX0_21 dX0_endsNumber_1 rfl (by first | rfl | assumption) (by rfl) ?_
  refine i_const 5 dX0_endsNumber_4 rfl ?_
  refine i_sub 6 dX0_endsNumber_5 rfl ?_
  refine m_istore_n 7 dX0_endsNumber_6 rfl (by decide) ?_
  refine m_aload_n 8 dX0_endsNumber_7 rfl rfl ?_
  refine m_getf 11 foX0_24 dX0_endsNumber_8 rfl (by first | rfl | assumption) (by rfl) ?_
  refine i_const 12 dX0_endsNumber_11 rfl ?_
  refine i_icmp_ne 15 28 ⟨by omega, by omega⟩ ⟨by omega, by omega⟩ dX0_endsNumber_12 rfl (by decide) (fun _ => ?_) (fun h => absurd h (by omega))
  refine i_const 29 dX0_endsNumber_28 rfl ?_
  refine i_retB _ dX0_endsNumber_29 rfl ⟨Nat.le_refl _, Nat.le_refl _⟩ ?_ ⟨rfl, rfl⟩
  refine i_eq0 ?_
  rfl
set_option maxHeartbeats 4000000 in
set_option maxRecDepth 100000 in
theorem c_X0_endsY (hG : m_G G) (d : Nat) (hw : 17 < w.length) {n : Nat} (hn : n ≤ 256) {F D : Int} {m : Nat → Int} (hd : dOK n F D) {u : Int} (hD : D = 1) : m_Cv G MX0_endsNumber (m_r d 0 0) [.ref 16, vI u] (wD w (oDraft F D) (cI n m)) (some (vB true)) (wD w (oDraft F 2) (cI n (up m (F - 1).toNat (10 * m (F - 1).toNat + u)))) := by
  obtain ⟨hF0, hF1, hD0, hD1, hD2⟩ := hd
  have b16 : (wD w (oDraft F D) (cI n m))[16]? = some (oDraft F D) := wD_b hw
  have b17 : (wD w (oDraft F D) (cI n m))[17]? = some (cI n m) := wD_c hw
  have c16 : (wD w (oDraft F D) (cI n (up m (F - 1).toNat (10 * m (F - 1).toNat + u))))[16]? = some (oDraft F D) := wD_b hw
  refine m_enter (L := [some (.ref 16), some (vI u), none]) (by decide) hG (m_c1 rfl) (Nat.le_of_ble_eq_true rfl) rfl ?_
  refine m_aload_n 1 dX0_endsNumber_0 rfl rfl ?_
  refine m_getf 4 foX0_21 dX0_endsNumber_1 rfl (by first | rfl | assumption) (by rfl) ?_
  refine i_const 5 dX0_endsNumber_4 rfl ?_
  refine i_sub 6 dX0_endsNumber_5 rfl ?_
  refine m_istore_n 7 dX0_endsNumber_6 rfl (by decide) ?_
  refine m_aload_n 8 dX0_endsNumber_7 rfl rfl ?_
  refine m_getf 11 foX0_24 dX0_endsNumber_8 rfl (by first | rfl | assumption) (by rfl) ?_
  refine i_const 12 dX0_endsNumber_11 rfl ?_
  refine i_icmp_ne 15 28 ⟨by omega, by omega⟩ ⟨by omega, by omega⟩ dX0_endsNumber_12 rfl (by decide) (fun h => absurd h (by omega)) (fun _ => ?_)
  refine m_iload_n 16 dX0_endsNumber_15 rfl rfl ?_
  refine i_if_lt 19 28 ⟨by omega, by omega⟩ dX0_endsNumber_16 rfl (by decide) (fun h => absurd h (by omega)) (fun _ => ?_)
  refine m_iload_n 20 dX0_endsNumber_19 rfl rfl ?_
  refine m_aload_n 21 dX0_endsNumber_20 rfl rfl ?_
  refine m_getf 24 foX0_15 dX0_endsNumber_21 rfl (by first | rfl | assumption) (by rfl) ?_
  refine i_len 25 dX0_endsNumber_24 rfl (by first | rfl | assumption) ?_
  refine i_icmp_lt 28 30 ⟨by omega, by omega⟩ ⟨by omega, by omega⟩ dX0_endsNumber_25 rfl (by decide) (fun _ => ?_) (fun h => absurd h (by omega))
  refine m_aload_n 31 dX0_endsNumber_30 rfl rfl ?_
  refine m_getf 34 foX0_15 dX0_endsNumber_31 rfl (by first | rfl | assumption) (by rfl) ?_
  refine m_iload_n 35 dX0_endsNumber_34 rfl rfl ?_
  refine i_bipush 37 10 dX0_endsNumber_35 rfl (by decide) ?_
  refine m_aload_n 38 dX0_endsNumber_37 rfl rfl ?_
  refine m_getf 41 foX0_15 dX0_endsNumber_38 rfl (by first | rfl | assumption) (by rfl) ?_
  refine m_iload_n 42 dX0_endsNumber_41 rfl rfl ?_
  refine i_ald 43 dX0_endsNumber_42 rfl (by first | rfl | assumption) ⟨by omega, by omega, by omega⟩ ?_
  refine i_mul 44 dX0_endsNumber_43 rfl ?_
  refine m_iload_n 45 dX0_endsNumber_44 rfl rfl ?_
  refine i_add 46 dX0_endsNumber_45 rfl ?_
  refine i_ast 47 dX0_endsNumber_46 rfl (by first | rfl | assumption) ⟨by omega, by omega, by omega⟩ ?_
  rw [wD_17]
  refine m_aload_n 48 dX0_endsNumber_47 rfl rfl ?_
  refine i_const 49 dX0_endsNumber_48 rfl ?_
  refine m_putf 52 tyX0 rfl tyX0_ok nmX0 (Or.inl rfl) foX0_24 dX0_endsNumber_49 rfl (by first | rfl | assumption) (Nat.le_of_ble_eq_true rfl) (Or.inl ⟨rfl, _, rfl⟩) ?_
  refine i_const 53 dX0_endsNumber_52 rfl ?_
  refine i_retB _ dX0_endsNumber_53 rfl ⟨Nat.le_refl _, Nat.le_refl _⟩ ?_ ⟨rfl, wD_16 _ _ _ _⟩
  refine i_eq1 ?_
  rfl
set_option maxHeartbeats 4000000 in
set_option maxRecDepth 100000 in
theorem c_X0_leavesN (hG : m_G G) (d : Nat) (hw : 17 < w.length) {n : Nat} (hn : n ≤ 256) {F D : Int} {m : Nat → Int} (hd : dOK n F D) {u : Int} (hu : 1 ≤ u ∧ u ≤ 26) (hno : (n : Int) - F < u) : m_Cv G MX0_leavesEmpty (m_r d 0 0) [.ref 16, vI u] (wD w (oDraft F D) (cI n m)) (some (vB false)) (wD w (oDraft F D) (cI n m)) := by
  obtain ⟨hF0, hF1, hD0, hD1, hD2⟩ := hd
  have b16 : (wD w (oDraft F D) (cI n m))[16]? = some (oDraft F D) := wD_b hw
  have b17 : (wD w (oDraft F D) (cI n m))[17]? = some (cI n m) := wD_c hw
  refine m_enter (L := [some (.ref 16), some (vI u), none]) (by decide) hG (m_c1 rfl) (Nat.le_of_ble_eq_true rfl) rfl ?_
  refine m_aload_n 1 dX0_leavesEmpty_0 rfl rfl ?_
  refine m_getf 4 foX0_21 dX0_leavesEmpty_1 rfl (by first | rfl | assumption) (by rfl) ?_
  refine i_if_lt 7 21 ⟨by omega, by omega⟩ dX0_leavesEmpty_4 rfl (by decide) (fun h => absurd h (by omega)) (fun _ => ?_)
  refine m_iload_n 8 dX0_leavesEmpty_7 rfl rfl ?_
  refine m_aload_n 9 dX0_leavesEmpty_8 rfl rfl ?_
  refine m_getf 12 foX0_15 dX0_leavesEmpty_9 rfl (by first | rfl | assumption) (by rfl) ?_
  refine i_len 13 dX0_leavesEmpty_12 rfl (by first | rfl | assumption) ?_
  refine m_aload_n 14 dX0_leavesEmpty_13 rfl rfl ?_
  refine m_getf 17 foX0_21 dX0_leavesEmpty_14 rfl (by first | rfl | assumption) (by rfl) ?_
  refine i_sub 18 dX0_leavesEmpty_17 rfl ?_
  refine i_icmp_le 21 23 ⟨by omega, by omega⟩ ⟨by omega, by omega⟩ dX0_leavesEmpty_18 rfl (by decide) (fun h => absurd h (by omega)) (fun _ => ?_)
  refine i_const 22 dX0_leavesEmpty_21 rfl ?_
  refine i_retB _ dX0_leavesEmpty_22 rfl ⟨Nat.le_refl _, Nat.le_refl _⟩ ?_ ⟨rfl, rfl⟩
  refine i_eq0 ?_
  rfl
set_option maxHeartbeats 4000000 in
set_option maxRecDepth 100000 in
theorem l_X0_leaves (hG : m_G G) (d : Nat) (hw : 17 < w.length) {n : Nat} (hn : n ≤ 256) {F D : Int} {m : Nat → Int} (hd : dOK n F D) {u : Nat} (hu : F + u ≤ n) :
    ∀ (j i : Nat), i + j = u → m_J G MX0_leavesEmpty (m_r d 0 0) (fun r x => r = some (some (vB true)) ∧ x = wD w (oDraft (F + u) D) (cI n (zer m F.toNat u))) 0 0 25 [some (.ref 16), some (vI (u : Int)), some (vI (i : Int))] [] (wD w (oDraft (F + i) D) (cI n (zer m F.toNat i))) := by
  obtain ⟨hF0, hF1, hD0, hD1, hD2⟩ := hd
  intro j
  induction j with
  | zero =>
    intro i hi
    have hiu : i = u := by omega
    subst hiu
    refine m_iload_n 26 dX0_leavesEmpty_25 rfl rfl ?_
    refine m_iload_n 27 dX0_leavesEmpty_26 rfl rfl ?_
    refine i_icmp_ge 30 56 ⟨by omega, by omega⟩ ⟨by omega, by omega⟩ dX0_leavesEmpty_27 rfl (by decide) (fun _ => ?_) (fun h => absurd h (by omega))
    refine i_const 57 dX0_leavesEmpty_56 rfl ?_
    refine i_retB _ dX0_leavesEmpty_57 rfl ⟨Nat.le_refl _, Nat.le_refl _⟩ ?_ ⟨rfl, rfl⟩
    refine i_eq1 ?_
    rfl
  | succ j ih =>
    intro i hi
    have b16 : (wD w (oDraft (F + i) D) (cI n (zer m F.toNat i)))[16]? = some (oDraft (F + i) D) := wD_b hw
    have b17 : (wD w (oDraft (F + i) D) (cI n (zer m F.toNat i)))[17]? = some (cI n (zer m F.toNat i)) := wD_c hw
    have c16 : (wD w (oDraft (F + i) D) (cI n (up (zer m F.toNat i) (F + i).toNat 0)))[16]? = some (oDraft (F + i) D) := wD_b hw
    have e1 : (F + (i : Int)).toNat = F.toNat + i := by omega
    refine m_iload_n 26 dX0_leavesEmpty_25 rfl rfl ?_
    refine m_iload_n 27 dX0_leavesEmpty_26 rfl rfl ?_
    refine i_icmp_ge 30 56 ⟨by omega, by omega⟩ ⟨by omega, by omega⟩ dX0_leavesEmpty_27 rfl (by decide) (fun h => absurd h (by omega)) (fun _ => ?_)
    refine m_aload_n 31 dX0_leavesEmpty_30 rfl rfl ?_
    refine m_getf 34 foX0_15 dX0_leavesEmpty_31 rfl (by first | rfl | assumption) (by rfl) ?_
    refine m_aload_n 35 dX0_leavesEmpty_34 rfl rfl ?_
    refine m_getf 38 foX0_21 dX0_leavesEmpty_35 rfl (by first | rfl | assumption) (by rfl) ?_
    refine i_const 39 dX0_leavesEmpty_38 rfl ?_
    refine i_ast 40 dX0_leavesEmpty_39 rfl (by first | rfl | assumption) ⟨by omega, by omega, by omega⟩ ?_
    rw [wD_17]
    refine m_aload_n 41 dX0_leavesEmpty_40 rfl rfl ?_
    refine m_dup 42 dX0_leavesEmpty_41 rfl rfl ?_
    refine m_getf 45 foX0_21 dX0_leavesEmpty_42 rfl (by first | rfl | assumption) (by rfl) ?_
    refine i_const 46 dX0_leavesEmpty_45 rfl ?_
    refine i_add 47 dX0_leavesEmpty_46 rfl ?_
    refine m_putf 50 tyX0 rfl tyX0_ok nmX0 (Or.inl rfl) foX0_21 dX0_leavesEmpty_47 rfl (by first | rfl | assumption) (Nat.le_of_ble_eq_true rfl) (Or.inl ⟨rfl, _, rfl⟩) ?_
    refine i_inc 53 dX0_leavesEmpty_50 rfl rfl (by decide) ?_
    refine m_goto 25 dX0_leavesEmpty_53 (by decide) ?_
    have e := ih (i + 1) (by omega)
    rw [show ((wD w (oDraft (F + i) D) (cI n (up (zer m F.toNat i) (F + i).toNat 0))).set (15 + 1) (mO 0 ([Value.ref 17, vI (F + i), vI D].set 1 (vI (F + i + 1))))) = wD w (oDraft (F + i + 1) D) (cI n (up (zer m F.toNat i) (F + i).toNat 0)) from wD_16 _ _ _ _, e1, zer_s, show F + (i : Int) + 1 = F + ((i + 1 : Nat) : Int) by omega]
    exact e
set_option maxHeartbeats 4000000 in
set_option maxRecDepth 100000 in
theorem c_X0_leavesY (hG : m_G G) (d : Nat) (hw : 17 < w.length) {n : Nat} (hn : n ≤ 256) {F D : Int} {m : Nat → Int} (hd : dOK n F D) {u : Int} (hu : 1 ≤ u ∧ u ≤ 26) (hF : u ≤ (n : Int) - F) : m_Cv G MX0_leavesEmpty (m_r d 0 0) [.ref 16, vI u] (wD w (oDraft F D) (cI n m)) (some (vB true)) (wD w (oDraft (F + u) D) (cI n (zer m F.toNat u.toNat))) := by
  have hdd := hd
  obtain ⟨hF0, hF1, hD0, hD1, hD2⟩ := hd
  have b16 : (wD w (oDraft F D) (cI n m))[16]? = some (oDraft F D) := wD_b hw
  have b17 : (wD w (oDraft F D) (cI n m))[17]? = some (cI n m) := wD_c hw
  have e1 : ((u.toNat : Nat) : Int) = u := Int.toNat_of_nonneg (by omega)
  refine m_enter (L := [some (.ref 16), some (vI u), none]) (by decide) hG (m_c1 rfl) (Nat.le_of_ble_eq_true rfl) rfl ?_
  refine m_aload_n 1 dX0_leavesEmpty_0 rfl rfl ?_
  refine m_getf 4 foX0_21 dX0_leavesEmpty_1 rfl (by first | rfl | assumption) (by rfl) ?_
  refine i_if_lt 7 21 ⟨by omega, by omega⟩ dX0_leavesEmpty_4 rfl (by decide) (fun h => absurd h (by omega)) (fun _ => ?_)
  refine m_iload_n 8 dX0_leavesEmpty_7 rfl rfl ?_
  refine m_aload_n 9 dX0_leavesEmpty_8 rfl rfl ?_
  refine m_getf 12 foX0_15 dX0_leavesEmpty_9 rfl (by first | rfl | assumption) (by rfl) ?_
  refine i_len 13 dX0_leavesEmpty_12 rfl (by first | rfl | assumption) ?_
  refine m_aload_n 14 dX0_leavesEmpty_13 rfl rfl ?_
  refine m_getf 17 foX0_21 dX0_leavesEmpty_14 rfl (by first | rfl | assumption) (by rfl) ?_
  refine i_sub 18 dX0_leavesEmpty_17 rfl ?_
  refine i_icmp_le 21 23 ⟨by omega, by omega⟩ ⟨by omega, by omega⟩ dX0_leavesEmpty_18 rfl (by decide) (fun _ => ?_) (fun h => absurd h (by omega))
  refine i_const 24 dX0_leavesEmpty_23 rfl ?_
  refine m_istore_n 25 dX0_leavesEmpty_24 rfl (by decide) ?_
  have e := l_X0_leaves hG d hw hn (m := m) hdd (u := u.toNat) (by omega) u.toNat 0 (by omega)
  rw [e1, zer_0, show F + ((0 : Nat) : Int) = F by omega] at e
  exact e
set_option maxHeartbeats 4000000 in
set_option maxRecDepth 100000 in
theorem c_X0_takes (hG : m_G G) (d : Nat) (hw : 17 < w.length) {n : Nat} (hn : n ≤ 256) {F D : Int} {m : Nat → Int} (hd : dOK n F D) {u v : Int} (hu : -1 ≤ u ∧ u ≤ 255) (hv : -1 ≤ v ∧ v ≤ 255) : m_Ct G MX0_takes (m_r (d + 1) 0 0) [.ref 16, vI u, vI v] (wD w (oDraft F D) (cI n m)) (fun r x => ∃ (F2 D2 : Int) (m2 : Nat → Int) (ok : Bool), r = some (some (vB ok)) ∧ x = wD w (oDraft F2 D2) (cI n m2) ∧ (ok = true → tk n F D m u v = some (F2, D2, m2)) ∧ (ok = false → tk n F D m u v = none)) := by
  have hdd := hd
  have hd0 : dOK n F 0 := ⟨hd.1, hd.2.1, by omega, by omega, fun h => by omega⟩
  obtain ⟨hF0, hF1, hD0, hD1, hD2⟩ := hd
  have b16 : (wD w (oDraft F D) (cI n m))[16]? = some (oDraft F D) := wD_b hw
  have b17 : (wD w (oDraft F D) (cI n m))[17]? = some (cI n m) := wD_c hw
  have hq4 : isD u = true → 48 ≤ u ∧ u ≤ 57 := isD_t.mp
  refine m_enter (L := [some (.ref 16), some (vI u), some (vI v), none]) (by decide) hG (m_c1 rfl) (Nat.le_of_ble_eq_true rfl) rfl ?_
  refine m_iload_n 1 dX0_takes_0 rfl rfl ?_
  refine m_cSN (M' := MX7_isDigit) 4 [_] kX0_41 stX7_isDigit clX7_isDigit dX0_takes_1 rfl rfl (m_rmI (by omega) (Nat.le_of_ble_eq_true rfl) (Nat.le_refl _) (Nat.le_refl _)) (c_X7_isDigit hG d ⟨by omega, by omega⟩) ?_
  refine b_if_eq 7 34 dX0_takes_4 rfl (by decide) (fun q4 => ?_) (fun q4 => ?_)
  · refine m_aload_n 35 dX0_takes_34 rfl rfl ?_
    refine m_getf 38 foX0_24 dX0_takes_35 rfl (by first | rfl | assumption) (by rfl) ?_
    refine i_if_le 41 45 ⟨by omega, by omega⟩ dX0_takes_38 rfl (by decide) (fun q38 => ?_) (fun q38 => ?_)
    · refine i_const 46 dX0_takes_45 rfl ?_
      refine m_istore_n 47 dX0_takes_46 rfl (by decide) ?_
      refine m_aload_n 48 dX0_takes_47 rfl rfl ?_
      refine i_const 49 dX0_takes_48 rfl ?_
      refine m_putf 52 tyX0 rfl tyX0_ok nmX0 (Or.inl rfl) foX0_24 dX0_takes_49 rfl (by first | rfl | assumption) (Nat.le_of_ble_eq_true rfl) (Or.inl ⟨rfl, _, rfl⟩) ?_
      rw [show (wD w (oDraft F D) (cI n m)).set (15 + 1) (mO 0 ([Value.ref 17, vI F, vI D].set 2 (vI 0))) = wD w (oDraft F 0) (cI n m) from wD_16 _ _ _ _]
      have q4n : ¬ isD u = true := by rw [q4]; decide
      have c16 : (wD w (oDraft F 0) (cI n m))[16]? = some (oDraft F 0) := wD_b hw
      refine m_iload_n 53 dX0_takes_52 rfl rfl ?_
      refine i_bipush 55 32 dX0_takes_53 rfl (by decide) ?_
      refine i_icmp_ne 58 75 ⟨by omega, by omega⟩ ⟨by omega, by omega⟩ dX0_takes_55 rfl (by decide) (fun q55 => ?_) (fun q55 => ?_)
      · refine m_iload_n 76 dX0_takes_75 rfl rfl ?_
        refine i_bipush 78 96 dX0_takes_76 rfl (by decide) ?_
        refine i_icmp_le 81 102 ⟨by omega, by omega⟩ ⟨by omega, by omega⟩ dX0_takes_78 rfl (by decide) (fun q78 => ?_) (fun q78 => ?_)
        · refine i_const 103 dX0_takes_102 rfl ?_
          refine i_retB _ dX0_takes_103 rfl ⟨Nat.le_refl _, Nat.le_refl _⟩ ?_ ⟨F, 0, m, false, rfl, rfl, fun h => (by cases h), fun _ => by unfold tk; rw [if_neg q4n, if_neg q55, if_neg (by omega)]⟩
          refine i_eq0 ?_
          rfl
        · refine m_iload_n 82 dX0_takes_81 rfl rfl ?_
          refine i_bipush 84 122 dX0_takes_82 rfl (by decide) ?_
          refine i_icmp_gt 87 102 ⟨by omega, by omega⟩ ⟨by omega, by omega⟩ dX0_takes_84 rfl (by decide) (fun q84 => ?_) (fun q84 => ?_)
          · refine i_const 103 dX0_takes_102 rfl ?_
            refine i_retB _ dX0_takes_103 rfl ⟨Nat.le_refl _, Nat.le_refl _⟩ ?_ ⟨F, 0, m, false, rfl, rfl, fun h => (by cases h), fun _ => by unfold tk; rw [if_neg q4n, if_neg q55, if_neg (by omega)]⟩
            refine i_eq0 ?_
            rfl
          · refine m_aload_n 88 dX0_takes_87 rfl rfl ?_
            refine m_iload_n 89 dX0_takes_88 rfl rfl ?_
            refine i_bipush 91 96 dX0_takes_89 rfl (by decide) ?_
            refine i_sub 92 dX0_takes_91 rfl ?_
            by_cases hb : u - 96 ≤ (n : Int) - F
            · refine m_cV (M' := MX0_leavesEmpty) 95 [_] kX0_51 imX0_leavesEmpty seX0_leavesEmpty clX0_leavesEmpty dX0_takes_92 rfl rfl rfl (by first | rfl | assumption) (m_rmI (by omega) (Nat.le_of_ble_eq_true rfl) (Nat.le_refl _) (Nat.le_refl _)) (c_X0_leavesY hG d hw hn hd0 ⟨by omega, by omega⟩ hb) ?_
              refine b_if_eq 98 102 dX0_takes_95 rfl (by decide) (fun h => absurd h (by decide)) (fun _ => ?_)
              refine i_const 99 dX0_takes_98 rfl ?_
              refine m_goto 103 dX0_takes_99 (by decide) ?_
              refine i_retB _ dX0_takes_103 rfl ⟨Nat.le_refl _, Nat.le_refl _⟩ ?_ ⟨F + (u - 96), 0, zer m F.toNat (u - 96).toNat, true, rfl, rfl, fun _ => by unfold tk; rw [if_neg q4n, if_neg q55, if_pos ⟨by omega, by omega, hb⟩], fun h => by cases h⟩
              refine i_eq1 ?_
              rfl
            · refine m_cV (M' := MX0_leavesEmpty) 95 [_] kX0_51 imX0_leavesEmpty seX0_leavesEmpty clX0_leavesEmpty dX0_takes_92 rfl rfl rfl (by first | rfl | assumption) (m_rmI (by omega) (Nat.le_of_ble_eq_true rfl) (Nat.le_refl _) (Nat.le_refl _)) (c_X0_leavesN hG d hw hn hd0 ⟨by omega, by omega⟩ (by omega)) ?_
              refine b_if_eq 98 102 dX0_takes_95 rfl (by decide) (fun _ => ?_) (fun h => absurd h (by decide))
              refine i_const 103 dX0_takes_102 rfl ?_
              refine i_retB _ dX0_takes_103 rfl ⟨Nat.le_refl _, Nat.le_refl _⟩ ?_ ⟨F, 0, m, false, rfl, rfl, fun h => (by cases h), fun _ => by unfold tk; rw [if_neg q4n, if_neg q55, if_neg (fun h => hb h.2.2)]⟩
              refine i_eq0 ?_
              rfl
      · refine m_iload_n 59 dX0_takes_58 rfl rfl ?_
        refine i_if_eq 62 73 ⟨by omega, by omega⟩ dX0_takes_59 rfl (by decide) (fun _ => ?_) (fun h => absurd h (by decide))
        refine i_const 74 dX0_takes_73 rfl ?_
        refine i_retB _ dX0_takes_74 rfl ⟨Nat.le_refl _, Nat.le_refl _⟩ ?_ ⟨F, 0, m, false, rfl, rfl, fun h => (by cases h), fun _ => by unfold tk; rw [if_neg q4n, if_pos q55, if_neg (fun h => by omega)]⟩
        refine i_eq0 ?_
        rfl
    · refine i_const 42 dX0_takes_41 rfl ?_
      refine m_goto 46 dX0_takes_42 (by decide) ?_
      refine m_istore_n 47 dX0_takes_46 rfl (by decide) ?_
      refine m_aload_n 48 dX0_takes_47 rfl rfl ?_
      refine i_const 49 dX0_takes_48 rfl ?_
      refine m_putf 52 tyX0 rfl tyX0_ok nmX0 (Or.inl rfl) foX0_24 dX0_takes_49 rfl (by first | rfl | assumption) (Nat.le_of_ble_eq_true rfl) (Or.inl ⟨rfl, _, rfl⟩) ?_
      rw [show (wD w (oDraft F D) (cI n m)).set (15 + 1) (mO 0 ([Value.ref 17, vI F, vI D].set 2 (vI 0))) = wD w (oDraft F 0) (cI n m) from wD_16 _ _ _ _]
      have q4n : ¬ isD u = true := by rw [q4]; decide
      have c16 : (wD w (oDraft F 0) (cI n m))[16]? = some (oDraft F 0) := wD_b hw
      refine m_iload_n 53 dX0_takes_52 rfl rfl ?_
      refine i_bipush 55 32 dX0_takes_53 rfl (by decide) ?_
      refine i_icmp_ne 58 75 ⟨by omega, by omega⟩ ⟨by omega, by omega⟩ dX0_takes_55 rfl (by decide) (fun q55 => ?_) (fun q55 => ?_)
      · refine m_iload_n 76 dX0_takes_75 rfl rfl ?_
        refine i_bipush 78 96 dX0_takes_76 rfl (by decide) ?_
        refine i_icmp_le 81 102 ⟨by omega, by omega⟩ ⟨by omega, by omega⟩ dX0_takes_78 rfl (by decide) (fun q78 => ?_) (fun q78 => ?_)
        · refine i_const 103 dX0_takes_102 rfl ?_
          refine i_retB _ dX0_takes_103 rfl ⟨Nat.le_refl _, Nat.le_refl _⟩ ?_ ⟨F, 0, m, false, rfl, rfl, fun h => (by cases h), fun _ => by unfold tk; rw [if_neg q4n, if_neg q55, if_neg (by omega)]⟩
          refine i_eq0 ?_
          rfl
        · refine m_iload_n 82 dX0_takes_81 rfl rfl ?_
          refine i_bipush 84 122 dX0_takes_82 rfl (by decide) ?_
          refine i_icmp_gt 87 102 ⟨by omega, by omega⟩ ⟨by omega, by omega⟩ dX0_takes_84 rfl (by decide) (fun q84 => ?_) (fun q84 => ?_)
          · refine i_const 103 dX0_takes_102 rfl ?_
            refine i_retB _ dX0_takes_103 rfl ⟨Nat.le_refl _, Nat.le_refl _⟩ ?_ ⟨F, 0, m, false, rfl, rfl, fun h => (by cases h), fun _ => by unfold tk; rw [if_neg q4n, if_neg q55, if_neg (by omega)]⟩
            refine i_eq0 ?_
            rfl
          · refine m_aload_n 88 dX0_takes_87 rfl rfl ?_
            refine m_iload_n 89 dX0_takes_88 rfl rfl ?_
            refine i_bipush 91 96 dX0_takes_89 rfl (by decide) ?_
            refine i_sub 92 dX0_takes_91 rfl ?_
            by_cases hb : u - 96 ≤ (n : Int) - F
            · refine m_cV (M' := MX0_leavesEmpty) 95 [_] kX0_51 imX0_leavesEmpty seX0_leavesEmpty clX0_leavesEmpty dX0_takes_92 rfl rfl rfl (by first | rfl | assumption) (m_rmI (by omega) (Nat.le_of_ble_eq_true rfl) (Nat.le_refl _) (Nat.le_refl _)) (c_X0_leavesY hG d hw hn hd0 ⟨by omega, by omega⟩ hb) ?_
              refine b_if_eq 98 102 dX0_takes_95 rfl (by decide) (fun h => absurd h (by decide)) (fun _ => ?_)
              refine i_const 99 dX0_takes_98 rfl ?_
              refine m_goto 103 dX0_takes_99 (by decide) ?_
              refine i_retB _ dX0_takes_103 rfl ⟨Nat.le_refl _, Nat.le_refl _⟩ ?_ ⟨F + (u - 96), 0, zer m F.toNat (u - 96).toNat, true, rfl, rfl, fun _ => by unfold tk; rw [if_neg q4n, if_neg q55, if_pos ⟨by omega, by omega, hb⟩], fun h => by cases h⟩
              refine i_eq1 ?_
              rfl
            · refine m_cV (M' := MX0_leavesEmpty) 95 [_] kX0_51 imX0_leavesEmpty seX0_leavesEmpty clX0_leavesEmpty dX0_takes_92 rfl rfl rfl (by first | rfl | assumption) (m_rmI (by omega) (Nat.le_of_ble_eq_true rfl) (Nat.le_refl _) (Nat.le_refl _)) (c_X0_leavesN hG d hw hn hd0 ⟨by omega, by omega⟩ (by omega)) ?_
              refine b_if_eq 98 102 dX0_takes_95 rfl (by decide) (fun _ => ?_) (fun h => absurd h (by decide))
              refine i_const 103 dX0_takes_102 rfl ?_
              refine i_retB _ dX0_takes_103 rfl ⟨Nat.le_refl _, Nat.le_refl _⟩ ?_ ⟨F, 0, m, false, rfl, rfl, fun h => (by cases h), fun _ => by unfold tk; rw [if_neg q4n, if_neg q55, if_neg (fun h => hb h.2.2)]⟩
              refine i_eq0 ?_
              rfl
      · refine m_iload_n 59 dX0_takes_58 rfl rfl ?_
        refine i_if_eq 62 73 ⟨by omega, by omega⟩ dX0_takes_59 rfl (by decide) (fun h => absurd h (by decide)) (fun _ => ?_)
        refine m_iload_n 63 dX0_takes_62 rfl rfl ?_
        refine m_cSN (M' := MX7_isDigit) 66 [_] kX0_41 stX7_isDigit clX7_isDigit dX0_takes_63 rfl rfl (m_rmI (by omega) (Nat.le_of_ble_eq_true rfl) (Nat.le_refl _) (Nat.le_refl _)) (c_X7_isDigit hG d ⟨by omega, by omega⟩) ?_
        refine b_if_eq 69 73 dX0_takes_66 rfl (by decide) (fun q66 => ?_) (fun q66 => ?_)
        · refine i_const 74 dX0_takes_73 rfl ?_
          refine i_retB _ dX0_takes_74 rfl ⟨Nat.le_refl _, Nat.le_refl _⟩ ?_ ⟨F, 0, m, false, rfl, rfl, fun h => (by cases h), fun _ => by unfold tk; rw [if_neg q4n, if_pos q55, if_neg (fun h => by rw [h.2] at q66; cases q66)]⟩
          refine i_eq0 ?_
          rfl
        · refine i_const 70 dX0_takes_69 rfl ?_
          refine m_goto 74 dX0_takes_70 (by decide) ?_
          refine i_retB _ dX0_takes_74 rfl ⟨Nat.le_refl _, Nat.le_refl _⟩ ?_ ⟨F, 0, m, true, rfl, rfl, fun _ => by unfold tk; rw [if_neg q4n, if_pos q55, if_pos ⟨by omega, q66⟩], fun h => by cases h⟩
          refine i_eq1 ?_
          rfl
  · have hq5 := hq4 q4
    refine m_aload_n 8 dX0_takes_7 rfl rfl ?_
    refine m_getf 11 foX0_24 dX0_takes_8 rfl (by first | rfl | assumption) (by rfl) ?_
    refine i_if_ne 14 25 ⟨by omega, by omega⟩ dX0_takes_11 rfl (by decide) (fun q11 => ?_) (fun q11 => ?_)
    · refine m_aload_n 26 dX0_takes_25 rfl rfl ?_
      refine m_iload_n 27 dX0_takes_26 rfl rfl ?_
      refine i_bipush 29 48 dX0_takes_27 rfl (by decide) ?_
      refine i_sub 30 dX0_takes_29 rfl ?_
      by_cases hb : D = 1
      · refine m_cV (M' := MX0_endsNumber) 33 [_] kX0_48 imX0_endsNumber seX0_endsNumber clX0_endsNumber dX0_takes_30 rfl rfl rfl (by first | rfl | assumption) (m_rmI (by omega) (Nat.le_of_ble_eq_true rfl) (Nat.le_refl _) (Nat.le_refl _)) (c_X0_endsY hG d hw hn hdd hb) ?_
        refine i_retB _ dX0_takes_33 rfl ⟨Nat.le_refl _, Nat.le_refl _⟩ ?_ ⟨F, 2, up m (F - 1).toNat (10 * m (F - 1).toNat + (u - 48)), true, rfl, rfl, fun _ => by unfold tk; rw [if_pos q4, if_neg q11, if_pos hb], fun h => by cases h⟩
        refine congrArg vB ?_
        rfl
      · refine m_cV (M' := MX0_endsNumber) 33 [_] kX0_48 imX0_endsNumber seX0_endsNumber clX0_endsNumber dX0_takes_30 rfl rfl rfl (by first | rfl | assumption) (m_rmI (by omega) (Nat.le_of_ble_eq_true rfl) (Nat.le_refl _) (Nat.le_refl _)) (c_X0_endsN hG d hw hn hdd hb) ?_
        refine i_retB _ dX0_takes_33 rfl ⟨Nat.le_refl _, Nat.le_refl _⟩ ?_ ⟨F, D, m, false, rfl, rfl, fun h => (by cases h), fun _ => by unfold tk; rw [if_pos q4, if_neg q11, if_neg hb]⟩
        refine congrArg vB ?_
        rfl
    · refine m_aload_n 15 dX0_takes_14 rfl rfl ?_
      refine m_iload_n 16 dX0_takes_15 rfl rfl ?_
      refine i_bipush 18 48 dX0_takes_16 rfl (by decide) ?_
      refine i_sub 19 dX0_takes_18 rfl ?_
      by_cases hb : u = 48 ∨ (n : Int) ≤ F
      · refine m_cV (M' := MX0_beginsNumber) 22 [_] kX0_45 imX0_beginsNumber seX0_beginsNumber clX0_beginsNumber dX0_takes_19 rfl rfl rfl (by first | rfl | assumption) (m_rmI (by omega) (Nat.le_of_ble_eq_true rfl) (Nat.le_refl _) (Nat.le_refl _)) (c_X0_beginsN hG d hw hn hdd ⟨by omega, by omega⟩ (by omega)) ?_
        refine m_goto 33 dX0_takes_22 (by decide) ?_
        refine i_retB _ dX0_takes_33 rfl ⟨Nat.le_refl _, Nat.le_refl _⟩ ?_ ⟨F, D, m, false, rfl, rfl, fun h => (by cases h), fun _ => by unfold tk; rw [if_pos q4, if_pos q11, if_pos hb]⟩
        refine congrArg vB ?_
        rfl
      · refine m_cV (M' := MX0_beginsNumber) 22 [_] kX0_45 imX0_beginsNumber seX0_beginsNumber clX0_beginsNumber dX0_takes_19 rfl rfl rfl (by first | rfl | assumption) (m_rmI (by omega) (Nat.le_of_ble_eq_true rfl) (Nat.le_refl _) (Nat.le_refl _)) (c_X0_beginsY hG d hw hn hdd ⟨by omega, by omega⟩ (by omega)) ?_
        refine m_goto 33 dX0_takes_22 (by decide) ?_
        refine i_retB _ dX0_takes_33 rfl ⟨Nat.le_refl _, Nat.le_refl _⟩ ?_ ⟨F + 1, 1, up m F.toNat (u - 48), true, rfl, rfl, fun _ => by unfold tk; rw [if_pos q4, if_pos q11, if_neg hb], fun h => by cases h⟩
        refine congrArg vB ?_
        rfl
end DR
