/-! reading the bytes that came -/
section RD
variable {G : mG} {w : List mC}
def nxb (b : Nat → Int) (L i : Nat) : Int := if i + 1 < L then b (i + 1) else -1
def pF (n : Nat) (b : Nat → Int) (L : Nat) : Nat → Nat → Int → Int → (Nat → Int) → Int × (Nat → Int)
  | 0, _, F, _, m => (if F < n then (L : Int) else -1, m)
  | j + 1, i, F, D, m => match tk n F D m (b i) (nxb b L i) with
    | none => ((i : Int), m)
    | some (F2, D2, m2) => pF n b L j (i + 1) F2 D2 m2
theorem tk_ok {n : Nat} {F D : Int} {m : Nat → Int} {u v F2 D2 : Int} {m2 : Nat → Int} (hd : dOK n F D) (h : tk n F D m u v = some (F2, D2, m2)) : dOK n F2 D2 := by
  obtain ⟨a1, a2, a3, a4, a5⟩ := hd
  unfold tk at h
  split at h
  · split at h
    · split at h
      · cases h
      · next hb =>
        simp only [Option.some.injEq, Prod.mk.injEq] at h
        obtain ⟨rfl, rfl, -⟩ := h
        exact ⟨by omega, by omega, by omega, by omega, fun _ => by omega⟩
    · split at h
      · next hb =>
        simp only [Option.some.injEq, Prod.mk.injEq] at h
        obtain ⟨rfl, rfl, -⟩ := h
        exact ⟨a1, a2, by omega, by omega, fun _ => a5 (by omega)⟩
      · cases h
  · split at h
    · split at h
      · simp only [Option.some.injEq, Prod.mk.injEq] at h
        obtain ⟨rfl, rfl, -⟩ := h
        exact ⟨a1, a2, by omega, by omega, fun h => by omega⟩
      · cases h
    · split at h
      · next hb =>
        simp only [Option.some.injEq, Prod.mk.injEq] at h
        obtain ⟨rfl, rfl, -⟩ := h
        exact ⟨by omega, by omega, by omega, by omega, fun h => by omega⟩
      · cases h

set_option maxHeartbeats 4000000 in
set_option maxRecDepth 100000 in
theorem l_X0_firstFault (hG : m_G G) (d : Nat) (hw : 17 < w.length) {n : Nat} (hn : n ≤ 256) {L : Nat} (hL : L ≤ 1200) {b : Nat → Int} (h18 : w[18]? = some (oRow 19 (L : Int))) (h19 : w[19]? = some (cI 1200 b)) (hb : ∀ i, i < L → 0 ≤ b i ∧ b i ≤ 255) {Q : Option (Option Value) → List mC → Prop} :
    ∀ (j i : Nat) (F D : Int) (m : Nat → Int), i + j = L → dOK n F D → (∀ (F2 D2 : Int) (m2 : Nat → Int), ((pF n b L j i F D m).1 = -1 → m2 = (pF n b L j i F D m).2) → Q (some (some (vI (pF n b L j i F D m).1))) (wD w (oDraft F2 D2) (cI n m2))) → m_J G MX0_firstFault (m_r (d + 2) 0 0) Q 0 0 12 [some (.ref 16), some (.ref 18), some (vI (i : Int))] [] (wD w (oDraft F D) (cI n m)) := by
  intro j
  induction j with
  | zero =>
    intro i F D m hij hd kk
    have k0 := kk F D m (fun _ => rfl)
    have ep : (pF n b L 0 i F D m).1 = if F < n then (L : Int) else -1 := rfl
    rw [ep] at k0
    have hdd := hd
    obtain ⟨hF0, hF1, hD0, hD1, hD2⟩ := hd
    have b16 : (wD w (oDraft F D) (cI n m))[16]? = some (oDraft F D) := wD_b hw
    have b17 : (wD w (oDraft F D) (cI n m))[17]? = some (cI n m) := wD_c hw
    have b18 : (wD w (oDraft F D) (cI n m))[18]? = some (oRow 19 (L : Int)) := by rw [wD_n (by decide) (by decide)]; exact h18
    have b19 : (wD w (oDraft F D) (cI n m))[19]? = some (cI 1200 b) := by rw [wD_n (by decide) (by decide)]; exact h19
    refine m_iload_n 13 dX0_firstFault_12 rfl rfl ?_
    refine m_aload_n 14 dX0_firstFault_13 rfl rfl ?_
    refine m_cV (M' := MX3_length) 17 [] kX0_27 imX3_length seX3_length clX3_length dX0_firstFault_14 rfl rfl rfl (by first | rfl | assumption) (m_rmI (by omega) (Nat.le_of_ble_eq_true rfl) (Nat.le_refl _) (Nat.le_refl _)) (c_X3_length hG (d + 1) b18) ?_
    refine i_icmp_ge 20 47 ⟨by omega, by omega⟩ ⟨by omega, by omega⟩ dX0_firstFault_17 rfl (by decide) (fun _ => ?_) (fun h => absurd h (by omega))
    refine m_aload_n 48 dX0_firstFault_47 rfl rfl ?_
    refine m_getf 51 foX0_21 dX0_firstFault_48 rfl (by first | rfl | assumption) (by rfl) ?_
    refine m_aload_n 52 dX0_firstFault_51 rfl rfl ?_
    refine m_getf 55 foX0_15 dX0_firstFault_52 rfl (by first | rfl | assumption) (by rfl) ?_
    refine i_len 56 dX0_firstFault_55 rfl (by first | rfl | assumption) ?_
    refine i_icmp_ge 59 66 ⟨by omega, by omega⟩ ⟨by omega, by omega⟩ dX0_firstFault_56 rfl (by decide) (fun q56 => ?_) (fun q56 => ?_)
    · refine i_const 67 dX0_firstFault_66 rfl ?_
      refine i_ret _ dX0_firstFault_67 rfl ⟨Nat.le_refl _, Nat.le_refl _⟩ ?_ k0
      first | rw [if_pos (by omega)] | rw [if_neg (by omega)]
    · refine m_aload_n 60 dX0_firstFault_59 rfl rfl ?_
      refine m_cV (M' := MX3_length) 63 [] kX0_27 imX3_length seX3_length clX3_length dX0_firstFault_60 rfl rfl rfl (by first | rfl | assumption) (m_rmI (by omega) (Nat.le_of_ble_eq_true rfl) (Nat.le_refl _) (Nat.le_refl _)) (c_X3_length hG (d + 1) b18) ?_
      refine m_goto 67 dX0_firstFault_63 (by decide) ?_
      refine i_ret _ dX0_firstFault_67 rfl ⟨Nat.le_refl _, Nat.le_refl _⟩ ?_ k0
      first | rw [if_pos (by omega)] | rw [if_neg (by omega)]
  | succ j ih =>
    intro i F D m hij hd kk
    have hbi := hb i (by omega)
    have hnb : -1 ≤ nxb b L i ∧ nxb b L i ≤ 255 := by
      unfold nxb
      split
      · have := hb (i + 1) (by omega); omega
      · omega
    have ea : rAt 1200 (L : Int) b (i : Int) = b i := by
      unfold rAt
      rw [if_pos (by omega), Int.toNat_natCast]
    have eb : rAt 1200 (L : Int) b ((i : Int) + 1) = nxb b L i := by
      unfold rAt nxb
      by_cases h : i + 1 < L
      · rw [if_pos (by omega), if_pos h]; congr 1
      · rw [if_neg (by omega), if_neg h]
    have ep : pF n b L (j + 1) i F D m = match tk n F D m (b i) (nxb b L i) with
      | none => ((i : Int), m)
      | some (F2, D2, m2) => pF n b L j (i + 1) F2 D2 m2 := rfl
    have b16 : (wD w (oDraft F D) (cI n m))[16]? = some (oDraft F D) := wD_b hw
    have b17 : (wD w (oDraft F D) (cI n m))[17]? = some (cI n m) := wD_c hw
    have b18 : (wD w (oDraft F D) (cI n m))[18]? = some (oRow 19 (L : Int)) := by rw [wD_n (by decide) (by decide)]; exact h18
    have b19 : (wD w (oDraft F D) (cI n m))[19]? = some (cI 1200 b) := by rw [wD_n (by decide) (by decide)]; exact h19
    refine m_iload_n 13 dX0_firstFault_12 rfl rfl ?_
    refine m_aload_n 14 dX0_firstFault_13 rfl rfl ?_
    refine m_cV (M' := MX3_length) 17 [] kX0_27 imX3_length seX3_length clX3_length dX0_firstFault_14 rfl rfl rfl (by first | rfl | assumption) (m_rmI (by omega) (Nat.le_of_ble_eq_true rfl) (Nat.le_refl _) (Nat.le_refl _)) (c_X3_length hG (d + 1) b18) ?_
    refine i_icmp_ge 20 47 ⟨by omega, by omega⟩ ⟨by omega, by omega⟩ dX0_firstFault_17 rfl (by decide) (fun h => absurd h (by omega)) (fun _ => ?_)
    refine m_aload_n 21 dX0_firstFault_20 rfl rfl ?_
    refine m_aload_n 22 dX0_firstFault_21 rfl rfl ?_
    refine m_iload_n 23 dX0_firstFault_22 rfl rfl ?_
    refine m_cV (M' := MX3_at) 26 [_] kX0_33 imX3_at seX3_at clX3_at dX0_firstFault_23 rfl rfl rfl (by first | rfl | assumption) (m_rmI (by omega) (Nat.le_of_ble_eq_true rfl) (Nat.le_refl _) (Nat.le_refl _)) (c_X3_at hG (d + 1) b18 b19 ⟨by omega, by omega⟩ ⟨by omega, by omega⟩ (by decide)) ?_
    refine m_aload_n 27 dX0_firstFault_26 rfl rfl ?_
    refine m_iload_n 28 dX0_firstFault_27 rfl rfl ?_
    refine i_const 29 dX0_firstFault_28 rfl ?_
    refine i_add 30 dX0_firstFault_29 rfl ?_
    refine m_cV (M' := MX3_at) 33 [_] kX0_33 imX3_at seX3_at clX3_at dX0_firstFault_30 rfl rfl rfl (by first | rfl | assumption) (m_rmI (by omega) (Nat.le_of_ble_eq_true rfl) (Nat.le_refl _) (Nat.le_refl _)) (c_X3_at hG (d + 1) b18 b19 ⟨by omega, by omega⟩ ⟨by omega, by omega⟩ (by decide)) ?_
    rw [ea, eb]
    refine m_cVr (M' := MX0_takes) 36 [_, _] kX0_37 imX0_takes seX0_takes clX0_takes dX0_firstFault_33 rfl rfl rfl (by first | rfl | assumption) (m_rmI (by omega) (Nat.le_of_ble_eq_true rfl) (Nat.le_refl _) (Nat.le_refl _)) (c_X0_takes hG d hw hn hd ⟨by omega, by omega⟩ hnb) (fun w2 h => by obtain ⟨F2, D2, m2, ok, h, -⟩ := h; cases h) (fun v w2 h => ?_)
    obtain ⟨F2, D2, m2, ok, hv, rfl, h1, h2⟩ := h
    cases hv
    cases ok with
    | false =>
      have e1 := h2 rfl
      rw [e1] at ep
      have k0 := kk F2 D2 m2 (fun h => by rw [ep] at h; have h : (i : Int) = -1 := h; omega)
      rw [ep] at k0
      refine b_if_ne 39 41 dX0_firstFault_36 rfl (by decide) (fun h => absurd h (by decide)) (fun _ => ?_)
      refine m_iload_n 40 dX0_firstFault_39 rfl rfl ?_
      refine i_ret _ dX0_firstFault_40 rfl ⟨Nat.le_refl _, Nat.le_refl _⟩ ?_ k0
      rfl
    | true =>
      have e1 := h1 rfl
      rw [e1] at ep
      have ep : pF n b L (j + 1) i F D m = pF n b L j (i + 1) F2 D2 m2 := ep
      rw [ep] at kk
      refine b_if_ne 39 41 dX0_firstFault_36 rfl (by decide) (fun _ => ?_) (fun h => absurd h (by decide))
      refine i_inc 44 dX0_firstFault_41 rfl rfl (by decide) ?_
      refine m_goto 12 dX0_firstFault_44 (by decide) ?_
      exact ih (i + 1) F2 D2 m2 (by omega) (tk_ok hd e1) kk
set_option maxHeartbeats 4000000 in
set_option maxRecDepth 100000 in
theorem c_X0_firstFault (hG : m_G G) (d : Nat) (hw : 17 < w.length) {n : Nat} (hn : n ≤ 256) {L : Nat} (hL : L ≤ 1200) {b : Nat → Int} (h18 : w[18]? = some (oRow 19 (L : Int))) (h19 : w[19]? = some (cI 1200 b)) (hb : ∀ i, i < L → 0 ≤ b i ∧ b i ≤ 255) {F D : Int} {m : Nat → Int} (h16 : w[16]? = some (oDraft F D)) (h17 : w[17]? = some (cI n m)) : m_Ct G MX0_firstFault (m_r (d + 2) 0 0) [.ref 16, .ref 18] w (fun r x => ∃ (F2 D2 : Int) (m2 : Nat → Int), r = some (some (vI (pF n b L L 0 0 0 m).1)) ∧ x = wD w (oDraft F2 D2) (cI n m2) ∧ ((pF n b L L 0 0 0 m).1 = -1 → m2 = (pF n b L L 0 0 0 m).2)) := by
  have e0 : (w.set 16 (oDraft 0 D)).set 16 (oDraft 0 0) = (wD w (oDraft 0 0) (cI n m)) := by
    unfold wD
    rw [List.set_set, List.set_comm _ _ (by decide : (16 : Nat) ≠ 17), set_get h17]
  have d16 : (w.set 16 (oDraft 0 D))[16]? = some (oDraft 0 D) := List.getElem?_set_self (by omega)
  refine m_enter (L := [some (.ref 16), some (.ref 18), none]) (by decide) hG (m_c1 rfl) (Nat.le_of_ble_eq_true rfl) rfl ?_
  refine m_aload_n 1 dX0_firstFault_0 rfl rfl ?_
  refine i_const 2 dX0_firstFault_1 rfl ?_
  refine m_putf 5 tyX0 rfl tyX0_ok nmX0 (Or.inl rfl) foX0_21 dX0_firstFault_2 rfl (by first | rfl | assumption) (Nat.le_of_ble_eq_true rfl) (Or.inl ⟨rfl, _, rfl⟩) ?_
  show m_J _ _ _ _ _ _ _ _ _ (w.set 16 (oDraft 0 D))
  refine m_aload_n 6 dX0_firstFault_5 rfl rfl ?_
  refine i_const 7 dX0_firstFault_6 rfl ?_
  refine m_putf 10 tyX0 rfl tyX0_ok nmX0 (Or.inl rfl) foX0_24 dX0_firstFault_7 rfl (by first | rfl | assumption) (Nat.le_of_ble_eq_true rfl) (Or.inl ⟨rfl, _, rfl⟩) ?_
  show m_J _ _ _ _ _ _ _ _ _ ((w.set 16 (oDraft 0 D)).set 16 (oDraft 0 0))
  refine i_const 11 dX0_firstFault_10 rfl ?_
  refine m_istore_n 12 dX0_firstFault_11 rfl (by decide) ?_
  rw [e0]
  exact l_X0_firstFault hG d hw hn hL h18 h19 hb L 0 0 0 m (by omega) ⟨by omega, by omega, by omega, by omega, fun h => by omega⟩ (fun F2 D2 m2 h => ⟨F2, D2, m2, rfl, rfl, h⟩)
set_option maxHeartbeats 4000000 in
set_option maxRecDepth 100000 in
theorem l_X0_copyTo (hG : m_G G) (d : Nat) {n : Nat} (hn : n ≤ 256) {F D : Int} {dm mk : Nat → Int} (h16 : w[16]? = some (oDraft F D)) (h17 : w[17]? = some (cI n dm)) (hw : 20 < w.length) :
    ∀ (j i : Nat), i + j = n → m_J G MX0_copyTo (m_r d 0 0) (fun r x => r = some none ∧ x = w.set 20 (cI n (fill n dm mk))) 0 0 2 [some (.ref 16), some (.ref 20), some (vI (i : Int))] [] (w.set 20 (cI n (fill i dm mk))) := by
  intro j
  induction j with
  | zero =>
    intro i hi
    have hin : i = n := by omega
    subst hin
    have b16 : (w.set 20 (cI i (fill i dm mk)))[16]? = some (oDraft F D) := by rw [List.getElem?_set_ne (by decide)]; exact h16
    have b17 : (w.set 20 (cI i (fill i dm mk)))[17]? = some (cI i dm) := by rw [List.getElem?_set_ne (by decide)]; exact h17
    refine m_iload_n 3 dX0_copyTo_2 rfl rfl ?_
    refine m_aload_n 4 dX0_copyTo_3 rfl rfl ?_
    refine m_getf 7 foX0_15 dX0_copyTo_4 rfl (by first | rfl | assumption) (by rfl) ?_
    refine i_len 8 dX0_copyTo_7 rfl (by first | rfl | assumption) ?_
    refine i_icmp_ge 11 32 ⟨by omega, by omega⟩ ⟨by omega, by omega⟩ dX0_copyTo_8 rfl (by decide) (fun _ => ?_) (fun h => absurd h (by omega))
    refine m_vret dX0_copyTo_32 rfl ⟨Nat.le_refl _, Nat.le_refl _⟩ ?_
    exact ⟨rfl, rfl⟩
  | succ j ih =>
    intro i hi
    have b16 : (w.set 20 (cI n (fill i dm mk)))[16]? = some (oDraft F D) := by rw [List.getElem?_set_ne (by decide)]; exact h16
    have b17 : (w.set 20 (cI n (fill i dm mk)))[17]? = some (cI n dm) := by rw [List.getElem?_set_ne (by decide)]; exact h17
    have b20 : (w.set 20 (cI n (fill i dm mk)))[20]? = some (cI n (fill i dm mk)) := List.getElem?_set_self hw
    refine m_iload_n 3 dX0_copyTo_2 rfl rfl ?_
    refine m_aload_n 4 dX0_copyTo_3 rfl rfl ?_
    refine m_getf 7 foX0_15 dX0_copyTo_4 rfl (by first | rfl | assumption) (by rfl) ?_
    refine i_len 8 dX0_copyTo_7 rfl (by first | rfl | assumption) ?_
    refine i_icmp_ge 11 32 ⟨by omega, by omega⟩ ⟨by omega, by omega⟩ dX0_copyTo_8 rfl (by decide) (fun h => absurd h (by omega)) (fun _ => ?_)
    refine m_iload_n 12 dX0_copyTo_11 rfl rfl ?_
    refine m_aload_n 13 dX0_copyTo_12 rfl rfl ?_
    refine i_len 14 dX0_copyTo_13 rfl (by first | rfl | assumption) ?_
    refine i_icmp_ge 17 32 ⟨by omega, by omega⟩ ⟨by omega, by omega⟩ dX0_copyTo_14 rfl (by decide) (fun h => absurd h (by omega)) (fun _ => ?_)
    refine m_aload_n 18 dX0_copyTo_17 rfl rfl ?_
    refine m_iload_n 19 dX0_copyTo_18 rfl rfl ?_
    refine m_aload_n 20 dX0_copyTo_19 rfl rfl ?_
    refine m_getf 23 foX0_15 dX0_copyTo_20 rfl (by first | rfl | assumption) (by rfl) ?_
    refine m_iload_n 24 dX0_copyTo_23 rfl rfl ?_
    refine i_ald 25 dX0_copyTo_24 rfl (by first | rfl | assumption) ⟨by omega, by omega, by omega⟩ ?_
    refine i_ast 26 dX0_copyTo_25 rfl (by first | rfl | assumption) ⟨by omega, by omega, by omega⟩ ?_
    refine i_inc 29 dX0_copyTo_26 rfl rfl (by decide) ?_
    refine m_goto 2 dX0_copyTo_29 (by decide) ?_
    have e := ih (i + 1) (by omega)
    rw [List.set_set, Int.toNat_natCast, fill_s]
    exact e
set_option maxHeartbeats 4000000 in
set_option maxRecDepth 100000 in
theorem c_X0_copyTo (hG : m_G G) (d : Nat) {n : Nat} (hn : n ≤ 256) {F D : Int} {dm mk : Nat → Int} (h16 : w[16]? = some (oDraft F D)) (h17 : w[17]? = some (cI n dm)) (h20 : w[20]? = some (cI n mk)) (hw : 20 < w.length) : m_Cv G MX0_copyTo (m_r d 0 0) [.ref 16, .ref 20] w none (w.set 20 (cI n (fill n dm mk))) := by
  refine m_enter (L := [some (.ref 16), some (.ref 20), none]) (by decide) hG (m_c1 rfl) (Nat.le_of_ble_eq_true rfl) rfl ?_
  refine i_const 1 dX0_copyTo_0 rfl ?_
  refine m_istore_n 2 dX0_copyTo_1 rfl (by decide) ?_
  have e := l_X0_copyTo hG d hn h16 h17 hw (mk := mk) n 0 (by omega)
  rw [fill_0, set_get h20] at e
  exact e
set_option maxHeartbeats 4000000 in
set_option maxRecDepth 100000 in
theorem c_X7_read (hG : m_G G) (d : Nat) {k W H : Int} {n sl m : Nat} {col row bes : Nat → Int} {wal : Nat → Bool} (hX : cX w k W H n sl m col row bes wal) {L : Nat} (hL : L ≤ 1200) {b : Nat → Int} (h18 : w[18]? = some (oRow 19 (L : Int))) (h19 : w[19]? = some (cI 1200 b)) (hb : ∀ i, i < L → 0 ≤ b i ∧ b i ≤ 255) {F D : Int} {dm mk : Nat → Int} (h16 : w[16]? = some (oDraft F D)) (h17 : w[17]? = some (cI n dm)) (h20 : w[20]? = some (cI n mk)) (hw : 20 < w.length) (hpr : -1 ≤ (pF n b L L 0 0 0 dm).1 ∧ (pF n b L L 0 0 0 dm).1 ≤ 1200) : m_Ct G MX7_read (m_r (d + 3) 0 0) [.ref 1] w (fun r x => ∃ (F2 D2 : Int) (m2 : Nat → Int), ((pF n b L L 0 0 0 dm).1 = -1 ∧ r = some (some (vI n)) ∧ x = ((wD w (oDraft F2 D2) (cI n m2)).set 18 (oRow 19 0)).set 20 (cI n (fill n (pF n b L L 0 0 0 dm).2 mk)) ∨ (pF n b L L 0 0 0 dm).1 ≠ -1 ∧ r = some (some (vI (-1 - (pF n b L L 0 0 0 dm).1))) ∧ x = ((wD w (oDraft F2 D2) (cI n m2)).set 18 (oRow 19 0)))) := by
  have hXX := hX
  obtain ⟨h1, h2, h3, h4, h5, h6, h7, h8, hF, hN, hsl, hcr, hbs⟩ := hX
  have hFF := hF
  have hNN := hN
  have hnb := hF.n
  obtain ⟨hk0, hk4, hW1, hW2, hH1, hH2, hn, hg4⟩ := hF
  obtain ⟨hn1, hn2, hl1, hl2, hm, hm2⟩ := hN
  refine m_enter (L := [some (.ref 1), none]) (by decide) hG (m_c1 rfl) (Nat.le_of_ble_eq_true rfl) rfl ?_
  refine m_aload_n 1 dX7_read_0 rfl rfl ?_
  refine m_getf 4 foX7_53 dX7_read_1 rfl (by first | rfl | assumption) (by rfl) ?_
  refine m_aload_n 5 dX7_read_4 rfl rfl ?_
  refine m_getf 8 foX7_62 dX7_read_5 rfl (by first | rfl | assumption) (by rfl) ?_
  refine m_cVr (M' := MX0_firstFault) 11 [_] kX7_159 imX0_firstFault seX0_firstFault clX0_firstFault dX7_read_8 rfl rfl rfl (by first | rfl | assumption) (m_rmI (by omega) (Nat.le_of_ble_eq_true rfl) (Nat.le_refl _) (Nat.le_refl _)) (c_X0_firstFault hG d (by omega) (by omega) hL h18 h19 hb h16 h17) (fun w2 h => by obtain ⟨F2, D2, m2, h, -⟩ := h; cases h) (fun v w2 h => ?_)
  obtain ⟨F2, D2, m2, hv, rfl, hm⟩ := h
  cases hv
  have b1 : (wD w (oDraft F2 D2) (cI n m2))[1]? = some oGrid := by rw [wD_n (by decide) (by decide)]; exact h1
  have b18 : (wD w (oDraft F2 D2) (cI n m2))[17 + 1]? = some (oRow 19 (L : Int)) := by rw [wD_n (by decide) (by decide)]; exact h18
  have c1 : ((wD w (oDraft F2 D2) (cI n m2)).set 18 (oRow 19 0))[1]? = some oGrid := by rw [List.getElem?_set_ne (by decide)]; exact b1
  have c2 : ((wD w (oDraft F2 D2) (cI n m2)).set 18 (oRow 19 0))[2]? = some (oFrame k W H n) := by rw [List.getElem?_set_ne (by decide), wD_n (by decide) (by decide)]; exact h2
  have c16 : ((wD w (oDraft F2 D2) (cI n m2)).set 18 (oRow 19 0))[16]? = some (oDraft F2 D2) := by rw [List.getElem?_set_ne (by decide)]; exact wD_b (by omega)
  have c17 : ((wD w (oDraft F2 D2) (cI n m2)).set 18 (oRow 19 0))[17]? = some (cI n m2) := by rw [List.getElem?_set_ne (by decide)]; exact wD_c (by omega)
  have c20 : ((wD w (oDraft F2 D2) (cI n m2)).set 18 (oRow 19 0))[20]? = some (cI n mk) := by rw [List.getElem?_set_ne (by decide), wD_n (by decide) (by decide)]; exact h20
  have cw : 20 < ((wD w (oDraft F2 D2) (cI n m2)).set 18 (oRow 19 0)).length := by unfold wD; simp; exact hw
  have e2 : (((wD w (oDraft F2 D2) (cI n m2)).set 18 (oRow 19 0)).set 20 (cI n (fill n m2 mk)))[1]? = some oGrid := by rw [List.getElem?_set_ne (by decide)]; exact c1
  have e3 : (((wD w (oDraft F2 D2) (cI n m2)).set 18 (oRow 19 0)).set 20 (cI n (fill n m2 mk)))[2]? = some (oFrame k W H n) := by rw [List.getElem?_set_ne (by decide)]; exact c2
  refine m_istore_n 12 dX7_read_11 rfl (by decide) ?_
  refine m_aload_n 13 dX7_read_12 rfl rfl ?_
  refine m_getf 16 foX7_62 dX7_read_13 rfl (by first | rfl | assumption) (by rfl) ?_
  refine m_cV (M' := MX3_clear) 19 [] kX7_163 imX3_clear seX3_clear clX3_clear dX7_read_16 rfl rfl rfl (by first | rfl | assumption) (m_rmI (by omega) (Nat.le_of_ble_eq_true rfl) (Nat.le_refl _) (Nat.le_refl _)) (c_X3_clear hG (d + 2) b18) ?_
  refine m_iload_n 20 dX7_read_19 rfl rfl ?_
  refine i_const 21 dX7_read_20 rfl ?_
  refine i_icmp_eq 24 28 ⟨by omega, by omega⟩ ⟨by omega, by omega⟩ dX7_read_21 rfl (by decide) (fun q21 => ?_) (fun q21 => ?_)
  · have hm := hm q21
    subst hm
    refine m_aload_n 29 dX7_read_28 rfl rfl ?_
    refine m_getf 32 foX7_53 dX7_read_29 rfl (by first | rfl | assumption) (by rfl) ?_
    refine m_aload_n 33 dX7_read_32 rfl rfl ?_
    refine m_getf 36 foX7_70 dX7_read_33 rfl (by first | rfl | assumption) (by rfl) ?_
    refine m_cV (M' := MX0_copyTo) 39 [_] kX7_166 imX0_copyTo seX0_copyTo clX0_copyTo dX7_read_36 rfl rfl rfl (by first | rfl | assumption) (m_rmI (by omega) (Nat.le_of_ble_eq_true rfl) (Nat.le_refl _) (Nat.le_refl _)) (c_X0_copyTo hG (d + 2) (by omega) c16 c17 c20 cw) ?_
    refine m_aload_n 40 dX7_read_39 rfl rfl ?_
    refine m_getf 43 foX7_12 dX7_read_40 rfl (by first | rfl | assumption) (by rfl) ?_
    refine m_getf 46 foX7_66 dX7_read_43 rfl (by first | rfl | assumption) (by rfl) ?_
    refine i_ret _ dX7_read_46 rfl ⟨Nat.le_refl _, Nat.le_refl _⟩ ?_ ⟨F2, D2, _, Or.inl ⟨q21, rfl, rfl⟩⟩
    rfl
  · refine i_const 25 dX7_read_24 rfl ?_
    refine m_iload_n 26 dX7_read_25 rfl rfl ?_
    refine i_sub 27 dX7_read_26 rfl ?_
    refine i_ret _ dX7_read_27 rfl ⟨Nat.le_refl _, Nat.le_refl _⟩ ?_ ⟨F2, D2, m2, Or.inr ⟨q21, rfl, rfl⟩⟩
    rfl
end RD
