/-! the model: text, unit -/
section MS
variable {G : mG} {w : List mC}
theorem atL_snoc (l : List Int) (z i : Int) : atL (l ++ [z]) i = if (l.length : Int) = i then z else atL l i := by
  unfold atL
  simp only [List.length_append, List.length_cons, List.length_nil, Nat.zero_add]
  by_cases h : (l.length : Int) = i
  · rw [if_pos h, if_pos (by omega)]
    rw [show i.toNat = l.length by omega, List.getD_eq_getElem?_getD, List.getElem?_append_right (Nat.le_refl _), Nat.sub_self]
    rfl
  · rw [if_neg h]
    by_cases h2 : 0 ≤ i ∧ i < (l.length : Int)
    · rw [if_pos (by omega), if_pos h2, List.getD_eq_getElem?_getD, List.getD_eq_getElem?_getD, List.getElem?_append_left (by omega)]
    · rw [if_neg (by omega), if_neg h2]
theorem atL_nil (i : Int) : atL [] i = -1 := by
  unfold atL
  rw [if_neg (by simp)]
theorem emp_b {e : Nat} (h : 26 ≤ e) : emp e = [122] ++ emp (e - 26) := by
  unfold emp
  rw [show e / 26 = (e - 26) / 26 + 1 by omega, show e % 26 = (e - 26) % 26 by omega, List.replicate_succ]
  rfl
theorem emp_s {e : Nat} (h0 : 0 < e) (h : e < 26) : emp e = [96 + (e : Int)] := by
  unfold emp
  rw [show e / 26 = 0 by omega, show e % 26 = e by omega, if_neg (by omega)]
  rfl
theorem txF_z (mk : Nat → Int) (j p e : Nat) (h : mk p = 0) : txF mk (j + 1) p e = txF mk j (p + 1) (e + 1) := by
  show (if mk p = 0 then _ else _) = _
  rw [if_pos h]
theorem txF_n (mk : Nat → Int) (j p e : Nat) (h : mk p ≠ 0) : txF mk (j + 1) p e = (if 0 < p ∧ e = 0 then [32] else []) ++ emp e ++ num (mk p) ++ txF mk j (p + 1) 0 := by
  show (if mk p = 0 then _ else _) = _
  rw [if_neg h]

theorem txE (l e x t : List Int) : l ++ e ++ x ++ t = l ++ ([] ++ e ++ x ++ t) := by simp
theorem txE2 (l e x y t : List Int) : l ++ e ++ x ++ y ++ t = l ++ ([] ++ e ++ (x ++ y) ++ t) := by simp
theorem txB (l x t : List Int) : l ++ [] ++ [32] ++ x ++ t = l ++ ([32] ++ [] ++ x ++ t) := by simp
theorem txB2 (l x y t : List Int) : l ++ [] ++ [32] ++ x ++ y ++ t = l ++ ([32] ++ [] ++ (x ++ y) ++ t) := by simp
theorem num_2 {m : Int} (h : 10 ≤ m) : num m = [48 + m / 10] ++ [48 + m % 10] := by unfold num; rw [if_pos h]
theorem num_1 {m : Int} (h : ¬ 10 ≤ m) : num m = [48 + m % 10] := by unfold num; rw [if_neg h]; rfl

set_option maxHeartbeats 4000000 in
set_option maxRecDepth 100000 in
theorem c_X8_say (hG : m_G G) (d : Nat) {k W H : Int} {n : Nat} (hF : fOK k W H n) {sz : Int} {nb wl ou : Nat → Bool} {ar mk rc ip fd : Nat → Int} (hw : 30 < w.length) {i z : Int} {l : List Int} (hi : iR i) (hl : l.length < 100000) : m_Cv G MX8_say (m_r d 0 0) [.ref 22, vI z] (mw w 0 k W H sz (((l).length : Int)) i (atL (l) i) nb wl ar mk rc ou ip fd) none (mw w 0 k W H sz (((l ++ [z]).length : Int)) i (atL (l ++ [z]) i) nb wl ar mk rc ou ip fd) := by
  obtain ⟨hi1, hi2⟩ := hi
  have e1 : (((l ++ [z]).length : Nat) : Int) = (l.length : Int) + 1 := by simp
  have e2 := atL_snoc l z i
  refine m_enter (L := [some (.ref 22), some (vI z)]) (by decide) hG (m_c1 rfl) (Nat.le_of_ble_eq_true rfl) rfl ?_
  refine m_aload_n 1 dX8_say_0 rfl rfl ?_
  refine m_getf 4 foX8_104 dX8_say_1 rfl (mw_22 hw) (by rfl) ?_
  refine m_aload_n 5 dX8_say_4 rfl rfl ?_
  refine m_getf 8 foX8_107 dX8_say_5 rfl (mw_22 hw) (by rfl) ?_
  refine i_icmp_ne 11 16 ⟨by omega, by omega⟩ ⟨by omega, by omega⟩ dX8_say_8 rfl (by decide) (fun q8 => ?_) (fun q8 => ?_)
  · refine m_aload_n 17 dX8_say_16 rfl rfl ?_
    refine m_dup 18 dX8_say_17 rfl rfl ?_
    refine m_getf 21 foX8_104 dX8_say_18 rfl (mw_22 hw) (by rfl) ?_
    refine i_const 22 dX8_say_21 rfl ?_
    refine i_add 23 dX8_say_22 rfl ?_
    refine p8_13 (M := MX8_say) 26 rfl dX8_say_23 rfl hw ?_
    refine m_vret dX8_say_26 rfl ⟨Nat.le_refl _, Nat.le_refl _⟩ ?_
    first
      | (rw [e1, e2, if_pos q8]; exact ⟨rfl, rfl⟩)
      | (rw [e1, e2, if_neg q8]; exact ⟨rfl, rfl⟩)
  · refine m_aload_n 12 dX8_say_11 rfl rfl ?_
    refine m_iload_n 13 dX8_say_12 rfl rfl ?_
    refine p8_15 (M := MX8_say) 16 rfl dX8_say_13 rfl hw ?_
    refine m_aload_n 17 dX8_say_16 rfl rfl ?_
    refine m_dup 18 dX8_say_17 rfl rfl ?_
    refine m_getf 21 foX8_104 dX8_say_18 rfl (mw_22 hw) (by rfl) ?_
    refine i_const 22 dX8_say_21 rfl ?_
    refine i_add 23 dX8_say_22 rfl ?_
    refine p8_13 (M := MX8_say) 26 rfl dX8_say_23 rfl hw ?_
    refine m_vret dX8_say_26 rfl ⟨Nat.le_refl _, Nat.le_refl _⟩ ?_
    first
      | (rw [e1, e2, if_pos q8]; exact ⟨rfl, rfl⟩)
      | (rw [e1, e2, if_neg q8]; exact ⟨rfl, rfl⟩)
set_option maxHeartbeats 4000000 in
set_option maxRecDepth 100000 in
theorem l_X8_textE (hG : m_G G) (d : Nat) {k W H : Int} {n : Nat} (hF : fOK k W H n) {sz : Int} {nb wl ou : Nat → Bool} {ar mk rc ip fd : Nat → Int} (hw : 30 < w.length) {i p c : Int} {T : List Int} {Q : Option (Option Value) → List mC → Prop} (hi : iR i) (hT : T.length < 50000)
    (kk : ∀ x4, m_J G MX8_text (m_r (d + 2) 0 0) Q 0 0 111 [some (.ref 22), some (vI i), some (vI p), some (vI c), x4] [] (mw w 0 k W H sz (((T).length : Int)) i (atL (T) i) nb wl ar mk rc ou ip fd)) :
    ∀ (j e : Nat) (l : List Int), e ≤ j → e < 1000 → l ++ emp e = T → m_J G MX8_text (m_r (d + 2) 0 0) Q 0 0 62 [some (.ref 22), some (vI i), some (vI p), some (vI c), some (vI (e : Int))] [] (mw w 0 k W H sz (((l).length : Int)) i (atL (l) i) nb wl ar mk rc ou ip fd) := by
  have hFF := hF
  have hnb := hF.n
  obtain ⟨hk0, hk4, hW1, hW2, hH1, hH2, hn, hg4⟩ := hF
  intro j
  induction j with
  | zero =>
    intro e l hej he hl
    have h0 : e = 0 := by omega
    subst h0
    rw [emp_0, List.append_nil] at hl
    subst hl
    refine m_iload 64 dX8_text_62 rfl rfl ?_
    refine i_if_le 67 111 ⟨by omega, by omega⟩ dX8_text_64 rfl (by decide) (fun _ => ?_) (fun h => absurd h (by omega))
    exact kk _
  | succ j ih =>
    intro e l hej he hl
    have hll : l.length ≤ T.length := by rw [← hl]; simp
    by_cases h0 : e = 0
    · subst h0
      rw [emp_0, List.append_nil] at hl
      subst hl
      refine m_iload 64 dX8_text_62 rfl rfl ?_
      refine i_if_le 67 111 ⟨by omega, by omega⟩ dX8_text_64 rfl (by decide) (fun _ => ?_) (fun h => absurd h (by omega))
      exact kk _
    · by_cases hb : 26 ≤ e
      · rw [emp_b hb, ← List.append_assoc] at hl
        have e26 : ((e - 26 : Nat) : Int) = (e : Int) - 26 := by omega
        refine m_iload 64 dX8_text_62 rfl rfl ?_
        refine i_if_le 67 111 ⟨by omega, by omega⟩ dX8_text_64 rfl (by decide) (fun h => absurd h (by omega)) (fun _ => ?_)
        refine m_aload_n 68 dX8_text_67 rfl rfl ?_
        refine m_iload 70 dX8_text_68 rfl rfl ?_
        refine i_bipush 72 26 dX8_text_70 rfl (by decide) ?_
        refine i_icmp_lt 75 80 ⟨by omega, by omega⟩ ⟨by omega, by omega⟩ dX8_text_72 rfl (by decide) (fun h => absurd h (by omega)) (fun _ => ?_)
        refine i_bipush 77 122 dX8_text_75 rfl (by decide) ?_
        refine m_goto 87 dX8_text_77 (by decide) ?_
        refine m_cV (M' := MX8_say) 90 [_] kX8_113 imX8_say seX8_say clX8_say dX8_text_87 rfl rfl rfl (mw_22 hw) (m_rmI (by omega) (Nat.le_of_ble_eq_true rfl) (Nat.le_refl _) (Nat.le_refl _)) (c_X8_say hG (d + 1) hFF hw hi (by omega)) ?_
        refine m_iload 92 dX8_text_90 rfl rfl ?_
        refine i_bipush 94 26 dX8_text_92 rfl (by decide) ?_
        refine i_icmp_le 97 105 ⟨by omega, by omega⟩ ⟨by omega, by omega⟩ dX8_text_94 rfl (by decide) (fun q94 => ?_) (fun q94 => ?_)
        · refine i_const 106 dX8_text_105 rfl ?_
          refine m_istore 108 dX8_text_106 rfl (by decide) ?_
          refine m_goto 62 dX8_text_108 (by decide) ?_
          have ee := ih (e - 26) (l ++ [122]) (by omega) (by omega) hl
          first
            | (have h27 : ¬ (e : Int) ≤ 26 := by omega
               rw [e26] at ee; exact ee)
            | (rw [show ((e - 26 : Nat) : Int) = 0 by omega] at ee; exact ee)
        · refine m_iload 99 dX8_text_97 rfl rfl ?_
          refine i_bipush 101 26 dX8_text_99 rfl (by decide) ?_
          refine i_sub 102 dX8_text_101 rfl ?_
          refine m_goto 106 dX8_text_102 (by decide) ?_
          refine m_istore 108 dX8_text_106 rfl (by decide) ?_
          refine m_goto 62 dX8_text_108 (by decide) ?_
          have ee := ih (e - 26) (l ++ [122]) (by omega) (by omega) hl
          first
            | (have h27 : ¬ (e : Int) ≤ 26 := by omega
               rw [e26] at ee; exact ee)
            | (rw [show ((e - 26 : Nat) : Int) = 0 by omega] at ee; exact ee)
      · rw [emp_s (by omega) (by omega)] at hl
        refine m_iload 64 dX8_text_62 rfl rfl ?_
        refine i_if_le 67 111 ⟨by omega, by omega⟩ dX8_text_64 rfl (by decide) (fun h => absurd h (by omega)) (fun _ => ?_)
        refine m_aload_n 68 dX8_text_67 rfl rfl ?_
        refine m_iload 70 dX8_text_68 rfl rfl ?_
        refine i_bipush 72 26 dX8_text_70 rfl (by decide) ?_
        refine i_icmp_lt 75 80 ⟨by omega, by omega⟩ ⟨by omega, by omega⟩ dX8_text_72 rfl (by decide) (fun _ => ?_) (fun h => absurd h (by omega))
        refine i_bipush 82 97 dX8_text_80 rfl (by decide) ?_
        refine m_iload 84 dX8_text_82 rfl rfl ?_
        refine i_add 85 dX8_text_84 rfl ?_
        refine i_const 86 dX8_text_85 rfl ?_
        refine i_sub 87 dX8_text_86 rfl ?_
        rw [show (97 : Int) + (e : Int) - 1 = 96 + (e : Int) by omega]
        refine m_cV (M' := MX8_say) 90 [_] kX8_113 imX8_say seX8_say clX8_say dX8_text_87 rfl rfl rfl (mw_22 hw) (m_rmI (by omega) (Nat.le_of_ble_eq_true rfl) (Nat.le_refl _) (Nat.le_refl _)) (c_X8_say hG (d + 1) hFF hw hi (by omega)) ?_
        refine m_iload 92 dX8_text_90 rfl rfl ?_
        refine i_bipush 94 26 dX8_text_92 rfl (by decide) ?_
        refine i_icmp_le 97 105 ⟨by omega, by omega⟩ ⟨by omega, by omega⟩ dX8_text_94 rfl (by decide) (fun _ => ?_) (fun h => absurd h (by omega))
        refine i_const 106 dX8_text_105 rfl ?_
        refine m_istore 108 dX8_text_106 rfl (by decide) ?_
        refine m_goto 62 dX8_text_108 (by decide) ?_
        exact ih 0 (l ++ [96 + (e : Int)]) (by omega) (by omega) (by rw [emp_0, List.append_nil]; exact hl)
set_option maxHeartbeats 4000000 in
set_option maxRecDepth 100000 in
theorem l_X8_textC (hG : m_G G) (d : Nat) {k W H : Int} {n : Nat} (hF : fOK k W H n) {sz : Int} {nb wl ou : Nat → Bool} {ar mk rc ip fd : Nat → Int} (hw : 30 < w.length) {i : Int} {p : Nat} {l : List Int} {Q : Option (Option Value) → List mC → Prop} (hM : ∀ j, j < n → 0 ≤ mk j ∧ mk j ≤ 99) {x4 : Option Value} :
    ∀ (j c : Nat), p + c + j = n → (∀ (c2 : Nat), p + c2 ≤ n → (p + c2 < n → mk (p + c2) ≠ 0) → txF mk (n - p - c2) (p + c2) c2 = txF mk j (p + c) c → m_J G MX8_text (m_r (d + 2) 0 0) Q 0 0 59 [some (.ref 22), some (vI i), some (vI (p : Int)), some (vI (c2 : Int)), x4] [] (mw w 0 k W H sz (((l).length : Int)) i (atL (l) i) nb wl ar mk rc ou ip fd)) → m_J G MX8_text (m_r (d + 2) 0 0) Q 0 0 32 [some (.ref 22), some (vI i), some (vI (p : Int)), some (vI (c : Int)), x4] [] (mw w 0 k W H sz (((l).length : Int)) i (atL (l) i) nb wl ar mk rc ou ip fd) := by
  have hFF := hF
  have hnb := hF.n
  obtain ⟨hk0, hk4, hW1, hW2, hH1, hH2, hn, hg4⟩ := hF
  intro j
  induction j with
  | zero =>
    intro c hc kk
    have k0 := kk c (by omega) (fun h => by omega) (by rw [show n - p - c = 0 by omega])
    refine m_iload_n 33 dX8_text_32 rfl rfl ?_
    refine m_iload_n 34 dX8_text_33 rfl rfl ?_
    refine i_add 35 dX8_text_34 rfl ?_
    refine m_aload_n 36 dX8_text_35 rfl rfl ?_
    refine m_cV (M' := MX8_all) 39 [] kX8_50 imX8_all seX8_all clX8_all dX8_text_36 rfl rfl rfl (mw_22 hw) (m_rmI (by omega) (Nat.le_of_ble_eq_true rfl) (Nat.le_refl _) (Nat.le_refl _)) (c_X8_all hG (d + 1) hFF hw) ?_
    refine i_icmp_ge 42 59 ⟨by omega, by omega⟩ ⟨by omega, by omega⟩ dX8_text_39 rfl (by decide) (fun _ => ?_) (fun h => absurd h (by omega))
    exact k0
  | succ j ih =>
    intro c hc kk
    have hm := hM (p + c) (by omega)
    have et : ((p : Int) + (c : Int)).toNat = p + c := by omega
    refine m_iload_n 33 dX8_text_32 rfl rfl ?_
    refine m_iload_n 34 dX8_text_33 rfl rfl ?_
    refine i_add 35 dX8_text_34 rfl ?_
    refine m_aload_n 36 dX8_text_35 rfl rfl ?_
    refine m_cV (M' := MX8_all) 39 [] kX8_50 imX8_all seX8_all clX8_all dX8_text_36 rfl rfl rfl (mw_22 hw) (m_rmI (by omega) (Nat.le_of_ble_eq_true rfl) (Nat.le_refl _) (Nat.le_refl _)) (c_X8_all hG (d + 1) hFF hw) ?_
    refine i_icmp_ge 42 59 ⟨by omega, by omega⟩ ⟨by omega, by omega⟩ dX8_text_39 rfl (by decide) (fun h => absurd h (by omega)) (fun _ => ?_)
    refine m_aload_n 43 dX8_text_42 rfl rfl ?_
    refine m_getf 46 foX8_21 dX8_text_43 rfl (mw_22 hw) (by rfl) ?_
    refine m_iload_n 47 dX8_text_46 rfl rfl ?_
    refine m_iload_n 48 dX8_text_47 rfl rfl ?_
    refine i_add 49 dX8_text_48 rfl ?_
    refine i_ald 50 dX8_text_49 rfl (mw_26 hw) ⟨by omega, by omega, by omega⟩ ?_
    rw [et]
    refine i_if_ne 53 59 ⟨by omega, by omega⟩ dX8_text_50 rfl (by decide) (fun q50 => ?_) (fun q50 => ?_)
    · exact kk c (by omega) (fun _ => q50) (by rw [show n - p - c = j + 1 by omega])
    · refine i_inc 56 dX8_text_53 rfl rfl (by decide) ?_
      refine m_goto 32 dX8_text_56 (by decide) ?_
      refine ih (c + 1) (by omega) (fun c2 g1 g2 g3 => kk c2 g1 g2 ?_)
      rw [g3, txF_z _ _ _ _ (by omega)]
      rfl
set_option maxHeartbeats 4000000 in
set_option maxRecDepth 100000 in
theorem l_X8_text (hG : m_G G) (d : Nat) {k W H : Int} {n : Nat} (hF : fOK k W H n) {sz : Int} {nb wl ou : Nat → Bool} {ar mk rc ip fd : Nat → Int} (hw : 30 < w.length) {i : Int} {T : List Int} (hi : iR i) (hT : T.length < 40000) (hM : ∀ j, j < n → 0 ≤ mk j ∧ mk j ≤ 99) :
    ∀ (j p : Nat) (l : List Int) (x3 x4 : Option Value), n - p ≤ j → p ≤ n → l ++ txF mk (n - p) p 0 = T → m_J G MX8_text (m_r (d + 2) 0 0) (fun x y => x = some (some (vI (atL T i))) ∧ y = (mw w 0 k W H sz (((T).length : Int)) i (atL (T) i) nb wl ar mk rc ou ip fd)) 0 0 22 [some (.ref 22), some (vI i), some (vI (p : Int)), x3, x4] [] (mw w 0 k W H sz (((l).length : Int)) i (atL (l) i) nb wl ar mk rc ou ip fd) := by
  have hFF := hF
  have hnb := hF.n
  obtain ⟨hk0, hk4, hW1, hW2, hH1, hH2, hn, hg4⟩ := hF
  intro j
  induction j with
  | zero =>
    intro p l x3 x4 hj hp hl
    have hpn : p = n := by omega
    rw [show n - p = 0 by omega, show txF mk 0 p 0 = [] from rfl, List.append_nil] at hl
    subst hl
    refine m_iload_n 23 dX8_text_22 rfl rfl ?_
    refine m_aload_n 24 dX8_text_23 rfl rfl ?_
    refine m_cV (M' := MX8_all) 27 [] kX8_50 imX8_all seX8_all clX8_all dX8_text_24 rfl rfl rfl (mw_22 hw) (m_rmI (by omega) (Nat.le_of_ble_eq_true rfl) (Nat.le_refl _) (Nat.le_refl _)) (c_X8_all hG (d + 1) hFF hw) ?_
    refine i_icmp_ge 30 189 ⟨by omega, by omega⟩ ⟨by omega, by omega⟩ dX8_text_27 rfl (by decide) (fun _ => ?_) (fun h => absurd h (by omega))
    refine m_aload_n 190 dX8_text_189 rfl rfl ?_
    refine m_getf 193 foX8_110 dX8_text_190 rfl (mw_22 hw) (by rfl) ?_
    refine i_ret _ dX8_text_193 rfl ⟨Nat.le_refl _, Nat.le_refl _⟩ ?_ ⟨rfl, rfl⟩
    rfl
  | succ j ih =>
    intro p l x3 x4 hj hp hl
    by_cases hpn : p = n
    · rw [show n - p = 0 by omega, show txF mk 0 p 0 = [] from rfl, List.append_nil] at hl
      subst hl
      refine m_iload_n 23 dX8_text_22 rfl rfl ?_
      refine m_aload_n 24 dX8_text_23 rfl rfl ?_
      refine m_cV (M' := MX8_all) 27 [] kX8_50 imX8_all seX8_all clX8_all dX8_text_24 rfl rfl rfl (mw_22 hw) (m_rmI (by omega) (Nat.le_of_ble_eq_true rfl) (Nat.le_refl _) (Nat.le_refl _)) (c_X8_all hG (d + 1) hFF hw) ?_
      refine i_icmp_ge 30 189 ⟨by omega, by omega⟩ ⟨by omega, by omega⟩ dX8_text_27 rfl (by decide) (fun _ => ?_) (fun h => absurd h (by omega))
      refine m_aload_n 190 dX8_text_189 rfl rfl ?_
      refine m_getf 193 foX8_110 dX8_text_190 rfl (mw_22 hw) (by rfl) ?_
      refine i_ret _ dX8_text_193 rfl ⟨Nat.le_refl _, Nat.le_refl _⟩ ?_ ⟨rfl, rfl⟩
      rfl
    · have hlT : l.length + (txF mk (n - p) p 0).length = T.length := by rw [← hl]; simp
      refine m_iload_n 23 dX8_text_22 rfl rfl ?_
      refine m_aload_n 24 dX8_text_23 rfl rfl ?_
      refine m_cV (M' := MX8_all) 27 [] kX8_50 imX8_all seX8_all clX8_all dX8_text_24 rfl rfl rfl (mw_22 hw) (m_rmI (by omega) (Nat.le_of_ble_eq_true rfl) (Nat.le_refl _) (Nat.le_refl _)) (c_X8_all hG (d + 1) hFF hw) ?_
      refine i_icmp_ge 30 189 ⟨by omega, by omega⟩ ⟨by omega, by omega⟩ dX8_text_27 rfl (by decide) (fun h => absurd h (by omega)) (fun _ => ?_)
      refine i_const 31 dX8_text_30 rfl ?_
      refine m_istore_n 32 dX8_text_31 rfl (by decide) ?_
      refine l_X8_textC hG d hFF hw (p := p) hM (n - p) 0 (by omega) (fun c2 g1 g2 g3 => ?_)
      rw [Nat.add_zero] at g3
      rw [← g3] at hl hlT
      refine m_iload_n 60 dX8_text_59 rfl rfl ?_
      refine m_istore 62 dX8_text_60 rfl (by decide) ?_
      by_cases he : p + c2 = n
      · rw [show n - p - c2 = 0 by omega, show txF mk 0 (p + c2) c2 = emp c2 from rfl] at hl hlT
        refine l_X8_textE hG d hFF hw hi (T := T) (by omega) (fun y4 => ?_) c2 c2 l (Nat.le_refl _) (by omega) hl
        refine m_iload_n 112 dX8_text_111 rfl rfl ?_
        refine m_iload_n 113 dX8_text_112 rfl rfl ?_
        refine i_add 114 dX8_text_113 rfl ?_
        refine m_istore_n 115 dX8_text_114 rfl (by decide) ?_
        refine m_iload_n 116 dX8_text_115 rfl rfl ?_
        refine m_aload_n 117 dX8_text_116 rfl rfl ?_
        refine m_cV (M' := MX8_all) 120 [] kX8_50 imX8_all seX8_all clX8_all dX8_text_117 rfl rfl rfl (mw_22 hw) (m_rmI (by omega) (Nat.le_of_ble_eq_true rfl) (Nat.le_refl _) (Nat.le_refl _)) (c_X8_all hG (d + 1) hFF hw) ?_
        refine i_icmp_ne 123 126 ⟨by omega, by omega⟩ ⟨by omega, by omega⟩ dX8_text_120 rfl (by decide) (fun h => absurd h (by omega)) (fun _ => ?_)
        refine m_goto 189 dX8_text_123 (by decide) ?_
        refine m_aload_n 190 dX8_text_189 rfl rfl ?_
        refine m_getf 193 foX8_110 dX8_text_190 rfl (mw_22 hw) (by rfl) ?_
        refine i_ret _ dX8_text_193 rfl ⟨Nat.le_refl _, Nat.le_refl _⟩ ?_ ⟨rfl, rfl⟩
        rfl
      · obtain ⟨j2, hj2⟩ : ∃ j2, n - p - c2 = j2 + 1 := ⟨n - p - c2 - 1, by omega⟩
        have hm0 := g2 (by omega)
        have hm := hM (p + c2) (by omega)
        rw [hj2, txF_n _ _ _ _ hm0] at hl hlT
        simp only [List.length_append] at hlT
        have et : ((p : Int) + (c2 : Int)).toNat = p + c2 := by omega
        have ej2 : j2 = n - (p + c2 + 1) := by omega
        have hlb : l.length + (emp c2).length < 45000 := by omega
        refine l_X8_textE hG d hFF hw hi (T := l ++ emp c2) (by simp only [List.length_append]; omega) (fun y4 => ?_) c2 c2 l (Nat.le_refl _) (by omega) rfl
        refine m_iload_n 112 dX8_text_111 rfl rfl ?_
        refine m_iload_n 113 dX8_text_112 rfl rfl ?_
        refine i_add 114 dX8_text_113 rfl ?_
        refine m_istore_n 115 dX8_text_114 rfl (by decide) ?_
        refine m_iload_n 116 dX8_text_115 rfl rfl ?_
        refine m_aload_n 117 dX8_text_116 rfl rfl ?_
        refine m_cV (M' := MX8_all) 120 [] kX8_50 imX8_all seX8_all clX8_all dX8_text_117 rfl rfl rfl (mw_22 hw) (m_rmI (by omega) (Nat.le_of_ble_eq_true rfl) (Nat.le_refl _) (Nat.le_refl _)) (c_X8_all hG (d + 1) hFF hw) ?_
        refine i_icmp_ne 123 126 ⟨by omega, by omega⟩ ⟨by omega, by omega⟩ dX8_text_120 rfl (by decide) (fun _ => ?_) (fun h => absurd h (by omega))
        refine m_iload_n 127 dX8_text_126 rfl rfl ?_
        refine i_if_le 130 140 ⟨by omega, by omega⟩ dX8_text_127 rfl (by decide) (fun q127 => ?_) (fun q127 => ?_)
        · refine m_aload_n 141 dX8_text_140 rfl rfl ?_
          refine m_getf 144 foX8_21 dX8_text_141 rfl (mw_22 hw) (by rfl) ?_
          refine m_iload_n 145 dX8_text_144 rfl rfl ?_
          refine i_ald 146 dX8_text_145 rfl (mw_26 hw) ⟨by omega, by omega, by omega⟩ ?_
          rw [et]
          refine i_bipush 148 9 dX8_text_146 rfl (by decide) ?_
          refine i_icmp_le 151 167 ⟨by omega, by omega⟩ ⟨by omega, by omega⟩ dX8_text_148 rfl (by decide) (fun q148 => ?_) (fun q148 => ?_)
          · refine m_aload_n 168 dX8_text_167 rfl rfl ?_
            refine i_bipush 170 48 dX8_text_168 rfl (by decide) ?_
            refine m_aload_n 171 dX8_text_170 rfl rfl ?_
            refine m_getf 174 foX8_21 dX8_text_171 rfl (mw_22 hw) (by rfl) ?_
            refine m_iload_n 175 dX8_text_174 rfl rfl ?_
            refine i_ald 176 dX8_text_175 rfl (mw_26 hw) ⟨by omega, by omega, by omega⟩ ?_
            rw [et]
            refine i_bipush 178 10 dX8_text_176 rfl (by decide) ?_
            refine i_rem 179 dX8_text_178 rfl ⟨by omega, by omega, by omega, by omega⟩ ?_
            refine i_add 180 dX8_text_179 rfl ?_
            refine m_cV (M' := MX8_say) 183 [_] kX8_113 imX8_say seX8_say clX8_say dX8_text_180 rfl rfl rfl (mw_22 hw) (m_rmI (by omega) (Nat.le_of_ble_eq_true rfl) (Nat.le_refl _) (Nat.le_refl _)) (c_X8_say hG (d + 1) hFF hw hi (by simp only [List.length_append, List.length_cons, List.length_nil]; omega)) ?_
            refine i_inc 186 dX8_text_183 rfl rfl (by decide) ?_
            refine m_goto 22 dX8_text_186 (by decide) ?_
            rw [show (p : Int) + (c2 : Int) + 1 = ((p + c2 + 1 : Nat) : Int) by omega]
            refine ih (p + c2 + 1) (l ++ emp c2 ++ [48 + mk (p + c2) % 10]) _ _ (by omega) (by omega) ?_
            rw [← ej2, ← hl, if_neg (show ¬ (0 < p + c2 ∧ c2 = 0) by omega), num_1 (by omega)]
            first | done | exact txE _ _ _ _ | exact txE2 _ _ _ _ _
          · refine m_aload_n 152 dX8_text_151 rfl rfl ?_
            refine i_bipush 154 48 dX8_text_152 rfl (by decide) ?_
            refine m_aload_n 155 dX8_text_154 rfl rfl ?_
            refine m_getf 158 foX8_21 dX8_text_155 rfl (mw_22 hw) (by rfl) ?_
            refine m_iload_n 159 dX8_text_158 rfl rfl ?_
            refine i_ald 160 dX8_text_159 rfl (mw_26 hw) ⟨by omega, by omega, by omega⟩ ?_
            rw [et]
            refine i_bipush 162 10 dX8_text_160 rfl (by decide) ?_
            refine i_div 163 dX8_text_162 rfl ⟨by omega, by omega, by omega, by omega⟩ ?_
            refine i_add 164 dX8_text_163 rfl ?_
            refine m_cV (M' := MX8_say) 167 [_] kX8_113 imX8_say seX8_say clX8_say dX8_text_164 rfl rfl rfl (mw_22 hw) (m_rmI (by omega) (Nat.le_of_ble_eq_true rfl) (Nat.le_refl _) (Nat.le_refl _)) (c_X8_say hG (d + 1) hFF hw hi (by simp only [List.length_append, List.length_cons, List.length_nil]; omega)) ?_
            refine m_aload_n 168 dX8_text_167 rfl rfl ?_
            refine i_bipush 170 48 dX8_text_168 rfl (by decide) ?_
            refine m_aload_n 171 dX8_text_170 rfl rfl ?_
            refine m_getf 174 foX8_21 dX8_text_171 rfl (mw_22 hw) (by rfl) ?_
            refine m_iload_n 175 dX8_text_174 rfl rfl ?_
            refine i_ald 176 dX8_text_175 rfl (mw_26 hw) ⟨by omega, by omega, by omega⟩ ?_
            rw [et]
            refine i_bipush 178 10 dX8_text_176 rfl (by decide) ?_
            refine i_rem 179 dX8_text_178 rfl ⟨by omega, by omega, by omega, by omega⟩ ?_
            refine i_add 180 dX8_text_179 rfl ?_
            refine m_cV (M' := MX8_say) 183 [_] kX8_113 imX8_say seX8_say clX8_say dX8_text_180 rfl rfl rfl (mw_22 hw) (m_rmI (by omega) (Nat.le_of_ble_eq_true rfl) (Nat.le_refl _) (Nat.le_refl _)) (c_X8_say hG (d + 1) hFF hw hi (by simp only [List.length_append, List.length_cons, List.length_nil]; omega)) ?_
            refine i_inc 186 dX8_text_183 rfl rfl (by decide) ?_
            refine m_goto 22 dX8_text_186 (by decide) ?_
            rw [show (p : Int) + (c2 : Int) + 1 = ((p + c2 + 1 : Nat) : Int) by omega]
            refine ih (p + c2 + 1) (l ++ emp c2 ++ [48 + mk (p + c2) / 10] ++ [48 + mk (p + c2) % 10]) _ _ (by omega) (by omega) ?_
            rw [← ej2, ← hl, if_neg (show ¬ (0 < p + c2 ∧ c2 = 0) by omega), num_2 (by omega)]
            first | done | exact txE _ _ _ _ | exact txE2 _ _ _ _ _
        · refine m_iload_n 131 dX8_text_130 rfl rfl ?_
          refine i_if_ne 134 140 ⟨by omega, by omega⟩ dX8_text_131 rfl (by decide) (fun q131 => ?_) (fun q131 => ?_)
          · refine m_aload_n 141 dX8_text_140 rfl rfl ?_
            refine m_getf 144 foX8_21 dX8_text_141 rfl (mw_22 hw) (by rfl) ?_
            refine m_iload_n 145 dX8_text_144 rfl rfl ?_
            refine i_ald 146 dX8_text_145 rfl (mw_26 hw) ⟨by omega, by omega, by omega⟩ ?_
            rw [et]
            refine i_bipush 148 9 dX8_text_146 rfl (by decide) ?_
            refine i_icmp_le 151 167 ⟨by omega, by omega⟩ ⟨by omega, by omega⟩ dX8_text_148 rfl (by decide) (fun q148 => ?_) (fun q148 => ?_)
            · refine m_aload_n 168 dX8_text_167 rfl rfl ?_
              refine i_bipush 170 48 dX8_text_168 rfl (by decide) ?_
              refine m_aload_n 171 dX8_text_170 rfl rfl ?_
              refine m_getf 174 foX8_21 dX8_text_171 rfl (mw_22 hw) (by rfl) ?_
              refine m_iload_n 175 dX8_text_174 rfl rfl ?_
              refine i_ald 176 dX8_text_175 rfl (mw_26 hw) ⟨by omega, by omega, by omega⟩ ?_
              rw [et]
              refine i_bipush 178 10 dX8_text_176 rfl (by decide) ?_
              refine i_rem 179 dX8_text_178 rfl ⟨by omega, by omega, by omega, by omega⟩ ?_
              refine i_add 180 dX8_text_179 rfl ?_
              refine m_cV (M' := MX8_say) 183 [_] kX8_113 imX8_say seX8_say clX8_say dX8_text_180 rfl rfl rfl (mw_22 hw) (m_rmI (by omega) (Nat.le_of_ble_eq_true rfl) (Nat.le_refl _) (Nat.le_refl _)) (c_X8_say hG (d + 1) hFF hw hi (by simp only [List.length_append, List.length_cons, List.length_nil]; omega)) ?_
              refine i_inc 186 dX8_text_183 rfl rfl (by decide) ?_
              refine m_goto 22 dX8_text_186 (by decide) ?_
              rw [show (p : Int) + (c2 : Int) + 1 = ((p + c2 + 1 : Nat) : Int) by omega]
              refine ih (p + c2 + 1) (l ++ emp c2 ++ [48 + mk (p + c2) % 10]) _ _ (by omega) (by omega) ?_
              rw [← ej2, ← hl, if_neg (show ¬ (0 < p + c2 ∧ c2 = 0) by omega), num_1 (by omega)]
              first | done | exact txE _ _ _ _ | exact txE2 _ _ _ _ _
            · refine m_aload_n 152 dX8_text_151 rfl rfl ?_
              refine i_bipush 154 48 dX8_text_152 rfl (by decide) ?_
              refine m_aload_n 155 dX8_text_154 rfl rfl ?_
              refine m_getf 158 foX8_21 dX8_text_155 rfl (mw_22 hw) (by rfl) ?_
              refine m_iload_n 159 dX8_text_158 rfl rfl ?_
              refine i_ald 160 dX8_text_159 rfl (mw_26 hw) ⟨by omega, by omega, by omega⟩ ?_
              rw [et]
              refine i_bipush 162 10 dX8_text_160 rfl (by decide) ?_
              refine i_div 163 dX8_text_162 rfl ⟨by omega, by omega, by omega, by omega⟩ ?_
              refine i_add 164 dX8_text_163 rfl ?_
              refine m_cV (M' := MX8_say) 167 [_] kX8_113 imX8_say seX8_say clX8_say dX8_text_164 rfl rfl rfl (mw_22 hw) (m_rmI (by omega) (Nat.le_of_ble_eq_true rfl) (Nat.le_refl _) (Nat.le_refl _)) (c_X8_say hG (d + 1) hFF hw hi (by simp only [List.length_append, List.length_cons, List.length_nil]; omega)) ?_
              refine m_aload_n 168 dX8_text_167 rfl rfl ?_
              refine i_bipush 170 48 dX8_text_168 rfl (by decide) ?_
              refine m_aload_n 171 dX8_text_170 rfl rfl ?_
              refine m_getf 174 foX8_21 dX8_text_171 rfl (mw_22 hw) (by rfl) ?_
              refine m_iload_n 175 dX8_text_174 rfl rfl ?_
              refine i_ald 176 dX8_text_175 rfl (mw_26 hw) ⟨by omega, by omega, by omega⟩ ?_
              rw [et]
              refine i_bipush 178 10 dX8_text_176 rfl (by decide) ?_
              refine i_rem 179 dX8_text_178 rfl ⟨by omega, by omega, by omega, by omega⟩ ?_
              refine i_add 180 dX8_text_179 rfl ?_
              refine m_cV (M' := MX8_say) 183 [_] kX8_113 imX8_say seX8_say clX8_say dX8_text_180 rfl rfl rfl (mw_22 hw) (m_rmI (by omega) (Nat.le_of_ble_eq_true rfl) (Nat.le_refl _) (Nat.le_refl _)) (c_X8_say hG (d + 1) hFF hw hi (by simp only [List.length_append, List.length_cons, List.length_nil]; omega)) ?_
              refine i_inc 186 dX8_text_183 rfl rfl (by decide) ?_
              refine m_goto 22 dX8_text_186 (by decide) ?_
              rw [show (p : Int) + (c2 : Int) + 1 = ((p + c2 + 1 : Nat) : Int) by omega]
              refine ih (p + c2 + 1) (l ++ emp c2 ++ [48 + mk (p + c2) / 10] ++ [48 + mk (p + c2) % 10]) _ _ (by omega) (by omega) ?_
              rw [← ej2, ← hl, if_neg (show ¬ (0 < p + c2 ∧ c2 = 0) by omega), num_2 (by omega)]
              first | done | exact txE _ _ _ _ | exact txE2 _ _ _ _ _
          · refine m_aload_n 135 dX8_text_134 rfl rfl ?_
            refine i_bipush 137 32 dX8_text_135 rfl (by decide) ?_
            refine m_cV (M' := MX8_say) 140 [_] kX8_113 imX8_say seX8_say clX8_say dX8_text_137 rfl rfl rfl (mw_22 hw) (m_rmI (by omega) (Nat.le_of_ble_eq_true rfl) (Nat.le_refl _) (Nat.le_refl _)) (c_X8_say hG (d + 1) hFF hw hi (by simp only [List.length_append, List.length_cons, List.length_nil]; omega)) ?_
            have hc0 : c2 = 0 := by omega
            refine m_aload_n 141 dX8_text_140 rfl rfl ?_
            refine m_getf 144 foX8_21 dX8_text_141 rfl (mw_22 hw) (by rfl) ?_
            refine m_iload_n 145 dX8_text_144 rfl rfl ?_
            refine i_ald 146 dX8_text_145 rfl (mw_26 hw) ⟨by omega, by omega, by omega⟩ ?_
            rw [et]
            refine i_bipush 148 9 dX8_text_146 rfl (by decide) ?_
            refine i_icmp_le 151 167 ⟨by omega, by omega⟩ ⟨by omega, by omega⟩ dX8_text_148 rfl (by decide) (fun q148 => ?_) (fun q148 => ?_)
            · refine m_aload_n 168 dX8_text_167 rfl rfl ?_
              refine i_bipush 170 48 dX8_text_168 rfl (by decide) ?_
              refine m_aload_n 171 dX8_text_170 rfl rfl ?_
              refine m_getf 174 foX8_21 dX8_text_171 rfl (mw_22 hw) (by rfl) ?_
              refine m_iload_n 175 dX8_text_174 rfl rfl ?_
              refine i_ald 176 dX8_text_175 rfl (mw_26 hw) ⟨by omega, by omega, by omega⟩ ?_
              rw [et]
              refine i_bipush 178 10 dX8_text_176 rfl (by decide) ?_
              refine i_rem 179 dX8_text_178 rfl ⟨by omega, by omega, by omega, by omega⟩ ?_
              refine i_add 180 dX8_text_179 rfl ?_
              refine m_cV (M' := MX8_say) 183 [_] kX8_113 imX8_say seX8_say clX8_say dX8_text_180 rfl rfl rfl (mw_22 hw) (m_rmI (by omega) (Nat.le_of_ble_eq_true rfl) (Nat.le_refl _) (Nat.le_refl _)) (c_X8_say hG (d + 1) hFF hw hi (by simp only [List.length_append, List.length_cons, List.length_nil]; omega)) ?_
              refine i_inc 186 dX8_text_183 rfl rfl (by decide) ?_
              refine m_goto 22 dX8_text_186 (by decide) ?_
              rw [show (p : Int) + (c2 : Int) + 1 = ((p + c2 + 1 : Nat) : Int) by omega]
              refine ih (p + c2 + 1) (l ++ emp c2 ++ [32] ++ [48 + mk (p + c2) % 10]) _ _ (by omega) (by omega) ?_
              rw [← ej2, ← hl, if_pos (show 0 < p + c2 ∧ c2 = 0 by omega), num_1 (by omega)]
              (rw [hc0, emp_0]; first | done | exact txB _ _ _ | exact txB2 _ _ _ _)
            · refine m_aload_n 152 dX8_text_151 rfl rfl ?_
              refine i_bipush 154 48 dX8_text_152 rfl (by decide) ?_
              refine m_aload_n 155 dX8_text_154 rfl rfl ?_
              refine m_getf 158 foX8_21 dX8_text_155 rfl (mw_22 hw) (by rfl) ?_
              refine m_iload_n 159 dX8_text_158 rfl rfl ?_
              refine i_ald 160 dX8_text_159 rfl (mw_26 hw) ⟨by omega, by omega, by omega⟩ ?_
              rw [et]
              refine i_bipush 162 10 dX8_text_160 rfl (by decide) ?_
              refine i_div 163 dX8_text_162 rfl ⟨by omega, by omega, by omega, by omega⟩ ?_
              refine i_add 164 dX8_text_163 rfl ?_
              refine m_cV (M' := MX8_say) 167 [_] kX8_113 imX8_say seX8_say clX8_say dX8_text_164 rfl rfl rfl (mw_22 hw) (m_rmI (by omega) (Nat.le_of_ble_eq_true rfl) (Nat.le_refl _) (Nat.le_refl _)) (c_X8_say hG (d + 1) hFF hw hi (by simp only [List.length_append, List.length_cons, List.length_nil]; omega)) ?_
              refine m_aload_n 168 dX8_text_167 rfl rfl ?_
              refine i_bipush 170 48 dX8_text_168 rfl (by decide) ?_
              refine m_aload_n 171 dX8_text_170 rfl rfl ?_
              refine m_getf 174 foX8_21 dX8_text_171 rfl (mw_22 hw) (by rfl) ?_
              refine m_iload_n 175 dX8_text_174 rfl rfl ?_
              refine i_ald 176 dX8_text_175 rfl (mw_26 hw) ⟨by omega, by omega, by omega⟩ ?_
              rw [et]
              refine i_bipush 178 10 dX8_text_176 rfl (by decide) ?_
              refine i_rem 179 dX8_text_178 rfl ⟨by omega, by omega, by omega, by omega⟩ ?_
              refine i_add 180 dX8_text_179 rfl ?_
              refine m_cV (M' := MX8_say) 183 [_] kX8_113 imX8_say seX8_say clX8_say dX8_text_180 rfl rfl rfl (mw_22 hw) (m_rmI (by omega) (Nat.le_of_ble_eq_true rfl) (Nat.le_refl _) (Nat.le_refl _)) (c_X8_say hG (d + 1) hFF hw hi (by simp only [List.length_append, List.length_cons, List.length_nil]; omega)) ?_
              refine i_inc 186 dX8_text_183 rfl rfl (by decide) ?_
              refine m_goto 22 dX8_text_186 (by decide) ?_
              rw [show (p : Int) + (c2 : Int) + 1 = ((p + c2 + 1 : Nat) : Int) by omega]
              refine ih (p + c2 + 1) (l ++ emp c2 ++ [32] ++ [48 + mk (p + c2) / 10] ++ [48 + mk (p + c2) % 10]) _ _ (by omega) (by omega) ?_
              rw [← ej2, ← hl, if_pos (show 0 < p + c2 ∧ c2 = 0 by omega), num_2 (by omega)]
              (rw [hc0, emp_0]; first | done | exact txB _ _ _ | exact txB2 _ _ _ _)
set_option maxHeartbeats 4000000 in
set_option maxRecDepth 100000 in
theorem c_X8_text (hG : m_G G) (d : Nat) {k W H : Int} {n : Nat} (hF : fOK k W H n) {t sz pl so bt : Int} {nb wl ou : Nat → Bool} {ar mk rc ip fd : Nat → Int} (hw : 30 < w.length) {i : Int} (hi : iR i) (hM : ∀ j, j < n → 0 ≤ mk j ∧ mk j ≤ 99) : m_Cv G MX8_text (m_r (d + 2) 0 0) [.ref 22, vI i] (mw w t k W H sz pl so bt nb wl ar mk rc ou ip fd) (some (vI (atL (txF mk n 0 0) i))) (mw w 0 k W H sz (((txF mk n 0 0).length : Int)) i (atL (txF mk n 0 0) i) nb wl ar mk rc ou ip fd) := by
  have hFF := hF
  have hnb := hF.n
  obtain ⟨hk0, hk4, hW1, hW2, hH1, hH2, hn, hg4⟩ := hF
  have hlen := txF_len mk n 0 0
  refine m_enter (L := [some (.ref 22), some (vI i), none, none, none]) (by decide) hG (m_c1 rfl) (Nat.le_of_ble_eq_true rfl) rfl ?_
  refine m_aload_n 1 dX8_text_0 rfl rfl ?_
  refine i_const 2 dX8_text_1 rfl ?_
  refine p8_0 (M := MX8_text) 5 rfl dX8_text_2 rfl hw ?_
  refine m_aload_n 6 dX8_text_5 rfl rfl ?_
  refine i_const 7 dX8_text_6 rfl ?_
  refine p8_13 (M := MX8_text) 10 rfl dX8_text_7 rfl hw ?_
  refine m_aload_n 11 dX8_text_10 rfl rfl ?_
  refine m_iload_n 12 dX8_text_11 rfl rfl ?_
  refine p8_14 (M := MX8_text) 15 rfl dX8_text_12 rfl hw ?_
  refine m_aload_n 16 dX8_text_15 rfl rfl ?_
  refine i_const 17 dX8_text_16 rfl ?_
  refine p8_15 (M := MX8_text) 20 rfl dX8_text_17 rfl hw ?_
  refine i_const 21 dX8_text_20 rfl ?_
  refine m_istore_n 22 dX8_text_21 rfl (by decide) ?_
  have e := l_X8_text hG d hFF hw (sz := sz) (nb := nb) (wl := wl) (ou := ou) (ar := ar) (rc := rc) (ip := ip) (fd := fd) hi (T := txF mk n 0 0) (by omega) hM n 0 [] none none (by omega) (by omega) rfl
  rw [atL_nil] at e
  exact e
set_option maxHeartbeats 4000000 in
set_option maxRecDepth 100000 in
theorem c_X8_unitN (hG : m_G G) (d : Nat) {k W H : Int} {n : Nat} (hF : fOK k W H n) {t sz pl so bt : Int} {nb wl ou : Nat → Bool} {ar mk rc ip fd : Nat → Int} (hw : 30 < w.length) {u : Int} (hu : iR u) (hz : 0 ≤ sz ∧ sz ≤ 1200) (hno : ¬ (0 ≤ u ∧ u ≤ 255 ∧ sz < 1200)) : m_Cv G MX8_unit (m_r d 0 0) [.ref 22, vI u] (mw w t k W H sz pl so bt nb wl ar mk rc ou ip fd) (some (vB false)) (mw w 0 k W H sz pl so bt nb wl ar mk rc ou ip fd) := by
  have hFF := hF
  have hnb := hF.n
  obtain ⟨hk0, hk4, hW1, hW2, hH1, hH2, hn, hg4⟩ := hF
  obtain ⟨hu1, hu2⟩ := hu
  refine m_enter (L := [some (.ref 22), some (vI u)]) (by decide) hG (m_c1 rfl) (Nat.le_of_ble_eq_true rfl) rfl ?_
  refine m_aload_n 1 dX8_unit_0 rfl rfl ?_
  refine i_const 2 dX8_unit_1 rfl ?_
  refine p8_0 (M := MX8_unit) 5 rfl dX8_unit_2 rfl hw ?_
  refine m_iload_n 6 dX8_unit_5 rfl rfl ?_
  refine i_if_lt 9 26 ⟨by omega, by omega⟩ dX8_unit_6 rfl (by decide) (fun q6 => ?_) (fun q6 => ?_)
  · refine i_const 27 dX8_unit_26 rfl ?_
    refine i_retB _ dX8_unit_27 rfl ⟨Nat.le_refl _, Nat.le_refl _⟩ ?_ ⟨rfl, rfl⟩
    refine i_eq0 ?_
    rfl
  · refine m_iload_n 10 dX8_unit_9 rfl rfl ?_
    refine i_sipush 13 255 dX8_unit_10 rfl (by decide) ?_
    refine i_icmp_gt 16 26 ⟨by omega, by omega⟩ ⟨by omega, by omega⟩ dX8_unit_13 rfl (by decide) (fun q13 => ?_) (fun q13 => ?_)
    · refine i_const 27 dX8_unit_26 rfl ?_
      refine i_retB _ dX8_unit_27 rfl ⟨Nat.le_refl _, Nat.le_refl _⟩ ?_ ⟨rfl, rfl⟩
      refine i_eq0 ?_
      rfl
    · refine m_aload_n 17 dX8_unit_16 rfl rfl ?_
      refine m_getf 20 foX8_116 dX8_unit_17 rfl (mw_22 hw) (by rfl) ?_
      refine i_sipush 23 1200 dX8_unit_20 rfl (by decide) ?_
      refine i_icmp_ne 26 28 ⟨by omega, by omega⟩ ⟨by omega, by omega⟩ dX8_unit_23 rfl (by decide) (fun q23 => ?_) (fun q23 => ?_)
      · exact absurd hno (by omega)
      · refine i_const 27 dX8_unit_26 rfl ?_
        refine i_retB _ dX8_unit_27 rfl ⟨Nat.le_refl _, Nat.le_refl _⟩ ?_ ⟨rfl, rfl⟩
        refine i_eq0 ?_
        rfl
set_option maxHeartbeats 4000000 in
set_option maxRecDepth 100000 in
theorem c_X8_unitY (hG : m_G G) (d : Nat) {k W H : Int} {n : Nat} (hF : fOK k W H n) {t sz pl so bt : Int} {nb wl ou : Nat → Bool} {ar mk rc ip fd : Nat → Int} (hw : 30 < w.length) {u : Int} (hu : 0 ≤ u ∧ u ≤ 255) (hz : 0 ≤ sz ∧ sz < 1200) : m_Cv G MX8_unit (m_r d 0 0) [.ref 22, vI u] (mw w t k W H sz pl so bt nb wl ar mk rc ou ip fd) (some (vB true)) (mw w 0 k W H (sz + 1) pl so bt nb wl ar mk rc ou (up ip sz.toNat u) fd) := by
  have hFF := hF
  have hnb := hF.n
  obtain ⟨hk0, hk4, hW1, hW2, hH1, hH2, hn, hg4⟩ := hF
  refine m_enter (L := [some (.ref 22), some (vI u)]) (by decide) hG (m_c1 rfl) (Nat.le_of_ble_eq_true rfl) rfl ?_
  refine m_aload_n 1 dX8_unit_0 rfl rfl ?_
  refine i_const 2 dX8_unit_1 rfl ?_
  refine p8_0 (M := MX8_unit) 5 rfl dX8_unit_2 rfl hw ?_
  refine m_iload_n 6 dX8_unit_5 rfl rfl ?_
  refine i_if_lt 9 26 ⟨by omega, by omega⟩ dX8_unit_6 rfl (by decide) (fun h => absurd h (by omega)) (fun _ => ?_)
  refine m_iload_n 10 dX8_unit_9 rfl rfl ?_
  refine i_sipush 13 255 dX8_unit_10 rfl (by decide) ?_
  refine i_icmp_gt 16 26 ⟨by omega, by omega⟩ ⟨by omega, by omega⟩ dX8_unit_13 rfl (by decide) (fun h => absurd h (by omega)) (fun _ => ?_)
  refine m_aload_n 17 dX8_unit_16 rfl rfl ?_
  refine m_getf 20 foX8_116 dX8_unit_17 rfl (mw_22 hw) (by rfl) ?_
  refine i_sipush 23 1200 dX8_unit_20 rfl (by decide) ?_
  refine i_icmp_ne 26 28 ⟨by omega, by omega⟩ ⟨by omega, by omega⟩ dX8_unit_23 rfl (by decide) (fun _ => ?_) (fun h => absurd h (by omega))
  refine m_aload_n 29 dX8_unit_28 rfl rfl ?_
  refine m_getf 32 foX8_30 dX8_unit_29 rfl (mw_22 hw) (by rfl) ?_
  refine m_aload_n 33 dX8_unit_32 rfl rfl ?_
  refine m_getf 36 foX8_116 dX8_unit_33 rfl (mw_22 hw) (by rfl) ?_
  refine m_iload_n 37 dX8_unit_36 rfl rfl ?_
  refine i_ast 38 dX8_unit_37 rfl (mw_29 hw) ⟨by omega, by omega, by omega⟩ ?_
  rw [mw_s29]
  refine m_aload_n 39 dX8_unit_38 rfl rfl ?_
  refine m_dup 40 dX8_unit_39 rfl rfl ?_
  refine m_getf 43 foX8_116 dX8_unit_40 rfl (mw_22 hw) (by rfl) ?_
  refine i_const 44 dX8_unit_43 rfl ?_
  refine i_add 45 dX8_unit_44 rfl ?_
  refine p8_10 (M := MX8_unit) 48 rfl dX8_unit_45 rfl hw ?_
  refine i_const 49 dX8_unit_48 rfl ?_
  refine i_retB _ dX8_unit_49 rfl ⟨Nat.le_refl _, Nat.le_refl _⟩ ?_ ⟨rfl, rfl⟩
  refine i_eq1 ?_
  rfl
end MS
