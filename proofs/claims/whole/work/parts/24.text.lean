/-! Scribe: the text -/
section SC
variable {G : mG} {w : List mC}
abbrev oScribe : mC := mO 4 [.ref 14]
def wS (w : List mC) (b c : mC) : List mC := (w.set 14 b).set 15 c
theorem wS_14 (w : List mC) (b c b' : mC) : (wS w b c).set 14 b' = wS w b' c := by
  unfold wS
  rw [List.set_comm _ _ (by decide : (15 : Nat) ≠ 14), List.set_set]
theorem wS_15 (w : List mC) (b c c' : mC) : (wS w b c).set 15 c' = wS w b c' := by
  unfold wS
  rw [List.set_set]
theorem wS_n {w : List mC} {b c : mC} {i : Nat} (h2 : i ≠ 14) (h3 : i ≠ 15) : (wS w b c)[i]? = w[i]? := by
  unfold wS
  rw [List.getElem?_set_ne (Ne.symm h3), List.getElem?_set_ne (Ne.symm h2)]
theorem wS_b {w : List mC} {b c : mC} (h : 15 < w.length) : (wS w b c)[14]? = some b := by
  unfold wS
  rw [List.getElem?_set_ne (by decide), List.getElem?_set_self (by omega)]
theorem wS_c {w : List mC} {b c : mC} (h : 15 < w.length) : (wS w b c)[15]? = some c := by
  unfold wS
  rw [List.getElem?_set_self (by simp; omega)]
/-- the row holds this list -/
def hld (l : List Int) (g : Nat → Int) : Prop := ∀ j, j < l.length → g j = l.getD j 0
theorem hld_nil (g : Nat → Int) : hld [] g := fun j h => by simp at h
theorem hld_put {l : List Int} {g : Nat → Int} (h : hld l g) (z : Int) : hld (l ++ [z]) (up g l.length z) := by
  intro j hj
  by_cases hjl : j = l.length
  · subst hjl
    rw [up_s]
    simp
  · have hlt : j < l.length := by simp at hj; omega
    rw [up_n _ _ hjl, h j hlt]
    simp [List.getD, List.getElem?_append_left hlt]
def emp (e : Nat) : List Int := List.replicate (e / 26) 122 ++ (if e % 26 = 0 then [] else [96 + ((e % 26 : Nat) : Int)])
theorem emp_z {e : Nat} (h : 26 ≤ e) : emp e = 122 :: emp (e - 26) := by
  unfold emp
  rw [show e / 26 = (e - 26) / 26 + 1 by omega, show (e - 26) % 26 = e % 26 by omega, List.replicate_succ]
  rfl
theorem emp_0 : emp 0 = [] := by decide
theorem emp_l {e : Nat} (h : e < 26) (h0 : 0 < e) : emp e = [96 + (e : Int)] := by
  unfold emp
  rw [show e / 26 = 0 by omega, show e % 26 = e by omega, if_neg (by omega)]
  rfl
theorem emp_len (e : Nat) : (emp e).length ≤ e := by
  unfold emp
  split <;> simp <;> omega
def num (m : Int) : List Int := (if 10 ≤ m then [48 + m / 10] else []) ++ [48 + m % 10]
theorem num_len (m : Int) : (num m).length ≤ 2 := by unfold num; split <;> simp
/-- the text from place p on, with e empty ones ahead -/
def txF (mk : Nat → Int) : Nat → Nat → Nat → List Int
  | 0, _, e => emp e
  | j + 1, p, e => if mk p = 0 then txF mk j (p + 1) (e + 1) else (if 0 < p ∧ e = 0 then [32] else []) ++ emp e ++ num (mk p) ++ txF mk j (p + 1) 0

set_option maxHeartbeats 4000000 in
set_option maxRecDepth 100000 in
theorem l_X4_spellEmpty (hG : m_G G) (d : Nat) (h13 : w[13]? = some oScribe) (hw : 15 < w.length) {N : Nat} (hN : N < 100000) {x1 : Option Value} {Q : Option (Option Value) → List mC → Prop} {t : List Int} (kr : ∀ g, hld t g → Q (some none) (wS w (oRow 15 (t.length : Int)) (cI N g))) :
    ∀ (j e : Nat) (l : List Int) (g : Nat → Int), e ≤ j → e < 1000 → hld l g → l.length + e ≤ N → l ++ emp e = t → m_J G MX4_spellEmpty (m_r (d + 1) 0 0) Q 0 0 2 [some (.ref 13), x1, some (vI (e : Int))] [] (wS w (oRow 15 (l.length : Int)) (cI N g)) := by
  intro j
  induction j with
  | zero =>
    intro e l g hej he2 hl hlen ht
    have he0 : e = 0 := by omega
    subst he0
    rw [emp_0, List.append_nil] at ht
    subst ht
    have b13 : (wS w (oRow 15 (l.length : Int)) (cI N g))[13]? = some oScribe := by rw [wS_n (by decide) (by decide)]; exact h13
    have b14 : (wS w (oRow 15 (l.length : Int)) (cI N g))[14]? = some (oRow 15 (l.length : Int)) := wS_b hw
    have b15 : (wS w (oRow 15 (l.length : Int)) (cI N g))[15]? = some (cI N g) := wS_c hw
    have e1 : ((l.length : Int)).toNat = l.length := Int.toNat_natCast _
    refine m_iload_n 3 dX4_spellEmpty_2 rfl rfl ?_
    refine i_bipush 5 26 dX4_spellEmpty_3 rfl (by decide) ?_
    refine i_icmp_lt 8 24 ⟨by omega, by omega⟩ ⟨by omega, by omega⟩ dX4_spellEmpty_5 rfl (by decide) (fun _ => ?_) (fun h => absurd h (by omega))
    refine m_iload_n 25 dX4_spellEmpty_24 rfl rfl ?_
    refine i_if_le 28 40 ⟨by omega, by omega⟩ dX4_spellEmpty_25 rfl (by decide) (fun _ => ?_) (fun h => absurd h (by omega))
    refine m_vret dX4_spellEmpty_40 rfl ⟨Nat.le_refl _, Nat.le_refl _⟩ ?_
    exact kr _ hl
  | succ j ih =>
    intro e l g hej he2 hl hlen ht
    have b13 : (wS w (oRow 15 (l.length : Int)) (cI N g))[13]? = some oScribe := by rw [wS_n (by decide) (by decide)]; exact h13
    have b14 : (wS w (oRow 15 (l.length : Int)) (cI N g))[14]? = some (oRow 15 (l.length : Int)) := wS_b hw
    have b15 : (wS w (oRow 15 (l.length : Int)) (cI N g))[15]? = some (cI N g) := wS_c hw
    have e1 : ((l.length : Int)).toNat = l.length := Int.toNat_natCast _
    refine m_iload_n 3 dX4_spellEmpty_2 rfl rfl ?_
    refine i_bipush 5 26 dX4_spellEmpty_3 rfl (by decide) ?_
    refine i_icmp_lt 8 24 ⟨by omega, by omega⟩ ⟨by omega, by omega⟩ dX4_spellEmpty_5 rfl (by decide) (fun q5 => ?_) (fun q5 => ?_)
    · refine m_iload_n 25 dX4_spellEmpty_24 rfl rfl ?_
      refine i_if_le 28 40 ⟨by omega, by omega⟩ dX4_spellEmpty_25 rfl (by decide) (fun q25 => ?_) (fun q25 => ?_)
      · refine m_vret dX4_spellEmpty_40 rfl ⟨Nat.le_refl _, Nat.le_refl _⟩ ?_
        first
          | (have he0 : e = 0 := by omega
             subst he0
             rw [emp_0, List.append_nil] at ht
             subst ht
             exact kr _ hl)
          | (rw [emp_l (by omega) (by omega)] at ht
             have e9 := kr _ (ht ▸ hld_put hl (96 + (e : Int)))
             rw [← ht] at e9
             rw [wS_15, wS_14, e1, show ((l.length : Int) + 1) = ((l ++ [96 + (e : Int)]).length : Int) by simp]
             exact e9)
      · refine m_aload_n 29 dX4_spellEmpty_28 rfl rfl ?_
        refine m_getf 32 foX4_20 dX4_spellEmpty_29 rfl (by first | rfl | assumption) (by rfl) ?_
        refine i_bipush 34 96 dX4_spellEmpty_32 rfl (by decide) ?_
        refine m_iload_n 35 dX4_spellEmpty_34 rfl rfl ?_
        refine i_add 36 dX4_spellEmpty_35 rfl ?_
        refine m_cV (M' := MX3_put) 39 [_] kX4_29 imX3_put seX3_put clX3_put dX4_spellEmpty_36 rfl rfl rfl (by first | rfl | assumption) (m_rmI (by omega) (Nat.le_of_ble_eq_true rfl) (Nat.le_refl _) (Nat.le_refl _)) (c_X3_put (i := 13) (c := 14) hG d b14 b15 (by decide) ⟨by omega, by omega⟩ (by omega)) ?_
        refine m_pop 40 dX4_spellEmpty_39 rfl rfl ?_
        refine m_vret dX4_spellEmpty_40 rfl ⟨Nat.le_refl _, Nat.le_refl _⟩ ?_
        first
          | (have he0 : e = 0 := by omega
             subst he0
             rw [emp_0, List.append_nil] at ht
             subst ht
             exact kr _ hl)
          | (rw [emp_l (by omega) (by omega)] at ht
             have e9 := kr _ (ht ▸ hld_put hl (96 + (e : Int)))
             rw [← ht] at e9
             rw [wS_15, wS_14, e1, show ((l.length : Int) + 1) = ((l ++ [96 + (e : Int)]).length : Int) by simp]
             exact e9)
    · refine m_aload_n 9 dX4_spellEmpty_8 rfl rfl ?_
      refine m_getf 12 foX4_20 dX4_spellEmpty_9 rfl (by first | rfl | assumption) (by rfl) ?_
      refine i_bipush 14 122 dX4_spellEmpty_12 rfl (by decide) ?_
      refine m_cV (M' := MX3_put) 17 [_] kX4_29 imX3_put seX3_put clX3_put dX4_spellEmpty_14 rfl rfl rfl (by first | rfl | assumption) (m_rmI (by omega) (Nat.le_of_ble_eq_true rfl) (Nat.le_refl _) (Nat.le_refl _)) (c_X3_put (i := 13) (c := 14) hG d b14 b15 (by decide) ⟨by omega, by omega⟩ (by omega)) ?_
      refine m_pop 18 dX4_spellEmpty_17 rfl rfl ?_
      refine i_inc 21 dX4_spellEmpty_18 rfl rfl (by decide) ?_
      refine m_goto 2 dX4_spellEmpty_21 (by decide) ?_
      rw [wS_15, wS_14, e1, show ((l.length : Int) + 1) = ((l ++ [122]).length : Int) by simp]
      rw [show ((e : Int) + -26) = ((e - 26 : Nat) : Int) by omega]
      refine ih (e - 26) _ _ (by omega) (by omega) (hld_put hl 122) (by simp; omega) ?_
      rw [← ht, emp_z (e := e) (by omega)]
      simp
set_option maxHeartbeats 4000000 in
set_option maxRecDepth 100000 in
theorem c_X4_spellEmpty (hG : m_G G) (d : Nat) (h13 : w[13]? = some oScribe) (hw : 15 < w.length) {N : Nat} (hN : N < 100000) {e : Nat} {l : List Int} {g : Nat → Int} (he : e < 1000) (hl : hld l g) (hlen : l.length + e ≤ N) : m_Ct G MX4_spellEmpty (m_r (d + 1) 0 0) [.ref 13, vI (e : Int)] (wS w (oRow 15 (l.length : Int)) (cI N g)) (fun r x => r = some none ∧ ∃ g, hld (l ++ emp e) g ∧ x = wS w (oRow 15 ((l ++ emp e).length : Int)) (cI N g)) := by
  refine m_enter (L := [some (.ref 13), some (vI (e : Int)), none]) (by decide) hG (m_c1 rfl) (Nat.le_of_ble_eq_true rfl) rfl ?_
  refine m_iload_n 1 dX4_spellEmpty_0 rfl rfl ?_
  refine m_istore_n 2 dX4_spellEmpty_1 rfl (by decide) ?_
  exact l_X4_spellEmpty hG d h13 hw hN (t := l ++ emp e) (fun g hg => ⟨rfl, g, hg, rfl⟩) e e l g (Nat.le_refl _) he hl hlen rfl
set_option maxHeartbeats 4000000 in
set_option maxRecDepth 100000 in
theorem c_X4_spellNumber (hG : m_G G) (d : Nat) (h13 : w[13]? = some oScribe) (hw : 15 < w.length) {N : Nat} (hN : N < 100000) {z : Int} {l : List Int} {g : Nat → Int} (hz : 0 ≤ z ∧ z ≤ 99) (hl : hld l g) (hlen : l.length + 2 ≤ N) : m_Ct G MX4_spellNumber (m_r (d + 1) 0 0) [.ref 13, vI z] (wS w (oRow 15 (l.length : Int)) (cI N g)) (fun r x => r = some none ∧ ∃ g, hld (l ++ num z) g ∧ x = wS w (oRow 15 ((l ++ num z).length : Int)) (cI N g)) := by
  have b13 : (wS w (oRow 15 (l.length : Int)) (cI N g))[13]? = some oScribe := by rw [wS_n (by decide) (by decide)]; exact h13
  have b14 : (wS w (oRow 15 (l.length : Int)) (cI N g))[14]? = some (oRow 15 (l.length : Int)) := wS_b hw
  have b15 : (wS w (oRow 15 (l.length : Int)) (cI N g))[15]? = some (cI N g) := wS_c hw
  have e1 : ((l.length : Int)).toNat = l.length := Int.toNat_natCast _
  have c13 : (wS w (oRow 15 ((l ++ [48 + z / 10]).length : Int)) (cI N (up g l.length (48 + z / 10))))[13]? = some oScribe := by rw [wS_n (by decide) (by decide)]; exact h13
  have c14 : (wS w (oRow 15 ((l ++ [48 + z / 10]).length : Int)) (cI N (up g l.length (48 + z / 10))))[14]? = some (oRow 15 ((l ++ [48 + z / 10]).length : Int)) := wS_b hw
  have c15 : (wS w (oRow 15 ((l ++ [48 + z / 10]).length : Int)) (cI N (up g l.length (48 + z / 10))))[15]? = some (cI N (up g l.length (48 + z / 10))) := wS_c hw
  have hll : (l ++ [48 + z / 10]).length = l.length + 1 := by simp
  refine m_enter (L := [some (.ref 13), some (vI z)]) (by decide) hG (m_c1 rfl) (Nat.le_of_ble_eq_true rfl) rfl ?_
  refine m_iload_n 1 dX4_spellNumber_0 rfl rfl ?_
  refine i_bipush 3 10 dX4_spellNumber_1 rfl (by decide) ?_
  refine i_icmp_lt 6 21 ⟨by omega, by omega⟩ ⟨by omega, by omega⟩ dX4_spellNumber_3 rfl (by decide) (fun q3 => ?_) (fun q3 => ?_)
  · refine m_aload_n 22 dX4_spellNumber_21 rfl rfl ?_
    refine m_getf 25 foX4_20 dX4_spellNumber_22 rfl (by first | rfl | assumption) (by rfl) ?_
    refine i_bipush 27 48 dX4_spellNumber_25 rfl (by decide) ?_
    refine m_iload_n 28 dX4_spellNumber_27 rfl rfl ?_
    refine i_bipush 30 10 dX4_spellNumber_28 rfl (by decide) ?_
    refine i_rem 31 dX4_spellNumber_30 rfl ⟨by omega, by omega, by omega, by omega⟩ ?_
    refine i_add 32 dX4_spellNumber_31 rfl ?_
    refine m_cV (M' := MX3_put) 35 [_] kX4_29 imX3_put seX3_put clX3_put dX4_spellNumber_32 rfl rfl rfl (by first | rfl | assumption) (m_rmI (by omega) (Nat.le_of_ble_eq_true rfl) (Nat.le_refl _) (Nat.le_refl _)) (c_X3_put (i := 13) (c := 14) hG d b14 b15 (by decide) ⟨by omega, by omega⟩ (by omega)) ?_
    refine m_pop 36 dX4_spellNumber_35 rfl rfl ?_
    refine m_vret dX4_spellNumber_36 rfl ⟨Nat.le_refl _, Nat.le_refl _⟩ ?_
    refine ⟨rfl, up g l.length (48 + z % 10), ?_, ?_⟩
    · unfold num; rw [if_neg (by omega)]; exact hld_put hl _
    · unfold num; rw [if_neg (by omega)]
      rw [wS_15, wS_14, e1]
      simp
  · refine m_aload_n 7 dX4_spellNumber_6 rfl rfl ?_
    refine m_getf 10 foX4_20 dX4_spellNumber_7 rfl (by first | rfl | assumption) (by rfl) ?_
    refine i_bipush 12 48 dX4_spellNumber_10 rfl (by decide) ?_
    refine m_iload_n 13 dX4_spellNumber_12 rfl rfl ?_
    refine i_bipush 15 10 dX4_spellNumber_13 rfl (by decide) ?_
    refine i_div 16 dX4_spellNumber_15 rfl ⟨by omega, by omega, by omega, by omega⟩ ?_
    refine i_add 17 dX4_spellNumber_16 rfl ?_
    refine m_cV (M' := MX3_put) 20 [_] kX4_29 imX3_put seX3_put clX3_put dX4_spellNumber_17 rfl rfl rfl (by first | rfl | assumption) (m_rmI (by omega) (Nat.le_of_ble_eq_true rfl) (Nat.le_refl _) (Nat.le_refl _)) (c_X3_put (i := 13) (c := 14) hG d b14 b15 (by decide) ⟨by omega, by omega⟩ (by omega)) ?_
    refine m_pop 21 dX4_spellNumber_20 rfl rfl ?_
    rw [wS_15, wS_14, e1, show ((l.length : Int) + 1) = ((l ++ [48 + z / 10]).length : Int) by simp]
    refine m_aload_n 22 dX4_spellNumber_21 rfl rfl ?_
    refine m_getf 25 foX4_20 dX4_spellNumber_22 rfl (by first | rfl | assumption) (by rfl) ?_
    refine i_bipush 27 48 dX4_spellNumber_25 rfl (by decide) ?_
    refine m_iload_n 28 dX4_spellNumber_27 rfl rfl ?_
    refine i_bipush 30 10 dX4_spellNumber_28 rfl (by decide) ?_
    refine i_rem 31 dX4_spellNumber_30 rfl ⟨by omega, by omega, by omega, by omega⟩ ?_
    refine i_add 32 dX4_spellNumber_31 rfl ?_
    refine m_cV (M' := MX3_put) 35 [_] kX4_29 imX3_put seX3_put clX3_put dX4_spellNumber_32 rfl rfl rfl (by first | rfl | assumption) (m_rmI (by omega) (Nat.le_of_ble_eq_true rfl) (Nat.le_refl _) (Nat.le_refl _)) (c_X3_put (i := 13) (c := 14) hG d c14 c15 (by decide) ⟨by omega, by omega⟩ (by omega)) ?_
    refine m_pop 36 dX4_spellNumber_35 rfl rfl ?_
    refine m_vret dX4_spellNumber_36 rfl ⟨Nat.le_refl _, Nat.le_refl _⟩ ?_
    refine ⟨rfl, up (up g l.length (48 + z / 10)) (l ++ [48 + z / 10]).length (48 + z % 10), ?_, ?_⟩
    · unfold num; rw [if_pos (by omega), ← List.append_assoc]; exact hld_put (hld_put hl _) _
    · unfold num; rw [if_pos (by omega), ← List.append_assoc]
      rw [wS_15, wS_14, Int.toNat_natCast, show (((l ++ [48 + z / 10]).length : Int) + 1) = ((l ++ [48 + z / 10] ++ [48 + z % 10]).length : Int) by rw [List.length_append (as := l ++ [48 + z / 10])]; rfl]
set_option maxHeartbeats 4000000 in
set_option maxRecDepth 100000 in
theorem l_X4_spell (hG : m_G G) (d : Nat) (h13 : w[13]? = some oScribe) (hw : 15 < w.length) {N : Nat} (hN : N < 100000) {n : Nat} (hNn : N = 3 * n) (hn : n ≤ 256) {mk : Nat → Int} (h20 : w[20]? = some (cI n mk)) (hM : ∀ j, j < n → 0 ≤ mk j ∧ mk j ≤ 99) {Q : Option (Option Value) → List mC → Prop} {t : List Int} (kr : ∀ g, hld t g → Q (some none) (wS w (oRow 15 (t.length : Int)) (cI N g))) :
    ∀ (j p e : Nat) (l : List Int) (g : Nat → Int), p + j = n → hld l g → e ≤ p ∧ l.length + e ≤ 3 * p → l ++ txF mk j p e = t → m_J G MX4_spell (m_r (d + 2) 0 0) Q 0 0 11 [some (.ref 13), some (.ref 20), some (vI (e : Int)), some (vI (p : Int))] [] (wS w (oRow 15 (l.length : Int)) (cI N g)) := by
  intro j
  induction j with
  | zero =>
    intro p e l g hpj hl hlen ht
    have b13 : (wS w (oRow 15 (l.length : Int)) (cI N g))[13]? = some oScribe := by rw [wS_n (by decide) (by decide)]; exact h13
    have b14 : (wS w (oRow 15 (l.length : Int)) (cI N g))[14]? = some (oRow 15 (l.length : Int)) := wS_b hw
    have b15 : (wS w (oRow 15 (l.length : Int)) (cI N g))[15]? = some (cI N g) := wS_c hw
    have b20 : (wS w (oRow 15 (l.length : Int)) (cI N g))[20]? = some (cI n mk) := by rw [wS_n (by decide) (by decide)]; exact h20
    have e1 : ((l.length : Int)).toNat = l.length := Int.toNat_natCast _
    have e3 : ((p : Int)).toNat = p := Int.toNat_natCast _
    refine m_iload_n 12 dX4_spell_11 rfl rfl ?_
    refine m_aload_n 13 dX4_spell_12 rfl rfl ?_
    refine i_len 14 dX4_spell_13 rfl (by first | rfl | assumption) ?_
    refine i_icmp_ge 17 67 ⟨by omega, by omega⟩ ⟨by omega, by omega⟩ dX4_spell_14 rfl (by decide) (fun _ => ?_) (fun h => absurd h (by omega))
    refine m_aload_n 68 dX4_spell_67 rfl rfl ?_
    refine m_iload_n 69 dX4_spell_68 rfl rfl ?_
    refine m_cVr (M' := MX4_spellEmpty) 72 [_] kX4_33 imX4_spellEmpty seX4_spellEmpty clX4_spellEmpty dX4_spell_69 rfl rfl rfl (by first | rfl | assumption) (m_rmI (by omega) (Nat.le_of_ble_eq_true rfl) (Nat.le_refl _) (Nat.le_refl _)) (c_X4_spellEmpty hG d h13 hw hN (e := e) (l := l) (by omega) hl (by omega)) (fun w2 h => by cases h.1) (fun v w2 h => ?_)
    obtain ⟨hv, g2, hl2, rfl⟩ := h
    cases hv
    refine m_vret dX4_spell_72 rfl ⟨Nat.le_refl _, Nat.le_refl _⟩ ?_
    have e9 := kr g2 (ht ▸ hl2)
    rw [← ht] at e9
    exact e9
  | succ j ih =>
    intro p e l g hpj hl hlen ht
    have hMp := hM p (by omega)
    unfold txF at ht
    have b13 : (wS w (oRow 15 (l.length : Int)) (cI N g))[13]? = some oScribe := by rw [wS_n (by decide) (by decide)]; exact h13
    have b14 : (wS w (oRow 15 (l.length : Int)) (cI N g))[14]? = some (oRow 15 (l.length : Int)) := wS_b hw
    have b15 : (wS w (oRow 15 (l.length : Int)) (cI N g))[15]? = some (cI N g) := wS_c hw
    have b20 : (wS w (oRow 15 (l.length : Int)) (cI N g))[20]? = some (cI n mk) := by rw [wS_n (by decide) (by decide)]; exact h20
    have e1 : ((l.length : Int)).toNat = l.length := Int.toNat_natCast _
    have e3 : ((p : Int)).toNat = p := Int.toNat_natCast _
    refine m_iload_n 12 dX4_spell_11 rfl rfl ?_
    refine m_aload_n 13 dX4_spell_12 rfl rfl ?_
    refine i_len 14 dX4_spell_13 rfl (by first | rfl | assumption) ?_
    refine i_icmp_ge 17 67 ⟨by omega, by omega⟩ ⟨by omega, by omega⟩ dX4_spell_14 rfl (by decide) (fun h => absurd h (by omega)) (fun _ => ?_)
    refine m_aload_n 18 dX4_spell_17 rfl rfl ?_
    refine m_iload_n 19 dX4_spell_18 rfl rfl ?_
    refine i_ald 20 dX4_spell_19 rfl (by first | rfl | assumption) ⟨by omega, by omega, by omega⟩ ?_
    rw [e3]
    refine i_if_ne 23 29 ⟨by omega, by omega⟩ dX4_spell_20 rfl (by decide) (fun q20 => ?_) (fun q20 => ?_)
    · refine m_iload_n 30 dX4_spell_29 rfl rfl ?_
      refine i_if_le 33 47 ⟨by omega, by omega⟩ dX4_spell_30 rfl (by decide) (fun q30 => ?_) (fun q30 => ?_)
      · refine m_aload_n 48 dX4_spell_47 rfl rfl ?_
        refine m_iload_n 49 dX4_spell_48 rfl rfl ?_
        refine m_cVr (M' := MX4_spellEmpty) 52 [_] kX4_33 imX4_spellEmpty seX4_spellEmpty clX4_spellEmpty dX4_spell_49 rfl rfl rfl (by first | rfl | assumption) (m_rmI (by omega) (Nat.le_of_ble_eq_true rfl) (Nat.le_refl _) (Nat.le_refl _)) (c_X4_spellEmpty hG d h13 hw hN (e := e) (l := l) (by omega) hl (by first | omega | (simp; omega))) (fun w2 h => by cases h.1) (fun v w2 h => ?_)
        obtain ⟨hv, g2, hl2, rfl⟩ := h
        cases hv
        have hel := emp_len e
        have d13 : (wS w (oRow 15 (((l) ++ emp e).length : Int)) (cI N g2))[13]? = some oScribe := by rw [wS_n (by decide) (by decide)]; exact h13
        have d14 : (wS w (oRow 15 (((l) ++ emp e).length : Int)) (cI N g2))[14]? = some (oRow 15 (((l) ++ emp e).length : Int)) := wS_b hw
        have d15 : (wS w (oRow 15 (((l) ++ emp e).length : Int)) (cI N g2))[15]? = some (cI N g2) := wS_c hw
        have d20 : (wS w (oRow 15 (((l) ++ emp e).length : Int)) (cI N g2))[20]? = some (cI n mk) := by rw [wS_n (by decide) (by decide)]; exact h20
        refine m_aload_n 53 dX4_spell_52 rfl rfl ?_
        refine m_aload_n 54 dX4_spell_53 rfl rfl ?_
        refine m_iload_n 55 dX4_spell_54 rfl rfl ?_
        refine i_ald 56 dX4_spell_55 rfl (by first | rfl | assumption) ⟨by omega, by omega, by omega⟩ ?_
        rw [e3]
        refine m_cVr (M' := MX4_spellNumber) 59 [_] kX4_36 imX4_spellNumber seX4_spellNumber clX4_spellNumber dX4_spell_56 rfl rfl rfl (by first | rfl | assumption) (m_rmI (by omega) (Nat.le_of_ble_eq_true rfl) (Nat.le_refl _) (Nat.le_refl _)) (c_X4_spellNumber hG d h13 hw hN (l := (l) ++ emp e) (hM p (by omega)) hl2 (by simp; omega)) (fun w2 h => by cases h.1) (fun v w2 h => ?_)
        obtain ⟨hv, g3, hl3, rfl⟩ := h
        cases hv
        have hnl := num_len (mk p)
        refine i_const 60 dX4_spell_59 rfl ?_
        refine m_istore_n 61 dX4_spell_60 rfl (by decide) ?_
        refine i_inc 64 dX4_spell_61 rfl rfl (by decide) ?_
        refine m_goto 11 dX4_spell_64 (by decide) ?_
        refine ih (p + 1) 0 _ _ (by omega) hl3 (by simp; omega) ?_
        rw [← ht, if_neg q20]
        rw [if_neg (by omega)]
        simp
      · refine m_iload_n 34 dX4_spell_33 rfl rfl ?_
        refine i_if_ne 37 47 ⟨by omega, by omega⟩ dX4_spell_34 rfl (by decide) (fun q34 => ?_) (fun q34 => ?_)
        · refine m_aload_n 48 dX4_spell_47 rfl rfl ?_
          refine m_iload_n 49 dX4_spell_48 rfl rfl ?_
          refine m_cVr (M' := MX4_spellEmpty) 52 [_] kX4_33 imX4_spellEmpty seX4_spellEmpty clX4_spellEmpty dX4_spell_49 rfl rfl rfl (by first | rfl | assumption) (m_rmI (by omega) (Nat.le_of_ble_eq_true rfl) (Nat.le_refl _) (Nat.le_refl _)) (c_X4_spellEmpty hG d h13 hw hN (e := e) (l := l) (by omega) hl (by first | omega | (simp; omega))) (fun w2 h => by cases h.1) (fun v w2 h => ?_)
          obtain ⟨hv, g2, hl2, rfl⟩ := h
          cases hv
          have hel := emp_len e
          have d13 : (wS w (oRow 15 (((l) ++ emp e).length : Int)) (cI N g2))[13]? = some oScribe := by rw [wS_n (by decide) (by decide)]; exact h13
          have d14 : (wS w (oRow 15 (((l) ++ emp e).length : Int)) (cI N g2))[14]? = some (oRow 15 (((l) ++ emp e).length : Int)) := wS_b hw
          have d15 : (wS w (oRow 15 (((l) ++ emp e).length : Int)) (cI N g2))[15]? = some (cI N g2) := wS_c hw
          have d20 : (wS w (oRow 15 (((l) ++ emp e).length : Int)) (cI N g2))[20]? = some (cI n mk) := by rw [wS_n (by decide) (by decide)]; exact h20
          refine m_aload_n 53 dX4_spell_52 rfl rfl ?_
          refine m_aload_n 54 dX4_spell_53 rfl rfl ?_
          refine m_iload_n 55 dX4_spell_54 rfl rfl ?_
          refine i_ald 56 dX4_spell_55 rfl (by first | rfl | assumption) ⟨by omega, by omega, by omega⟩ ?_
          rw [e3]
          refine m_cVr (M' := MX4_spellNumber) 59 [_] kX4_36 imX4_spellNumber seX4_spellNumber clX4_spellNumber dX4_spell_56 rfl rfl rfl (by first | rfl | assumption) (m_rmI (by omega) (Nat.le_of_ble_eq_true rfl) (Nat.le_refl _) (Nat.le_refl _)) (c_X4_spellNumber hG d h13 hw hN (l := (l) ++ emp e) (hM p (by omega)) hl2 (by simp; omega)) (fun w2 h => by cases h.1) (fun v w2 h => ?_)
          obtain ⟨hv, g3, hl3, rfl⟩ := h
          cases hv
          have hnl := num_len (mk p)
          refine i_const 60 dX4_spell_59 rfl ?_
          refine m_istore_n 61 dX4_spell_60 rfl (by decide) ?_
          refine i_inc 64 dX4_spell_61 rfl rfl (by decide) ?_
          refine m_goto 11 dX4_spell_64 (by decide) ?_
          refine ih (p + 1) 0 _ _ (by omega) hl3 (by simp; omega) ?_
          rw [← ht, if_neg q20]
          rw [if_neg (by omega)]
          simp
        · refine m_aload_n 38 dX4_spell_37 rfl rfl ?_
          refine m_getf 41 foX4_20 dX4_spell_38 rfl (by first | rfl | assumption) (by rfl) ?_
          refine i_bipush 43 32 dX4_spell_41 rfl (by decide) ?_
          refine m_cV (M' := MX3_put) 46 [_] kX4_29 imX3_put seX3_put clX3_put dX4_spell_43 rfl rfl rfl (by first | rfl | assumption) (m_rmI (by omega) (Nat.le_of_ble_eq_true rfl) (Nat.le_refl _) (Nat.le_refl _)) (c_X3_put (i := 13) (c := 14) hG (d + 1) b14 b15 (by decide) ⟨by omega, by omega⟩ (by omega)) ?_
          refine m_pop 47 dX4_spell_46 rfl rfl ?_
          rw [wS_15, wS_14, e1, show ((l.length : Int) + 1) = ((l ++ [32]).length : Int) by simp]
          have c13 : (wS w (oRow 15 ((l ++ [32]).length : Int)) (cI N (up g l.length 32)))[13]? = some oScribe := by rw [wS_n (by decide) (by decide)]; exact h13
          have c14 : (wS w (oRow 15 ((l ++ [32]).length : Int)) (cI N (up g l.length 32)))[14]? = some (oRow 15 ((l ++ [32]).length : Int)) := wS_b hw
          have c15 : (wS w (oRow 15 ((l ++ [32]).length : Int)) (cI N (up g l.length 32)))[15]? = some (cI N (up g l.length 32)) := wS_c hw
          have c20 : (wS w (oRow 15 ((l ++ [32]).length : Int)) (cI N (up g l.length 32)))[20]? = some (cI n mk) := by rw [wS_n (by decide) (by decide)]; exact h20
          refine m_aload_n 48 dX4_spell_47 rfl rfl ?_
          refine m_iload_n 49 dX4_spell_48 rfl rfl ?_
          refine m_cVr (M' := MX4_spellEmpty) 52 [_] kX4_33 imX4_spellEmpty seX4_spellEmpty clX4_spellEmpty dX4_spell_49 rfl rfl rfl (by first | rfl | assumption) (m_rmI (by omega) (Nat.le_of_ble_eq_true rfl) (Nat.le_refl _) (Nat.le_refl _)) (c_X4_spellEmpty hG d h13 hw hN (e := e) (l := l ++ [32]) (by omega) (hld_put hl 32) (by first | omega | (simp; omega))) (fun w2 h => by cases h.1) (fun v w2 h => ?_)
          obtain ⟨hv, g2, hl2, rfl⟩ := h
          cases hv
          have hel := emp_len e
          have d13 : (wS w (oRow 15 (((l ++ [32]) ++ emp e).length : Int)) (cI N g2))[13]? = some oScribe := by rw [wS_n (by decide) (by decide)]; exact h13
          have d14 : (wS w (oRow 15 (((l ++ [32]) ++ emp e).length : Int)) (cI N g2))[14]? = some (oRow 15 (((l ++ [32]) ++ emp e).length : Int)) := wS_b hw
          have d15 : (wS w (oRow 15 (((l ++ [32]) ++ emp e).length : Int)) (cI N g2))[15]? = some (cI N g2) := wS_c hw
          have d20 : (wS w (oRow 15 (((l ++ [32]) ++ emp e).length : Int)) (cI N g2))[20]? = some (cI n mk) := by rw [wS_n (by decide) (by decide)]; exact h20
          refine m_aload_n 53 dX4_spell_52 rfl rfl ?_
          refine m_aload_n 54 dX4_spell_53 rfl rfl ?_
          refine m_iload_n 55 dX4_spell_54 rfl rfl ?_
          refine i_ald 56 dX4_spell_55 rfl (by first | rfl | assumption) ⟨by omega, by omega, by omega⟩ ?_
          rw [e3]
          refine m_cVr (M' := MX4_spellNumber) 59 [_] kX4_36 imX4_spellNumber seX4_spellNumber clX4_spellNumber dX4_spell_56 rfl rfl rfl (by first | rfl | assumption) (m_rmI (by omega) (Nat.le_of_ble_eq_true rfl) (Nat.le_refl _) (Nat.le_refl _)) (c_X4_spellNumber hG d h13 hw hN (l := (l ++ [32]) ++ emp e) (hM p (by omega)) hl2 (by simp; omega)) (fun w2 h => by cases h.1) (fun v w2 h => ?_)
          obtain ⟨hv, g3, hl3, rfl⟩ := h
          cases hv
          have hnl := num_len (mk p)
          refine i_const 60 dX4_spell_59 rfl ?_
          refine m_istore_n 61 dX4_spell_60 rfl (by decide) ?_
          refine i_inc 64 dX4_spell_61 rfl rfl (by decide) ?_
          refine m_goto 11 dX4_spell_64 (by decide) ?_
          refine ih (p + 1) 0 _ _ (by omega) hl3 (by simp; omega) ?_
          rw [← ht, if_neg q20]
          rw [if_pos ⟨by omega, by omega⟩]
          simp
    · refine i_inc 26 dX4_spell_23 rfl rfl (by decide) ?_
      refine m_goto 61 dX4_spell_26 (by decide) ?_
      refine i_inc 64 dX4_spell_61 rfl rfl (by decide) ?_
      refine m_goto 11 dX4_spell_64 (by decide) ?_
      rw [show ((e : Int) + 1) = ((e + 1 : Nat) : Int) by omega]
      refine ih (p + 1) (e + 1) l g (by omega) hl (by omega) ?_
      rw [← ht, if_pos q20]
set_option maxHeartbeats 4000000 in
set_option maxRecDepth 100000 in
theorem c_X4_spell (hG : m_G G) (d : Nat) (h13 : w[13]? = some oScribe) (hw : 15 < w.length) {N : Nat} (hN : N < 100000) {n : Nat} (hNn : N = 3 * n) (hn : n ≤ 256) {mk : Nat → Int} (h20 : w[20]? = some (cI n mk)) (hM : ∀ j, j < n → 0 ≤ mk j ∧ mk j ≤ 99) {l0 : Int} {g0 : Nat → Int} (h14 : w[14]? = some (oRow 15 l0)) (h15 : w[15]? = some (cI N g0)) : m_Ct G MX4_spell (m_r (d + 2) 0 0) [.ref 13, .ref 20] w (fun r x => r = some none ∧ ∃ g, hld (txF mk n 0 0) g ∧ x = wS w (oRow 15 ((txF mk n 0 0).length : Int)) (cI N g)) := by
  have c0 : w.set 14 (oRow 15 0) = wS w (oRow 15 ((([] : List Int).length : Nat) : Int)) (cI N g0) := by
    unfold wS
    rw [List.set_comm _ _ (by decide : (14 : Nat) ≠ 15), set_get h15]
    rfl
  have c20 : (w.set 14 (oRow 15 0))[20]? = some (cI n mk) := by rw [List.getElem?_set_ne (by decide)]; exact h20
  refine m_enter (L := [some (.ref 13), some (.ref 20), none, none]) (by decide) hG (m_c1 rfl) (Nat.le_of_ble_eq_true rfl) rfl ?_
  refine m_aload_n 1 dX4_spell_0 rfl rfl ?_
  refine m_getf 4 foX4_20 dX4_spell_1 rfl (by first | rfl | assumption) (by rfl) ?_
  refine m_cV (M' := MX3_clear) 7 [] kX4_26 imX3_clear seX3_clear clX3_clear dX4_spell_4 rfl rfl rfl (by first | rfl | assumption) (m_rmI (by omega) (Nat.le_of_ble_eq_true rfl) (Nat.le_refl _) (Nat.le_refl _)) (c_X3_clear (i := 13) hG (d + 1) h14) ?_
  refine i_const 8 dX4_spell_7 rfl ?_
  refine m_istore_n 9 dX4_spell_8 rfl (by decide) ?_
  refine i_const 10 dX4_spell_9 rfl ?_
  refine m_istore_n 11 dX4_spell_10 rfl (by decide) ?_
  rw [c0]
  exact l_X4_spell hG d h13 hw hN hNn hn h20 hM (t := txF mk n 0 0) (fun g hg => ⟨rfl, g, hg, rfl⟩) n 0 0 [] g0 (by omega) (hld_nil g0) ⟨by omega, by simp⟩ rfl
theorem txF_len (mk : Nat → Int) : ∀ (j p e : Nat), (txF mk j p e).length ≤ 3 * j + e
  | 0, p, e => by
    have := emp_len e
    unfold txF
    omega
  | j + 1, p, e => by
    unfold txF
    split
    · have := txF_len mk j (p + 1) (e + 1)
      omega
    · have a := txF_len mk j (p + 1) 0
      have b := emp_len e
      have c := num_len (mk p)
      have d : (if 0 < p ∧ e = 0 then [(32 : Int)] else []).length ≤ 1 := by split <;> simp
      have f : e = 0 ∨ (if 0 < p ∧ e = 0 then [(32 : Int)] else []).length = 0 := by
        by_cases he : e = 0
        · exact Or.inl he
        · right; rw [if_neg (fun h => he h.2)]; rfl
      simp only [List.length_append]
      omega
/-- byte i of a text, -1 where there is none -/
def atL (t : List Int) (i : Int) : Int := if 0 ≤ i ∧ i < t.length then t.getD i.toNat 0 else -1
set_option maxHeartbeats 4000000 in
set_option maxRecDepth 100000 in
theorem c_X7_text (hG : m_G G) (d : Nat) {k W H : Int} {n sl m : Nat} {col row bes : Nat → Int} {wal : Nat → Bool} (hX : cX w k W H n sl m col row bes wal) {mk : Nat → Int} (h20 : w[20]? = some (cI n mk)) (hM : ∀ j, j < n → 0 ≤ mk j ∧ mk j ≤ 99) (h13 : w[13]? = some oScribe) (hw : 15 < w.length) {l0 : Int} {g0 : Nat → Int} (h14 : w[14]? = some (oRow 15 l0)) (h15 : w[15]? = some (cI (3 * n) g0)) {i : Int} (hi : iR i) : m_Ct G MX7_text (m_r (d + 3) 0 0) [.ref 1, vI i] w (fun r x => r = some (some (vI (atL (txF mk n 0 0) i))) ∧ ∃ (l : Int) (g : Nat → Int), x = wS w (oRow 15 l) (cI (3 * n) g)) := by
  have hXX := hX
  obtain ⟨h1, h2, h3, h4, h5, h6, h7, h8, hF, hN, hsl, hcr, hbs⟩ := hX
  have hFF := hF
  have hNN := hN
  have hnb := hF.n
  obtain ⟨hk0, hk4, hW1, hW2, hH1, hH2, hn, hg4⟩ := hF
  obtain ⟨hn1, hn2, hl1, hl2, hm, hm2⟩ := hN
  have htl := txF_len mk n 0 0
  have hii := hi
  obtain ⟨hi1, hi2⟩ := hi
  refine m_enter (L := [some (.ref 1), some (vI i)]) (by decide) hG (m_c1 rfl) (Nat.le_of_ble_eq_true rfl) rfl ?_
  refine m_aload_n 1 dX7_text_0 rfl rfl ?_
  refine m_getf 4 foX7_46 dX7_text_1 rfl (by first | rfl | assumption) (by rfl) ?_
  refine m_aload_n 5 dX7_text_4 rfl rfl ?_
  refine m_getf 8 foX7_70 dX7_text_5 rfl (by first | rfl | assumption) (by rfl) ?_
  refine m_cVr (M' := MX4_spell) 11 [_] kX7_146 imX4_spell seX4_spell clX4_spell dX7_text_8 rfl rfl rfl (by first | rfl | assumption) (m_rmI (by omega) (Nat.le_of_ble_eq_true rfl) (Nat.le_refl _) (Nat.le_refl _)) (c_X4_spell hG d h13 hw (by omega) rfl (by omega) h20 hM h14 h15) (fun w2 h => by cases h.1) (fun v w2 h => ?_)
  obtain ⟨hv, g2, hl2, rfl⟩ := h
  cases hv
  have t1 : (wS w (oRow 15 ((txF mk n 0 0).length : Int)) (cI (3 * n) g2))[1]? = some oGrid := by rw [wS_n (by decide) (by decide)]; exact h1
  have t13 : (wS w (oRow 15 ((txF mk n 0 0).length : Int)) (cI (3 * n) g2))[13]? = some oScribe := by rw [wS_n (by decide) (by decide)]; exact h13
  have t14 : (wS w (oRow 15 ((txF mk n 0 0).length : Int)) (cI (3 * n) g2))[14]? = some (oRow 15 ((txF mk n 0 0).length : Int)) := wS_b hw
  have t15 : (wS w (oRow 15 ((txF mk n 0 0).length : Int)) (cI (3 * n) g2))[15]? = some (cI (3 * n) g2) := wS_c hw
  refine m_aload_n 12 dX7_text_11 rfl rfl ?_
  refine m_getf 15 foX7_46 dX7_text_12 rfl (by first | rfl | assumption) (by rfl) ?_
  refine m_getf 18 foX7_150 dX7_text_15 rfl (by first | rfl | assumption) (by rfl) ?_
  refine m_iload_n 19 dX7_text_18 rfl rfl ?_
  refine m_cV (M' := MX3_at) 22 [_] kX7_153 imX3_at seX3_at clX3_at dX7_text_19 rfl rfl rfl (by first | rfl | assumption) (m_rmI (by omega) (Nat.le_of_ble_eq_true rfl) (Nat.le_refl _) (Nat.le_refl _)) (c_X3_at hG (d + 2) t14 t15 ⟨by omega, by omega⟩ hii (by omega)) ?_
  refine i_ret _ dX7_text_22 rfl ⟨Nat.le_refl _, Nat.le_refl _⟩ ?_ ⟨rfl, _, _, rfl⟩
  unfold rAt atL
  by_cases hc : 0 ≤ i ∧ i < (txF mk n 0 0).length
  · rw [if_pos ⟨hc.1, hc.2, by omega⟩, if_pos hc]
    exact hl2 _ (by omega)
  · rw [if_neg (by omega), if_neg hc]
end SC
