/-! the class's constructors -/
section CT
theorem m_nr {fs : List Value} (h : fs.all (fun v => match v with | .ref _ => false | _ => true) = true) : ∀ v ∈ fs, ∀ i, v ≠ .ref i := by
  intro v hv i he
  have := List.all_eq_true.mp h v hv
  rw [he] at this
  cases this
abbrev dvX0 : List Value := [.null, vI 0, vI 0]
theorem dfX0 : ∀ j, j < 3 → defaultValue (tyX0 j) = vp_V dvX0 j := by
  intro j hj
  match j, hj with
  | 0, _ => rfl
  | 1, _ => rfl
  | 2, _ => rfl
theorem nrX0 : ∀ v ∈ dvX0, ∀ i, v ≠ .ref i := m_nr rfl
abbrev dvX1 : List Value := [vI 0, vI 0, vI 0, vI 0, .null, .null]
theorem dfX1 : ∀ j, j < 6 → defaultValue (tyX1 j) = vp_V dvX1 j := by
  intro j hj
  match j, hj with
  | 0, _ => rfl
  | 1, _ => rfl
  | 2, _ => rfl
  | 3, _ => rfl
  | 4, _ => rfl
  | 5, _ => rfl
theorem nrX1 : ∀ v ∈ dvX1, ∀ i, v ≠ .ref i := m_nr rfl
abbrev dvX2 : List Value := [vI 0, vI 0, .null, .null]
theorem dfX2 : ∀ j, j < 4 → defaultValue (tyX2 j) = vp_V dvX2 j := by
  intro j hj
  match j, hj with
  | 0, _ => rfl
  | 1, _ => rfl
  | 2, _ => rfl
  | 3, _ => rfl
theorem nrX2 : ∀ v ∈ dvX2, ∀ i, v ≠ .ref i := m_nr rfl
abbrev dvX3 : List Value := [.null, vI 0]
theorem dfX3 : ∀ j, j < 2 → defaultValue (tyX3 j) = vp_V dvX3 j := by
  intro j hj
  match j, hj with
  | 0, _ => rfl
  | 1, _ => rfl
theorem nrX3 : ∀ v ∈ dvX3, ∀ i, v ≠ .ref i := m_nr rfl
abbrev dvX4 : List Value := [.null]
theorem dfX4 : ∀ j, j < 1 → defaultValue (tyX4 j) = vp_V dvX4 j := by
  intro j hj
  match j, hj with
  | 0, _ => rfl
theorem nrX4 : ∀ v ∈ dvX4, ∀ i, v ≠ .ref i := m_nr rfl
abbrev dvX5 : List Value := [vI 0, .null]
theorem dfX5 : ∀ j, j < 2 → defaultValue (tyX5 j) = vp_V dvX5 j := by
  intro j hj
  match j, hj with
  | 0, _ => rfl
  | 1, _ => rfl
theorem nrX5 : ∀ v ∈ dvX5, ∀ i, v ≠ .ref i := m_nr rfl
abbrev dvX6 : List Value := [.null, .null, .null]
theorem dfX6 : ∀ j, j < 3 → defaultValue (tyX6 j) = vp_V dvX6 j := by
  intro j hj
  match j, hj with
  | 0, _ => rfl
  | 1, _ => rfl
  | 2, _ => rfl
theorem nrX6 : ∀ v ∈ dvX6, ∀ i, v ≠ .ref i := m_nr rfl
abbrev dvX7 : List Value := [.null, .null, .null, .null, .null, .null, .null, .null, .null]
theorem dfX7 : ∀ j, j < 9 → defaultValue (tyX7 j) = vp_V dvX7 j := by
  intro j hj
  match j, hj with
  | 0, _ => rfl
  | 1, _ => rfl
  | 2, _ => rfl
  | 3, _ => rfl
  | 4, _ => rfl
  | 5, _ => rfl
  | 6, _ => rfl
  | 7, _ => rfl
  | 8, _ => rfl
theorem nrX7 : ∀ v ∈ dvX7, ∀ i, v ≠ .ref i := m_nr rfl
abbrev dvX8 : List Value := [vI 0, vI 0, vI 0, vI 0, .null, .null, .null, .null, .null, .null, vI 0, .null, .null, vI 0, vI 0, vI 0]
theorem dfX8 : ∀ j, j < 16 → defaultValue (tyX8 j) = vp_V dvX8 j := by
  intro j hj
  match j, hj with
  | 0, _ => rfl
  | 1, _ => rfl
  | 2, _ => rfl
  | 3, _ => rfl
  | 4, _ => rfl
  | 5, _ => rfl
  | 6, _ => rfl
  | 7, _ => rfl
  | 8, _ => rfl
  | 9, _ => rfl
  | 10, _ => rfl
  | 11, _ => rfl
  | 12, _ => rfl
  | 13, _ => rfl
  | 14, _ => rfl
  | 15, _ => rfl
  | k + 16, h => exact absurd h (by omega)
theorem nrX8 : ∀ v ∈ dvX8, ∀ i, v ≠ .ref i := m_nr rfl
variable {G : mG} {M : mM} {R : Room} {Q : Option (Option Value) → List mC → Prop} {nc ns pc : Nat} {L : List (Option Value)} {st : List Value} {w : List mC}
theorem i_newI (pc' : Nat) {z : Int} (N : Nat) (hd : decode M.2.1 pc = .ok (.newarray .int, 2)) (hp : pc + 2 = pc') (hz : z = N) (hN : N < 67108864) (hn : nc + 1 ≤ R.cells ∧ ns + N ≤ R.slots) (k : m_J G M R Q (nc + 1) (ns + N) pc' L (.ref w.length :: st) (w ++ [cI N (fun _ => 0)])) : m_J G M R Q nc ns pc L (vI z :: st) w :=
  m_newa pc' ar_int rfl (Or.inl ⟨Or.inl rfl, rfl⟩) hd hp (by rw [hz]; exact iI_nI N) hN hn k
theorem i_newZ (pc' : Nat) {z : Int} (N : Nat) (hd : decode M.2.1 pc = .ok (.newarray .boolean, 2)) (hp : pc + 2 = pc') (hz : z = N) (hN : N < 67108864) (hn : nc + 1 ≤ R.cells ∧ ns + N ≤ R.slots) (k : m_J G M R Q (nc + 1) (ns + N) pc' L (.ref w.length :: st) (w ++ [cZ N (fun _ => false)])) : m_J G M R Q nc ns pc L (vI z :: st) w :=
  m_newa pc' ar_boolean rfl (Or.inl ⟨Or.inr rfl, rfl⟩) hd hp (by rw [hz]; exact iI_nI N) hN hn k
theorem i_newJ (pc' : Nat) {z : Int} (N : Nat) (hd : decode M.2.1 pc = .ok (.newarray .long, 2)) (hp : pc + 2 = pc') (hz : z = N) (hN : N < 67108864) (hn : nc + 1 ≤ R.cells ∧ ns + N ≤ R.slots) (k : m_J G M R Q (nc + 1) (ns + N) pc' L (.ref w.length :: st) (w ++ [mJ N (fun _ => 0)])) : m_J G M R Q nc ns pc L (vI z :: st) w :=
  m_newa pc' ar_long rfl (Or.inr ⟨rfl, rfl⟩) hd hp (by rw [hz]; exact iI_nI N) hN hn k
def wtn (v a b : Int) : Int := if v < a then a else if b < v then b else v
set_option maxHeartbeats 4000000 in
set_option maxRecDepth 100000 in
theorem c_X7_within (hG : m_G G) (d : Nat) {v a b : Int} (hv : iR v) (ha : iR a) (hb : iR b) (hab : a ≤ b) : m_Cv G MX7_within (m_r d 0 0) [vI v, vI a, vI b] w (some (vI (wtn v a b))) w := by
  obtain ⟨hv1, hv2⟩ := hv
  obtain ⟨ha1, ha2⟩ := ha
  obtain ⟨hb1, hb2⟩ := hb
  refine m_enter (L := [some (vI v), some (vI a), some (vI b)]) (by decide) hG (m_c1 rfl) (Nat.le_of_ble_eq_true rfl) rfl ?_
  refine m_iload_n 1 dX7_within_0 rfl rfl ?_
  refine m_iload_n 2 dX7_within_1 rfl rfl ?_
  refine i_icmp_ge 5 9 ⟨by omega, by omega⟩ ⟨by omega, by omega⟩ dX7_within_2 rfl (by decide) (fun q2 => ?_) (fun q2 => ?_)
  · refine m_iload_n 10 dX7_within_9 rfl rfl ?_
    refine m_iload_n 11 dX7_within_10 rfl rfl ?_
    refine i_icmp_le 14 18 ⟨by omega, by omega⟩ ⟨by omega, by omega⟩ dX7_within_11 rfl (by decide) (fun q11 => ?_) (fun q11 => ?_)
    · refine m_iload_n 19 dX7_within_18 rfl rfl ?_
      refine i_ret _ dX7_within_19 rfl ⟨Nat.le_refl _, Nat.le_refl _⟩ ?_ ⟨rfl, rfl⟩
      unfold wtn
      split <;> first | omega | (split <;> omega)
    · refine m_iload_n 15 dX7_within_14 rfl rfl ?_
      refine m_goto 19 dX7_within_15 (by decide) ?_
      refine i_ret _ dX7_within_19 rfl ⟨Nat.le_refl _, Nat.le_refl _⟩ ?_ ⟨rfl, rfl⟩
      unfold wtn
      split <;> first | omega | (split <;> omega)
  · refine m_iload_n 6 dX7_within_5 rfl rfl ?_
    refine m_goto 19 dX7_within_6 (by decide) ?_
    refine i_ret _ dX7_within_19 rfl ⟨Nat.le_refl _, Nat.le_refl _⟩ ?_ ⟨rfl, rfl⟩
    unfold wtn
    split <;> first | omega | (split <;> omega)
set_option maxHeartbeats 4000000 in
set_option maxRecDepth 100000 in
theorem c_X3_init (hG : m_G G) (d : Nat) {i N : Nat} (hN : N ≤ 1200) (h1 : w[i + 1]? = some (mO 3 [.null, vI 0])) (hi : i + 1 < w.length) : m_Cv G MX3_init (m_r (d + 1) 1 N) [.ref (i + 1), vI N] w none ((w ++ [cI N (fun _ => 0)]).set (i + 1) (oRow w.length 0)) := by
  have b1 : (w ++ [cI N (fun _ => 0)])[i + 1]? = some (mO 3 [.null, vI 0]) := by rw [List.getElem?_append_left hi]; exact h1
  refine m_enter (L := [some (.ref (i + 1)), some (vI N)]) (by decide) hG (m_c1 rfl) (Nat.le_of_ble_eq_true rfl) rfl ?_
  refine m_aload_n 1 dX3_init_0 rfl rfl ?_
  refine m_objInit 4 kX3_3 oi1 oi2 dX3_init_1 rfl (by constructor <;> (simp only [m_r, List.map, Value.category, List.sum_cons, List.sum_nil]; omega)) ?_
  refine m_aload_n 5 dX3_init_4 rfl rfl ?_
  refine m_iload_n 6 dX3_init_5 rfl rfl ?_
  refine i_if_ge 9 13 ⟨by omega, by omega⟩ dX3_init_6 rfl (by decide) (fun _ => ?_) (fun h => absurd h (by omega))
  refine m_iload_n 14 dX3_init_13 rfl rfl ?_
  refine i_newI 16 N dX3_init_14 rfl rfl (by omega) (by constructor <;> (simp only [m_r]; omega)) ?_
  refine m_putf 19 tyX3 rfl tyX3_ok nmX3 (Or.inr ⟨rfl, rfl, rfl⟩) foX3_9 dX3_init_16 rfl (by first | rfl | assumption) (Nat.le_of_ble_eq_true rfl) (Or.inr (Or.inr (Or.inl ⟨⟨_, rfl⟩, _, rfl⟩))) ?_
  refine m_vret dX3_init_19 rfl (by constructor <;> (simp only [m_r]; omega)) ?_
  exact ⟨rfl, rfl⟩
theorem mulN {y W : Nat} (h : 0 < W) (x : Nat) (hx : x < W) : (W * y + x) % W = x ∧ (W * y + x) / W = y := by
  constructor
  · rw [Nat.mul_add_mod, Nat.mod_eq_of_lt hx]
  · rw [Nat.mul_add_div h, Nat.div_eq_of_lt hx, Nat.add_zero]
abbrev fC (W i : Nat) : Nat → Int := fill i (fun j => ((j % W : Nat) : Int)) (fun _ => 0)
abbrev fR (W i : Nat) : Nat → Int := fill i (fun j => ((j / W : Nat) : Int)) (fun _ => 0)
theorem fC_0 (W : Nat) : fC W 0 = fun _ => 0 := fill_0 _ _
theorem fR_0 (W : Nat) : fR W 0 = fun _ => 0 := fill_0 _ _
variable {s g : mC}

set_option maxHeartbeats 4000000 in
set_option maxRecDepth 100000 in
theorem l_X1_inner (hG : m_G G) {k a b c : Int} {W H n : Nat} (hW : 1 ≤ W ∧ W ≤ 16) (hH : 1 ≤ H ∧ H ≤ 16) (hn : n = W * H) {y : Nat} (hy : y < H) (kk : m_J G MX1_init R Q nc ns 145 [some (.ref 2), some (vI a), some (vI b), some (vI c), some (vI (y : Int)), some (vI (W : Int))] [] [s, g, oFrame k W H n, cI n (fC W (W * y + W)), cI n (fR W (W * y + W))]) :
    ∀ (j x : Nat), x + j = W → m_J G MX1_init R Q nc ns 96 [some (.ref 2), some (vI a), some (vI b), some (vI c), some (vI (y : Int)), some (vI (x : Int))] [] [s, g, oFrame k W H n, cI n (fC W (W * y + x)), cI n (fR W (W * y + x))] := by
  have hnn : n ≤ 256 := by rw [hn]; exact Nat.mul_le_mul hW.2 hH.2
  intro j
  induction j with
  | zero =>
    intro x hx
    have hxW : x = W := by omega
    subst hxW
    refine m_iload 98 dX1_init_96 rfl rfl ?_
    refine m_aload_n 99 dX1_init_98 rfl rfl ?_
    refine m_getf 102 foX1_19 dX1_init_99 rfl (by first | rfl | assumption) (by rfl) ?_
    refine i_icmp_ge 105 145 ⟨by omega, by omega⟩ ⟨by omega, by omega⟩ dX1_init_102 rfl (by decide) (fun _ => ?_) (fun h => absurd h (by omega))
    exact kk
  | succ j ih =>
    intro x hx
    have h1 : W * (y + 1) ≤ W * H := Nat.mul_le_mul_left W (by omega)
    rw [Nat.mul_add] at h1
    have hi : W * y + x < n := by omega
    have e1 : (W : Int) * (y : Int) + (x : Int) = ((W * y + x : Nat) : Int) := by rw [Int.natCast_add, Int.natCast_mul]
    have e2 := mulN (y := y) (by omega : 0 < W) x (by omega)
    have e3 : up (fC W (W * y + x)) (W * y + x) (x : Int) = fC W (W * y + (x + 1)) := by
      have := fill_s (W * y + x) (fun j => ((j % W : Nat) : Int)) (fun _ => 0)
      simp only [e2.1] at this
      exact this
    have e4 : up (fR W (W * y + x)) (W * y + x) (y : Int) = fR W (W * y + (x + 1)) := by
      have := fill_s (W * y + x) (fun j => ((j / W : Nat) : Int)) (fun _ => 0)
      simp only [e2.2] at this
      exact this
    refine m_iload 98 dX1_init_96 rfl rfl ?_
    refine m_aload_n 99 dX1_init_98 rfl rfl ?_
    refine m_getf 102 foX1_19 dX1_init_99 rfl (by first | rfl | assumption) (by rfl) ?_
    refine i_icmp_ge 105 145 ⟨by omega, by omega⟩ ⟨by omega, by omega⟩ dX1_init_102 rfl (by decide) (fun h => absurd h (by omega)) (fun _ => ?_)
    refine m_aload_n 106 dX1_init_105 rfl rfl ?_
    refine m_getf 109 foX1_28 dX1_init_106 rfl (by first | rfl | assumption) (by rfl) ?_
    refine m_aload_n 110 dX1_init_109 rfl rfl ?_
    refine m_getf 113 foX1_19 dX1_init_110 rfl (by first | rfl | assumption) (by rfl) ?_
    refine m_iload 115 dX1_init_113 rfl rfl ?_
    refine i_mul 116 dX1_init_115 rfl ?_
    refine m_iload 118 dX1_init_116 rfl rfl ?_
    refine i_add 119 dX1_init_118 rfl ?_
    rw [e1]
    refine m_iload 121 dX1_init_119 rfl rfl ?_
    refine i_ast 122 dX1_init_121 rfl (by first | rfl | assumption) ⟨by omega, by omega, by omega⟩ ?_
    rw [Int.toNat_natCast, e3]
    show m_J _ _ _ _ _ _ _ _ _ [s, g, oFrame k W H n, cI n (fC W (W * y + (x + 1))), cI n (fR W (W * y + x))]
    refine m_aload_n 123 dX1_init_122 rfl rfl ?_
    refine m_getf 126 foX1_32 dX1_init_123 rfl (by first | rfl | assumption) (by rfl) ?_
    refine m_aload_n 127 dX1_init_126 rfl rfl ?_
    refine m_getf 130 foX1_19 dX1_init_127 rfl (by first | rfl | assumption) (by rfl) ?_
    refine m_iload 132 dX1_init_130 rfl rfl ?_
    refine i_mul 133 dX1_init_132 rfl ?_
    refine m_iload 135 dX1_init_133 rfl rfl ?_
    refine i_add 136 dX1_init_135 rfl ?_
    rw [e1]
    refine m_iload 138 dX1_init_136 rfl rfl ?_
    refine i_ast 139 dX1_init_138 rfl (by first | rfl | assumption) ⟨by omega, by omega, by omega⟩ ?_
    rw [Int.toNat_natCast, e4]
    show m_J _ _ _ _ _ _ _ _ _ [s, g, oFrame k W H n, cI n (fC W (W * y + (x + 1))), cI n (fR W (W * y + (x + 1)))]
    refine i_inc 142 dX1_init_139 rfl rfl (by decide) ?_
    refine m_goto 96 dX1_init_142 (by decide) ?_
    exact ih (x + 1) (by omega)
set_option maxHeartbeats 4000000 in
set_option maxRecDepth 100000 in
theorem l_X1_outer (hG : m_G G) {k a b c : Int} {W H n : Nat} (hW : 1 ≤ W ∧ W ≤ 16) (hH : 1 ≤ H ∧ H ≤ 16) (hn : n = W * H) (hR : nc ≤ R.cells ∧ ns ≤ R.slots) :
    ∀ (j y : Nat) (l5 : Option Value), y + j = H → m_J G MX1_init R (fun r x => r = some none ∧ x = [s, g, oFrame k W H n, cI n (fC W n), cI n (fR W n)]) nc ns 84 [some (.ref 2), some (vI a), some (vI b), some (vI c), some (vI (y : Int)), l5] [] [s, g, oFrame k W H n, cI n (fC W (W * y)), cI n (fR W (W * y))] := by
  intro j
  induction j with
  | zero =>
    intro y l5 hy
    have hyH : y = H := by omega
    subst hyH
    refine m_iload 86 dX1_init_84 rfl rfl ?_
    refine m_aload_n 87 dX1_init_86 rfl rfl ?_
    refine m_getf 90 foX1_22 dX1_init_87 rfl (by first | rfl | assumption) (by rfl) ?_
    refine i_icmp_ge 93 151 ⟨by omega, by omega⟩ ⟨by omega, by omega⟩ dX1_init_90 rfl (by decide) (fun _ => ?_) (fun h => absurd h (by omega))
    refine m_vret dX1_init_151 rfl hR ?_
    rw [← hn]
    exact ⟨rfl, rfl⟩
  | succ j ih =>
    intro y l5 hy
    refine m_iload 86 dX1_init_84 rfl rfl ?_
    refine m_aload_n 87 dX1_init_86 rfl rfl ?_
    refine m_getf 90 foX1_22 dX1_init_87 rfl (by first | rfl | assumption) (by rfl) ?_
    refine i_icmp_ge 93 151 ⟨by omega, by omega⟩ ⟨by omega, by omega⟩ dX1_init_90 rfl (by decide) (fun h => absurd h (by omega)) (fun _ => ?_)
    refine i_const 94 dX1_init_93 rfl ?_
    refine m_istore 96 dX1_init_94 rfl (by decide) ?_
    refine l_X1_inner hG hW hH hn (y := y) (by omega) ?_ W 0 (by omega)
    refine i_inc 148 dX1_init_145 rfl rfl (by decide) ?_
    refine m_goto 84 dX1_init_148 (by decide) ?_
    exact ih (y + 1) _ (by omega)
set_option maxHeartbeats 4000000 in
set_option maxRecDepth 100000 in
theorem c_X1_initN (hG : m_G G) (d : Nat) {k a b c : Int} {W H n : Nat} (hra : iR a) (hrb : iR b) (hrc : iR c) (hk : k = wtn a 0 4) (hWe : (W : Int) = wtn b 1 16) (hHe : (H : Int) = wtn c 1 16) (hk4 : k ≠ 4) (hn : n = W * H) : m_Cv G MX1_init (m_r (d + 2) 2 512) [.ref 2, vI a, vI b, vI c] [s, g, mO 1 dvX1] none [s, g, oFrame k W H n, cI n (fC W n), cI n (fR W n)] := by
  have hkr : 0 ≤ k ∧ k ≤ 4 := by rw [hk]; unfold wtn; split <;> first | omega | (split <;> omega)
  have hW : 1 ≤ W ∧ W ≤ 16 := by unfold wtn at hWe; split at hWe <;> first | omega | (split at hWe <;> omega)
  have hH : 1 ≤ H ∧ H ≤ 16 := by unfold wtn at hHe; split at hHe <;> first | omega | (split at hHe <;> omega)
  have hnn : n ≤ 256 := by rw [hn]; exact Nat.mul_le_mul hW.2 hH.2
  have hnZ : (W : Int) * (H : Int) = (n : Int) := by rw [hn, Int.natCast_mul]
  have hG8 : ∀ {w : List mC}, m_Cv G MX7_within (m_r (d + 1) 0 0) [vI a, vI 0, vI 4] w (some (vI k)) w := by rw [hk]; exact c_X7_within hG (d + 1) hra ⟨by decide, by decide⟩ ⟨by decide, by decide⟩ (by decide)
  have hG19 : ∀ {w : List mC}, m_Cv G MX7_within (m_r (d + 1) 0 0) [vI b, vI 1, vI 16] w (some (vI (W : Int))) w := by rw [hWe]; exact c_X7_within hG (d + 1) hrb ⟨by decide, by decide⟩ ⟨by decide, by decide⟩ (by decide)
  have hG42 : ∀ {w : List mC}, m_Cv G MX7_within (m_r (d + 1) 0 0) [vI c, vI 1, vI 16] w (some (vI (H : Int))) w := by rw [hHe]; exact c_X7_within hG (d + 1) hrc ⟨by decide, by decide⟩ ⟨by decide, by decide⟩ (by decide)
  refine m_enter (L := [some (.ref 2), some (vI a), some (vI b), some (vI c), none, none]) (by decide) hG (m_c1 rfl) (Nat.le_of_ble_eq_true rfl) rfl ?_
  refine m_aload_n 1 dX1_init_0 rfl rfl ?_
  refine m_objInit 4 kX1_3 oi1 oi2 dX1_init_1 rfl (by constructor <;> (simp only [m_r, List.map, Value.category, List.sum_cons, List.sum_nil]; omega)) ?_
  refine m_aload_n 5 dX1_init_4 rfl rfl ?_
  refine m_iload_n 6 dX1_init_5 rfl rfl ?_
  refine i_const 7 dX1_init_6 rfl ?_
  refine i_const 8 dX1_init_7 rfl ?_
  refine m_cSN (M' := MX7_within) 11 [_, _, _] kX1_9 stX7_within clX7_within dX1_init_8 rfl rfl (m_rmI (by omega) (Nat.le_of_ble_eq_true rfl) (by first | omega | (simp only [m_r]; omega)) (by first | omega | (simp only [m_r]; omega))) (hG8) ?_
  refine m_putf 14 tyX1 rfl tyX1_ok nmX1 (Or.inr ⟨rfl, rfl, rfl⟩) foX1_13 dX1_init_11 rfl (by first | rfl | assumption) (Nat.le_of_ble_eq_true rfl) (Or.inl ⟨rfl, _, rfl⟩) ?_
  show m_J _ _ _ _ _ _ _ _ _ [s, g, mO 1 [vI k, vI 0, vI 0, vI 0, .null, .null]]
  refine m_aload_n 15 dX1_init_14 rfl rfl ?_
  refine m_iload_n 16 dX1_init_15 rfl rfl ?_
  refine i_const 17 dX1_init_16 rfl ?_
  refine i_bipush 19 16 dX1_init_17 rfl (by decide) ?_
  refine m_cSN (M' := MX7_within) 22 [_, _, _] kX1_9 stX7_within clX7_within dX1_init_19 rfl rfl (m_rmI (by omega) (Nat.le_of_ble_eq_true rfl) (by first | omega | (simp only [m_r]; omega)) (by first | omega | (simp only [m_r]; omega))) (hG19) ?_
  refine m_putf 25 tyX1 rfl tyX1_ok nmX1 (Or.inr ⟨rfl, rfl, rfl⟩) foX1_19 dX1_init_22 rfl (by first | rfl | assumption) (Nat.le_of_ble_eq_true rfl) (Or.inl ⟨rfl, _, rfl⟩) ?_
  show m_J _ _ _ _ _ _ _ _ _ [s, g, mO 1 [vI k, vI (W : Int), vI 0, vI 0, .null, .null]]
  refine m_aload_n 26 dX1_init_25 rfl rfl ?_
  refine m_aload_n 27 dX1_init_26 rfl rfl ?_
  refine m_getf 30 foX1_13 dX1_init_27 rfl (by first | rfl | assumption) (by rfl) ?_
  refine i_const 31 dX1_init_30 rfl ?_
  refine i_icmp_ne 34 38 ⟨by omega, by omega⟩ ⟨by omega, by omega⟩ dX1_init_31 rfl (by decide) (fun _ => ?_) (fun h => absurd h (by omega))
  refine m_iload_n 39 dX1_init_38 rfl rfl ?_
  refine i_const 40 dX1_init_39 rfl ?_
  refine i_bipush 42 16 dX1_init_40 rfl (by decide) ?_
  refine m_cSN (M' := MX7_within) 45 [_, _, _] kX1_9 stX7_within clX7_within dX1_init_42 rfl rfl (m_rmI (by omega) (Nat.le_of_ble_eq_true rfl) (by first | omega | (simp only [m_r]; omega)) (by first | omega | (simp only [m_r]; omega))) (hG42) ?_
  refine m_putf 48 tyX1 rfl tyX1_ok nmX1 (Or.inr ⟨rfl, rfl, rfl⟩) foX1_22 dX1_init_45 rfl (by first | rfl | assumption) (Nat.le_of_ble_eq_true rfl) (Or.inl ⟨rfl, _, rfl⟩) ?_
  show m_J _ _ _ _ _ _ _ _ _ [s, g, mO 1 [vI k, vI (W : Int), vI (H : Int), vI 0, .null, .null]]
  refine m_aload_n 49 dX1_init_48 rfl rfl ?_
  refine m_aload_n 50 dX1_init_49 rfl rfl ?_
  refine m_getf 53 foX1_19 dX1_init_50 rfl (by first | rfl | assumption) (by rfl) ?_
  refine m_aload_n 54 dX1_init_53 rfl rfl ?_
  refine m_getf 57 foX1_22 dX1_init_54 rfl (by first | rfl | assumption) (by rfl) ?_
  refine i_mul 58 dX1_init_57 rfl ?_
  rw [hnZ]
  refine m_putf 61 tyX1 rfl tyX1_ok nmX1 (Or.inr ⟨rfl, rfl, rfl⟩) foX1_25 dX1_init_58 rfl (by first | rfl | assumption) (Nat.le_of_ble_eq_true rfl) (Or.inl ⟨rfl, _, rfl⟩) ?_
  show m_J _ _ _ _ _ _ _ _ _ [s, g, mO 1 [vI k, vI (W : Int), vI (H : Int), vI (n : Int), .null, .null]]
  refine m_aload_n 62 dX1_init_61 rfl rfl ?_
  refine m_aload_n 63 dX1_init_62 rfl rfl ?_
  refine m_getf 66 foX1_25 dX1_init_63 rfl (by first | rfl | assumption) (by rfl) ?_
  refine i_newI 68 n dX1_init_66 rfl rfl (by omega) (by constructor <;> (simp only [m_r]; omega)) ?_
  show m_J _ _ _ _ _ _ _ _ (.ref 3 :: _) [s, g, mO 1 [vI k, vI (W : Int), vI (H : Int), vI (n : Int), .null, .null], cI n (fun _ => 0)]
  refine m_putf 71 tyX1 rfl tyX1_ok nmX1 (Or.inr ⟨rfl, rfl, rfl⟩) foX1_28 dX1_init_68 rfl (by first | rfl | assumption) (Nat.le_of_ble_eq_true rfl) (Or.inr (Or.inr (Or.inl ⟨⟨_, rfl⟩, _, rfl⟩))) ?_
  show m_J _ _ _ _ _ _ _ _ _ [s, g, mO 1 [vI k, vI (W : Int), vI (H : Int), vI (n : Int), .ref 3, .null], cI n (fun _ => 0)]
  refine m_aload_n 72 dX1_init_71 rfl rfl ?_
  refine m_aload_n 73 dX1_init_72 rfl rfl ?_
  refine m_getf 76 foX1_25 dX1_init_73 rfl (by first | rfl | assumption) (by rfl) ?_
  refine i_newI 78 n dX1_init_76 rfl rfl (by omega) (by constructor <;> (simp only [m_r]; omega)) ?_
  show m_J _ _ _ _ _ _ _ _ (.ref 4 :: _) [s, g, mO 1 [vI k, vI (W : Int), vI (H : Int), vI (n : Int), .ref 3, .null], cI n (fun _ => 0), cI n (fun _ => 0)]
  refine m_putf 81 tyX1 rfl tyX1_ok nmX1 (Or.inr ⟨rfl, rfl, rfl⟩) foX1_32 dX1_init_78 rfl (by first | rfl | assumption) (Nat.le_of_ble_eq_true rfl) (Or.inr (Or.inr (Or.inl ⟨⟨_, rfl⟩, _, rfl⟩))) ?_
  show m_J _ _ _ _ _ _ _ _ _ [s, g, mO 1 [vI k, vI (W : Int), vI (H : Int), vI (n : Int), .ref 3, .ref 4], cI n (fun _ => 0), cI n (fun _ => 0)]
  refine i_const 82 dX1_init_81 rfl ?_
  refine m_istore 84 dX1_init_82 rfl (by decide) ?_
  have e := l_X1_outer (s := s) (g := g) (R := m_r (d + 2) 2 512) (nc := 0 + 0 + 0 + 1 + 1) (ns := 0 + 0 + 0 + n + n) hG (k := k) (a := a) (b := b) (c := c) hW hH hn (by constructor <;> (simp only [m_r]; omega)) H 0 none (by omega)
  rw [Nat.mul_zero, fC_0, fR_0] at e
  exact e
set_option maxHeartbeats 4000000 in
set_option maxRecDepth 100000 in
theorem c_X1_initG (hG : m_G G) (d : Nat) {k a b c : Int} {W H n : Nat} (hra : iR a) (hrb : iR b) (hrc : iR c) (hk : k = wtn a 0 4) (hWe : (W : Int) = wtn b 1 16) (hHe : H = 1) (hk4 : k = 4) (hn : n = W * H) : m_Cv G MX1_init (m_r (d + 2) 2 512) [.ref 2, vI a, vI b, vI c] [s, g, mO 1 dvX1] none [s, g, oFrame k W H n, cI n (fC W n), cI n (fR W n)] := by
  have hkr : 0 ≤ k ∧ k ≤ 4 := by rw [hk]; unfold wtn; split <;> first | omega | (split <;> omega)
  have hW : 1 ≤ W ∧ W ≤ 16 := by unfold wtn at hWe; split at hWe <;> first | omega | (split at hWe <;> omega)
  have hH : 1 ≤ H ∧ H ≤ 16 := by omega
  have hH1 : (1 : Int) = (H : Int) := by omega
  have hnn : n ≤ 256 := by rw [hn]; exact Nat.mul_le_mul hW.2 hH.2
  have hnZ : (W : Int) * (H : Int) = (n : Int) := by rw [hn, Int.natCast_mul]
  have hG8 : ∀ {w : List mC}, m_Cv G MX7_within (m_r (d + 1) 0 0) [vI a, vI 0, vI 4] w (some (vI k)) w := by rw [hk]; exact c_X7_within hG (d + 1) hra ⟨by decide, by decide⟩ ⟨by decide, by decide⟩ (by decide)
  have hG19 : ∀ {w : List mC}, m_Cv G MX7_within (m_r (d + 1) 0 0) [vI b, vI 1, vI 16] w (some (vI (W : Int))) w := by rw [hWe]; exact c_X7_within hG (d + 1) hrb ⟨by decide, by decide⟩ ⟨by decide, by decide⟩ (by decide)
  refine m_enter (L := [some (.ref 2), some (vI a), some (vI b), some (vI c), none, none]) (by decide) hG (m_c1 rfl) (Nat.le_of_ble_eq_true rfl) rfl ?_
  refine m_aload_n 1 dX1_init_0 rfl rfl ?_
  refine m_objInit 4 kX1_3 oi1 oi2 dX1_init_1 rfl (by constructor <;> (simp only [m_r, List.map, Value.category, List.sum_cons, List.sum_nil]; omega)) ?_
  refine m_aload_n 5 dX1_init_4 rfl rfl ?_
  refine m_iload_n 6 dX1_init_5 rfl rfl ?_
  refine i_const 7 dX1_init_6 rfl ?_
  refine i_const 8 dX1_init_7 rfl ?_
  refine m_cSN (M' := MX7_within) 11 [_, _, _] kX1_9 stX7_within clX7_within dX1_init_8 rfl rfl (m_rmI (by omega) (Nat.le_of_ble_eq_true rfl) (by first | omega | (simp only [m_r]; omega)) (by first | omega | (simp only [m_r]; omega))) (hG8) ?_
  refine m_putf 14 tyX1 rfl tyX1_ok nmX1 (Or.inr ⟨rfl, rfl, rfl⟩) foX1_13 dX1_init_11 rfl (by first | rfl | assumption) (Nat.le_of_ble_eq_true rfl) (Or.inl ⟨rfl, _, rfl⟩) ?_
  show m_J _ _ _ _ _ _ _ _ _ [s, g, mO 1 [vI k, vI 0, vI 0, vI 0, .null, .null]]
  refine m_aload_n 15 dX1_init_14 rfl rfl ?_
  refine m_iload_n 16 dX1_init_15 rfl rfl ?_
  refine i_const 17 dX1_init_16 rfl ?_
  refine i_bipush 19 16 dX1_init_17 rfl (by decide) ?_
  refine m_cSN (M' := MX7_within) 22 [_, _, _] kX1_9 stX7_within clX7_within dX1_init_19 rfl rfl (m_rmI (by omega) (Nat.le_of_ble_eq_true rfl) (by first | omega | (simp only [m_r]; omega)) (by first | omega | (simp only [m_r]; omega))) (hG19) ?_
  refine m_putf 25 tyX1 rfl tyX1_ok nmX1 (Or.inr ⟨rfl, rfl, rfl⟩) foX1_19 dX1_init_22 rfl (by first | rfl | assumption) (Nat.le_of_ble_eq_true rfl) (Or.inl ⟨rfl, _, rfl⟩) ?_
  show m_J _ _ _ _ _ _ _ _ _ [s, g, mO 1 [vI k, vI (W : Int), vI 0, vI 0, .null, .null]]
  refine m_aload_n 26 dX1_init_25 rfl rfl ?_
  refine m_aload_n 27 dX1_init_26 rfl rfl ?_
  refine m_getf 30 foX1_13 dX1_init_27 rfl (by first | rfl | assumption) (by rfl) ?_
  refine i_const 31 dX1_init_30 rfl ?_
  refine i_icmp_ne 34 38 ⟨by omega, by omega⟩ ⟨by omega, by omega⟩ dX1_init_31 rfl (by decide) (fun h => absurd h (by omega)) (fun _ => ?_)
  refine i_const 35 dX1_init_34 rfl ?_
  refine m_goto 45 dX1_init_35 (by decide) ?_
  rw [hH1]
  refine m_putf 48 tyX1 rfl tyX1_ok nmX1 (Or.inr ⟨rfl, rfl, rfl⟩) foX1_22 dX1_init_45 rfl (by first | rfl | assumption) (Nat.le_of_ble_eq_true rfl) (Or.inl ⟨rfl, _, rfl⟩) ?_
  show m_J _ _ _ _ _ _ _ _ _ [s, g, mO 1 [vI k, vI (W : Int), vI (H : Int), vI 0, .null, .null]]
  refine m_aload_n 49 dX1_init_48 rfl rfl ?_
  refine m_aload_n 50 dX1_init_49 rfl rfl ?_
  refine m_getf 53 foX1_19 dX1_init_50 rfl (by first | rfl | assumption) (by rfl) ?_
  refine m_aload_n 54 dX1_init_53 rfl rfl ?_
  refine m_getf 57 foX1_22 dX1_init_54 rfl (by first | rfl | assumption) (by rfl) ?_
  refine i_mul 58 dX1_init_57 rfl ?_
  rw [hnZ]
  refine m_putf 61 tyX1 rfl tyX1_ok nmX1 (Or.inr ⟨rfl, rfl, rfl⟩) foX1_25 dX1_init_58 rfl (by first | rfl | assumption) (Nat.le_of_ble_eq_true rfl) (Or.inl ⟨rfl, _, rfl⟩) ?_
  show m_J _ _ _ _ _ _ _ _ _ [s, g, mO 1 [vI k, vI (W : Int), vI (H : Int), vI (n : Int), .null, .null]]
  refine m_aload_n 62 dX1_init_61 rfl rfl ?_
  refine m_aload_n 63 dX1_init_62 rfl rfl ?_
  refine m_getf 66 foX1_25 dX1_init_63 rfl (by first | rfl | assumption) (by rfl) ?_
  refine i_newI 68 n dX1_init_66 rfl rfl (by omega) (by constructor <;> (simp only [m_r]; omega)) ?_
  show m_J _ _ _ _ _ _ _ _ (.ref 3 :: _) [s, g, mO 1 [vI k, vI (W : Int), vI (H : Int), vI (n : Int), .null, .null], cI n (fun _ => 0)]
  refine m_putf 71 tyX1 rfl tyX1_ok nmX1 (Or.inr ⟨rfl, rfl, rfl⟩) foX1_28 dX1_init_68 rfl (by first | rfl | assumption) (Nat.le_of_ble_eq_true rfl) (Or.inr (Or.inr (Or.inl ⟨⟨_, rfl⟩, _, rfl⟩))) ?_
  show m_J _ _ _ _ _ _ _ _ _ [s, g, mO 1 [vI k, vI (W : Int), vI (H : Int), vI (n : Int), .ref 3, .null], cI n (fun _ => 0)]
  refine m_aload_n 72 dX1_init_71 rfl rfl ?_
  refine m_aload_n 73 dX1_init_72 rfl rfl ?_
  refine m_getf 76 foX1_25 dX1_init_73 rfl (by first | rfl | assumption) (by rfl) ?_
  refine i_newI 78 n dX1_init_76 rfl rfl (by omega) (by constructor <;> (simp only [m_r]; omega)) ?_
  show m_J _ _ _ _ _ _ _ _ (.ref 4 :: _) [s, g, mO 1 [vI k, vI (W : Int), vI (H : Int), vI (n : Int), .ref 3, .null], cI n (fun _ => 0), cI n (fun _ => 0)]
  refine m_putf 81 tyX1 rfl tyX1_ok nmX1 (Or.inr ⟨rfl, rfl, rfl⟩) foX1_32 dX1_init_78 rfl (by first | rfl | assumption) (Nat.le_of_ble_eq_true rfl) (Or.inr (Or.inr (Or.inl ⟨⟨_, rfl⟩, _, rfl⟩))) ?_
  show m_J _ _ _ _ _ _ _ _ _ [s, g, mO 1 [vI k, vI (W : Int), vI (H : Int), vI (n : Int), .ref 3, .ref 4], cI n (fun _ => 0), cI n (fun _ => 0)]
  refine i_const 82 dX1_init_81 rfl ?_
  refine m_istore 84 dX1_init_82 rfl (by decide) ?_
  have e := l_X1_outer (s := s) (g := g) (R := m_r (d + 2) 2 512) (nc := 0 + 0 + 0 + 1 + 1) (ns := 0 + 0 + 0 + n + n) hG (k := k) (a := a) (b := b) (c := c) hW hH hn (by constructor <;> (simp only [m_r]; omega)) H 0 none (by omega)
  rw [Nat.mul_zero, fC_0, fR_0] at e
  exact e
end CT
