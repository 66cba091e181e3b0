/-! the class's constructors, the rest -/
section CU
variable {G : mG} {M : mM} {R : Room} {Q : Option (Option Value) → List mC → Prop} {nc ns pc : Nat} {L : List (Option Value)} {st : List Value} {w : List mC} {s g : mC}
def bs0 (k : Int) (W H sl : Nat) (j : Nat) : Int := stp k W H ((j / sl % W : Nat) : Int) ((j / sl / W : Nat) : Int) ((j % sl : Nat) : Int)
abbrev fB (k : Int) (W H sl i : Nat) : Nat → Int := fill i (bs0 k W H sl) (fun _ => 0)
theorem fB_0 (k : Int) (W H sl : Nat) : fB k W H sl 0 = fun _ => 0 := fill_0 _ _
theorem fC_j {W n j : Nat} (h : j < n) : fC W n j = ((j % W : Nat) : Int) := by show (if j < n then _ else _) = _; rw [if_pos h]
theorem fR_j {W n j : Nat} (h : j < n) : fR W n j = ((j / W : Nat) : Int) := by show (if j < n then _ else _) = _; rw [if_pos h]
theorem fxy {W H n j : Nat} (hn : n = W * H) (hW : 1 ≤ W) (h : j < n) : j % W < W ∧ j / W < H := ⟨Nat.mod_lt _ (by omega), Nat.div_lt_of_lt_mul (by rw [← hn]; exact h)⟩
set_option maxHeartbeats 4000000 in
set_option maxRecDepth 100000 in
theorem l_X2_inner (hG : m_G G) (d : Nat) {k : Int} {W H n sl m : Nat} (hF : fOK k W H n) (hn : n = W * H) (hsl : sl = slN k n) (hm : m = n * sl) {p : Nat} (hp : p < n) (kk : m_J G MX2_init (m_r (d + 4) 2 131072) Q 2 (m + m) 95 [some (.ref 5), some (.ref 2), some (vI (p : Int)), some (vI (sl : Int))] [] [s, g, oFrame k W H n, cI n (fC W n), cI n (fR W n), oNet n sl, cI m (fB k W H sl (p * sl + sl)), cZ m (fun _ => false)]) :
    ∀ (j t : Nat), t + j = sl → m_J G MX2_init (m_r (d + 4) 2 131072) Q 2 (m + m) 62 [some (.ref 5), some (.ref 2), some (vI (p : Int)), some (vI (t : Int))] [] [s, g, oFrame k W H n, cI n (fC W n), cI n (fR W n), oNet n sl, cI m (fB k W H sl (p * sl + t)), cZ m (fun _ => false)] := by
  have hnb := hF.n
  have hFF := hF
  obtain ⟨hk0, hk4, hW1, hW2, hH1, hH2, hnn, hg4⟩ := hF
  have hsb : 1 ≤ sl ∧ sl ≤ 256 := by rw [hsl]; unfold slN; split <;> first | omega | (split <;> first | omega | (split <;> omega))
  have hmb : m ≤ 65536 := by rw [hm]; exact Nat.mul_le_mul hnb.2 hsb.2
  have hxy := fxy hn (by omega) hp
  intro j
  induction j with
  | zero =>
    intro t ht
    have htW : t = sl := by omega
    subst htW
    refine m_iload_n 63 dX2_init_62 rfl rfl ?_
    refine m_aload_n 64 dX2_init_63 rfl rfl ?_
    refine m_getf 67 foX2_22 dX2_init_64 rfl (by first | rfl | assumption) (by rfl) ?_
    refine i_icmp_ge 70 95 ⟨by omega, by omega⟩ ⟨by omega, by omega⟩ dX2_init_67 rfl (by decide) (fun _ => ?_) (fun h => absurd h (by omega))
    exact kk
  | succ j ih =>
    intro t ht
    have h1 : (p + 1) * sl ≤ n * sl := Nat.mul_le_mul_right sl (by omega)
    rw [Nat.add_mul] at h1
    have hi : p * sl + t < m := by omega
    have e1 : (p : Int) * (sl : Int) + (t : Int) = ((p * sl + t : Nat) : Int) := by rw [Int.natCast_add, Int.natCast_mul]
    have e2 := mulN (y := p) (by omega : 0 < sl) t (by omega)
    rw [Nat.mul_comm sl p] at e2
    have e3 : up (fB k W H sl (p * sl + t)) (p * sl + t) (stp k W H (fC W n ((p : Int)).toNat) (fR W n ((p : Int)).toNat) (t : Int)) = fB k W H sl (p * sl + (t + 1)) := by
      have := fill_s (p * sl + t) (bs0 k W H sl) (fun _ => 0)
      rw [show bs0 k W H sl (p * sl + t) = stp k W H (fC W n ((p : Int)).toNat) (fR W n ((p : Int)).toNat) (t : Int) by unfold bs0; rw [Int.toNat_natCast, fC_j hp, fR_j hp, e2.1, e2.2]] at this
      exact this
    have hc : 0 ≤ fC W n ((p : Int)).toNat ∧ fC W n ((p : Int)).toNat < W ∧ 0 ≤ fR W n ((p : Int)).toNat ∧ fR W n ((p : Int)).toNat < H := by
      rw [Int.toNat_natCast, fC_j hp, fR_j hp]
      exact ⟨Int.natCast_nonneg _, Int.ofNat_lt.mpr hxy.1, Int.natCast_nonneg _, Int.ofNat_lt.mpr hxy.2⟩
    refine m_iload_n 63 dX2_init_62 rfl rfl ?_
    refine m_aload_n 64 dX2_init_63 rfl rfl ?_
    refine m_getf 67 foX2_22 dX2_init_64 rfl (by first | rfl | assumption) (by rfl) ?_
    refine i_icmp_ge 70 95 ⟨by omega, by omega⟩ ⟨by omega, by omega⟩ dX2_init_67 rfl (by decide) (fun h => absurd h (by omega)) (fun _ => ?_)
    refine m_aload_n 71 dX2_init_70 rfl rfl ?_
    refine m_getf 74 foX2_24 dX2_init_71 rfl (by first | rfl | assumption) (by rfl) ?_
    refine m_iload_n 75 dX2_init_74 rfl rfl ?_
    refine m_aload_n 76 dX2_init_75 rfl rfl ?_
    refine m_getf 79 foX2_22 dX2_init_76 rfl (by first | rfl | assumption) (by rfl) ?_
    refine i_mul 80 dX2_init_79 rfl ?_
    refine m_iload_n 81 dX2_init_80 rfl rfl ?_
    refine i_add 82 dX2_init_81 rfl ?_
    rw [e1]
    refine m_aload_n 83 dX2_init_82 rfl rfl ?_
    refine m_iload_n 84 dX2_init_83 rfl rfl ?_
    refine m_iload_n 85 dX2_init_84 rfl rfl ?_
    refine m_cV (M' := MX1_firstBeside) 88 [_, _] kX2_32 imX1_firstBeside seX1_firstBeside clX1_firstBeside dX2_init_85 rfl rfl rfl (by first | rfl | assumption) (m_rmI (by omega) (Nat.le_of_ble_eq_true rfl) (by first | omega | (simp only [m_r]; omega)) (by first | omega | (simp only [m_r]; omega))) (c_X1_firstBeside hG (d + 0) rfl hFF rfl rfl ⟨by omega, by omega⟩ hc ⟨by omega, by omega⟩) ?_
    refine i_ast 89 dX2_init_88 rfl (by first | rfl | assumption) ⟨by omega, by omega, by omega⟩ ?_
    rw [Int.toNat_natCast, e3]
    show m_J _ _ _ _ _ _ _ _ _ [s, g, oFrame k W H n, cI n (fC W n), cI n (fR W n), oNet n sl, cI m (fB k W H sl (p * sl + (t + 1))), cZ m (fun _ => false)]
    refine i_inc 92 dX2_init_89 rfl rfl (by decide) ?_
    refine m_goto 62 dX2_init_92 (by decide) ?_
    exact ih (t + 1) (by omega)
set_option maxHeartbeats 4000000 in
set_option maxRecDepth 100000 in
theorem l_X2_outer (hG : m_G G) (d : Nat) {k : Int} {W H n sl m : Nat} (hF : fOK k W H n) (hn : n = W * H) (hsl : sl = slN k n) (hm : m = n * sl) :
    ∀ (j p : Nat) (l3 : Option Value), p + j = n → m_J G MX2_init (m_r (d + 4) 2 131072) (fun r x => r = some none ∧ x = [s, g, oFrame k W H n, cI n (fC W n), cI n (fR W n), oNet n sl, cI m (fB k W H sl m), cZ m (fun _ => false)]) 2 (m + m) 52 [some (.ref 5), some (.ref 2), some (vI (p : Int)), l3] [] [s, g, oFrame k W H n, cI n (fC W n), cI n (fR W n), oNet n sl, cI m (fB k W H sl (p * sl)), cZ m (fun _ => false)] := by
  have hnb := hF.n
  have hFF := hF
  obtain ⟨hk0, hk4, hW1, hW2, hH1, hH2, hnn, hg4⟩ := hF
  have hsb : 1 ≤ sl ∧ sl ≤ 256 := by rw [hsl]; unfold slN; split <;> first | omega | (split <;> first | omega | (split <;> omega))
  have hmb : m ≤ 65536 := by rw [hm]; exact Nat.mul_le_mul hnb.2 hsb.2
  intro j
  induction j with
  | zero =>
    intro p l3 hp
    have hpn : p = n := by omega
    subst hpn
    refine m_iload_n 53 dX2_init_52 rfl rfl ?_
    refine m_aload_n 54 dX2_init_53 rfl rfl ?_
    refine m_getf 57 foX2_15 dX2_init_54 rfl (by first | rfl | assumption) (by rfl) ?_
    refine i_icmp_ge 60 101 ⟨by omega, by omega⟩ ⟨by omega, by omega⟩ dX2_init_57 rfl (by decide) (fun _ => ?_) (fun h => absurd h (by omega))
    refine m_vret dX2_init_101 rfl (by constructor <;> (simp only [m_r]; omega)) ?_
    rw [← hm]
    exact ⟨rfl, rfl⟩
  | succ j ih =>
    intro p l3 hp
    refine m_iload_n 53 dX2_init_52 rfl rfl ?_
    refine m_aload_n 54 dX2_init_53 rfl rfl ?_
    refine m_getf 57 foX2_15 dX2_init_54 rfl (by first | rfl | assumption) (by rfl) ?_
    refine i_icmp_ge 60 101 ⟨by omega, by omega⟩ ⟨by omega, by omega⟩ dX2_init_57 rfl (by decide) (fun h => absurd h (by omega)) (fun _ => ?_)
    refine i_const 61 dX2_init_60 rfl ?_
    refine m_istore_n 62 dX2_init_61 rfl (by decide) ?_
    refine l_X2_inner hG d hFF hn hsl hm (p := p) (by omega) ?_ sl 0 (by omega)
    rw [show p * sl + sl = (p + 1) * sl by rw [Nat.add_mul, Nat.one_mul]]
    refine i_inc 98 dX2_init_95 rfl rfl (by decide) ?_
    refine m_goto 52 dX2_init_98 (by decide) ?_
    exact ih (p + 1) _ (by omega)
set_option maxHeartbeats 4000000 in
set_option maxRecDepth 100000 in
theorem c_X2_init (hG : m_G G) (d : Nat) {k : Int} {W H n sl m : Nat} (hF : fOK k W H n) (hn : n = W * H) (hsl : sl = slN k n) (hm : m = n * sl) : m_Cv G MX2_init (m_r (d + 4) 2 131072) [.ref 5, .ref 2] [s, g, oFrame k W H n, cI n (fC W n), cI n (fR W n), mO 2 dvX2] none [s, g, oFrame k W H n, cI n (fC W n), cI n (fR W n), oNet n sl, cI m (fB k W H sl m), cZ m (fun _ => false)] := by
  have hnb := hF.n
  have hFF := hF
  obtain ⟨hk0, hk4, hW1, hW2, hH1, hH2, hnn, hg4⟩ := hF
  have hsb : 1 ≤ sl ∧ sl ≤ 256 := by rw [hsl]; unfold slN; split <;> first | omega | (split <;> first | omega | (split <;> omega))
  have hmb : m ≤ 65536 := by rw [hm]; exact Nat.mul_le_mul hnb.2 hsb.2
  have hmZ : (n : Int) * (sl : Int) = (m : Int) := by rw [hm, Int.natCast_mul]
  have hsc : ∀ {w : List mC}, w[2]? = some (oFrame k W H n) → m_Cv G MX1_slots (m_r (d + 3) 0 0) [.ref 2] w (some (vI (sl : Int))) w := by rw [hsl]; exact fun h => c_X1_slots hG (d + 3) h hFF
  refine m_enter (L := [some (.ref 5), some (.ref 2), none, none]) (by decide) hG (m_c1 rfl) (Nat.le_of_ble_eq_true rfl) rfl ?_
  refine m_aload_n 1 dX2_init_0 rfl rfl ?_
  refine m_objInit 4 kX2_3 oi1 oi2 dX2_init_1 rfl (by constructor <;> (simp only [m_r, List.map, Value.category, List.sum_cons, List.sum_nil]; omega)) ?_
  refine m_aload_n 5 dX2_init_4 rfl rfl ?_
  refine m_aload_n 6 dX2_init_5 rfl rfl ?_
  refine m_getf 9 foX2_9 dX2_init_6 rfl (by first | rfl | assumption) (by rfl) ?_
  refine m_putf 12 tyX2 rfl tyX2_ok nmX2 (Or.inr ⟨rfl, rfl, rfl⟩) foX2_15 dX2_init_9 rfl (by first | rfl | assumption) (Nat.le_of_ble_eq_true rfl) (Or.inl ⟨rfl, _, rfl⟩) ?_
  show m_J _ _ _ _ _ _ _ _ _ [s, g, oFrame k W H n, cI n (fC W n), cI n (fR W n), mO 2 [vI 0, vI (n : Int), .null, .null]]
  refine m_aload_n 13 dX2_init_12 rfl rfl ?_
  refine m_aload_n 14 dX2_init_13 rfl rfl ?_
  refine m_cV (M' := MX1_slots) 17 [] kX2_18 imX1_slots seX1_slots clX1_slots dX2_init_14 rfl rfl rfl (by first | rfl | assumption) (m_rmI (by omega) (Nat.le_of_ble_eq_true rfl) (by first | omega | (simp only [m_r]; omega)) (by first | omega | (simp only [m_r]; omega))) (hsc rfl) ?_
  refine m_putf 20 tyX2 rfl tyX2_ok nmX2 (Or.inr ⟨rfl, rfl, rfl⟩) foX2_22 dX2_init_17 rfl (by first | rfl | assumption) (Nat.le_of_ble_eq_true rfl) (Or.inl ⟨rfl, _, rfl⟩) ?_
  show m_J _ _ _ _ _ _ _ _ _ [s, g, oFrame k W H n, cI n (fC W n), cI n (fR W n), mO 2 [vI (sl : Int), vI (n : Int), .null, .null]]
  refine m_aload_n 21 dX2_init_20 rfl rfl ?_
  refine m_aload_n 22 dX2_init_21 rfl rfl ?_
  refine m_getf 25 foX2_15 dX2_init_22 rfl (by first | rfl | assumption) (by rfl) ?_
  refine m_aload_n 26 dX2_init_25 rfl rfl ?_
  refine m_getf 29 foX2_22 dX2_init_26 rfl (by first | rfl | assumption) (by rfl) ?_
  refine i_mul 30 dX2_init_29 rfl ?_
  rw [hmZ]
  refine i_newI 32 m dX2_init_30 rfl rfl (by omega) (by constructor <;> (simp only [m_r]; omega)) ?_
  show m_J _ _ _ _ _ _ _ _ (.ref 6 :: _) [s, g, oFrame k W H n, cI n (fC W n), cI n (fR W n), mO 2 [vI (sl : Int), vI (n : Int), .null, .null], cI m (fun _ => 0)]
  refine m_putf 35 tyX2 rfl tyX2_ok nmX2 (Or.inr ⟨rfl, rfl, rfl⟩) foX2_24 dX2_init_32 rfl (by first | rfl | assumption) (Nat.le_of_ble_eq_true rfl) (Or.inr (Or.inr (Or.inl ⟨⟨_, rfl⟩, _, rfl⟩))) ?_
  show m_J _ _ _ _ _ _ _ _ _ [s, g, oFrame k W H n, cI n (fC W n), cI n (fR W n), mO 2 [vI (sl : Int), vI (n : Int), .ref 6, .null], cI m (fun _ => 0)]
  refine m_aload_n 36 dX2_init_35 rfl rfl ?_
  refine m_aload_n 37 dX2_init_36 rfl rfl ?_
  refine m_getf 40 foX2_15 dX2_init_37 rfl (by first | rfl | assumption) (by rfl) ?_
  refine m_aload_n 41 dX2_init_40 rfl rfl ?_
  refine m_getf 44 foX2_22 dX2_init_41 rfl (by first | rfl | assumption) (by rfl) ?_
  refine i_mul 45 dX2_init_44 rfl ?_
  rw [hmZ]
  refine i_newZ 47 m dX2_init_45 rfl rfl (by omega) (by constructor <;> (simp only [m_r]; omega)) ?_
  show m_J _ _ _ _ _ _ _ _ (.ref 7 :: _) [s, g, oFrame k W H n, cI n (fC W n), cI n (fR W n), mO 2 [vI (sl : Int), vI (n : Int), .ref 6, .null], cI m (fun _ => 0), cZ m (fun _ => false)]
  refine m_putf 50 tyX2 rfl tyX2_ok nmX2 (Or.inr ⟨rfl, rfl, rfl⟩) foX2_28 dX2_init_47 rfl (by first | rfl | assumption) (Nat.le_of_ble_eq_true rfl) (Or.inr (Or.inr (Or.inl ⟨⟨_, rfl⟩, _, rfl⟩))) ?_
  show m_J _ _ _ _ _ _ _ _ _ [s, g, oFrame k W H n, cI n (fC W n), cI n (fR W n), mO 2 [vI (sl : Int), vI (n : Int), .ref 6, .ref 7], cI m (fun _ => 0), cZ m (fun _ => false)]
  refine i_const 51 dX2_init_50 rfl ?_
  refine m_istore_n 52 dX2_init_51 rfl (by decide) ?_
  have e := l_X2_outer (s := s) (g := g) hG d hFF hn hsl hm n 0 none (by omega)
  rw [Nat.zero_mul, fB_0] at e
  rw [show 0 + (m_r (d + 3) 0 0).cells + 1 + 1 = 2 from rfl, show 0 + (m_r (d + 3) 0 0).slots + m + m = m + m by simp only [m_r]; omega]
  exact e
set_option maxHeartbeats 4000000 in
set_option maxRecDepth 100000 in
theorem c_X5_init (hG : m_G G) (d : Nat) {k W H : Int} {n : Nat} (hF : fOK k W H n) {c3 c4 c5 c6 c7 : mC} : m_Cv G MX5_init (m_r (d + 1) 0 0) [.ref 8, .ref 2] [s, g, oFrame k W H n, c3, c4, c5, c6, c7, mO 5 dvX5] none [s, g, oFrame k W H n, c3, c4, c5, c6, c7, oTurns (tuN k W H)] := by
  obtain ⟨hk0, hk4, hW1, hW2, hH1, hH2, hnn, hg4⟩ := hF
  refine m_enter (L := [some (.ref 8), some (.ref 2)]) (by decide) hG (m_c1 rfl) (Nat.le_of_ble_eq_true rfl) rfl ?_
  refine m_aload_n 1 dX5_init_0 rfl rfl ?_
  refine m_objInit 4 kX5_3 oi1 oi2 dX5_init_1 rfl (by constructor <;> (simp only [m_r, List.map, Value.category, List.sum_cons, List.sum_nil]; omega)) ?_
  refine m_aload_n 5 dX5_init_4 rfl rfl ?_
  refine m_aload_n 6 dX5_init_5 rfl rfl ?_
  refine m_putf 9 tyX5 rfl tyX5_ok nmX5 (Or.inr ⟨rfl, rfl, rfl⟩) foX5_9 dX5_init_6 rfl (by first | rfl | assumption) (Nat.le_of_ble_eq_true rfl) (Or.inr (Or.inr (Or.inr ⟨⟨_, rfl⟩, _, rfl⟩))) ?_
  show m_J _ _ _ _ _ _ _ _ _ [s, g, oFrame k W H n, c3, c4, c5, c6, c7, mO 5 [vI 0, .ref 2]]
  refine m_aload_n 10 dX5_init_9 rfl rfl ?_
  refine m_getf 13 foX5_15 dX5_init_10 rfl (by first | rfl | assumption) (by rfl) ?_
  refine i_const 14 dX5_init_13 rfl ?_
  refine i_icmp_ne 17 25 ⟨by omega, by omega⟩ ⟨by omega, by omega⟩ dX5_init_14 rfl (by decide) (fun q14 => ?_) (fun q14 => ?_)
  · refine m_aload_n 26 dX5_init_25 rfl rfl ?_
    refine m_getf 29 foX5_15 dX5_init_26 rfl (by first | rfl | assumption) (by rfl) ?_
    refine i_const 30 dX5_init_29 rfl ?_
    refine i_icmp_ne 33 46 ⟨by omega, by omega⟩ ⟨by omega, by omega⟩ dX5_init_30 rfl (by decide) (fun q30 => ?_) (fun q30 => ?_)
    · refine m_aload_n 47 dX5_init_46 rfl rfl ?_
      refine m_aload_n 48 dX5_init_47 rfl rfl ?_
      refine m_getf 51 foX5_24 dX5_init_48 rfl (by first | rfl | assumption) (by rfl) ?_
      refine m_aload_n 52 dX5_init_51 rfl rfl ?_
      refine m_getf 55 foX5_27 dX5_init_52 rfl (by first | rfl | assumption) (by rfl) ?_
      refine i_icmp_ne 58 63 ⟨by omega, by omega⟩ ⟨by omega, by omega⟩ dX5_init_55 rfl (by decide) (fun q55 => ?_) (fun q55 => ?_)
      · refine i_const 64 dX5_init_63 rfl ?_
        refine m_putf 67 tyX5 rfl tyX5_ok nmX5 (Or.inr ⟨rfl, rfl, rfl⟩) foX5_21 dX5_init_64 rfl (by first | rfl | assumption) (Nat.le_of_ble_eq_true rfl) (Or.inl ⟨rfl, _, rfl⟩) ?_
        refine m_vret dX5_init_67 rfl ⟨Nat.le_refl _, Nat.le_refl _⟩ ?_
        refine ⟨rfl, ?_⟩
        unfold tuN
        first
          | rw [if_pos (by omega)]; rfl
          | rw [if_neg (by omega), if_pos (by omega)]; rfl
          | rw [if_neg (by omega), if_neg (by omega), if_pos (by omega)]; rfl
          | rw [if_neg (by omega), if_neg (by omega), if_neg (by omega)]; rfl
      · refine i_bipush 60 8 dX5_init_58 rfl (by decide) ?_
        refine m_goto 64 dX5_init_60 (by decide) ?_
        refine m_putf 67 tyX5 rfl tyX5_ok nmX5 (Or.inr ⟨rfl, rfl, rfl⟩) foX5_21 dX5_init_64 rfl (by first | rfl | assumption) (Nat.le_of_ble_eq_true rfl) (Or.inl ⟨rfl, _, rfl⟩) ?_
        refine m_vret dX5_init_67 rfl ⟨Nat.le_refl _, Nat.le_refl _⟩ ?_
        refine ⟨rfl, ?_⟩
        unfold tuN
        first
          | rw [if_pos (by omega)]; rfl
          | rw [if_neg (by omega), if_pos (by omega)]; rfl
          | rw [if_neg (by omega), if_neg (by omega), if_pos (by omega)]; rfl
          | rw [if_neg (by omega), if_neg (by omega), if_neg (by omega)]; rfl
    · refine m_aload_n 34 dX5_init_33 rfl rfl ?_
      refine i_const 35 dX5_init_34 rfl ?_
      refine m_aload_n 36 dX5_init_35 rfl rfl ?_
      refine m_getf 39 foX5_24 dX5_init_36 rfl (by first | rfl | assumption) (by rfl) ?_
      refine i_mul 40 dX5_init_39 rfl ?_
      refine m_putf 43 tyX5 rfl tyX5_ok nmX5 (Or.inr ⟨rfl, rfl, rfl⟩) foX5_21 dX5_init_40 rfl (by first | rfl | assumption) (Nat.le_of_ble_eq_true rfl) (Or.inl ⟨rfl, _, rfl⟩) ?_
      refine m_goto 67 dX5_init_43 (by decide) ?_
      refine m_vret dX5_init_67 rfl ⟨Nat.le_refl _, Nat.le_refl _⟩ ?_
      refine ⟨rfl, ?_⟩
      unfold tuN
      first
        | rw [if_pos (by omega)]; rfl
        | rw [if_neg (by omega), if_pos (by omega)]; rfl
        | rw [if_neg (by omega), if_neg (by omega), if_pos (by omega)]; rfl
        | rw [if_neg (by omega), if_neg (by omega), if_neg (by omega)]; rfl
  · refine m_aload_n 18 dX5_init_17 rfl rfl ?_
    refine i_const 19 dX5_init_18 rfl ?_
    refine m_putf 22 tyX5 rfl tyX5_ok nmX5 (Or.inr ⟨rfl, rfl, rfl⟩) foX5_21 dX5_init_19 rfl (by first | rfl | assumption) (Nat.le_of_ble_eq_true rfl) (Or.inl ⟨rfl, _, rfl⟩) ?_
    refine m_goto 67 dX5_init_22 (by decide) ?_
    refine m_vret dX5_init_67 rfl ⟨Nat.le_refl _, Nat.le_refl _⟩ ?_
    refine ⟨rfl, ?_⟩
    unfold tuN
    first
      | rw [if_pos (by omega)]; rfl
      | rw [if_neg (by omega), if_pos (by omega)]; rfl
      | rw [if_neg (by omega), if_neg (by omega), if_pos (by omega)]; rfl
      | rw [if_neg (by omega), if_neg (by omega), if_neg (by omega)]; rfl
set_option maxHeartbeats 4000000 in
set_option maxRecDepth 100000 in
theorem c_X6_init (hG : m_G G) (d : Nat) {k W H : Int} {n : Nat} (hF : fOK k W H n) {c3 c4 c5 c6 c7 c8 : mC} : m_Cv G MX6_init (m_r (d + 2) 3 514) [.ref 9, .ref 2, .ref 5] [s, g, oFrame k W H n, c3, c4, c5, c6, c7, c8, mO 6 dvX6] none [s, g, oFrame k W H n, c3, c4, c5, c6, c7, c8, oWalk, cI n (fun _ => 0), oRow 12 0, cI n (fun _ => 0)] := by
  have hnb := hF.n
  refine m_enter (L := [some (.ref 9), some (.ref 2), some (.ref 5)]) (by decide) hG (m_c1 rfl) (Nat.le_of_ble_eq_true rfl) rfl ?_
  refine m_aload_n 1 dX6_init_0 rfl rfl ?_
  refine m_objInit 4 kX6_1 oi1 oi2 dX6_init_1 rfl (by constructor <;> (simp only [m_r, List.map, Value.category, List.sum_cons, List.sum_nil]; omega)) ?_
  refine m_aload_n 5 dX6_init_4 rfl rfl ?_
  refine m_aload_n 6 dX6_init_5 rfl rfl ?_
  refine m_putf 9 tyX6 rfl tyX6_ok nmX6 (Or.inr ⟨rfl, rfl, rfl⟩) foX6_7 dX6_init_6 rfl (by first | rfl | assumption) (Nat.le_of_ble_eq_true rfl) (Or.inr (Or.inr (Or.inr ⟨⟨_, rfl⟩, _, rfl⟩))) ?_
  show m_J _ _ _ _ _ _ _ _ _ [s, g, oFrame k W H n, c3, c4, c5, c6, c7, c8, mO 6 [.ref 5, .null, .null]]
  refine m_aload_n 10 dX6_init_9 rfl rfl ?_
  refine m_aload_n 11 dX6_init_10 rfl rfl ?_
  refine m_getf 14 foX6_13 dX6_init_11 rfl (by first | rfl | assumption) (by rfl) ?_
  refine i_newI 16 n dX6_init_14 rfl rfl (by omega) (by constructor <;> (simp only [m_r]; omega)) ?_
  show m_J _ _ _ _ _ _ _ _ (.ref 10 :: _) [s, g, oFrame k W H n, c3, c4, c5, c6, c7, c8, mO 6 [.ref 5, .null, .null], cI n (fun _ => 0)]
  refine m_putf 19 tyX6 rfl tyX6_ok nmX6 (Or.inr ⟨rfl, rfl, rfl⟩) foX6_19 dX6_init_16 rfl (by first | rfl | assumption) (Nat.le_of_ble_eq_true rfl) (Or.inr (Or.inr (Or.inl ⟨⟨_, rfl⟩, _, rfl⟩))) ?_
  show m_J _ _ _ _ _ _ _ _ _ [s, g, oFrame k W H n, c3, c4, c5, c6, c7, c8, mO 6 [.ref 5, .ref 10, .null], cI n (fun _ => 0)]
  refine m_aload_n 20 dX6_init_19 rfl rfl ?_
  refine m_new (ci := 3) (fs := dvX3) 23 tyX3 rfl tyX3_ok inX3 knX6_23 ntX3 ndX3 dfX3 nrX3 dX6_init_20 rfl (by constructor <;> (simp only [m_r]; omega)) ?_
  show m_J _ _ _ _ _ _ _ _ (.ref 11 :: _) [s, g, oFrame k W H n, c3, c4, c5, c6, c7, c8, mO 6 [.ref 5, .ref 10, .null], cI n (fun _ => 0), mO 3 dvX3]
  refine m_dup 24 dX6_init_23 rfl rfl ?_
  refine m_aload_n 25 dX6_init_24 rfl rfl ?_
  refine m_getf 28 foX6_13 dX6_init_25 rfl (by first | rfl | assumption) (by rfl) ?_
  refine m_cI (M' := MX3_init) 31 [_] kX6_25 imX3_init ⟨rfl, rfl⟩ clX3_init dX6_init_28 rfl rfl (m_rmI (by omega) (Nat.le_of_ble_eq_true rfl) (by first | omega | (simp only [m_r]; omega)) (by first | omega | (simp only [m_r]; omega))) (c_X3_init hG d (N := n) (i := 10) (by omega) rfl (Nat.le_of_ble_eq_true rfl)) ?_
  show m_J _ _ _ _ _ _ _ _ _ [s, g, oFrame k W H n, c3, c4, c5, c6, c7, c8, mO 6 [.ref 5, .ref 10, .null], cI n (fun _ => 0), oRow 12 0, cI n (fun _ => 0)]
  refine m_putf 34 tyX6 rfl tyX6_ok nmX6 (Or.inr ⟨rfl, rfl, rfl⟩) foX6_28 dX6_init_31 rfl (by first | rfl | assumption) (Nat.le_of_ble_eq_true rfl) (Or.inr (Or.inr (Or.inr ⟨⟨_, rfl⟩, _, rfl⟩))) ?_
  refine m_vret dX6_init_34 rfl (by constructor <;> (simp only [m_r]; omega)) ?_
  exact ⟨rfl, rfl⟩
set_option maxHeartbeats 4000000 in
set_option maxRecDepth 100000 in
theorem c_X4_init (hG : m_G G) (d : Nat) {k W H : Int} {n : Nat} (hF : fOK k W H n) {c3 c4 c5 c6 c7 c8 c9 c10 c11 c12 : mC} : m_Cv G MX4_init (m_r (d + 2) 2 770) [.ref 13, .ref 2] [s, g, oFrame k W H n, c3, c4, c5, c6, c7, c8, c9, c10, c11, c12, mO 4 dvX4] none [s, g, oFrame k W H n, c3, c4, c5, c6, c7, c8, c9, c10, c11, c12, oScribe, oRow 15 0, cI (3 * n) (fun _ => 0)] := by
  have hnb := hF.n
  have e3 : (3 : Int) * (n : Int) = ((3 * n : Nat) : Int) := by omega
  refine m_enter (L := [some (.ref 13), some (.ref 2)]) (by decide) hG (m_c1 rfl) (Nat.le_of_ble_eq_true rfl) rfl ?_
  refine m_aload_n 1 dX4_init_0 rfl rfl ?_
  refine m_objInit 4 kX4_3 oi1 oi2 dX4_init_1 rfl (by constructor <;> (simp only [m_r, List.map, Value.category, List.sum_cons, List.sum_nil]; omega)) ?_
  refine m_aload_n 5 dX4_init_4 rfl rfl ?_
  refine m_new (ci := 3) (fs := dvX3) 8 tyX3 rfl tyX3_ok inX3 knX4_9 ntX3 ndX3 dfX3 nrX3 dX4_init_5 rfl (by constructor <;> (simp only [m_r]; omega)) ?_
  show m_J _ _ _ _ _ _ _ _ (.ref 14 :: _) [s, g, oFrame k W H n, c3, c4, c5, c6, c7, c8, c9, c10, c11, c12, mO 4 dvX4, mO 3 dvX3]
  refine m_dup 9 dX4_init_8 rfl rfl ?_
  refine i_const 10 dX4_init_9 rfl ?_
  refine m_aload_n 11 dX4_init_10 rfl rfl ?_
  refine m_getf 14 foX4_11 dX4_init_11 rfl (by first | rfl | assumption) (by rfl) ?_
  refine i_mul 15 dX4_init_14 rfl ?_
  rw [e3]
  refine m_cI (M' := MX3_init) 18 [_] kX4_17 imX3_init ⟨rfl, rfl⟩ clX3_init dX4_init_15 rfl rfl (m_rmI (by omega) (Nat.le_of_ble_eq_true rfl) (by first | omega | (simp only [m_r]; omega)) (by first | omega | (simp only [m_r]; omega))) (c_X3_init hG d (N := 3 * n) (i := 13) (by omega) rfl (Nat.le_of_ble_eq_true rfl)) ?_
  show m_J _ _ _ _ _ _ _ _ _ [s, g, oFrame k W H n, c3, c4, c5, c6, c7, c8, c9, c10, c11, c12, mO 4 dvX4, oRow 15 0, cI (3 * n) (fun _ => 0)]
  refine m_putf 21 tyX4 rfl tyX4_ok nmX4 (Or.inr ⟨rfl, rfl, rfl⟩) foX4_20 dX4_init_18 rfl (by first | rfl | assumption) (Nat.le_of_ble_eq_true rfl) (Or.inr (Or.inr (Or.inr ⟨⟨_, rfl⟩, _, rfl⟩))) ?_
  refine m_vret dX4_init_21 rfl (by constructor <;> (simp only [m_r]; omega)) ?_
  exact ⟨rfl, rfl⟩
set_option maxHeartbeats 4000000 in
set_option maxRecDepth 100000 in
theorem c_X0_init (hG : m_G G) (d : Nat) {k W H : Int} {n : Nat} (hF : fOK k W H n) {c3 c4 c5 c6 c7 c8 c9 c10 c11 c12 c13 c14 c15 : mC} : m_Cv G MX0_init (m_r (d + 2) 1 256) [.ref 16, .ref 2] [s, g, oFrame k W H n, c3, c4, c5, c6, c7, c8, c9, c10, c11, c12, c13, c14, c15, mO 0 dvX0] none [s, g, oFrame k W H n, c3, c4, c5, c6, c7, c8, c9, c10, c11, c12, c13, c14, c15, oDraft 0 0, cI n (fun _ => 0)] := by
  have hnb := hF.n
  refine m_enter (L := [some (.ref 16), some (.ref 2)]) (by decide) hG (m_c1 rfl) (Nat.le_of_ble_eq_true rfl) rfl ?_
  refine m_aload_n 1 dX0_init_0 rfl rfl ?_
  refine m_objInit 4 kX0_3 oi1 oi2 dX0_init_1 rfl (by constructor <;> (simp only [m_r, List.map, Value.category, List.sum_cons, List.sum_nil]; omega)) ?_
  refine m_aload_n 5 dX0_init_4 rfl rfl ?_
  refine m_aload_n 6 dX0_init_5 rfl rfl ?_
  refine m_getf 9 foX0_9 dX0_init_6 rfl (by first | rfl | assumption) (by rfl) ?_
  refine i_newI 11 n dX0_init_9 rfl rfl (by omega) (by constructor <;> (simp only [m_r]; omega)) ?_
  show m_J _ _ _ _ _ _ _ _ (.ref 17 :: _) [s, g, oFrame k W H n, c3, c4, c5, c6, c7, c8, c9, c10, c11, c12, c13, c14, c15, mO 0 dvX0, cI n (fun _ => 0)]
  refine m_putf 14 tyX0 rfl tyX0_ok nmX0 (Or.inr ⟨rfl, rfl, rfl⟩) foX0_15 dX0_init_11 rfl (by first | rfl | assumption) (Nat.le_of_ble_eq_true rfl) (Or.inr (Or.inr (Or.inl ⟨⟨_, rfl⟩, _, rfl⟩))) ?_
  refine m_vret dX0_init_14 rfl (by constructor <;> (simp only [m_r]; omega)) ?_
  exact ⟨rfl, rfl⟩
abbrev wG (s : mC) (k : Int) (W H n sl m : Nat) : List mC := [s, oGrid, oFrame k W H n, cI n (fC W n), cI n (fR W n), oNet n sl, cI m (fB k W H sl m), cZ m (fun _ => false), oTurns (tuN k W H), oWalk, cI n (fun _ => 0), oRow 12 0, cI n (fun _ => 0), oScribe, oRow 15 0, cI (3 * n) (fun _ => 0), oDraft 0 0, cI n (fun _ => 0), oRow 19 0, cI 1200 (fun _ => 0), cI n (fun _ => 0), cI n (fun _ => 0)]
set_option maxHeartbeats 4000000 in
set_option maxRecDepth 100000 in
theorem c_X7_init (hG : m_G G) (d : Nat) {a b c : Int} {k : Int} {W H n sl m : Nat} (hF : fOK k W H n) (hn : n = W * H) (hsl : sl = slN k n) (hm : m = n * sl) (hI : m_Cv G MX1_init (m_r (d + 2) 2 512) [.ref 2, vI a, vI b, vI c] [s, mO 7 dvX7, mO 1 dvX1] none [s, mO 7 dvX7, oFrame k W H n, cI n (fC W n), cI n (fR W n)]) : m_Cv G MX7_init (m_r (d + 5) 20 140000) [.ref 1, vI a, vI b, vI c] [s, mO 7 dvX7] none (wG s k W H n sl m) := by
  have hnb := hF.n
  have hFF := hF
  obtain ⟨hk0, hk4, hW1, hW2, hH1, hH2, hnn, hg4⟩ := hF
  have hsb : 1 ≤ sl ∧ sl ≤ 256 := by rw [hsl]; unfold slN; split <;> first | omega | (split <;> first | omega | (split <;> omega))
  have hmb : m ≤ 65536 := by rw [hm]; exact Nat.mul_le_mul hnb.2 hsb.2
  refine m_enter (L := [some (.ref 1), some (vI a), some (vI b), some (vI c)]) (by decide) hG (m_c1 rfl) (Nat.le_of_ble_eq_true rfl) rfl ?_
  refine m_aload_n 1 dX7_init_0 rfl rfl ?_
  refine m_objInit 4 kX7_1 oi1 oi2 dX7_init_1 rfl (by constructor <;> (simp only [m_r, List.map, Value.category, List.sum_cons, List.sum_nil]; omega)) ?_
  refine m_aload_n 5 dX7_init_4 rfl rfl ?_
  refine m_new (ci := 1) (fs := dvX1) 8 tyX1 rfl tyX1_ok inX1 knX7_7 ntX1 ndX1 dfX1 nrX1 dX7_init_5 rfl (by constructor <;> (simp only [m_r]; omega)) ?_
  show m_J _ _ _ _ _ _ _ _ (.ref 2 :: _) [s, mO 7 [.null, .null, .null, .null, .null, .null, .null, .null, .null], mO 1 dvX1]
  refine m_dup 9 dX7_init_8 rfl rfl ?_
  refine m_iload_n 10 dX7_init_9 rfl rfl ?_
  refine m_iload_n 11 dX7_init_10 rfl rfl ?_
  refine m_iload_n 12 dX7_init_11 rfl rfl ?_
  refine m_cI (M' := MX1_init) 15 [_, _, _] kX7_9 imX1_init ⟨rfl, rfl⟩ clX1_init dX7_init_12 rfl rfl (m_rmI (by omega) (Nat.le_of_ble_eq_true rfl) (by first | omega | (simp only [m_r]; omega)) (by first | omega | (simp only [m_r]; omega))) (hI) ?_
  show m_J _ _ _ _ _ _ _ _ _ [s, mO 7 [.null, .null, .null, .null, .null, .null, .null, .null, .null], oFrame k W H n, cI n (fC W n), cI n (fR W n)]
  refine m_putf 18 tyX7 rfl tyX7_ok nmX7 (Or.inr ⟨rfl, rfl, rfl⟩) foX7_12 dX7_init_15 rfl (by first | rfl | assumption) (Nat.le_of_ble_eq_true rfl) (Or.inr (Or.inr (Or.inr ⟨⟨_, rfl⟩, _, rfl⟩))) ?_
  show m_J _ _ _ _ _ _ _ _ _ [s, mO 7 [.ref 2, .null, .null, .null, .null, .null, .null, .null, .null], oFrame k W H n, cI n (fC W n), cI n (fR W n)]
  refine m_aload_n 19 dX7_init_18 rfl rfl ?_
  refine m_new (ci := 2) (fs := dvX2) 22 tyX2 rfl tyX2_ok inX2 knX7_18 ntX2 ndX2 dfX2 nrX2 dX7_init_19 rfl (by constructor <;> (simp only [m_r]; omega)) ?_
  show m_J _ _ _ _ _ _ _ _ (.ref 5 :: _) [s, mO 7 [.ref 2, .null, .null, .null, .null, .null, .null, .null, .null], oFrame k W H n, cI n (fC W n), cI n (fR W n), mO 2 dvX2]
  refine m_dup 23 dX7_init_22 rfl rfl ?_
  refine m_aload_n 24 dX7_init_23 rfl rfl ?_
  refine m_getf 27 foX7_12 dX7_init_24 rfl (by first | rfl | assumption) (by rfl) ?_
  refine m_cI (M' := MX2_init) 30 [_] kX7_20 imX2_init ⟨rfl, rfl⟩ clX2_init dX7_init_27 rfl rfl (m_rmI (by omega) (Nat.le_of_ble_eq_true rfl) (by first | omega | (simp only [m_r]; omega)) (by first | omega | (simp only [m_r]; omega))) (c_X2_init hG d hFF hn hsl hm) ?_
  show m_J _ _ _ _ _ _ _ _ _ [s, mO 7 [.ref 2, .null, .null, .null, .null, .null, .null, .null, .null], oFrame k W H n, cI n (fC W n), cI n (fR W n), oNet n sl, cI m (fB k W H sl m), cZ m (fun _ => false)]
  refine m_putf 33 tyX7 rfl tyX7_ok nmX7 (Or.inr ⟨rfl, rfl, rfl⟩) foX7_23 dX7_init_30 rfl (by first | rfl | assumption) (Nat.le_of_ble_eq_true rfl) (Or.inr (Or.inr (Or.inr ⟨⟨_, rfl⟩, _, rfl⟩))) ?_
  show m_J _ _ _ _ _ _ _ _ _ [s, mO 7 [.ref 2, .ref 5, .null, .null, .null, .null, .null, .null, .null], oFrame k W H n, cI n (fC W n), cI n (fR W n), oNet n sl, cI m (fB k W H sl m), cZ m (fun _ => false)]
  refine m_aload_n 34 dX7_init_33 rfl rfl ?_
  refine m_new (ci := 5) (fs := dvX5) 37 tyX5 rfl tyX5_ok inX5 knX7_27 ntX5 ndX5 dfX5 nrX5 dX7_init_34 rfl (by constructor <;> (simp only [m_r]; omega)) ?_
  show m_J _ _ _ _ _ _ _ _ (.ref 8 :: _) [s, mO 7 [.ref 2, .ref 5, .null, .null, .null, .null, .null, .null, .null], oFrame k W H n, cI n (fC W n), cI n (fR W n), oNet n sl, cI m (fB k W H sl m), cZ m (fun _ => false), mO 5 dvX5]
  refine m_dup 38 dX7_init_37 rfl rfl ?_
  refine m_aload_n 39 dX7_init_38 rfl rfl ?_
  refine m_getf 42 foX7_12 dX7_init_39 rfl (by first | rfl | assumption) (by rfl) ?_
  refine m_cI (M' := MX5_init) 45 [_] kX7_29 imX5_init ⟨rfl, rfl⟩ clX5_init dX7_init_42 rfl rfl (m_rmI (by omega) (Nat.le_of_ble_eq_true rfl) (by first | omega | (simp only [m_r]; omega)) (by first | omega | (simp only [m_r]; omega))) (c_X5_init hG d hFF) ?_
  show m_J _ _ _ _ _ _ _ _ _ [s, mO 7 [.ref 2, .ref 5, .null, .null, .null, .null, .null, .null, .null], oFrame k W H n, cI n (fC W n), cI n (fR W n), oNet n sl, cI m (fB k W H sl m), cZ m (fun _ => false), oTurns (tuN k W H)]
  refine m_putf 48 tyX7 rfl tyX7_ok nmX7 (Or.inr ⟨rfl, rfl, rfl⟩) foX7_30 dX7_init_45 rfl (by first | rfl | assumption) (Nat.le_of_ble_eq_true rfl) (Or.inr (Or.inr (Or.inr ⟨⟨_, rfl⟩, _, rfl⟩))) ?_
  show m_J _ _ _ _ _ _ _ _ _ [s, mO 7 [.ref 2, .ref 5, .ref 8, .null, .null, .null, .null, .null, .null], oFrame k W H n, cI n (fC W n), cI n (fR W n), oNet n sl, cI m (fB k W H sl m), cZ m (fun _ => false), oTurns (tuN k W H)]
  refine m_aload_n 49 dX7_init_48 rfl rfl ?_
  refine m_new (ci := 6) (fs := dvX6) 52 tyX6 rfl tyX6_ok inX6 knX7_34 ntX6 ndX6 dfX6 nrX6 dX7_init_49 rfl (by constructor <;> (simp only [m_r]; omega)) ?_
  show m_J _ _ _ _ _ _ _ _ (.ref 9 :: _) [s, mO 7 [.ref 2, .ref 5, .ref 8, .null, .null, .null, .null, .null, .null], oFrame k W H n, cI n (fC W n), cI n (fR W n), oNet n sl, cI m (fB k W H sl m), cZ m (fun _ => false), oTurns (tuN k W H), mO 6 dvX6]
  refine m_dup 53 dX7_init_52 rfl rfl ?_
  refine m_aload_n 54 dX7_init_53 rfl rfl ?_
  refine m_getf 57 foX7_12 dX7_init_54 rfl (by first | rfl | assumption) (by rfl) ?_
  refine m_aload_n 58 dX7_init_57 rfl rfl ?_
  refine m_getf 61 foX7_23 dX7_init_58 rfl (by first | rfl | assumption) (by rfl) ?_
  refine m_cI (M' := MX6_init) 64 [_, _] kX7_36 imX6_init ⟨rfl, rfl⟩ clX6_init dX7_init_61 rfl rfl (m_rmI (by omega) (Nat.le_of_ble_eq_true rfl) (by first | omega | (simp only [m_r]; omega)) (by first | omega | (simp only [m_r]; omega))) (c_X6_init hG d hFF) ?_
  show m_J _ _ _ _ _ _ _ _ _ [s, mO 7 [.ref 2, .ref 5, .ref 8, .null, .null, .null, .null, .null, .null], oFrame k W H n, cI n (fC W n), cI n (fR W n), oNet n sl, cI m (fB k W H sl m), cZ m (fun _ => false), oTurns (tuN k W H), oWalk, cI n (fun _ => 0), oRow 12 0, cI n (fun _ => 0)]
  refine m_putf 67 tyX7 rfl tyX7_ok nmX7 (Or.inr ⟨rfl, rfl, rfl⟩) foX7_39 dX7_init_64 rfl (by first | rfl | assumption) (Nat.le_of_ble_eq_true rfl) (Or.inr (Or.inr (Or.inr ⟨⟨_, rfl⟩, _, rfl⟩))) ?_
  show m_J _ _ _ _ _ _ _ _ _ [s, mO 7 [.ref 2, .ref 5, .ref 8, .ref 9, .null, .null, .null, .null, .null], oFrame k W H n, cI n (fC W n), cI n (fR W n), oNet n sl, cI m (fB k W H sl m), cZ m (fun _ => false), oTurns (tuN k W H), oWalk, cI n (fun _ => 0), oRow 12 0, cI n (fun _ => 0)]
  refine m_aload_n 68 dX7_init_67 rfl rfl ?_
  refine m_new (ci := 4) (fs := dvX4) 71 tyX4 rfl tyX4_ok inX4 knX7_43 ntX4 ndX4 dfX4 nrX4 dX7_init_68 rfl (by constructor <;> (simp only [m_r]; omega)) ?_
  show m_J _ _ _ _ _ _ _ _ (.ref 13 :: _) [s, mO 7 [.ref 2, .ref 5, .ref 8, .ref 9, .null, .null, .null, .null, .null], oFrame k W H n, cI n (fC W n), cI n (fR W n), oNet n sl, cI m (fB k W H sl m), cZ m (fun _ => false), oTurns (tuN k W H), oWalk, cI n (fun _ => 0), oRow 12 0, cI n (fun _ => 0), mO 4 dvX4]
  refine m_dup 72 dX7_init_71 rfl rfl ?_
  refine m_aload_n 73 dX7_init_72 rfl rfl ?_
  refine m_getf 76 foX7_12 dX7_init_73 rfl (by first | rfl | assumption) (by rfl) ?_
  refine m_cI (M' := MX4_init) 79 [_] kX7_45 imX4_init ⟨rfl, rfl⟩ clX4_init dX7_init_76 rfl rfl (m_rmI (by omega) (Nat.le_of_ble_eq_true rfl) (by first | omega | (simp only [m_r]; omega)) (by first | omega | (simp only [m_r]; omega))) (c_X4_init hG d hFF) ?_
  show m_J _ _ _ _ _ _ _ _ _ [s, mO 7 [.ref 2, .ref 5, .ref 8, .ref 9, .null, .null, .null, .null, .null], oFrame k W H n, cI n (fC W n), cI n (fR W n), oNet n sl, cI m (fB k W H sl m), cZ m (fun _ => false), oTurns (tuN k W H), oWalk, cI n (fun _ => 0), oRow 12 0, cI n (fun _ => 0), oScribe, oRow 15 0, cI (3 * n) (fun _ => 0)]
  refine m_putf 82 tyX7 rfl tyX7_ok nmX7 (Or.inr ⟨rfl, rfl, rfl⟩) foX7_46 dX7_init_79 rfl (by first | rfl | assumption) (Nat.le_of_ble_eq_true rfl) (Or.inr (Or.inr (Or.inr ⟨⟨_, rfl⟩, _, rfl⟩))) ?_
  show m_J _ _ _ _ _ _ _ _ _ [s, mO 7 [.ref 2, .ref 5, .ref 8, .ref 9, .ref 13, .null, .null, .null, .null], oFrame k W H n, cI n (fC W n), cI n (fR W n), oNet n sl, cI m (fB k W H sl m), cZ m (fun _ => false), oTurns (tuN k W H), oWalk, cI n (fun _ => 0), oRow 12 0, cI n (fun _ => 0), oScribe, oRow 15 0, cI (3 * n) (fun _ => 0)]
  refine m_aload_n 83 dX7_init_82 rfl rfl ?_
  refine m_new (ci := 0) (fs := dvX0) 86 tyX0 rfl tyX0_ok inX0 knX7_50 ntX0 ndX0 dfX0 nrX0 dX7_init_83 rfl (by constructor <;> (simp only [m_r]; omega)) ?_
  show m_J _ _ _ _ _ _ _ _ (.ref 16 :: _) [s, mO 7 [.ref 2, .ref 5, .ref 8, .ref 9, .ref 13, .null, .null, .null, .null], oFrame k W H n, cI n (fC W n), cI n (fR W n), oNet n sl, cI m (fB k W H sl m), cZ m (fun _ => false), oTurns (tuN k W H), oWalk, cI n (fun _ => 0), oRow 12 0, cI n (fun _ => 0), oScribe, oRow 15 0, cI (3 * n) (fun _ => 0), mO 0 dvX0]
  refine m_dup 87 dX7_init_86 rfl rfl ?_
  refine m_aload_n 88 dX7_init_87 rfl rfl ?_
  refine m_getf 91 foX7_12 dX7_init_88 rfl (by first | rfl | assumption) (by rfl) ?_
  refine m_cI (M' := MX0_init) 94 [_] kX7_52 imX0_init ⟨rfl, rfl⟩ clX0_init dX7_init_91 rfl rfl (m_rmI (by omega) (Nat.le_of_ble_eq_true rfl) (by first | omega | (simp only [m_r]; omega)) (by first | omega | (simp only [m_r]; omega))) (c_X0_init hG d hFF) ?_
  show m_J _ _ _ _ _ _ _ _ _ [s, mO 7 [.ref 2, .ref 5, .ref 8, .ref 9, .ref 13, .null, .null, .null, .null], oFrame k W H n, cI n (fC W n), cI n (fR W n), oNet n sl, cI m (fB k W H sl m), cZ m (fun _ => false), oTurns (tuN k W H), oWalk, cI n (fun _ => 0), oRow 12 0, cI n (fun _ => 0), oScribe, oRow 15 0, cI (3 * n) (fun _ => 0), oDraft 0 0, cI n (fun _ => 0)]
  refine m_putf 97 tyX7 rfl tyX7_ok nmX7 (Or.inr ⟨rfl, rfl, rfl⟩) foX7_53 dX7_init_94 rfl (by first | rfl | assumption) (Nat.le_of_ble_eq_true rfl) (Or.inr (Or.inr (Or.inr ⟨⟨_, rfl⟩, _, rfl⟩))) ?_
  show m_J _ _ _ _ _ _ _ _ _ [s, mO 7 [.ref 2, .ref 5, .ref 8, .ref 9, .ref 13, .ref 16, .null, .null, .null], oFrame k W H n, cI n (fC W n), cI n (fR W n), oNet n sl, cI m (fB k W H sl m), cZ m (fun _ => false), oTurns (tuN k W H), oWalk, cI n (fun _ => 0), oRow 12 0, cI n (fun _ => 0), oScribe, oRow 15 0, cI (3 * n) (fun _ => 0), oDraft 0 0, cI n (fun _ => 0)]
  refine m_aload_n 98 dX7_init_97 rfl rfl ?_
  refine m_new (ci := 3) (fs := dvX3) 101 tyX3 rfl tyX3_ok inX3 knX7_57 ntX3 ndX3 dfX3 nrX3 dX7_init_98 rfl (by constructor <;> (simp only [m_r]; omega)) ?_
  show m_J _ _ _ _ _ _ _ _ (.ref 18 :: _) [s, mO 7 [.ref 2, .ref 5, .ref 8, .ref 9, .ref 13, .ref 16, .null, .null, .null], oFrame k W H n, cI n (fC W n), cI n (fR W n), oNet n sl, cI m (fB k W H sl m), cZ m (fun _ => false), oTurns (tuN k W H), oWalk, cI n (fun _ => 0), oRow 12 0, cI n (fun _ => 0), oScribe, oRow 15 0, cI (3 * n) (fun _ => 0), oDraft 0 0, cI n (fun _ => 0), mO 3 dvX3]
  refine m_dup 102 dX7_init_101 rfl rfl ?_
  refine i_sipush 105 1200 dX7_init_102 rfl (by decide) ?_
  refine m_cI (M' := MX3_init) 108 [_] kX7_59 imX3_init ⟨rfl, rfl⟩ clX3_init dX7_init_105 rfl rfl (m_rmI (by omega) (Nat.le_of_ble_eq_true rfl) (by first | omega | (simp only [m_r]; omega)) (by first | omega | (simp only [m_r]; omega))) (c_X3_init hG d (N := 1200) (i := 17) (by omega) rfl (Nat.le_of_ble_eq_true rfl)) ?_
  show m_J _ _ _ _ _ _ _ _ _ [s, mO 7 [.ref 2, .ref 5, .ref 8, .ref 9, .ref 13, .ref 16, .null, .null, .null], oFrame k W H n, cI n (fC W n), cI n (fR W n), oNet n sl, cI m (fB k W H sl m), cZ m (fun _ => false), oTurns (tuN k W H), oWalk, cI n (fun _ => 0), oRow 12 0, cI n (fun _ => 0), oScribe, oRow 15 0, cI (3 * n) (fun _ => 0), oDraft 0 0, cI n (fun _ => 0), oRow 19 0, cI 1200 (fun _ => 0)]
  refine m_putf 111 tyX7 rfl tyX7_ok nmX7 (Or.inr ⟨rfl, rfl, rfl⟩) foX7_62 dX7_init_108 rfl (by first | rfl | assumption) (Nat.le_of_ble_eq_true rfl) (Or.inr (Or.inr (Or.inr ⟨⟨_, rfl⟩, _, rfl⟩))) ?_
  show m_J _ _ _ _ _ _ _ _ _ [s, mO 7 [.ref 2, .ref 5, .ref 8, .ref 9, .ref 13, .ref 16, .ref 18, .null, .null], oFrame k W H n, cI n (fC W n), cI n (fR W n), oNet n sl, cI m (fB k W H sl m), cZ m (fun _ => false), oTurns (tuN k W H), oWalk, cI n (fun _ => 0), oRow 12 0, cI n (fun _ => 0), oScribe, oRow 15 0, cI (3 * n) (fun _ => 0), oDraft 0 0, cI n (fun _ => 0), oRow 19 0, cI 1200 (fun _ => 0)]
  refine m_aload_n 112 dX7_init_111 rfl rfl ?_
  refine m_aload_n 113 dX7_init_112 rfl rfl ?_
  refine m_getf 116 foX7_12 dX7_init_113 rfl (by first | rfl | assumption) (by rfl) ?_
  refine m_getf 119 foX7_66 dX7_init_116 rfl (by first | rfl | assumption) (by rfl) ?_
  refine i_newI 121 n dX7_init_119 rfl rfl (by omega) (by constructor <;> (simp only [m_r]; omega)) ?_
  show m_J _ _ _ _ _ _ _ _ (.ref 20 :: _) [s, mO 7 [.ref 2, .ref 5, .ref 8, .ref 9, .ref 13, .ref 16, .ref 18, .null, .null], oFrame k W H n, cI n (fC W n), cI n (fR W n), oNet n sl, cI m (fB k W H sl m), cZ m (fun _ => false), oTurns (tuN k W H), oWalk, cI n (fun _ => 0), oRow 12 0, cI n (fun _ => 0), oScribe, oRow 15 0, cI (3 * n) (fun _ => 0), oDraft 0 0, cI n (fun _ => 0), oRow 19 0, cI 1200 (fun _ => 0), cI n (fun _ => 0)]
  refine m_putf 124 tyX7 rfl tyX7_ok nmX7 (Or.inr ⟨rfl, rfl, rfl⟩) foX7_70 dX7_init_121 rfl (by first | rfl | assumption) (Nat.le_of_ble_eq_true rfl) (Or.inr (Or.inr (Or.inl ⟨⟨_, rfl⟩, _, rfl⟩))) ?_
  show m_J _ _ _ _ _ _ _ _ _ [s, mO 7 [.ref 2, .ref 5, .ref 8, .ref 9, .ref 13, .ref 16, .ref 18, .ref 20, .null], oFrame k W H n, cI n (fC W n), cI n (fR W n), oNet n sl, cI m (fB k W H sl m), cZ m (fun _ => false), oTurns (tuN k W H), oWalk, cI n (fun _ => 0), oRow 12 0, cI n (fun _ => 0), oScribe, oRow 15 0, cI (3 * n) (fun _ => 0), oDraft 0 0, cI n (fun _ => 0), oRow 19 0, cI 1200 (fun _ => 0), cI n (fun _ => 0)]
  refine m_aload_n 125 dX7_init_124 rfl rfl ?_
  refine m_aload_n 126 dX7_init_125 rfl rfl ?_
  refine m_getf 129 foX7_12 dX7_init_126 rfl (by first | rfl | assumption) (by rfl) ?_
  refine m_getf 132 foX7_66 dX7_init_129 rfl (by first | rfl | assumption) (by rfl) ?_
  refine i_newI 134 n dX7_init_132 rfl rfl (by omega) (by constructor <;> (simp only [m_r]; omega)) ?_
  show m_J _ _ _ _ _ _ _ _ (.ref 21 :: _) [s, mO 7 [.ref 2, .ref 5, .ref 8, .ref 9, .ref 13, .ref 16, .ref 18, .ref 20, .null], oFrame k W H n, cI n (fC W n), cI n (fR W n), oNet n sl, cI m (fB k W H sl m), cZ m (fun _ => false), oTurns (tuN k W H), oWalk, cI n (fun _ => 0), oRow 12 0, cI n (fun _ => 0), oScribe, oRow 15 0, cI (3 * n) (fun _ => 0), oDraft 0 0, cI n (fun _ => 0), oRow 19 0, cI 1200 (fun _ => 0), cI n (fun _ => 0), cI n (fun _ => 0)]
  refine m_putf 137 tyX7 rfl tyX7_ok nmX7 (Or.inr ⟨rfl, rfl, rfl⟩) foX7_74 dX7_init_134 rfl (by first | rfl | assumption) (Nat.le_of_ble_eq_true rfl) (Or.inr (Or.inr (Or.inl ⟨⟨_, rfl⟩, _, rfl⟩))) ?_
  refine m_vret dX7_init_137 rfl (by constructor <;> (simp only [m_r]; omega)) ?_
  exact ⟨rfl, rfl⟩
end CU
