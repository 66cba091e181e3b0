/-! the law's wrappers -/
section LW
variable {G : mG} {w : List mC}
theorem m_cSr {G : mG} {M M' : mM} {R R' : Room} {Q Q' : Option (Option Value) → List mC → Prop} {nc ns pc : Nat} {L : List (Option Value)} {st : List Value} {w : List mC} (pc' : Nat) {idx n : Nat} (av : List Value) (hk : Cond.methodLink M.1.cls idx M'.1 ∈ lw_tbl) (hs : Cond.static M'.1 ∈ lw_tbl) (hcl : m_cl M' n) (hd : decode M.2.1 pc = .ok (.invokestatic idx, 3)) (hp : pc + 3 = pc') (hn : av.length = n) (hrm : m_rm R R' M' nc ns st) (hM : m_Ct G M' R' av w Q') (ht : ∀ w', ¬ Q' none w')
    (kk : ∀ (v : Option Value) (w' : List mC), Q' (some v) w' → m_J G M R Q (nc + R'.cells) (ns + R'.slots) pc' L (v.toList ++ st) w') : m_J G M R Q nc ns pc L (av.reverse ++ st) w := by
  subst hp
  exact m_invS hk hs hcl hd hn hrm hM kk (fun w2 h => absurd h (ht w2))
theorem m_cIr {G : mG} {M M' : mM} {R R' : Room} {Q Q' : Option (Option Value) → List mC → Prop} {nc ns pc : Nat} {L : List (Option Value)} {st : List Value} {w : List mC} (pc' : Nat) {idx n i : Nat} (av : List Value) (hk : Cond.methodLink M.1.cls idx M'.1 ∈ lw_tbl) (hi : Cond.instanceMethod M'.1 ∈ lw_tbl) (hin : M'.1.name = "<init>" ∧ M'.2.2.2 = (none, [])) (hcl : m_cl M' n) (hd : decode M.2.1 pc = .ok (.invokespecial idx, 3)) (hp : pc + 3 = pc') (hn : av.length = n) (hrm : m_rm R R' M' nc ns st) (hM : m_Ct G M' R' (.ref i :: av) w Q') (ht : ∀ w', ¬ Q' none w')
    (kk : ∀ (v : Option Value) (w' : List mC), Q' (some v) w' → m_J G M R Q (nc + R'.cells) (ns + R'.slots) pc' L (v.toList ++ st) w') : m_J G M R Q nc ns pc L (av.reverse ++ .ref i :: st) w := by
  subst hp
  exact m_invI hk hi hin hcl hd hn hrm hM kk (fun w2 h => absurd h (ht w2))
theorem vin0 : vp_in (iI 0) 1 := iI_in (by decide) (by decide) (by decide)
theorem c_L_cell (hG : m_G G) (d : Nat) {i : Nat} {N : Nat} {g : Nat → Int} (h0 : w[0]? = some (cI N g)) (hN : N < 2147483648) (hi : i < 3) : m_Cv G ML_cell (m_r d 0 0) [.ref 0, vI (i : Int)] w (some (vI (if i < N then g i else 0))) w := by
  refine m_enter (L := [some (.ref 0), some (vI (i : Int))]) (by decide) hG (m_c1 rfl) (Nat.le_of_ble_eq_true rfl) rfl ?_
  refine m_iload_n 1 dL_cell_0 rfl rfl ?_
  refine m_aload_n 2 dL_cell_1 rfl rfl ?_
  refine i_len 3 dL_cell_2 rfl (by first | rfl | assumption) ?_
  refine i_icmp_ge 6 12 ⟨by omega, by omega⟩ ⟨by omega, by omega⟩ dL_cell_3 rfl (by decide) (fun q3 => ?_) (fun q3 => ?_)
  · refine i_const 13 dL_cell_12 rfl ?_
    refine i_ret _ dL_cell_13 rfl ⟨Nat.le_refl _, Nat.le_refl _⟩ ?_ ⟨rfl, rfl⟩
    first | rw [if_pos (by omega)] | rw [if_neg (by omega)]
  · refine m_aload_n 7 dL_cell_6 rfl rfl ?_
    refine m_iload_n 8 dL_cell_7 rfl rfl ?_
    refine i_ald 9 dL_cell_8 rfl (by first | rfl | assumption) ⟨by omega, by omega, by omega⟩ ?_
    rw [Int.toNat_natCast]
    refine m_goto 13 dL_cell_9 (by decide) ?_
    refine i_ret _ dL_cell_13 rfl ⟨Nat.le_refl _, Nat.le_refl _⟩ ?_ ⟨rfl, rfl⟩
    first | rw [if_pos (by omega)] | rw [if_neg (by omega)]
set_option maxHeartbeats 4000000 in
set_option maxRecDepth 100000 in
theorem w_join_n (hG : m_G G) (d : Nat) {a : Int} {b : Int} {QC Q : Option (Option Value) → List mC → Prop} (h1 : w[1]? = some oGrid) (hC : m_Ct G MX7_join (m_r d 0 0) [.ref 1, vI a, vI b] w QC) (hq : ∀ r x, QC r x → ∃ (bb : Bool) (f : Nat → Int64), r = some (some (vB bb)) ∧ x[30 + 1]? = some (mJ 1 f) ∧ Q (some (some (vI 0))) (x.set (30 + 1) (mJ 1 (vp_updL f (iI 0).toNatClampNeg (if bb then 1 else 0))))) : m_Ct G ML_join (m_r (d + 1) 1 6) [.ref 1, vI a, vI b, .ref 31] w Q := by
  refine m_enter (L := [some (.ref 1), some (vI a), some (vI b), some (.ref 31), none]) (by decide) hG (m_c1 rfl) (Nat.le_of_ble_eq_true rfl) rfl ?_
  refine m_aload_n 1 dL_join_0 rfl rfl ?_
  refine i_const 2 dL_join_1 rfl ?_
  refine m_aload_n 3 dL_join_2 rfl rfl ?_
  refine m_iload_n 4 dL_join_3 rfl rfl ?_
  refine m_iload_n 5 dL_join_4 rfl rfl ?_
  refine m_cVr (M' := MX7_join) 8 [_, _] kL_7 imX7_join seX7_join clX7_join dL_join_5 rfl rfl rfl (by first | rfl | assumption) (m_rmI (by omega) (Nat.le_of_ble_eq_true rfl) (Nat.zero_le _) (Nat.zero_le _)) hC (fun w2 h => by obtain ⟨_, _, h, -⟩ := hq _ _ h; cases h) (fun v2 w2 h => ?_)
  obtain ⟨bb, f, hv, h31, hQ⟩ := hq _ _ h
  cases hv
  refine b_if_eq 11 15 dL_join_8 rfl (by decide) (fun q8 => ?_) (fun q8 => ?_)
  · refine m_lconst (v := 0) 16 dL_join_15 rfl (by decide) ?_
    refine m_last 17 dL_join_16 rfl h31 vin0 ?_
    refine m_goto 24 dL_join_17 (by decide) ?_
    refine i_const 25 dL_join_24 rfl ?_
    refine i_ret _ dL_join_25 rfl (by constructor <;> (simp only [m_r]; omega)) ?_ (by first | (rw [if_pos q8] at hQ; exact hQ) | (rw [if_neg (by rw [q8]; decide)] at hQ; exact hQ))
    rfl
  · refine m_lconst (v := 1) 12 dL_join_11 rfl (by decide) ?_
    refine m_goto 16 dL_join_12 (by decide) ?_
    refine m_last 17 dL_join_16 rfl h31 vin0 ?_
    refine m_goto 24 dL_join_17 (by decide) ?_
    refine i_const 25 dL_join_24 rfl ?_
    refine i_ret _ dL_join_25 rfl (by constructor <;> (simp only [m_r]; omega)) ?_ (by first | (rw [if_pos q8] at hQ; exact hQ) | (rw [if_neg (by rw [q8]; decide)] at hQ; exact hQ))
    rfl
set_option maxHeartbeats 4000000 in
set_option maxRecDepth 100000 in
theorem w_join_x (hG : m_G G) (d : Nat) {a : Int} {b : Int} {Q : Option (Option Value) → List mC → Prop} (h1 : w[1]? = some oGrid) (hC : m_Cx0 G MX7_join (m_r (d + 8) 1 6) [.ref 1, vI a, vI b] w (w ++ [mU])) (hQ : Q (some (some (vI 1))) (w ++ [mU])) : m_Ct G ML_join (m_r (d + 9) 1 6) [.ref 1, vI a, vI b, .ref 31] w Q := by
  refine m_enter (L := [some (.ref 1), some (vI a), some (vI b), some (.ref 31), none]) (by decide) hG (m_c1 rfl) (Nat.le_of_ble_eq_true rfl) rfl ?_
  refine m_aload_n 1 dL_join_0 rfl rfl ?_
  refine i_const 2 dL_join_1 rfl ?_
  refine m_aload_n 3 dL_join_2 rfl rfl ?_
  refine m_iload_n 4 dL_join_3 rfl rfl ?_
  refine m_iload_n 5 dL_join_4 rfl rfl ?_
  refine m_cVx (M' := MX7_join) [_, _] kL_7 imX7_join seX7_join clX7_join dL_join_5 rfl rfl (by first | rfl | assumption) (m_rmI (by omega) (Nat.le_of_ble_eq_true rfl) (Nat.le_refl _) (Nat.le_refl _)) hC ?_
  refine m_T_catch (z := 4) rfl ⟨by decide, by decide⟩ (by decide) kx13 kxc dL_join_20 (Or.inl ⟨rfl, rfl⟩) (by decide) ?_
  refine i_const 23 dL_join_22 rfl ?_
  refine i_ret _ dL_join_23 rfl (by constructor <;> (simp only [m_r]; omega)) ?_ hQ
  rfl
set_option maxHeartbeats 4000000 in
set_option maxRecDepth 100000 in
theorem w_degree_n (hG : m_G G) (d : Nat) {a : Int} {b : Bool} {QC Q : Option (Option Value) → List mC → Prop} (h1 : w[1]? = some oGrid) (hC : m_Ct G MX7_degree (m_r d 0 0) [.ref 1, vI a, vB b] w QC) (hq : ∀ r x, QC r x → ∃ (v : Int) (f : Nat → Int64), r = some (some (vI v)) ∧ x[30 + 1]? = some (mJ 1 f) ∧ Q (some (some (vI 0))) (x.set (30 + 1) (mJ 1 (vp_updL f (iI 0).toNatClampNeg (iI v).toInt64)))) : m_Ct G ML_degree (m_r (d + 1) 1 6) [.ref 1, vI a, vB b, .ref 31] w Q := by
  refine m_enter (L := [some (.ref 1), some (vI a), some (vB b), some (.ref 31), none]) (by decide) hG (m_c1 rfl) (Nat.le_of_ble_eq_true rfl) rfl ?_
  refine m_aload_n 1 dL_degree_0 rfl rfl ?_
  refine i_const 2 dL_degree_1 rfl ?_
  refine m_aload_n 3 dL_degree_2 rfl rfl ?_
  refine m_iload_n 4 dL_degree_3 rfl rfl ?_
  refine m_iload_n 5 dL_degree_4 rfl rfl ?_
  refine m_cVr (M' := MX7_degree) 8 [_, _] kL_15 imX7_degree seX7_degree clX7_degree dL_degree_5 rfl rfl rfl (by first | rfl | assumption) (m_rmI (by omega) (Nat.le_of_ble_eq_true rfl) (Nat.zero_le _) (Nat.zero_le _)) hC (fun w2 h => by obtain ⟨_, _, h, -⟩ := hq _ _ h; cases h) (fun v2 w2 h => ?_)
  obtain ⟨v, f, hv, h31, hQ⟩ := hq _ _ h
  cases hv
  refine m_i2l 9 dL_degree_8 rfl ?_
  refine m_last 10 dL_degree_9 rfl h31 vin0 ?_
  refine m_goto 17 dL_degree_10 (by decide) ?_
  refine i_const 18 dL_degree_17 rfl ?_
  refine i_ret _ dL_degree_18 rfl (by constructor <;> (simp only [m_r]; omega)) ?_ hQ
  rfl
set_option maxHeartbeats 4000000 in
set_option maxRecDepth 100000 in
theorem w_degree_x (hG : m_G G) (d : Nat) {a : Int} {b : Bool} {Q : Option (Option Value) → List mC → Prop} (h1 : w[1]? = some oGrid) (hC : m_Cx0 G MX7_degree (m_r (d + 8) 1 6) [.ref 1, vI a, vB b] w (w ++ [mU])) (hQ : Q (some (some (vI 1))) (w ++ [mU])) : m_Ct G ML_degree (m_r (d + 9) 1 6) [.ref 1, vI a, vB b, .ref 31] w Q := by
  refine m_enter (L := [some (.ref 1), some (vI a), some (vB b), some (.ref 31), none]) (by decide) hG (m_c1 rfl) (Nat.le_of_ble_eq_true rfl) rfl ?_
  refine m_aload_n 1 dL_degree_0 rfl rfl ?_
  refine i_const 2 dL_degree_1 rfl ?_
  refine m_aload_n 3 dL_degree_2 rfl rfl ?_
  refine m_iload_n 4 dL_degree_3 rfl rfl ?_
  refine m_iload_n 5 dL_degree_4 rfl rfl ?_
  refine m_cVx (M' := MX7_degree) [_, _] kL_15 imX7_degree seX7_degree clX7_degree dL_degree_5 rfl rfl (by first | rfl | assumption) (m_rmI (by omega) (Nat.le_of_ble_eq_true rfl) (Nat.le_refl _) (Nat.le_refl _)) hC ?_
  refine m_T_catch (z := 4) rfl ⟨by decide, by decide⟩ (by decide) kx13 kxc dL_degree_13 (Or.inl ⟨rfl, rfl⟩) (by decide) ?_
  refine i_const 16 dL_degree_15 rfl ?_
  refine i_ret _ dL_degree_16 rfl (by constructor <;> (simp only [m_r]; omega)) ?_ hQ
  rfl
set_option maxHeartbeats 4000000 in
set_option maxRecDepth 100000 in
theorem w_neighbour_n (hG : m_G G) (d : Nat) {a : Int} {b : Int} {QC Q : Option (Option Value) → List mC → Prop} (h1 : w[1]? = some oGrid) (hC : m_Ct G MX7_neighbour (m_r d 0 0) [.ref 1, vI a, vI b] w QC) (hq : ∀ r x, QC r x → ∃ (v : Int) (f : Nat → Int64), r = some (some (vI v)) ∧ x[30 + 1]? = some (mJ 1 f) ∧ Q (some (some (vI 0))) (x.set (30 + 1) (mJ 1 (vp_updL f (iI 0).toNatClampNeg (iI v).toInt64)))) : m_Ct G ML_neighbour (m_r (d + 1) 1 6) [.ref 1, vI a, vI b, .ref 31] w Q := by
  refine m_enter (L := [some (.ref 1), some (vI a), some (vI b), some (.ref 31), none]) (by decide) hG (m_c1 rfl) (Nat.le_of_ble_eq_true rfl) rfl ?_
  refine m_aload_n 1 dL_neighbour_0 rfl rfl ?_
  refine i_const 2 dL_neighbour_1 rfl ?_
  refine m_aload_n 3 dL_neighbour_2 rfl rfl ?_
  refine m_iload_n 4 dL_neighbour_3 rfl rfl ?_
  refine m_iload_n 5 dL_neighbour_4 rfl rfl ?_
  refine m_cVr (M' := MX7_neighbour) 8 [_, _] kL_19 imX7_neighbour seX7_neighbour clX7_neighbour dL_neighbour_5 rfl rfl rfl (by first | rfl | assumption) (m_rmI (by omega) (Nat.le_of_ble_eq_true rfl) (Nat.zero_le _) (Nat.zero_le _)) hC (fun w2 h => by obtain ⟨_, _, h, -⟩ := hq _ _ h; cases h) (fun v2 w2 h => ?_)
  obtain ⟨v, f, hv, h31, hQ⟩ := hq _ _ h
  cases hv
  refine m_i2l 9 dL_neighbour_8 rfl ?_
  refine m_last 10 dL_neighbour_9 rfl h31 vin0 ?_
  refine m_goto 17 dL_neighbour_10 (by decide) ?_
  refine i_const 18 dL_neighbour_17 rfl ?_
  refine i_ret _ dL_neighbour_18 rfl (by constructor <;> (simp only [m_r]; omega)) ?_ hQ
  rfl
set_option maxHeartbeats 4000000 in
set_option maxRecDepth 100000 in
theorem w_neighbour_x (hG : m_G G) (d : Nat) {a : Int} {b : Int} {Q : Option (Option Value) → List mC → Prop} (h1 : w[1]? = some oGrid) (hC : m_Cx0 G MX7_neighbour (m_r (d + 8) 1 6) [.ref 1, vI a, vI b] w (w ++ [mU])) (hQ : Q (some (some (vI 1))) (w ++ [mU])) : m_Ct G ML_neighbour (m_r (d + 9) 1 6) [.ref 1, vI a, vI b, .ref 31] w Q := by
  refine m_enter (L := [some (.ref 1), some (vI a), some (vI b), some (.ref 31), none]) (by decide) hG (m_c1 rfl) (Nat.le_of_ble_eq_true rfl) rfl ?_
  refine m_aload_n 1 dL_neighbour_0 rfl rfl ?_
  refine i_const 2 dL_neighbour_1 rfl ?_
  refine m_aload_n 3 dL_neighbour_2 rfl rfl ?_
  refine m_iload_n 4 dL_neighbour_3 rfl rfl ?_
  refine m_iload_n 5 dL_neighbour_4 rfl rfl ?_
  refine m_cVx (M' := MX7_neighbour) [_, _] kL_19 imX7_neighbour seX7_neighbour clX7_neighbour dL_neighbour_5 rfl rfl (by first | rfl | assumption) (m_rmI (by omega) (Nat.le_of_ble_eq_true rfl) (Nat.le_refl _) (Nat.le_refl _)) hC ?_
  refine m_T_catch (z := 4) rfl ⟨by decide, by decide⟩ (by decide) kx13 kxc dL_neighbour_13 (Or.inl ⟨rfl, rfl⟩) (by decide) ?_
  refine i_const 16 dL_neighbour_15 rfl ?_
  refine i_ret _ dL_neighbour_16 rfl (by constructor <;> (simp only [m_r]; omega)) ?_ hQ
  rfl
set_option maxHeartbeats 4000000 in
set_option maxRecDepth 100000 in
theorem w_wall_n (hG : m_G G) (d : Nat) {a : Int} {b : Int} {c : Bool} {QC Q : Option (Option Value) → List mC → Prop} (h1 : w[1]? = some oGrid) (hC : m_Ct G MX7_wall (m_r d 0 0) [.ref 1, vI a, vI b, vB c] w QC) (hq : ∀ r x, QC r x → ∃ (bb : Bool) (f : Nat → Int64), r = some (some (vB bb)) ∧ x[30 + 1]? = some (mJ 1 f) ∧ Q (some (some (vI 0))) (x.set (30 + 1) (mJ 1 (vp_updL f (iI 0).toNatClampNeg (if bb then 1 else 0))))) : m_Ct G ML_wall (m_r (d + 1) 1 6) [.ref 1, vI a, vI b, vB c, .ref 31] w Q := by
  refine m_enter (L := [some (.ref 1), some (vI a), some (vI b), some (vB c), some (.ref 31), none]) (by decide) hG (m_c1 rfl) (Nat.le_of_ble_eq_true rfl) rfl ?_
  refine m_aload 2 dL_wall_0 rfl rfl ?_
  refine i_const 3 dL_wall_2 rfl ?_
  refine m_aload_n 4 dL_wall_3 rfl rfl ?_
  refine m_iload_n 5 dL_wall_4 rfl rfl ?_
  refine m_iload_n 6 dL_wall_5 rfl rfl ?_
  refine m_iload_n 7 dL_wall_6 rfl rfl ?_
  refine m_cVr (M' := MX7_wall) 10 [_, _, _] kL_23 imX7_wall seX7_wall clX7_wall dL_wall_7 rfl rfl rfl (by first | rfl | assumption) (m_rmI (by omega) (Nat.le_of_ble_eq_true rfl) (Nat.zero_le _) (Nat.zero_le _)) hC (fun w2 h => by obtain ⟨_, _, h, -⟩ := hq _ _ h; cases h) (fun v2 w2 h => ?_)
  obtain ⟨bb, f, hv, h31, hQ⟩ := hq _ _ h
  cases hv
  refine b_if_eq 13 17 dL_wall_10 rfl (by decide) (fun q10 => ?_) (fun q10 => ?_)
  · refine m_lconst (v := 0) 18 dL_wall_17 rfl (by decide) ?_
    refine m_last 19 dL_wall_18 rfl h31 vin0 ?_
    refine m_goto 26 dL_wall_19 (by decide) ?_
    refine i_const 27 dL_wall_26 rfl ?_
    refine i_ret _ dL_wall_27 rfl (by constructor <;> (simp only [m_r]; omega)) ?_ (by first | (rw [if_pos q10] at hQ; exact hQ) | (rw [if_neg (by rw [q10]; decide)] at hQ; exact hQ))
    rfl
  · refine m_lconst (v := 1) 14 dL_wall_13 rfl (by decide) ?_
    refine m_goto 18 dL_wall_14 (by decide) ?_
    refine m_last 19 dL_wall_18 rfl h31 vin0 ?_
    refine m_goto 26 dL_wall_19 (by decide) ?_
    refine i_const 27 dL_wall_26 rfl ?_
    refine i_ret _ dL_wall_27 rfl (by constructor <;> (simp only [m_r]; omega)) ?_ (by first | (rw [if_pos q10] at hQ; exact hQ) | (rw [if_neg (by rw [q10]; decide)] at hQ; exact hQ))
    rfl
set_option maxHeartbeats 4000000 in
set_option maxRecDepth 100000 in
theorem w_wall_x (hG : m_G G) (d : Nat) {a : Int} {b : Int} {c : Bool} {Q : Option (Option Value) → List mC → Prop} (h1 : w[1]? = some oGrid) (hC : m_Cx0 G MX7_wall (m_r (d + 8) 1 6) [.ref 1, vI a, vI b, vB c] w (w ++ [mU])) (hQ : Q (some (some (vI 1))) (w ++ [mU])) : m_Ct G ML_wall (m_r (d + 9) 1 6) [.ref 1, vI a, vI b, vB c, .ref 31] w Q := by
  refine m_enter (L := [some (.ref 1), some (vI a), some (vI b), some (vB c), some (.ref 31), none]) (by decide) hG (m_c1 rfl) (Nat.le_of_ble_eq_true rfl) rfl ?_
  refine m_aload 2 dL_wall_0 rfl rfl ?_
  refine i_const 3 dL_wall_2 rfl ?_
  refine m_aload_n 4 dL_wall_3 rfl rfl ?_
  refine m_iload_n 5 dL_wall_4 rfl rfl ?_
  refine m_iload_n 6 dL_wall_5 rfl rfl ?_
  refine m_iload_n 7 dL_wall_6 rfl rfl ?_
  refine m_cVx (M' := MX7_wall) [_, _, _] kL_23 imX7_wall seX7_wall clX7_wall dL_wall_7 rfl rfl (by first | rfl | assumption) (m_rmI (by omega) (Nat.le_of_ble_eq_true rfl) (Nat.le_refl _) (Nat.le_refl _)) hC ?_
  refine m_T_catch (z := 5) rfl ⟨by decide, by decide⟩ (by decide) kx13 kxc dL_wall_22 (Or.inl ⟨rfl, rfl⟩) (by decide) ?_
  refine i_const 25 dL_wall_24 rfl ?_
  refine i_ret _ dL_wall_25 rfl (by constructor <;> (simp only [m_r]; omega)) ?_ hQ
  rfl
set_option maxHeartbeats 4000000 in
set_option maxRecDepth 100000 in
theorem w_seen_n (hG : m_G G) (d : Nat) {a : Int} {b : Int} {c : Int} {QC Q : Option (Option Value) → List mC → Prop} (h1 : w[1]? = some oGrid) (hC : m_Ct G MX7_seen (m_r d 0 0) [.ref 1, vI a, vI b, vI c] w QC) (hq : ∀ r x, QC r x → ∃ (v : Int) (f : Nat → Int64), r = some (some (vI v)) ∧ x[30 + 1]? = some (mJ 1 f) ∧ Q (some (some (vI 0))) (x.set (30 + 1) (mJ 1 (vp_updL f (iI 0).toNatClampNeg (iI v).toInt64)))) : m_Ct G ML_seen (m_r (d + 1) 1 6) [.ref 1, vI a, vI b, vI c, .ref 31] w Q := by
  refine m_enter (L := [some (.ref 1), some (vI a), some (vI b), some (vI c), some (.ref 31), none]) (by decide) hG (m_c1 rfl) (Nat.le_of_ble_eq_true rfl) rfl ?_
  refine m_aload 2 dL_seen_0 rfl rfl ?_
  refine i_const 3 dL_seen_2 rfl ?_
  refine m_aload_n 4 dL_seen_3 rfl rfl ?_
  refine m_iload_n 5 dL_seen_4 rfl rfl ?_
  refine m_iload_n 6 dL_seen_5 rfl rfl ?_
  refine m_iload_n 7 dL_seen_6 rfl rfl ?_
  refine m_cVr (M' := MX7_seen) 10 [_, _, _] kL_27 imX7_seen seX7_seen clX7_seen dL_seen_7 rfl rfl rfl (by first | rfl | assumption) (m_rmI (by omega) (Nat.le_of_ble_eq_true rfl) (Nat.zero_le _) (Nat.zero_le _)) hC (fun w2 h => by obtain ⟨_, _, h, -⟩ := hq _ _ h; cases h) (fun v2 w2 h => ?_)
  obtain ⟨v, f, hv, h31, hQ⟩ := hq _ _ h
  cases hv
  refine m_i2l 11 dL_seen_10 rfl ?_
  refine m_last 12 dL_seen_11 rfl h31 vin0 ?_
  refine m_goto 19 dL_seen_12 (by decide) ?_
  refine i_const 20 dL_seen_19 rfl ?_
  refine i_ret _ dL_seen_20 rfl (by constructor <;> (simp only [m_r]; omega)) ?_ hQ
  rfl
set_option maxHeartbeats 4000000 in
set_option maxRecDepth 100000 in
theorem w_seen_x (hG : m_G G) (d : Nat) {a : Int} {b : Int} {c : Int} {Q : Option (Option Value) → List mC → Prop} (h1 : w[1]? = some oGrid) (hC : m_Cx0 G MX7_seen (m_r (d + 8) 1 6) [.ref 1, vI a, vI b, vI c] w (w ++ [mU])) (hQ : Q (some (some (vI 1))) (w ++ [mU])) : m_Ct G ML_seen (m_r (d + 9) 1 6) [.ref 1, vI a, vI b, vI c, .ref 31] w Q := by
  refine m_enter (L := [some (.ref 1), some (vI a), some (vI b), some (vI c), some (.ref 31), none]) (by decide) hG (m_c1 rfl) (Nat.le_of_ble_eq_true rfl) rfl ?_
  refine m_aload 2 dL_seen_0 rfl rfl ?_
  refine i_const 3 dL_seen_2 rfl ?_
  refine m_aload_n 4 dL_seen_3 rfl rfl ?_
  refine m_iload_n 5 dL_seen_4 rfl rfl ?_
  refine m_iload_n 6 dL_seen_5 rfl rfl ?_
  refine m_iload_n 7 dL_seen_6 rfl rfl ?_
  refine m_cVx (M' := MX7_seen) [_, _, _] kL_27 imX7_seen seX7_seen clX7_seen dL_seen_7 rfl rfl (by first | rfl | assumption) (m_rmI (by omega) (Nat.le_of_ble_eq_true rfl) (Nat.le_refl _) (Nat.le_refl _)) hC ?_
  refine m_T_catch (z := 5) rfl ⟨by decide, by decide⟩ (by decide) kx13 kxc dL_seen_15 (Or.inl ⟨rfl, rfl⟩) (by decide) ?_
  refine i_const 18 dL_seen_17 rfl ?_
  refine i_ret _ dL_seen_18 rfl (by constructor <;> (simp only [m_r]; omega)) ?_ hQ
  rfl
set_option maxHeartbeats 4000000 in
set_option maxRecDepth 100000 in
theorem w_far_n (hG : m_G G) (d : Nat) {a : Int} {b : Int} {QC Q : Option (Option Value) → List mC → Prop} (h1 : w[1]? = some oGrid) (hC : m_Ct G MX7_far (m_r d 0 0) [.ref 1, vI a, vI b] w QC) (hq : ∀ r x, QC r x → ∃ (v : Int) (f : Nat → Int64), r = some (some (vI v)) ∧ x[30 + 1]? = some (mJ 1 f) ∧ Q (some (some (vI 0))) (x.set (30 + 1) (mJ 1 (vp_updL f (iI 0).toNatClampNeg (iI v).toInt64)))) : m_Ct G ML_far (m_r (d + 1) 1 6) [.ref 1, vI a, vI b, .ref 31] w Q := by
  refine m_enter (L := [some (.ref 1), some (vI a), some (vI b), some (.ref 31), none]) (by decide) hG (m_c1 rfl) (Nat.le_of_ble_eq_true rfl) rfl ?_
  refine m_aload_n 1 dL_far_0 rfl rfl ?_
  refine i_const 2 dL_far_1 rfl ?_
  refine m_aload_n 3 dL_far_2 rfl rfl ?_
  refine m_iload_n 4 dL_far_3 rfl rfl ?_
  refine m_iload_n 5 dL_far_4 rfl rfl ?_
  refine m_cVr (M' := MX7_far) 8 [_, _] kL_31 imX7_far seX7_far clX7_far dL_far_5 rfl rfl rfl (by first | rfl | assumption) (m_rmI (by omega) (Nat.le_of_ble_eq_true rfl) (Nat.zero_le _) (Nat.zero_le _)) hC (fun w2 h => by obtain ⟨_, _, h, -⟩ := hq _ _ h; cases h) (fun v2 w2 h => ?_)
  obtain ⟨v, f, hv, h31, hQ⟩ := hq _ _ h
  cases hv
  refine m_i2l 9 dL_far_8 rfl ?_
  refine m_last 10 dL_far_9 rfl h31 vin0 ?_
  refine m_goto 17 dL_far_10 (by decide) ?_
  refine i_const 18 dL_far_17 rfl ?_
  refine i_ret _ dL_far_18 rfl (by constructor <;> (simp only [m_r]; omega)) ?_ hQ
  rfl
set_option maxHeartbeats 4000000 in
set_option maxRecDepth 100000 in
theorem w_far_x (hG : m_G G) (d : Nat) {a : Int} {b : Int} {Q : Option (Option Value) → List mC → Prop} (h1 : w[1]? = some oGrid) (hC : m_Cx0 G MX7_far (m_r (d + 8) 1 6) [.ref 1, vI a, vI b] w (w ++ [mU])) (hQ : Q (some (some (vI 1))) (w ++ [mU])) : m_Ct G ML_far (m_r (d + 9) 1 6) [.ref 1, vI a, vI b, .ref 31] w Q := by
  refine m_enter (L := [some (.ref 1), some (vI a), some (vI b), some (.ref 31), none]) (by decide) hG (m_c1 rfl) (Nat.le_of_ble_eq_true rfl) rfl ?_
  refine m_aload_n 1 dL_far_0 rfl rfl ?_
  refine i_const 2 dL_far_1 rfl ?_
  refine m_aload_n 3 dL_far_2 rfl rfl ?_
  refine m_iload_n 4 dL_far_3 rfl rfl ?_
  refine m_iload_n 5 dL_far_4 rfl rfl ?_
  refine m_cVx (M' := MX7_far) [_, _] kL_31 imX7_far seX7_far clX7_far dL_far_5 rfl rfl (by first | rfl | assumption) (m_rmI (by omega) (Nat.le_of_ble_eq_true rfl) (Nat.le_refl _) (Nat.le_refl _)) hC ?_
  refine m_T_catch (z := 4) rfl ⟨by decide, by decide⟩ (by decide) kx13 kxc dL_far_13 (Or.inl ⟨rfl, rfl⟩) (by decide) ?_
  refine i_const 16 dL_far_15 rfl ?_
  refine i_ret _ dL_far_16 rfl (by constructor <;> (simp only [m_r]; omega)) ?_ hQ
  rfl
set_option maxHeartbeats 4000000 in
set_option maxRecDepth 100000 in
theorem w_without_n (hG : m_G G) (d : Nat) {a : Int} {QC Q : Option (Option Value) → List mC → Prop} (h1 : w[1]? = some oGrid) (hC : m_Ct G MX7_without (m_r d 0 0) [.ref 1, vI a] w QC) (hq : ∀ r x, QC r x → ∃ (v : Int) (f : Nat → Int64), r = some (some (vI v)) ∧ x[30 + 1]? = some (mJ 1 f) ∧ Q (some (some (vI 0))) (x.set (30 + 1) (mJ 1 (vp_updL f (iI 0).toNatClampNeg (iI v).toInt64)))) : m_Ct G ML_without (m_r (d + 1) 1 6) [.ref 1, vI a, .ref 31] w Q := by
  refine m_enter (L := [some (.ref 1), some (vI a), some (.ref 31), none]) (by decide) hG (m_c1 rfl) (Nat.le_of_ble_eq_true rfl) rfl ?_
  refine m_aload_n 1 dL_without_0 rfl rfl ?_
  refine i_const 2 dL_without_1 rfl ?_
  refine m_aload_n 3 dL_without_2 rfl rfl ?_
  refine m_iload_n 4 dL_without_3 rfl rfl ?_
  refine m_cVr (M' := MX7_without) 7 [_] kL_34 imX7_without seX7_without clX7_without dL_without_4 rfl rfl rfl (by first | rfl | assumption) (m_rmI (by omega) (Nat.le_of_ble_eq_true rfl) (Nat.zero_le _) (Nat.zero_le _)) hC (fun w2 h => by obtain ⟨_, _, h, -⟩ := hq _ _ h; cases h) (fun v2 w2 h => ?_)
  obtain ⟨v, f, hv, h31, hQ⟩ := hq _ _ h
  cases hv
  refine m_i2l 8 dL_without_7 rfl ?_
  refine m_last 9 dL_without_8 rfl h31 vin0 ?_
  refine m_goto 15 dL_without_9 (by decide) ?_
  refine i_const 16 dL_without_15 rfl ?_
  refine i_ret _ dL_without_16 rfl (by constructor <;> (simp only [m_r]; omega)) ?_ hQ
  rfl
set_option maxHeartbeats 4000000 in
set_option maxRecDepth 100000 in
theorem w_without_x (hG : m_G G) (d : Nat) {a : Int} {Q : Option (Option Value) → List mC → Prop} (h1 : w[1]? = some oGrid) (hC : m_Cx0 G MX7_without (m_r (d + 8) 1 6) [.ref 1, vI a] w (w ++ [mU])) (hQ : Q (some (some (vI 1))) (w ++ [mU])) : m_Ct G ML_without (m_r (d + 9) 1 6) [.ref 1, vI a, .ref 31] w Q := by
  refine m_enter (L := [some (.ref 1), some (vI a), some (.ref 31), none]) (by decide) hG (m_c1 rfl) (Nat.le_of_ble_eq_true rfl) rfl ?_
  refine m_aload_n 1 dL_without_0 rfl rfl ?_
  refine i_const 2 dL_without_1 rfl ?_
  refine m_aload_n 3 dL_without_2 rfl rfl ?_
  refine m_iload_n 4 dL_without_3 rfl rfl ?_
  refine m_cVx (M' := MX7_without) [_] kL_34 imX7_without seX7_without clX7_without dL_without_4 rfl rfl (by first | rfl | assumption) (m_rmI (by omega) (Nat.le_of_ble_eq_true rfl) (Nat.le_refl _) (Nat.le_refl _)) hC ?_
  refine m_T_catch (z := 3) rfl ⟨by decide, by decide⟩ (by decide) kx13 kxc dL_without_12 (Or.inr ⟨_, rfl, rfl, rfl⟩) (by decide) ?_
  refine i_const 14 dL_without_13 rfl ?_
  refine i_ret _ dL_without_14 rfl (by constructor <;> (simp only [m_r]; omega)) ?_ hQ
  rfl
set_option maxHeartbeats 4000000 in
set_option maxRecDepth 100000 in
theorem w_area_n (hG : m_G G) (d : Nat) {a : Int} {b : Int} {QC Q : Option (Option Value) → List mC → Prop} (h1 : w[1]? = some oGrid) (hC : m_Ct G MX7_area (m_r d 0 0) [.ref 1, vI a, vI b] w QC) (hq : ∀ r x, QC r x → ∃ (bb : Bool) (f : Nat → Int64), r = some (some (vB bb)) ∧ x[30 + 1]? = some (mJ 1 f) ∧ Q (some (some (vI 0))) (x.set (30 + 1) (mJ 1 (vp_updL f (iI 0).toNatClampNeg (if bb then 1 else 0))))) : m_Ct G ML_area (m_r (d + 1) 1 6) [.ref 1, vI a, vI b, .ref 31] w Q := by
  refine m_enter (L := [some (.ref 1), some (vI a), some (vI b), some (.ref 31), none]) (by decide) hG (m_c1 rfl) (Nat.le_of_ble_eq_true rfl) rfl ?_
  refine m_aload_n 1 dL_area_0 rfl rfl ?_
  refine i_const 2 dL_area_1 rfl ?_
  refine m_aload_n 3 dL_area_2 rfl rfl ?_
  refine m_iload_n 4 dL_area_3 rfl rfl ?_
  refine m_iload_n 5 dL_area_4 rfl rfl ?_
  refine m_cVr (M' := MX7_area) 8 [_, _] kL_38 imX7_area seX7_area clX7_area dL_area_5 rfl rfl rfl (by first | rfl | assumption) (m_rmI (by omega) (Nat.le_of_ble_eq_true rfl) (Nat.zero_le _) (Nat.zero_le _)) hC (fun w2 h => by obtain ⟨_, _, h, -⟩ := hq _ _ h; cases h) (fun v2 w2 h => ?_)
  obtain ⟨bb, f, hv, h31, hQ⟩ := hq _ _ h
  cases hv
  refine b_if_eq 11 15 dL_area_8 rfl (by decide) (fun q8 => ?_) (fun q8 => ?_)
  · refine m_lconst (v := 0) 16 dL_area_15 rfl (by decide) ?_
    refine m_last 17 dL_area_16 rfl h31 vin0 ?_
    refine m_goto 24 dL_area_17 (by decide) ?_
    refine i_const 25 dL_area_24 rfl ?_
    refine i_ret _ dL_area_25 rfl (by constructor <;> (simp only [m_r]; omega)) ?_ (by first | (rw [if_pos q8] at hQ; exact hQ) | (rw [if_neg (by rw [q8]; decide)] at hQ; exact hQ))
    rfl
  · refine m_lconst (v := 1) 12 dL_area_11 rfl (by decide) ?_
    refine m_goto 16 dL_area_12 (by decide) ?_
    refine m_last 17 dL_area_16 rfl h31 vin0 ?_
    refine m_goto 24 dL_area_17 (by decide) ?_
    refine i_const 25 dL_area_24 rfl ?_
    refine i_ret _ dL_area_25 rfl (by constructor <;> (simp only [m_r]; omega)) ?_ (by first | (rw [if_pos q8] at hQ; exact hQ) | (rw [if_neg (by rw [q8]; decide)] at hQ; exact hQ))
    rfl
set_option maxHeartbeats 4000000 in
set_option maxRecDepth 100000 in
theorem w_area_x (hG : m_G G) (d : Nat) {a : Int} {b : Int} {Q : Option (Option Value) → List mC → Prop} (h1 : w[1]? = some oGrid) (hC : m_Cx0 G MX7_area (m_r (d + 8) 1 6) [.ref 1, vI a, vI b] w (w ++ [mU])) (hQ : Q (some (some (vI 1))) (w ++ [mU])) : m_Ct G ML_area (m_r (d + 9) 1 6) [.ref 1, vI a, vI b, .ref 31] w Q := by
  refine m_enter (L := [some (.ref 1), some (vI a), some (vI b), some (.ref 31), none]) (by decide) hG (m_c1 rfl) (Nat.le_of_ble_eq_true rfl) rfl ?_
  refine m_aload_n 1 dL_area_0 rfl rfl ?_
  refine i_const 2 dL_area_1 rfl ?_
  refine m_aload_n 3 dL_area_2 rfl rfl ?_
  refine m_iload_n 4 dL_area_3 rfl rfl ?_
  refine m_iload_n 5 dL_area_4 rfl rfl ?_
  refine m_cVx (M' := MX7_area) [_, _] kL_38 imX7_area seX7_area clX7_area dL_area_5 rfl rfl (by first | rfl | assumption) (m_rmI (by omega) (Nat.le_of_ble_eq_true rfl) (Nat.le_refl _) (Nat.le_refl _)) hC ?_
  refine m_T_catch (z := 4) rfl ⟨by decide, by decide⟩ (by decide) kx13 kxc dL_area_20 (Or.inl ⟨rfl, rfl⟩) (by decide) ?_
  refine i_const 23 dL_area_22 rfl ?_
  refine i_ret _ dL_area_23 rfl (by constructor <;> (simp only [m_r]; omega)) ?_ hQ
  rfl
set_option maxHeartbeats 4000000 in
set_option maxRecDepth 100000 in
theorem w_mark_n (hG : m_G G) (d : Nat) {a : Int} {b : Int} {QC Q : Option (Option Value) → List mC → Prop} (h1 : w[1]? = some oGrid) (hC : m_Ct G MX7_mark (m_r d 0 0) [.ref 1, vI a, vI b] w QC) (hq : ∀ r x, QC r x → ∃ (bb : Bool) (f : Nat → Int64), r = some (some (vB bb)) ∧ x[30 + 1]? = some (mJ 1 f) ∧ Q (some (some (vI 0))) (x.set (30 + 1) (mJ 1 (vp_updL f (iI 0).toNatClampNeg (if bb then 1 else 0))))) : m_Ct G ML_mark (m_r (d + 1) 1 6) [.ref 1, vI a, vI b, .ref 31] w Q := by
  refine m_enter (L := [some (.ref 1), some (vI a), some (vI b), some (.ref 31), none]) (by decide) hG (m_c1 rfl) (Nat.le_of_ble_eq_true rfl) rfl ?_
  refine m_aload_n 1 dL_mark_0 rfl rfl ?_
  refine i_const 2 dL_mark_1 rfl ?_
  refine m_aload_n 3 dL_mark_2 rfl rfl ?_
  refine m_iload_n 4 dL_mark_3 rfl rfl ?_
  refine m_iload_n 5 dL_mark_4 rfl rfl ?_
  refine m_cVr (M' := MX7_mark) 8 [_, _] kL_41 imX7_mark seX7_mark clX7_mark dL_mark_5 rfl rfl rfl (by first | rfl | assumption) (m_rmI (by omega) (Nat.le_of_ble_eq_true rfl) (Nat.zero_le _) (Nat.zero_le _)) hC (fun w2 h => by obtain ⟨_, _, h, -⟩ := hq _ _ h; cases h) (fun v2 w2 h => ?_)
  obtain ⟨bb, f, hv, h31, hQ⟩ := hq _ _ h
  cases hv
  refine b_if_eq 11 15 dL_mark_8 rfl (by decide) (fun q8 => ?_) (fun q8 => ?_)
  · refine m_lconst (v := 0) 16 dL_mark_15 rfl (by decide) ?_
    refine m_last 17 dL_mark_16 rfl h31 vin0 ?_
    refine m_goto 24 dL_mark_17 (by decide) ?_
    refine i_const 25 dL_mark_24 rfl ?_
    refine i_ret _ dL_mark_25 rfl (by constructor <;> (simp only [m_r]; omega)) ?_ (by first | (rw [if_pos q8] at hQ; exact hQ) | (rw [if_neg (by rw [q8]; decide)] at hQ; exact hQ))
    rfl
  · refine m_lconst (v := 1) 12 dL_mark_11 rfl (by decide) ?_
    refine m_goto 16 dL_mark_12 (by decide) ?_
    refine m_last 17 dL_mark_16 rfl h31 vin0 ?_
    refine m_goto 24 dL_mark_17 (by decide) ?_
    refine i_const 25 dL_mark_24 rfl ?_
    refine i_ret _ dL_mark_25 rfl (by constructor <;> (simp only [m_r]; omega)) ?_ (by first | (rw [if_pos q8] at hQ; exact hQ) | (rw [if_neg (by rw [q8]; decide)] at hQ; exact hQ))
    rfl
set_option maxHeartbeats 4000000 in
set_option maxRecDepth 100000 in
theorem w_mark_x (hG : m_G G) (d : Nat) {a : Int} {b : Int} {Q : Option (Option Value) → List mC → Prop} (h1 : w[1]? = some oGrid) (hC : m_Cx0 G MX7_mark (m_r (d + 8) 1 6) [.ref 1, vI a, vI b] w (w ++ [mU])) (hQ : Q (some (some (vI 1))) (w ++ [mU])) : m_Ct G ML_mark (m_r (d + 9) 1 6) [.ref 1, vI a, vI b, .ref 31] w Q := by
  refine m_enter (L := [some (.ref 1), some (vI a), some (vI b), some (.ref 31), none]) (by decide) hG (m_c1 rfl) (Nat.le_of_ble_eq_true rfl) rfl ?_
  refine m_aload_n 1 dL_mark_0 rfl rfl ?_
  refine i_const 2 dL_mark_1 rfl ?_
  refine m_aload_n 3 dL_mark_2 rfl rfl ?_
  refine m_iload_n 4 dL_mark_3 rfl rfl ?_
  refine m_iload_n 5 dL_mark_4 rfl rfl ?_
  refine m_cVx (M' := MX7_mark) [_, _] kL_41 imX7_mark seX7_mark clX7_mark dL_mark_5 rfl rfl (by first | rfl | assumption) (m_rmI (by omega) (Nat.le_of_ble_eq_true rfl) (Nat.le_refl _) (Nat.le_refl _)) hC ?_
  refine m_T_catch (z := 4) rfl ⟨by decide, by decide⟩ (by decide) kx13 kxc dL_mark_20 (Or.inl ⟨rfl, rfl⟩) (by decide) ?_
  refine i_const 23 dL_mark_22 rfl ?_
  refine i_ret _ dL_mark_23 rfl (by constructor <;> (simp only [m_r]; omega)) ?_ hQ
  rfl
set_option maxHeartbeats 4000000 in
set_option maxRecDepth 100000 in
theorem w_image_n (hG : m_G G) (d : Nat) {a : Int} {b : Int} {QC Q : Option (Option Value) → List mC → Prop} (h1 : w[1]? = some oGrid) (hC : m_Ct G MX7_image (m_r d 0 0) [.ref 1, vI a, vI b] w QC) (hq : ∀ r x, QC r x → ∃ (v : Int) (f : Nat → Int64), r = some (some (vI v)) ∧ x[30 + 1]? = some (mJ 1 f) ∧ Q (some (some (vI 0))) (x.set (30 + 1) (mJ 1 (vp_updL f (iI 0).toNatClampNeg (iI v).toInt64)))) : m_Ct G ML_image (m_r (d + 1) 1 6) [.ref 1, vI a, vI b, .ref 31] w Q := by
  refine m_enter (L := [some (.ref 1), some (vI a), some (vI b), some (.ref 31), none]) (by decide) hG (m_c1 rfl) (Nat.le_of_ble_eq_true rfl) rfl ?_
  refine m_aload_n 1 dL_image_0 rfl rfl ?_
  refine i_const 2 dL_image_1 rfl ?_
  refine m_aload_n 3 dL_image_2 rfl rfl ?_
  refine m_iload_n 4 dL_image_3 rfl rfl ?_
  refine m_iload_n 5 dL_image_4 rfl rfl ?_
  refine m_cVr (M' := MX7_image) 8 [_, _] kL_44 imX7_image seX7_image clX7_image dL_image_5 rfl rfl rfl (by first | rfl | assumption) (m_rmI (by omega) (Nat.le_of_ble_eq_true rfl) (Nat.zero_le _) (Nat.zero_le _)) hC (fun w2 h => by obtain ⟨_, _, h, -⟩ := hq _ _ h; cases h) (fun v2 w2 h => ?_)
  obtain ⟨v, f, hv, h31, hQ⟩ := hq _ _ h
  cases hv
  refine m_i2l 9 dL_image_8 rfl ?_
  refine m_last 10 dL_image_9 rfl h31 vin0 ?_
  refine m_goto 17 dL_image_10 (by decide) ?_
  refine i_const 18 dL_image_17 rfl ?_
  refine i_ret _ dL_image_18 rfl (by constructor <;> (simp only [m_r]; omega)) ?_ hQ
  rfl
set_option maxHeartbeats 4000000 in
set_option maxRecDepth 100000 in
theorem w_image_x (hG : m_G G) (d : Nat) {a : Int} {b : Int} {Q : Option (Option Value) → List mC → Prop} (h1 : w[1]? = some oGrid) (hC : m_Cx0 G MX7_image (m_r (d + 8) 1 6) [.ref 1, vI a, vI b] w (w ++ [mU])) (hQ : Q (some (some (vI 1))) (w ++ [mU])) : m_Ct G ML_image (m_r (d + 9) 1 6) [.ref 1, vI a, vI b, .ref 31] w Q := by
  refine m_enter (L := [some (.ref 1), some (vI a), some (vI b), some (.ref 31), none]) (by decide) hG (m_c1 rfl) (Nat.le_of_ble_eq_true rfl) rfl ?_
  refine m_aload_n 1 dL_image_0 rfl rfl ?_
  refine i_const 2 dL_image_1 rfl ?_
  refine m_aload_n 3 dL_image_2 rfl rfl ?_
  refine m_iload_n 4 dL_image_3 rfl rfl ?_
  refine m_iload_n 5 dL_image_4 rfl rfl ?_
  refine m_cVx (M' := MX7_image) [_, _] kL_44 imX7_image seX7_image clX7_image dL_image_5 rfl rfl (by first | rfl | assumption) (m_rmI (by omega) (Nat.le_of_ble_eq_true rfl) (Nat.le_refl _) (Nat.le_refl _)) hC ?_
  refine m_T_catch (z := 4) rfl ⟨by decide, by decide⟩ (by decide) kx13 kxc dL_image_13 (Or.inl ⟨rfl, rfl⟩) (by decide) ?_
  refine i_const 16 dL_image_15 rfl ?_
  refine i_ret _ dL_image_16 rfl (by constructor <;> (simp only [m_r]; omega)) ?_ hQ
  rfl
end LW
