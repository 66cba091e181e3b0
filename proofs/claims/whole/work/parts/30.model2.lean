/-! the model: what asks the matrix -/
section MP
variable {G : mG} {w : List mC}
theorem plA_q {W H : Int} (hW : 1 ≤ W) (hH : 1 ≤ H) (x y : Int) : -1 ≤ plA W H x y ∧ plA W H x y < W * H := by
  unfold plA
  split
  · next h =>
    have h1 : 0 ≤ W * y := Int.mul_nonneg (by omega) h.2.2.1
    have h2 : W * (y + 1) ≤ W * H := Int.mul_le_mul_of_nonneg_left (by omega) (by omega)
    rw [Int.mul_add, Int.mul_one] at h2
    omega
  · have : 0 < W * H := Int.mul_pos (by omega) (by omega)
    omega
theorem stp_r {k W H : Int} {n : Nat} (hF : fOK k W H n) (x y s : Int) : -1 ≤ stp k W H x y s ∧ stp k W H x y s < n := by
  have hnb := hF.n
  obtain ⟨hk0, hk4, hW1, hW2, hH1, hH2, hn, hg4⟩ := hF
  have r := plA_q hW1 hH1
  rw [← hn] at r
  have m1 : -1 ≤ (-1 : Int) ∧ (-1 : Int) < n := by omega
  unfold stp
  split
  · unfold sqS; repeat' split
    all_goals first | exact r _ _ | exact m1
  · split
    · unfold hxS; repeat' split
      all_goals first | exact r _ _ | exact m1
    · split
      · unfold trS; repeat' split
        all_goals first | exact r _ _ | exact m1
      · split
        · unfold rgS; repeat' split
          all_goals first | exact r _ _ | exact m1
        · exact m1
def nxM (nb wl : Nat → Bool) (a b : Int) : Bool := mA nb a b && !mA wl a b

set_option maxHeartbeats 4000000 in
set_option maxRecDepth 100000 in
theorem c_X8_joinX (hG : m_G G) (d : Nat) {k W H : Int} {n : Nat} (hF : fOK k W H n) {t sz pl so bt : Int} {nb wl ou : Nat → Bool} {ar mk rc ip fd : Nat → Int} (hw : 30 < w.length) {a b : Int}  (ha : ¬ (0 ≤ a ∧ a < n)) (hr : iR a) : m_Cv G MX8_join (m_r (d + 3) 0 0) [.ref 22, vI a, vI b] (mw w t k W H sz pl so bt nb wl ar mk rc ou ip fd) (some (vB false)) (mw w 1 k W H sz pl so bt nb wl ar mk rc ou ip fd) := by
  have hFF := hF
  have hnb := hF.n
  obtain ⟨hk0, hk4, hW1, hW2, hH1, hH2, hn, hg4⟩ := hF
  refine m_enter (L := [some (.ref 22), some (vI a), some (vI b)]) (by decide) hG (m_c1 rfl) (Nat.le_of_ble_eq_true rfl) rfl ?_
  refine m_aload_n 1 dX8_join_0 rfl rfl ?_
  refine m_aload_n 2 dX8_join_1 rfl rfl ?_
  refine m_iload_n 3 dX8_join_2 rfl rfl ?_
  refine m_cV (M' := MX8_isPlace) 6 [_] kX8_70 imX8_isPlace seX8_isPlace clX8_isPlace dX8_join_3 rfl rfl rfl (mw_22 hw) (m_rmI (by omega) (Nat.le_of_ble_eq_true rfl) (Nat.le_refl _) (Nat.le_refl _)) (c_X8_isPlace hG d hFF hw hr) ?_
  refine b_if_eq 9 17 dX8_join_6 rfl (by decide) (fun _ => ?_) (fun h => absurd h (by rw [inB_0 ha]; decide))
  refine i_const 18 dX8_join_17 rfl ?_
  refine m_goto 22 dX8_join_18 (by decide) ?_
  refine i_asB true rfl ?_
  refine m_cV (M' := MX8_fails) 25 [_] kX8_74 imX8_fails seX8_fails clX8_fails dX8_join_22 rfl rfl rfl (mw_22 hw) (m_rmI (by omega) (Nat.le_of_ble_eq_true rfl) (Nat.le_refl _) (Nat.le_refl _)) (c_X8_fails hG d hFF hw) ?_
  refine b_if_ne 28 56 dX8_join_25 rfl (by decide) (fun _ => ?_) (fun h => absurd h (by decide))
  refine i_const 57 dX8_join_56 rfl ?_
  refine i_retB _ dX8_join_57 rfl ⟨Nat.le_refl _, Nat.le_refl _⟩ ?_ ⟨rfl, rfl⟩
  refine i_eq0 ?_
  rfl
set_option maxHeartbeats 4000000 in
set_option maxRecDepth 100000 in
theorem c_X8_joinX2 (hG : m_G G) (d : Nat) {k W H : Int} {n : Nat} (hF : fOK k W H n) {t sz pl so bt : Int} {nb wl ou : Nat → Bool} {ar mk rc ip fd : Nat → Int} (hw : 30 < w.length) {a b : Int}  (ha : 0 ≤ a ∧ a < n) (hb : ¬ (0 ≤ b ∧ b < n)) (hr : iR b) : m_Cv G MX8_join (m_r (d + 3) 0 0) [.ref 22, vI a, vI b] (mw w t k W H sz pl so bt nb wl ar mk rc ou ip fd) (some (vB false)) (mw w 1 k W H sz pl so bt nb wl ar mk rc ou ip fd) := by
  have hFF := hF
  have hnb := hF.n
  obtain ⟨hk0, hk4, hW1, hW2, hH1, hH2, hn, hg4⟩ := hF
  refine m_enter (L := [some (.ref 22), some (vI a), some (vI b)]) (by decide) hG (m_c1 rfl) (Nat.le_of_ble_eq_true rfl) rfl ?_
  refine m_aload_n 1 dX8_join_0 rfl rfl ?_
  refine m_aload_n 2 dX8_join_1 rfl rfl ?_
  refine m_iload_n 3 dX8_join_2 rfl rfl ?_
  refine m_cV (M' := MX8_isPlace) 6 [_] kX8_70 imX8_isPlace seX8_isPlace clX8_isPlace dX8_join_3 rfl rfl rfl (mw_22 hw) (m_rmI (by omega) (Nat.le_of_ble_eq_true rfl) (Nat.le_refl _) (Nat.le_refl _)) (c_X8_isPlace hG d hFF hw ⟨by omega, by omega⟩) ?_
  refine b_if_eq 9 17 dX8_join_6 rfl (by decide) (fun h => absurd h (by rw [inB_1 ha]; decide)) (fun _ => ?_)
  refine m_aload_n 10 dX8_join_9 rfl rfl ?_
  refine m_iload_n 11 dX8_join_10 rfl rfl ?_
  refine m_cV (M' := MX8_isPlace) 14 [_] kX8_70 imX8_isPlace seX8_isPlace clX8_isPlace dX8_join_11 rfl rfl rfl (mw_22 hw) (m_rmI (by omega) (Nat.le_of_ble_eq_true rfl) (Nat.le_refl _) (Nat.le_refl _)) (c_X8_isPlace hG d hFF hw hr) ?_
  refine b_if_ne 17 21 dX8_join_14 rfl (by decide) (fun h => absurd h (by rw [inB_0 hb]; decide)) (fun _ => ?_)
  refine i_const 18 dX8_join_17 rfl ?_
  refine m_goto 22 dX8_join_18 (by decide) ?_
  refine i_asB true rfl ?_
  refine m_cV (M' := MX8_fails) 25 [_] kX8_74 imX8_fails seX8_fails clX8_fails dX8_join_22 rfl rfl rfl (mw_22 hw) (m_rmI (by omega) (Nat.le_of_ble_eq_true rfl) (Nat.le_refl _) (Nat.le_refl _)) (c_X8_fails hG d hFF hw) ?_
  refine b_if_ne 28 56 dX8_join_25 rfl (by decide) (fun _ => ?_) (fun h => absurd h (by decide))
  refine i_const 57 dX8_join_56 rfl ?_
  refine i_retB _ dX8_join_57 rfl ⟨Nat.le_refl _, Nat.le_refl _⟩ ?_ ⟨rfl, rfl⟩
  refine i_eq0 ?_
  rfl
set_option maxHeartbeats 4000000 in
set_option maxRecDepth 100000 in
theorem c_X8_joinN (hG : m_G G) (d : Nat) {k W H : Int} {n : Nat} (hF : fOK k W H n) {t sz pl so bt : Int} {nb wl ou : Nat → Bool} {ar mk rc ip fd : Nat → Int} (hw : 30 < w.length) {a b : Int} (ha : 0 ≤ a ∧ a < n) (hb : 0 ≤ b ∧ b < n) (hno : k ≠ 4 ∨ a = b ∨ mA nb a b = true) : m_Cv G MX8_join (m_r (d + 3) 0 0) [.ref 22, vI a, vI b] (mw w t k W H sz pl so bt nb wl ar mk rc ou ip fd) (some (vB false)) (mw w 0 k W H sz pl so bt nb wl ar mk rc ou ip fd) := by
  have hFF := hF
  have hnb := hF.n
  obtain ⟨hk0, hk4, hW1, hW2, hH1, hH2, hn, hg4⟩ := hF
  refine m_enter (L := [some (.ref 22), some (vI a), some (vI b)]) (by decide) hG (m_c1 rfl) (Nat.le_of_ble_eq_true rfl) rfl ?_
  refine m_aload_n 1 dX8_join_0 rfl rfl ?_
  refine m_aload_n 2 dX8_join_1 rfl rfl ?_
  refine m_iload_n 3 dX8_join_2 rfl rfl ?_
  refine m_cV (M' := MX8_isPlace) 6 [_] kX8_70 imX8_isPlace seX8_isPlace clX8_isPlace dX8_join_3 rfl rfl rfl (mw_22 hw) (m_rmI (by omega) (Nat.le_of_ble_eq_true rfl) (Nat.le_refl _) (Nat.le_refl _)) (c_X8_isPlace hG d hFF hw ⟨by omega, by omega⟩) ?_
  refine b_if_eq 9 17 dX8_join_6 rfl (by decide) (fun h => absurd h (by rw [inB_1 ha]; decide)) (fun _ => ?_)
  refine m_aload_n 10 dX8_join_9 rfl rfl ?_
  refine m_iload_n 11 dX8_join_10 rfl rfl ?_
  refine m_cV (M' := MX8_isPlace) 14 [_] kX8_70 imX8_isPlace seX8_isPlace clX8_isPlace dX8_join_11 rfl rfl rfl (mw_22 hw) (m_rmI (by omega) (Nat.le_of_ble_eq_true rfl) (Nat.le_refl _) (Nat.le_refl _)) (c_X8_isPlace hG d hFF hw ⟨by omega, by omega⟩) ?_
  refine b_if_ne 17 21 dX8_join_14 rfl (by decide) (fun _ => ?_) (fun h => absurd h (by rw [inB_1 hb]; decide))
  refine i_const 22 dX8_join_21 rfl ?_
  refine i_asB false rfl ?_
  refine m_cV (M' := MX8_fails) 25 [_] kX8_74 imX8_fails seX8_fails clX8_fails dX8_join_22 rfl rfl rfl (mw_22 hw) (m_rmI (by omega) (Nat.le_of_ble_eq_true rfl) (Nat.le_refl _) (Nat.le_refl _)) (c_X8_fails hG d hFF hw) ?_
  refine b_if_ne 28 56 dX8_join_25 rfl (by decide) (fun h => absurd h (by decide)) (fun _ => ?_)
  refine m_aload_n 29 dX8_join_28 rfl rfl ?_
  refine m_getf 32 foX8_40 dX8_join_29 rfl (mw_22 hw) (by rfl) ?_
  refine i_const 33 dX8_join_32 rfl ?_
  refine i_icmp_ne 36 56 ⟨by omega, by omega⟩ ⟨by omega, by omega⟩ dX8_join_33 rfl (by decide) (fun q33 => ?_) (fun q33 => ?_)
  · refine i_const 57 dX8_join_56 rfl ?_
    refine i_retB _ dX8_join_57 rfl ⟨Nat.le_refl _, Nat.le_refl _⟩ ?_ ⟨rfl, rfl⟩
    refine i_eq0 ?_
    rfl
  · refine m_iload_n 37 dX8_join_36 rfl rfl ?_
    refine m_iload_n 38 dX8_join_37 rfl rfl ?_
    refine i_icmp_eq 41 56 ⟨by omega, by omega⟩ ⟨by omega, by omega⟩ dX8_join_38 rfl (by decide) (fun q38 => ?_) (fun q38 => ?_)
    · refine i_const 57 dX8_join_56 rfl ?_
      refine i_retB _ dX8_join_57 rfl ⟨Nat.le_refl _, Nat.le_refl _⟩ ?_ ⟨rfl, rfl⟩
      refine i_eq0 ?_
      rfl
    · refine m_aload_n 42 dX8_join_41 rfl rfl ?_
      refine m_getf 45 foX8_8 dX8_join_42 rfl (mw_22 hw) (by rfl) ?_
      refine i_sipush 48 256 dX8_join_45 rfl (by decide) ?_
      refine m_iload_n 49 dX8_join_48 rfl rfl ?_
      refine i_mul 50 dX8_join_49 rfl ?_
      refine m_iload_n 51 dX8_join_50 rfl rfl ?_
      refine i_add 52 dX8_join_51 rfl ?_
      refine i_zald 53 dX8_join_52 rfl (mw_23 hw) ⟨by omega, by omega, by omega⟩ ?_
      refine b_if_eq 56 58 dX8_join_53 rfl (by decide) (fun q53 => ?_) (fun q53 => ?_)
      · have q53 : mA nb a b = false := q53
        rcases hno with h | h | h
        · omega
        · omega
        · rw [q53] at h; cases h
      · refine i_const 57 dX8_join_56 rfl ?_
        refine i_retB _ dX8_join_57 rfl ⟨Nat.le_refl _, Nat.le_refl _⟩ ?_ ⟨rfl, rfl⟩
        refine i_eq0 ?_
        rfl
set_option maxHeartbeats 4000000 in
set_option maxRecDepth 100000 in
theorem c_X8_joinY (hG : m_G G) (d : Nat) {k W H : Int} {n : Nat} (hF : fOK k W H n) {t sz pl so bt : Int} {nb wl ou : Nat → Bool} {ar mk rc ip fd : Nat → Int} (hw : 30 < w.length) {a b : Int} (ha : 0 ≤ a ∧ a < n) (hb : 0 ≤ b ∧ b < n) (hk : k = 4) (hab : a ≠ b) (hno : mA nb a b = false) : m_Cv G MX8_join (m_r (d + 3) 0 0) [.ref 22, vI a, vI b] (mw w t k W H sz pl so bt nb wl ar mk rc ou ip fd) (some (vB true)) (mw w 0 k W H sz pl so bt (up (up nb (256 * a + b).toNat true) (256 * b + a).toNat true) wl ar mk rc ou ip fd) := by
  have hFF := hF
  have hnb := hF.n
  obtain ⟨hk0, hk4, hW1, hW2, hH1, hH2, hn, hg4⟩ := hF
  refine m_enter (L := [some (.ref 22), some (vI a), some (vI b)]) (by decide) hG (m_c1 rfl) (Nat.le_of_ble_eq_true rfl) rfl ?_
  refine m_aload_n 1 dX8_join_0 rfl rfl ?_
  refine m_aload_n 2 dX8_join_1 rfl rfl ?_
  refine m_iload_n 3 dX8_join_2 rfl rfl ?_
  refine m_cV (M' := MX8_isPlace) 6 [_] kX8_70 imX8_isPlace seX8_isPlace clX8_isPlace dX8_join_3 rfl rfl rfl (mw_22 hw) (m_rmI (by omega) (Nat.le_of_ble_eq_true rfl) (Nat.le_refl _) (Nat.le_refl _)) (c_X8_isPlace hG d hFF hw ⟨by omega, by omega⟩) ?_
  refine b_if_eq 9 17 dX8_join_6 rfl (by decide) (fun h => absurd h (by rw [inB_1 ha]; decide)) (fun _ => ?_)
  refine m_aload_n 10 dX8_join_9 rfl rfl ?_
  refine m_iload_n 11 dX8_join_10 rfl rfl ?_
  refine m_cV (M' := MX8_isPlace) 14 [_] kX8_70 imX8_isPlace seX8_isPlace clX8_isPlace dX8_join_11 rfl rfl rfl (mw_22 hw) (m_rmI (by omega) (Nat.le_of_ble_eq_true rfl) (Nat.le_refl _) (Nat.le_refl _)) (c_X8_isPlace hG d hFF hw ⟨by omega, by omega⟩) ?_
  refine b_if_ne 17 21 dX8_join_14 rfl (by decide) (fun _ => ?_) (fun h => absurd h (by rw [inB_1 hb]; decide))
  refine i_const 22 dX8_join_21 rfl ?_
  refine i_asB false rfl ?_
  refine m_cV (M' := MX8_fails) 25 [_] kX8_74 imX8_fails seX8_fails clX8_fails dX8_join_22 rfl rfl rfl (mw_22 hw) (m_rmI (by omega) (Nat.le_of_ble_eq_true rfl) (Nat.le_refl _) (Nat.le_refl _)) (c_X8_fails hG d hFF hw) ?_
  refine b_if_ne 28 56 dX8_join_25 rfl (by decide) (fun h => absurd h (by decide)) (fun _ => ?_)
  refine m_aload_n 29 dX8_join_28 rfl rfl ?_
  refine m_getf 32 foX8_40 dX8_join_29 rfl (mw_22 hw) (by rfl) ?_
  refine i_const 33 dX8_join_32 rfl ?_
  refine i_icmp_ne 36 56 ⟨by omega, by omega⟩ ⟨by omega, by omega⟩ dX8_join_33 rfl (by decide) (fun h => absurd h (by omega)) (fun _ => ?_)
  refine m_iload_n 37 dX8_join_36 rfl rfl ?_
  refine m_iload_n 38 dX8_join_37 rfl rfl ?_
  refine i_icmp_eq 41 56 ⟨by omega, by omega⟩ ⟨by omega, by omega⟩ dX8_join_38 rfl (by decide) (fun h => absurd h (by omega)) (fun _ => ?_)
  refine m_aload_n 42 dX8_join_41 rfl rfl ?_
  refine m_getf 45 foX8_8 dX8_join_42 rfl (mw_22 hw) (by rfl) ?_
  refine i_sipush 48 256 dX8_join_45 rfl (by decide) ?_
  refine m_iload_n 49 dX8_join_48 rfl rfl ?_
  refine i_mul 50 dX8_join_49 rfl ?_
  refine m_iload_n 51 dX8_join_50 rfl rfl ?_
  refine i_add 52 dX8_join_51 rfl ?_
  refine i_zald 53 dX8_join_52 rfl (mw_23 hw) ⟨by omega, by omega, by omega⟩ ?_
  refine b_if_eq 56 58 dX8_join_53 rfl (by decide) (fun _ => ?_) (fun h => absurd h (by rw [show nb (256 * a + b).toNat = false from hno]; decide))
  refine m_aload_n 59 dX8_join_58 rfl rfl ?_
  refine m_getf 62 foX8_8 dX8_join_59 rfl (mw_22 hw) (by rfl) ?_
  refine i_sipush 65 256 dX8_join_62 rfl (by decide) ?_
  refine m_iload_n 66 dX8_join_65 rfl rfl ?_
  refine i_mul 67 dX8_join_66 rfl ?_
  refine m_iload_n 68 dX8_join_67 rfl rfl ?_
  refine i_add 69 dX8_join_68 rfl ?_
  refine i_const 70 dX8_join_69 rfl ?_
  refine i_asB true rfl ?_
  refine i_zast 71 dX8_join_70 rfl (mw_23 hw) ⟨by omega, by omega, by omega⟩ ?_
  rw [mw_s23]
  refine m_aload_n 72 dX8_join_71 rfl rfl ?_
  refine m_getf 75 foX8_8 dX8_join_72 rfl (mw_22 hw) (by rfl) ?_
  refine i_sipush 78 256 dX8_join_75 rfl (by decide) ?_
  refine m_iload_n 79 dX8_join_78 rfl rfl ?_
  refine i_mul 80 dX8_join_79 rfl ?_
  refine m_iload_n 81 dX8_join_80 rfl rfl ?_
  refine i_add 82 dX8_join_81 rfl ?_
  refine i_const 83 dX8_join_82 rfl ?_
  refine i_asB true rfl ?_
  refine i_zast 84 dX8_join_83 rfl (mw_23 hw) ⟨by omega, by omega, by omega⟩ ?_
  rw [mw_s23]
  refine i_const 85 dX8_join_84 rfl ?_
  refine i_retB _ dX8_join_85 rfl ⟨Nat.le_refl _, Nat.le_refl _⟩ ?_ ⟨rfl, rfl⟩
  refine i_eq1 ?_
  rfl
set_option maxHeartbeats 4000000 in
set_option maxRecDepth 100000 in
theorem c_X8_places (hG : m_G G) (d : Nat) {k W H : Int} {n : Nat} (hF : fOK k W H n) {t sz pl so bt : Int} {nb wl ou : Nat → Bool} {ar mk rc ip fd : Nat → Int} (hw : 30 < w.length) : m_Cv G MX8_places (m_r (d + 1) 0 0) [.ref 22] (mw w t k W H sz pl so bt nb wl ar mk rc ou ip fd) (some (vI n)) (mw w 0 k W H sz pl so bt nb wl ar mk rc ou ip fd) := by
  have hFF := hF
  have hnb := hF.n
  obtain ⟨hk0, hk4, hW1, hW2, hH1, hH2, hn, hg4⟩ := hF
  refine m_enter (L := [some (.ref 22)]) (by decide) hG (m_c1 rfl) (Nat.le_of_ble_eq_true rfl) rfl ?_
  refine m_aload_n 1 dX8_places_0 rfl rfl ?_
  refine i_const 2 dX8_places_1 rfl ?_
  refine p8_0 (M := MX8_places) 5 rfl dX8_places_2 rfl hw ?_
  refine m_aload_n 6 dX8_places_5 rfl rfl ?_
  refine m_cV (M' := MX8_all) 9 [] kX8_50 imX8_all seX8_all clX8_all dX8_places_6 rfl rfl rfl (mw_22 hw) (m_rmI (by omega) (Nat.le_of_ble_eq_true rfl) (Nat.le_refl _) (Nat.le_refl _)) (c_X8_all hG (d) hFF hw) ?_
  refine i_ret _ dX8_places_9 rfl ⟨Nat.le_refl _, Nat.le_refl _⟩ ?_ ⟨rfl, rfl⟩
  rfl
set_option maxHeartbeats 4000000 in
set_option maxRecDepth 100000 in
theorem c_X8_isNext (hG : m_G G) (d : Nat) {k W H : Int} {n : Nat} (hF : fOK k W H n) {t sz pl so bt : Int} {nb wl ou : Nat → Bool} {ar mk rc ip fd : Nat → Int} (hw : 30 < w.length) {a b : Int} (ha : 0 ≤ a ∧ a < n) (hb : 0 ≤ b ∧ b < n) : m_Cv G MX8_isNext (m_r d 0 0) [.ref 22, vI a, vI b] (mw w t k W H sz pl so bt nb wl ar mk rc ou ip fd) (some (vB (nxM nb wl a b))) (mw w t k W H sz pl so bt nb wl ar mk rc ou ip fd) := by
  have hFF := hF
  have hnb := hF.n
  obtain ⟨hk0, hk4, hW1, hW2, hH1, hH2, hn, hg4⟩ := hF
  refine m_enter (L := [some (.ref 22), some (vI a), some (vI b)]) (by decide) hG (m_c1 rfl) (Nat.le_of_ble_eq_true rfl) rfl ?_
  refine m_aload_n 1 dX8_isNext_0 rfl rfl ?_
  refine m_getf 4 foX8_8 dX8_isNext_1 rfl (mw_22 hw) (by rfl) ?_
  refine i_sipush 7 256 dX8_isNext_4 rfl (by decide) ?_
  refine m_iload_n 8 dX8_isNext_7 rfl rfl ?_
  refine i_mul 9 dX8_isNext_8 rfl ?_
  refine m_iload_n 10 dX8_isNext_9 rfl rfl ?_
  refine i_add 11 dX8_isNext_10 rfl ?_
  refine i_zald 12 dX8_isNext_11 rfl (mw_23 hw) ⟨by omega, by omega, by omega⟩ ?_
  refine b_if_eq 15 34 dX8_isNext_12 rfl (by decide) (fun q12 => ?_) (fun q12 => ?_)
  · refine i_const 35 dX8_isNext_34 rfl ?_
    refine i_retB _ dX8_isNext_35 rfl ⟨Nat.le_refl _, Nat.le_refl _⟩ ?_ ⟨rfl, rfl⟩
    refine i_eq0 ?_
    unfold nxM mA
    first | (rw [q12]; rfl) | (rw [q12, q27]; rfl)
  · refine m_aload_n 16 dX8_isNext_15 rfl rfl ?_
    refine m_getf 19 foX8_14 dX8_isNext_16 rfl (mw_22 hw) (by rfl) ?_
    refine i_sipush 22 256 dX8_isNext_19 rfl (by decide) ?_
    refine m_iload_n 23 dX8_isNext_22 rfl rfl ?_
    refine i_mul 24 dX8_isNext_23 rfl ?_
    refine m_iload_n 25 dX8_isNext_24 rfl rfl ?_
    refine i_add 26 dX8_isNext_25 rfl ?_
    refine i_zald 27 dX8_isNext_26 rfl (mw_24 hw) ⟨by omega, by omega, by omega⟩ ?_
    refine b_if_ne 30 34 dX8_isNext_27 rfl (by decide) (fun q27 => ?_) (fun q27 => ?_)
    · refine i_const 35 dX8_isNext_34 rfl ?_
      refine i_retB _ dX8_isNext_35 rfl ⟨Nat.le_refl _, Nat.le_refl _⟩ ?_ ⟨rfl, rfl⟩
      refine i_eq0 ?_
      unfold nxM mA
      first | (rw [q12]; rfl) | (rw [q12, q27]; rfl)
    · refine i_const 31 dX8_isNext_30 rfl ?_
      refine m_goto 35 dX8_isNext_31 (by decide) ?_
      refine i_retB _ dX8_isNext_35 rfl ⟨Nat.le_refl _, Nat.le_refl _⟩ ?_ ⟨rfl, rfl⟩
      refine i_eq1 ?_
      unfold nxM mA
      first | (rw [q12]; rfl) | (rw [q12, q27]; rfl)
set_option maxHeartbeats 4000000 in
set_option maxRecDepth 100000 in
theorem c_X8_degreeX (hG : m_G G) (d : Nat) {k W H : Int} {n : Nat} (hF : fOK k W H n) {t sz pl so bt : Int} {nb wl ou : Nat → Bool} {ar mk rc ip fd : Nat → Int} (hw : 30 < w.length) {p : Int} {nx : Bool} (hp : ¬ (0 ≤ p ∧ p < n)) (hr : iR p) : m_Cv G MX8_degree (m_r (d + 3) 0 0) [.ref 22, vI p, vB nx] (mw w t k W H sz pl so bt nb wl ar mk rc ou ip fd) (some (vI 0)) (mw w 1 k W H sz pl so bt nb wl ar mk rc ou ip fd) := by
  have hFF := hF
  have hnb := hF.n
  obtain ⟨hk0, hk4, hW1, hW2, hH1, hH2, hn, hg4⟩ := hF
  refine m_enter (L := [some (.ref 22), some (vI p), some (vB nx), none, none]) (by decide) hG (m_c1 rfl) (Nat.le_of_ble_eq_true rfl) rfl ?_
  refine m_aload_n 1 dX8_degree_0 rfl rfl ?_
  refine m_aload_n 2 dX8_degree_1 rfl rfl ?_
  refine m_iload_n 3 dX8_degree_2 rfl rfl ?_
  refine m_cV (M' := MX8_isPlace) 6 [_] kX8_70 imX8_isPlace seX8_isPlace clX8_isPlace dX8_degree_3 rfl rfl rfl (mw_22 hw) (m_rmI (by omega) (Nat.le_of_ble_eq_true rfl) (Nat.le_refl _) (Nat.le_refl _)) (c_X8_isPlace hG d hFF hw hr) ?_
  refine b_if_ne 9 13 dX8_degree_6 rfl (by decide) (fun h => absurd h (by rw [inB_0 hp]; decide)) (fun _ => ?_)
  refine i_const 10 dX8_degree_9 rfl ?_
  refine m_goto 14 dX8_degree_10 (by decide) ?_
  refine i_asB true rfl ?_
  refine m_cV (M' := MX8_fails) 17 [_] kX8_74 imX8_fails seX8_fails clX8_fails dX8_degree_14 rfl rfl rfl (mw_22 hw) (m_rmI (by omega) (Nat.le_of_ble_eq_true rfl) (Nat.le_refl _) (Nat.le_refl _)) (c_X8_fails hG d hFF hw) ?_
  refine b_if_eq 20 22 dX8_degree_17 rfl (by decide) (fun h => absurd h (by decide)) (fun _ => ?_)
  refine i_const 21 dX8_degree_20 rfl ?_
  refine i_ret _ dX8_degree_21 rfl ⟨Nat.le_refl _, Nat.le_refl _⟩ ?_ ⟨rfl, rfl⟩
  rfl
set_option maxHeartbeats 4000000 in
set_option maxRecDepth 100000 in
theorem l_X8_degree (hG : m_G G) (d : Nat) {k W H : Int} {n : Nat} (hF : fOK k W H n) {t sz pl so bt : Int} {nb wl ou : Nat → Bool} {ar mk rc ip fd : Nat → Int} (hw : 30 < w.length) {p r : Int} {nx : Bool} (hp : 0 ≤ p ∧ p < n) :
    ∀ (j : Nat) (i f : Int), 0 ≤ i → i + j = n → f + cntF (fun q => if nx then nxM nb wl p q else mA nb p q) j i = r → m_J G MX8_degree (m_r (d + 3) 0 0) (fun x y => x = some (some (vI r)) ∧ y = (mw w t k W H sz pl so bt nb wl ar mk rc ou ip fd)) 0 0 27 [some (.ref 22), some (vI p), some (vB nx), some (vI f), some (vI i)] [] (mw w t k W H sz pl so bt nb wl ar mk rc ou ip fd) := by
  have hFF := hF
  have hnb := hF.n
  obtain ⟨hk0, hk4, hW1, hW2, hH1, hH2, hn, hg4⟩ := hF
  intro j
  induction j with
  | zero =>
    intro i f hi0 hij ht
    refine m_iload 29 dX8_degree_27 rfl rfl ?_
    refine m_aload_n 30 dX8_degree_29 rfl rfl ?_
    refine m_cV (M' := MX8_all) 33 [] kX8_50 imX8_all seX8_all clX8_all dX8_degree_30 rfl rfl rfl (mw_22 hw) (m_rmI (by omega) (Nat.le_of_ble_eq_true rfl) (Nat.le_refl _) (Nat.le_refl _)) (c_X8_all hG (d + 2) hFF hw) ?_
    refine i_icmp_ge 36 88 ⟨by omega, by omega⟩ ⟨by omega, by omega⟩ dX8_degree_33 rfl (by decide) (fun _ => ?_) (fun h => absurd h (by omega))
    refine m_iload_n 89 dX8_degree_88 rfl rfl ?_
    refine i_ret _ dX8_degree_89 rfl ⟨Nat.le_refl _, Nat.le_refl _⟩ ?_ ⟨rfl, rfl⟩
    simp only [cntF] at ht; omega
  | succ j ih =>
    intro i f hi0 hij ht
    unfold cntF at ht
    refine m_iload 29 dX8_degree_27 rfl rfl ?_
    refine m_aload_n 30 dX8_degree_29 rfl rfl ?_
    refine m_cV (M' := MX8_all) 33 [] kX8_50 imX8_all seX8_all clX8_all dX8_degree_30 rfl rfl rfl (mw_22 hw) (m_rmI (by omega) (Nat.le_of_ble_eq_true rfl) (Nat.le_refl _) (Nat.le_refl _)) (c_X8_all hG (d + 2) hFF hw) ?_
    refine i_icmp_ge 36 88 ⟨by omega, by omega⟩ ⟨by omega, by omega⟩ dX8_degree_33 rfl (by decide) (fun h => absurd h (by omega)) (fun _ => ?_)
    refine m_iload_n 37 dX8_degree_36 rfl rfl ?_
    refine m_iload_n 38 dX8_degree_37 rfl rfl ?_
    refine b_if_eq 41 59 dX8_degree_38 rfl (by decide) (fun q38 => ?_) (fun q38 => ?_)
    · refine m_aload_n 60 dX8_degree_59 rfl rfl ?_
      refine m_getf 63 foX8_8 dX8_degree_60 rfl (mw_22 hw) (by rfl) ?_
      refine i_sipush 66 256 dX8_degree_63 rfl (by decide) ?_
      refine m_iload_n 67 dX8_degree_66 rfl rfl ?_
      refine i_mul 68 dX8_degree_67 rfl ?_
      refine m_iload 70 dX8_degree_68 rfl rfl ?_
      refine i_add 71 dX8_degree_70 rfl ?_
      refine i_zald 72 dX8_degree_71 rfl (mw_23 hw) ⟨by omega, by omega, by omega⟩ ?_
      refine b_if_eq 75 79 dX8_degree_72 rfl (by decide) (fun q72 => ?_) (fun q72 => ?_)
      · refine i_const 80 dX8_degree_79 rfl ?_
        refine i_add 81 dX8_degree_80 rfl ?_
        refine m_istore_n 82 dX8_degree_81 rfl (by decide) ?_
        refine i_inc 85 dX8_degree_82 rfl rfl (by decide) ?_
        refine m_goto 27 dX8_degree_85 (by decide) ?_
        subst q38
        first
          | (refine ih _ _ (by omega) (by omega) ?_; rw [if_pos (show (if true = true then nxM nb wl p i else mA nb p i) = true from q48)] at ht; omega)
          | (refine ih _ _ (by omega) (by omega) ?_; rw [if_neg (by rw [show (if true = true then nxM nb wl p i else mA nb p i) = false from q48]; decide)] at ht; omega)
          | (refine ih _ _ (by omega) (by omega) ?_; rw [if_pos (show (if false = true then nxM nb wl p i else mA nb p i) = true from q72)] at ht; omega)
          | (refine ih _ _ (by omega) (by omega) ?_; rw [if_neg (by rw [show (if false = true then nxM nb wl p i else mA nb p i) = false from q72]; decide)] at ht; omega)
      · refine i_const 76 dX8_degree_75 rfl ?_
        refine m_goto 80 dX8_degree_76 (by decide) ?_
        refine i_add 81 dX8_degree_80 rfl ?_
        refine m_istore_n 82 dX8_degree_81 rfl (by decide) ?_
        refine i_inc 85 dX8_degree_82 rfl rfl (by decide) ?_
        refine m_goto 27 dX8_degree_85 (by decide) ?_
        subst q38
        first
          | (refine ih _ _ (by omega) (by omega) ?_; rw [if_pos (show (if true = true then nxM nb wl p i else mA nb p i) = true from q48)] at ht; omega)
          | (refine ih _ _ (by omega) (by omega) ?_; rw [if_neg (by rw [show (if true = true then nxM nb wl p i else mA nb p i) = false from q48]; decide)] at ht; omega)
          | (refine ih _ _ (by omega) (by omega) ?_; rw [if_pos (show (if false = true then nxM nb wl p i else mA nb p i) = true from q72)] at ht; omega)
          | (refine ih _ _ (by omega) (by omega) ?_; rw [if_neg (by rw [show (if false = true then nxM nb wl p i else mA nb p i) = false from q72]; decide)] at ht; omega)
    · refine m_aload_n 42 dX8_degree_41 rfl rfl ?_
      refine m_iload_n 43 dX8_degree_42 rfl rfl ?_
      refine m_iload 45 dX8_degree_43 rfl rfl ?_
      refine m_cV (M' := MX8_isNext) 48 [_, _] kX8_78 imX8_isNext seX8_isNext clX8_isNext dX8_degree_45 rfl rfl rfl (mw_22 hw) (m_rmI (by omega) (Nat.le_of_ble_eq_true rfl) (Nat.le_refl _) (Nat.le_refl _)) (c_X8_isNext hG (d + 2) hFF hw hp ⟨by omega, by omega⟩) ?_
      refine b_if_eq 51 55 dX8_degree_48 rfl (by decide) (fun q48 => ?_) (fun q48 => ?_)
      · refine i_const 56 dX8_degree_55 rfl ?_
        refine m_goto 80 dX8_degree_56 (by decide) ?_
        refine i_add 81 dX8_degree_80 rfl ?_
        refine m_istore_n 82 dX8_degree_81 rfl (by decide) ?_
        refine i_inc 85 dX8_degree_82 rfl rfl (by decide) ?_
        refine m_goto 27 dX8_degree_85 (by decide) ?_
        subst q38
        first
          | (refine ih _ _ (by omega) (by omega) ?_; rw [if_pos (show (if true = true then nxM nb wl p i else mA nb p i) = true from q48)] at ht; omega)
          | (refine ih _ _ (by omega) (by omega) ?_; rw [if_neg (by rw [show (if true = true then nxM nb wl p i else mA nb p i) = false from q48]; decide)] at ht; omega)
          | (refine ih _ _ (by omega) (by omega) ?_; rw [if_pos (show (if false = true then nxM nb wl p i else mA nb p i) = true from q72)] at ht; omega)
          | (refine ih _ _ (by omega) (by omega) ?_; rw [if_neg (by rw [show (if false = true then nxM nb wl p i else mA nb p i) = false from q72]; decide)] at ht; omega)
      · refine i_const 52 dX8_degree_51 rfl ?_
        refine m_goto 80 dX8_degree_52 (by decide) ?_
        refine i_add 81 dX8_degree_80 rfl ?_
        refine m_istore_n 82 dX8_degree_81 rfl (by decide) ?_
        refine i_inc 85 dX8_degree_82 rfl rfl (by decide) ?_
        refine m_goto 27 dX8_degree_85 (by decide) ?_
        subst q38
        first
          | (refine ih _ _ (by omega) (by omega) ?_; rw [if_pos (show (if true = true then nxM nb wl p i else mA nb p i) = true from q48)] at ht; omega)
          | (refine ih _ _ (by omega) (by omega) ?_; rw [if_neg (by rw [show (if true = true then nxM nb wl p i else mA nb p i) = false from q48]; decide)] at ht; omega)
          | (refine ih _ _ (by omega) (by omega) ?_; rw [if_pos (show (if false = true then nxM nb wl p i else mA nb p i) = true from q72)] at ht; omega)
          | (refine ih _ _ (by omega) (by omega) ?_; rw [if_neg (by rw [show (if false = true then nxM nb wl p i else mA nb p i) = false from q72]; decide)] at ht; omega)
set_option maxHeartbeats 4000000 in
set_option maxRecDepth 100000 in
theorem c_X8_degree (hG : m_G G) (d : Nat) {k W H : Int} {n : Nat} (hF : fOK k W H n) {t sz pl so bt : Int} {nb wl ou : Nat → Bool} {ar mk rc ip fd : Nat → Int} (hw : 30 < w.length) {p : Int} {nx : Bool} (hp : 0 ≤ p ∧ p < n) : m_Cv G MX8_degree (m_r (d + 3) 0 0) [.ref 22, vI p, vB nx] (mw w t k W H sz pl so bt nb wl ar mk rc ou ip fd) (some (vI (cntF (fun q => if nx then nxM nb wl p q else mA nb p q) n 0))) (mw w 0 k W H sz pl so bt nb wl ar mk rc ou ip fd) := by
  have hFF := hF
  have hnb := hF.n
  obtain ⟨hk0, hk4, hW1, hW2, hH1, hH2, hn, hg4⟩ := hF
  refine m_enter (L := [some (.ref 22), some (vI p), some (vB nx), none, none]) (by decide) hG (m_c1 rfl) (Nat.le_of_ble_eq_true rfl) rfl ?_
  refine m_aload_n 1 dX8_degree_0 rfl rfl ?_
  refine m_aload_n 2 dX8_degree_1 rfl rfl ?_
  refine m_iload_n 3 dX8_degree_2 rfl rfl ?_
  refine m_cV (M' := MX8_isPlace) 6 [_] kX8_70 imX8_isPlace seX8_isPlace clX8_isPlace dX8_degree_3 rfl rfl rfl (mw_22 hw) (m_rmI (by omega) (Nat.le_of_ble_eq_true rfl) (Nat.le_refl _) (Nat.le_refl _)) (c_X8_isPlace hG d hFF hw ⟨by omega, by omega⟩) ?_
  refine b_if_ne 9 13 dX8_degree_6 rfl (by decide) (fun _ => ?_) (fun h => absurd h (by rw [inB_1 hp]; decide))
  refine i_const 14 dX8_degree_13 rfl ?_
  refine i_asB false rfl ?_
  refine m_cV (M' := MX8_fails) 17 [_] kX8_74 imX8_fails seX8_fails clX8_fails dX8_degree_14 rfl rfl rfl (mw_22 hw) (m_rmI (by omega) (Nat.le_of_ble_eq_true rfl) (Nat.le_refl _) (Nat.le_refl _)) (c_X8_fails hG d hFF hw) ?_
  refine b_if_eq 20 22 dX8_degree_17 rfl (by decide) (fun _ => ?_) (fun h => absurd h (by decide))
  refine i_const 23 dX8_degree_22 rfl ?_
  refine m_istore_n 24 dX8_degree_23 rfl (by decide) ?_
  refine i_const 25 dX8_degree_24 rfl ?_
  refine m_istore 27 dX8_degree_25 rfl (by decide) ?_
  exact l_X8_degree hG d hFF hw hp n 0 0 (by omega) (by omega) (by omega)
set_option maxHeartbeats 4000000 in
set_option maxRecDepth 100000 in
theorem c_X8_neighbourX (hG : m_G G) (d : Nat) {k W H : Int} {n : Nat} (hF : fOK k W H n) {t sz pl so bt : Int} {nb wl ou : Nat → Bool} {ar mk rc ip fd : Nat → Int} (hw : 30 < w.length) {p : Int} {c : Int} (hp : ¬ (0 ≤ p ∧ p < n)) (hr : iR p) : m_Cv G MX8_neighbour (m_r (d + 3) 0 0) [.ref 22, vI p, vI c] (mw w t k W H sz pl so bt nb wl ar mk rc ou ip fd) (some (vI 0)) (mw w 1 k W H sz pl so bt nb wl ar mk rc ou ip fd) := by
  have hFF := hF
  have hnb := hF.n
  obtain ⟨hk0, hk4, hW1, hW2, hH1, hH2, hn, hg4⟩ := hF
  refine m_enter (L := [some (.ref 22), some (vI p), some (vI c), none, none, none]) (by decide) hG (m_c1 rfl) (Nat.le_of_ble_eq_true rfl) rfl ?_
  refine m_aload_n 1 dX8_neighbour_0 rfl rfl ?_
  refine m_aload_n 2 dX8_neighbour_1 rfl rfl ?_
  refine m_iload_n 3 dX8_neighbour_2 rfl rfl ?_
  refine m_cV (M' := MX8_isPlace) 6 [_] kX8_70 imX8_isPlace seX8_isPlace clX8_isPlace dX8_neighbour_3 rfl rfl rfl (mw_22 hw) (m_rmI (by omega) (Nat.le_of_ble_eq_true rfl) (Nat.le_refl _) (Nat.le_refl _)) (c_X8_isPlace hG d hFF hw hr) ?_
  refine b_if_ne 9 13 dX8_neighbour_6 rfl (by decide) (fun h => absurd h (by rw [inB_0 hp]; decide)) (fun _ => ?_)
  refine i_const 10 dX8_neighbour_9 rfl ?_
  refine m_goto 14 dX8_neighbour_10 (by decide) ?_
  refine i_asB true rfl ?_
  refine m_cV (M' := MX8_fails) 17 [_] kX8_74 imX8_fails seX8_fails clX8_fails dX8_neighbour_14 rfl rfl rfl (mw_22 hw) (m_rmI (by omega) (Nat.le_of_ble_eq_true rfl) (Nat.le_refl _) (Nat.le_refl _)) (c_X8_fails hG d hFF hw) ?_
  refine b_if_eq 20 22 dX8_neighbour_17 rfl (by decide) (fun h => absurd h (by decide)) (fun _ => ?_)
  refine i_const 21 dX8_neighbour_20 rfl ?_
  refine i_ret _ dX8_neighbour_21 rfl ⟨Nat.le_refl _, Nat.le_refl _⟩ ?_ ⟨rfl, rfl⟩
  rfl
def gN (k W H : Int) (n : Nat) (nb : Nat → Bool) (p d : Int) : Int := if k = 4 then (if d < n ∧ mA nb p d = true then d else -1) else if d < 6 then stp k W H (p % W) (p / W) d else -1
set_option maxHeartbeats 4000000 in
set_option maxRecDepth 100000 in
theorem l_X8_neighbour (hG : m_G G) (d : Nat) {k W H : Int} {n : Nat} (hF : fOK k W H n) {t sz pl so bt : Int} {nb wl ou : Nat → Bool} {ar mk rc ip fd : Nat → Int} (hw : 30 < w.length) {p c r : Int} (hp : 0 ≤ p ∧ p < n) (hc : iR c) :
    ∀ (j : Nat) (i f : Int) (x5 : Option Value), 0 ≤ i → i + j = 256 → 0 ≤ f → f ≤ i → nthF (gN k W H n nb p) c j i f = r → m_J G MX8_neighbour (m_r (d + 3) 0 0) (fun x y => x = some (some (vI r)) ∧ y = (mw w t k W H sz pl so bt nb wl ar mk rc ou ip fd)) 0 0 27 [some (.ref 22), some (vI p), some (vI c), some (vI f), some (vI i), x5] [] (mw w t k W H sz pl so bt nb wl ar mk rc ou ip fd) := by
  have hFF := hF
  have hnb := hF.n
  obtain ⟨hk0, hk4, hW1, hW2, hH1, hH2, hn, hg4⟩ := hF
  obtain ⟨hc1, hc2⟩ := hc
  intro j
  induction j with
  | zero =>
    intro i f x5 hi0 hij hf0 hf1 ht
    refine m_iload 29 dX8_neighbour_27 rfl rfl ?_
    refine i_sipush 32 256 dX8_neighbour_29 rfl (by decide) ?_
    refine i_icmp_ge 35 122 ⟨by omega, by omega⟩ ⟨by omega, by omega⟩ dX8_neighbour_32 rfl (by decide) (fun _ => ?_) (fun h => absurd h (by omega))
    refine i_const 123 dX8_neighbour_122 rfl ?_
    refine i_ret _ dX8_neighbour_123 rfl ⟨Nat.le_refl _, Nat.le_refl _⟩ ?_ ⟨rfl, rfl⟩
    exact ht
  | succ j ih =>
    intro i f x5 hi0 hij hf0 hf1 ht
    have hst := stp_r hFF (p % W) (p / W) i
    unfold nthF at ht
    refine m_iload 29 dX8_neighbour_27 rfl rfl ?_
    refine i_sipush 32 256 dX8_neighbour_29 rfl (by decide) ?_
    refine i_icmp_ge 35 122 ⟨by omega, by omega⟩ ⟨by omega, by omega⟩ dX8_neighbour_32 rfl (by decide) (fun h => absurd h (by omega)) (fun _ => ?_)
    refine m_aload_n 36 dX8_neighbour_35 rfl rfl ?_
    refine m_getf 39 foX8_40 dX8_neighbour_36 rfl (mw_22 hw) (by rfl) ?_
    refine i_const 40 dX8_neighbour_39 rfl ?_
    refine i_icmp_ne 43 77 ⟨by omega, by omega⟩ ⟨by omega, by omega⟩ dX8_neighbour_40 rfl (by decide) (fun q40 => ?_) (fun q40 => ?_)
    · refine m_iload 79 dX8_neighbour_77 rfl rfl ?_
      refine i_bipush 81 6 dX8_neighbour_79 rfl (by decide) ?_
      refine i_icmp_ge 84 94 ⟨by omega, by omega⟩ ⟨by omega, by omega⟩ dX8_neighbour_81 rfl (by decide) (fun q81 => ?_) (fun q81 => ?_)
      · refine i_const 95 dX8_neighbour_94 rfl ?_
        have eg : gN k W H n nb p i = -1 := by unfold gN mA; rw [if_neg q40, if_neg (by omega)]
        rw [eg, if_pos rfl] at ht
        refine m_istore 97 dX8_neighbour_95 rfl (by decide) ?_
        refine m_iload 99 dX8_neighbour_97 rfl rfl ?_
        refine i_if_ge 102 105 ⟨by omega, by omega⟩ dX8_neighbour_99 rfl (by decide) (fun h => absurd h (by decide)) (fun _ => ?_)
        refine m_goto 116 dX8_neighbour_102 (by decide) ?_
        refine i_inc 119 dX8_neighbour_116 rfl rfl (by decide) ?_
        refine m_goto 27 dX8_neighbour_119 (by decide) ?_
        exact ih _ _ _ (by omega) (by omega) (by omega) (by omega) ht
      · refine m_aload_n 85 dX8_neighbour_84 rfl rfl ?_
        refine m_iload_n 86 dX8_neighbour_85 rfl rfl ?_
        refine m_iload 88 dX8_neighbour_86 rfl rfl ?_
        refine m_cV (M' := MX8_step) 91 [_, _] kX8_54 imX8_step seX8_step clX8_step dX8_neighbour_88 rfl rfl rfl (mw_22 hw) (m_rmI (by omega) (Nat.le_of_ble_eq_true rfl) (Nat.le_refl _) (Nat.le_refl _)) (c_X8_step hG d hFF hw hp ⟨by omega, by omega⟩) ?_
        refine m_goto 95 dX8_neighbour_91 (by decide) ?_
        have eg : gN k W H n nb p i = stp k W H (p % W) (p / W) i := by unfold gN mA; rw [if_neg q40, if_pos (by omega)]
        rw [eg] at ht
        refine m_istore 97 dX8_neighbour_95 rfl (by decide) ?_
        refine m_iload 99 dX8_neighbour_97 rfl rfl ?_
        refine i_if_ge 102 105 ⟨by omega, by omega⟩ dX8_neighbour_99 rfl (by decide) (fun q99 => ?_) (fun q99 => ?_)
        · refine m_iload_n 106 dX8_neighbour_105 rfl rfl ?_
          refine m_iload_n 107 dX8_neighbour_106 rfl rfl ?_
          refine i_icmp_ne 110 113 ⟨by omega, by omega⟩ ⟨by omega, by omega⟩ dX8_neighbour_107 rfl (by decide) (fun q107 => ?_) (fun q107 => ?_)
          · refine i_inc 116 dX8_neighbour_113 rfl rfl (by decide) ?_
            refine i_inc 119 dX8_neighbour_116 rfl rfl (by decide) ?_
            refine m_goto 27 dX8_neighbour_119 (by decide) ?_
            first
              | (rw [if_pos (by omega)] at ht; exact ih _ _ _ (by omega) (by omega) (by omega) (by omega) ht)
              | (rw [if_neg (by omega), if_neg q107] at ht; exact ih _ _ _ (by omega) (by omega) (by omega) (by omega) ht)
          · refine m_iload 112 dX8_neighbour_110 rfl rfl ?_
            refine i_ret _ dX8_neighbour_112 rfl ⟨Nat.le_refl _, Nat.le_refl _⟩ ?_ ⟨rfl, rfl⟩
            rw [if_neg (by omega), if_pos q107] at ht; exact ht
        · refine m_goto 116 dX8_neighbour_102 (by decide) ?_
          refine i_inc 119 dX8_neighbour_116 rfl rfl (by decide) ?_
          refine m_goto 27 dX8_neighbour_119 (by decide) ?_
          first
            | (rw [if_pos (by omega)] at ht; exact ih _ _ _ (by omega) (by omega) (by omega) (by omega) ht)
            | (rw [if_neg (by omega), if_neg q107] at ht; exact ih _ _ _ (by omega) (by omega) (by omega) (by omega) ht)
    · refine m_iload 45 dX8_neighbour_43 rfl rfl ?_
      refine m_aload_n 46 dX8_neighbour_45 rfl rfl ?_
      refine m_cV (M' := MX8_all) 49 [] kX8_50 imX8_all seX8_all clX8_all dX8_neighbour_46 rfl rfl rfl (mw_22 hw) (m_rmI (by omega) (Nat.le_of_ble_eq_true rfl) (Nat.le_refl _) (Nat.le_refl _)) (c_X8_all hG (d + 2) hFF hw) ?_
      refine i_icmp_ge 52 73 ⟨by omega, by omega⟩ ⟨by omega, by omega⟩ dX8_neighbour_49 rfl (by decide) (fun q49 => ?_) (fun q49 => ?_)
      · refine i_const 74 dX8_neighbour_73 rfl ?_
        refine m_goto 95 dX8_neighbour_74 (by decide) ?_
        have eg : gN k W H n nb p i = -1 := by unfold gN mA; rw [if_pos (by omega), if_neg (fun h => by omega)]
        rw [eg, if_pos rfl] at ht
        refine m_istore 97 dX8_neighbour_95 rfl (by decide) ?_
        refine m_iload 99 dX8_neighbour_97 rfl rfl ?_
        refine i_if_ge 102 105 ⟨by omega, by omega⟩ dX8_neighbour_99 rfl (by decide) (fun h => absurd h (by decide)) (fun _ => ?_)
        refine m_goto 116 dX8_neighbour_102 (by decide) ?_
        refine i_inc 119 dX8_neighbour_116 rfl rfl (by decide) ?_
        refine m_goto 27 dX8_neighbour_119 (by decide) ?_
        exact ih _ _ _ (by omega) (by omega) (by omega) (by omega) ht
      · refine m_aload_n 53 dX8_neighbour_52 rfl rfl ?_
        refine m_getf 56 foX8_8 dX8_neighbour_53 rfl (mw_22 hw) (by rfl) ?_
        refine i_sipush 59 256 dX8_neighbour_56 rfl (by decide) ?_
        refine m_iload_n 60 dX8_neighbour_59 rfl rfl ?_
        refine i_mul 61 dX8_neighbour_60 rfl ?_
        refine m_iload 63 dX8_neighbour_61 rfl rfl ?_
        refine i_add 64 dX8_neighbour_63 rfl ?_
        refine i_zald 65 dX8_neighbour_64 rfl (mw_23 hw) ⟨by omega, by omega, by omega⟩ ?_
        refine b_if_eq 68 73 dX8_neighbour_65 rfl (by decide) (fun q65 => ?_) (fun q65 => ?_)
        · refine i_const 74 dX8_neighbour_73 rfl ?_
          refine m_goto 95 dX8_neighbour_74 (by decide) ?_
          have eg : gN k W H n nb p i = -1 := by unfold gN mA; rw [if_pos (by omega), if_neg (fun h => by have h2 := h.2; rw [q65] at h2; cases h2)]
          rw [eg, if_pos rfl] at ht
          refine m_istore 97 dX8_neighbour_95 rfl (by decide) ?_
          refine m_iload 99 dX8_neighbour_97 rfl rfl ?_
          refine i_if_ge 102 105 ⟨by omega, by omega⟩ dX8_neighbour_99 rfl (by decide) (fun h => absurd h (by decide)) (fun _ => ?_)
          refine m_goto 116 dX8_neighbour_102 (by decide) ?_
          refine i_inc 119 dX8_neighbour_116 rfl rfl (by decide) ?_
          refine m_goto 27 dX8_neighbour_119 (by decide) ?_
          exact ih _ _ _ (by omega) (by omega) (by omega) (by omega) ht
        · refine m_iload 70 dX8_neighbour_68 rfl rfl ?_
          refine m_goto 95 dX8_neighbour_70 (by decide) ?_
          have eg : gN k W H n nb p i = i := by unfold gN mA; rw [if_pos (by omega), if_pos ⟨by omega, q65⟩]
          rw [eg] at ht
          refine m_istore 97 dX8_neighbour_95 rfl (by decide) ?_
          refine m_iload 99 dX8_neighbour_97 rfl rfl ?_
          refine i_if_ge 102 105 ⟨by omega, by omega⟩ dX8_neighbour_99 rfl (by decide) (fun q99 => ?_) (fun q99 => ?_)
          · refine m_iload_n 106 dX8_neighbour_105 rfl rfl ?_
            refine m_iload_n 107 dX8_neighbour_106 rfl rfl ?_
            refine i_icmp_ne 110 113 ⟨by omega, by omega⟩ ⟨by omega, by omega⟩ dX8_neighbour_107 rfl (by decide) (fun q107 => ?_) (fun q107 => ?_)
            · refine i_inc 116 dX8_neighbour_113 rfl rfl (by decide) ?_
              refine i_inc 119 dX8_neighbour_116 rfl rfl (by decide) ?_
              refine m_goto 27 dX8_neighbour_119 (by decide) ?_
              first
                | (rw [if_pos (by omega)] at ht; exact ih _ _ _ (by omega) (by omega) (by omega) (by omega) ht)
                | (rw [if_neg (by omega), if_neg q107] at ht; exact ih _ _ _ (by omega) (by omega) (by omega) (by omega) ht)
            · refine m_iload 112 dX8_neighbour_110 rfl rfl ?_
              refine i_ret _ dX8_neighbour_112 rfl ⟨Nat.le_refl _, Nat.le_refl _⟩ ?_ ⟨rfl, rfl⟩
              rw [if_neg (by omega), if_pos q107] at ht; exact ht
          · refine m_goto 116 dX8_neighbour_102 (by decide) ?_
            refine i_inc 119 dX8_neighbour_116 rfl rfl (by decide) ?_
            refine m_goto 27 dX8_neighbour_119 (by decide) ?_
            first
              | (rw [if_pos (by omega)] at ht; exact ih _ _ _ (by omega) (by omega) (by omega) (by omega) ht)
              | (rw [if_neg (by omega), if_neg q107] at ht; exact ih _ _ _ (by omega) (by omega) (by omega) (by omega) ht)
set_option maxHeartbeats 4000000 in
set_option maxRecDepth 100000 in
theorem c_X8_neighbour (hG : m_G G) (d : Nat) {k W H : Int} {n : Nat} (hF : fOK k W H n) {t sz pl so bt : Int} {nb wl ou : Nat → Bool} {ar mk rc ip fd : Nat → Int} (hw : 30 < w.length) {p c : Int} (hp : 0 ≤ p ∧ p < n) (hc : iR c) : m_Cv G MX8_neighbour (m_r (d + 3) 0 0) [.ref 22, vI p, vI c] (mw w t k W H sz pl so bt nb wl ar mk rc ou ip fd) (some (vI (nthF (gN k W H n nb p) c 256 0 0))) (mw w 0 k W H sz pl so bt nb wl ar mk rc ou ip fd) := by
  have hFF := hF
  have hnb := hF.n
  obtain ⟨hk0, hk4, hW1, hW2, hH1, hH2, hn, hg4⟩ := hF
  refine m_enter (L := [some (.ref 22), some (vI p), some (vI c), none, none, none]) (by decide) hG (m_c1 rfl) (Nat.le_of_ble_eq_true rfl) rfl ?_
  refine m_aload_n 1 dX8_neighbour_0 rfl rfl ?_
  refine m_aload_n 2 dX8_neighbour_1 rfl rfl ?_
  refine m_iload_n 3 dX8_neighbour_2 rfl rfl ?_
  refine m_cV (M' := MX8_isPlace) 6 [_] kX8_70 imX8_isPlace seX8_isPlace clX8_isPlace dX8_neighbour_3 rfl rfl rfl (mw_22 hw) (m_rmI (by omega) (Nat.le_of_ble_eq_true rfl) (Nat.le_refl _) (Nat.le_refl _)) (c_X8_isPlace hG d hFF hw ⟨by omega, by omega⟩) ?_
  refine b_if_ne 9 13 dX8_neighbour_6 rfl (by decide) (fun _ => ?_) (fun h => absurd h (by rw [inB_1 hp]; decide))
  refine i_const 14 dX8_neighbour_13 rfl ?_
  refine i_asB false rfl ?_
  refine m_cV (M' := MX8_fails) 17 [_] kX8_74 imX8_fails seX8_fails clX8_fails dX8_neighbour_14 rfl rfl rfl (mw_22 hw) (m_rmI (by omega) (Nat.le_of_ble_eq_true rfl) (Nat.le_refl _) (Nat.le_refl _)) (c_X8_fails hG d hFF hw) ?_
  refine b_if_eq 20 22 dX8_neighbour_17 rfl (by decide) (fun _ => ?_) (fun h => absurd h (by decide))
  refine i_const 23 dX8_neighbour_22 rfl ?_
  refine m_istore_n 24 dX8_neighbour_23 rfl (by decide) ?_
  refine i_const 25 dX8_neighbour_24 rfl ?_
  refine m_istore 27 dX8_neighbour_25 rfl (by decide) ?_
  exact l_X8_neighbour hG d hFF hw hp hc 256 0 0 _ (by omega) (by omega) (by omega) (by omega) rfl
set_option maxHeartbeats 4000000 in
set_option maxRecDepth 100000 in
theorem c_X8_wallX (hG : m_G G) (d : Nat) {k W H : Int} {n : Nat} (hF : fOK k W H n) {t sz pl so bt : Int} {nb wl ou : Nat → Bool} {ar mk rc ip fd : Nat → Int} (hw : 30 < w.length) {a b : Int} {on : Bool} (ha : ¬ (0 ≤ a ∧ a < n)) (hr : iR a) : m_Cv G MX8_wall (m_r (d + 3) 0 0) [.ref 22, vI a, vI b, vB on] (mw w t k W H sz pl so bt nb wl ar mk rc ou ip fd) (some (vB false)) (mw w 1 k W H sz pl so bt nb wl ar mk rc ou ip fd) := by
  have hFF := hF
  have hnb := hF.n
  obtain ⟨hk0, hk4, hW1, hW2, hH1, hH2, hn, hg4⟩ := hF
  refine m_enter (L := [some (.ref 22), some (vI a), some (vI b), some (vB on)]) (by decide) hG (m_c1 rfl) (Nat.le_of_ble_eq_true rfl) rfl ?_
  refine m_aload_n 1 dX8_wall_0 rfl rfl ?_
  refine m_aload_n 2 dX8_wall_1 rfl rfl ?_
  refine m_iload_n 3 dX8_wall_2 rfl rfl ?_
  refine m_cV (M' := MX8_isPlace) 6 [_] kX8_70 imX8_isPlace seX8_isPlace clX8_isPlace dX8_wall_3 rfl rfl rfl (mw_22 hw) (m_rmI (by omega) (Nat.le_of_ble_eq_true rfl) (Nat.le_refl _) (Nat.le_refl _)) (c_X8_isPlace hG d hFF hw hr) ?_
  refine b_if_eq 9 17 dX8_wall_6 rfl (by decide) (fun _ => ?_) (fun h => absurd h (by rw [inB_0 ha]; decide))
  refine i_const 18 dX8_wall_17 rfl ?_
  refine m_goto 22 dX8_wall_18 (by decide) ?_
  refine i_asB true rfl ?_
  refine m_cV (M' := MX8_fails) 25 [_] kX8_74 imX8_fails seX8_fails clX8_fails dX8_wall_22 rfl rfl rfl (mw_22 hw) (m_rmI (by omega) (Nat.le_of_ble_eq_true rfl) (Nat.le_refl _) (Nat.le_refl _)) (c_X8_fails hG d hFF hw) ?_
  refine b_if_ne 28 59 dX8_wall_25 rfl (by decide) (fun _ => ?_) (fun h => absurd h (by decide))
  refine i_const 60 dX8_wall_59 rfl ?_
  refine i_retB _ dX8_wall_60 rfl ⟨Nat.le_refl _, Nat.le_refl _⟩ ?_ ⟨rfl, rfl⟩
  refine i_eq0 ?_
  rfl
set_option maxHeartbeats 4000000 in
set_option maxRecDepth 100000 in
theorem c_X8_wallX2 (hG : m_G G) (d : Nat) {k W H : Int} {n : Nat} (hF : fOK k W H n) {t sz pl so bt : Int} {nb wl ou : Nat → Bool} {ar mk rc ip fd : Nat → Int} (hw : 30 < w.length) {a b : Int} {on : Bool} (ha : 0 ≤ a ∧ a < n) (hb : ¬ (0 ≤ b ∧ b < n)) (hr : iR b) : m_Cv G MX8_wall (m_r (d + 3) 0 0) [.ref 22, vI a, vI b, vB on] (mw w t k W H sz pl so bt nb wl ar mk rc ou ip fd) (some (vB false)) (mw w 1 k W H sz pl so bt nb wl ar mk rc ou ip fd) := by
  have hFF := hF
  have hnb := hF.n
  obtain ⟨hk0, hk4, hW1, hW2, hH1, hH2, hn, hg4⟩ := hF
  refine m_enter (L := [some (.ref 22), some (vI a), some (vI b), some (vB on)]) (by decide) hG (m_c1 rfl) (Nat.le_of_ble_eq_true rfl) rfl ?_
  refine m_aload_n 1 dX8_wall_0 rfl rfl ?_
  refine m_aload_n 2 dX8_wall_1 rfl rfl ?_
  refine m_iload_n 3 dX8_wall_2 rfl rfl ?_
  refine m_cV (M' := MX8_isPlace) 6 [_] kX8_70 imX8_isPlace seX8_isPlace clX8_isPlace dX8_wall_3 rfl rfl rfl (mw_22 hw) (m_rmI (by omega) (Nat.le_of_ble_eq_true rfl) (Nat.le_refl _) (Nat.le_refl _)) (c_X8_isPlace hG d hFF hw ⟨by omega, by omega⟩) ?_
  refine b_if_eq 9 17 dX8_wall_6 rfl (by decide) (fun h => absurd h (by rw [inB_1 ha]; decide)) (fun _ => ?_)
  refine m_aload_n 10 dX8_wall_9 rfl rfl ?_
  refine m_iload_n 11 dX8_wall_10 rfl rfl ?_
  refine m_cV (M' := MX8_isPlace) 14 [_] kX8_70 imX8_isPlace seX8_isPlace clX8_isPlace dX8_wall_11 rfl rfl rfl (mw_22 hw) (m_rmI (by omega) (Nat.le_of_ble_eq_true rfl) (Nat.le_refl _) (Nat.le_refl _)) (c_X8_isPlace hG d hFF hw hr) ?_
  refine b_if_ne 17 21 dX8_wall_14 rfl (by decide) (fun h => absurd h (by rw [inB_0 hb]; decide)) (fun _ => ?_)
  refine i_const 18 dX8_wall_17 rfl ?_
  refine m_goto 22 dX8_wall_18 (by decide) ?_
  refine i_asB true rfl ?_
  refine m_cV (M' := MX8_fails) 25 [_] kX8_74 imX8_fails seX8_fails clX8_fails dX8_wall_22 rfl rfl rfl (mw_22 hw) (m_rmI (by omega) (Nat.le_of_ble_eq_true rfl) (Nat.le_refl _) (Nat.le_refl _)) (c_X8_fails hG d hFF hw) ?_
  refine b_if_ne 28 59 dX8_wall_25 rfl (by decide) (fun _ => ?_) (fun h => absurd h (by decide))
  refine i_const 60 dX8_wall_59 rfl ?_
  refine i_retB _ dX8_wall_60 rfl ⟨Nat.le_refl _, Nat.le_refl _⟩ ?_ ⟨rfl, rfl⟩
  refine i_eq0 ?_
  rfl
set_option maxHeartbeats 4000000 in
set_option maxRecDepth 100000 in
theorem c_X8_wallN (hG : m_G G) (d : Nat) {k W H : Int} {n : Nat} (hF : fOK k W H n) {t sz pl so bt : Int} {nb wl ou : Nat → Bool} {ar mk rc ip fd : Nat → Int} (hw : 30 < w.length) {a b : Int} {on : Bool} (ha : 0 ≤ a ∧ a < n) (hb : 0 ≤ b ∧ b < n) (hno : mA nb a b = false ∨ mA wl a b = on) : m_Cv G MX8_wall (m_r (d + 3) 0 0) [.ref 22, vI a, vI b, vB on] (mw w t k W H sz pl so bt nb wl ar mk rc ou ip fd) (some (vB false)) (mw w 0 k W H sz pl so bt nb wl ar mk rc ou ip fd) := by
  have hFF := hF
  have hnb := hF.n
  obtain ⟨hk0, hk4, hW1, hW2, hH1, hH2, hn, hg4⟩ := hF
  refine m_enter (L := [some (.ref 22), some (vI a), some (vI b), some (vB on)]) (by decide) hG (m_c1 rfl) (Nat.le_of_ble_eq_true rfl) rfl ?_
  refine m_aload_n 1 dX8_wall_0 rfl rfl ?_
  refine m_aload_n 2 dX8_wall_1 rfl rfl ?_
  refine m_iload_n 3 dX8_wall_2 rfl rfl ?_
  refine m_cV (M' := MX8_isPlace) 6 [_] kX8_70 imX8_isPlace seX8_isPlace clX8_isPlace dX8_wall_3 rfl rfl rfl (mw_22 hw) (m_rmI (by omega) (Nat.le_of_ble_eq_true rfl) (Nat.le_refl _) (Nat.le_refl _)) (c_X8_isPlace hG d hFF hw ⟨by omega, by omega⟩) ?_
  refine b_if_eq 9 17 dX8_wall_6 rfl (by decide) (fun h => absurd h (by rw [inB_1 ha]; decide)) (fun _ => ?_)
  refine m_aload_n 10 dX8_wall_9 rfl rfl ?_
  refine m_iload_n 11 dX8_wall_10 rfl rfl ?_
  refine m_cV (M' := MX8_isPlace) 14 [_] kX8_70 imX8_isPlace seX8_isPlace clX8_isPlace dX8_wall_11 rfl rfl rfl (mw_22 hw) (m_rmI (by omega) (Nat.le_of_ble_eq_true rfl) (Nat.le_refl _) (Nat.le_refl _)) (c_X8_isPlace hG d hFF hw ⟨by omega, by omega⟩) ?_
  refine b_if_ne 17 21 dX8_wall_14 rfl (by decide) (fun _ => ?_) (fun h => absurd h (by rw [inB_1 hb]; decide))
  refine i_const 22 dX8_wall_21 rfl ?_
  refine i_asB false rfl ?_
  refine m_cV (M' := MX8_fails) 25 [_] kX8_74 imX8_fails seX8_fails clX8_fails dX8_wall_22 rfl rfl rfl (mw_22 hw) (m_rmI (by omega) (Nat.le_of_ble_eq_true rfl) (Nat.le_refl _) (Nat.le_refl _)) (c_X8_fails hG d hFF hw) ?_
  refine b_if_ne 28 59 dX8_wall_25 rfl (by decide) (fun h => absurd h (by decide)) (fun _ => ?_)
  refine m_aload_n 29 dX8_wall_28 rfl rfl ?_
  refine m_getf 32 foX8_8 dX8_wall_29 rfl (mw_22 hw) (by rfl) ?_
  refine i_sipush 35 256 dX8_wall_32 rfl (by decide) ?_
  refine m_iload_n 36 dX8_wall_35 rfl rfl ?_
  refine i_mul 37 dX8_wall_36 rfl ?_
  refine m_iload_n 38 dX8_wall_37 rfl rfl ?_
  refine i_add 39 dX8_wall_38 rfl ?_
  refine i_zald 40 dX8_wall_39 rfl (mw_23 hw) ⟨by omega, by omega, by omega⟩ ?_
  refine b_if_eq 43 59 dX8_wall_40 rfl (by decide) (fun q40 => ?_) (fun q40 => ?_)
  · refine i_const 60 dX8_wall_59 rfl ?_
    refine i_retB _ dX8_wall_60 rfl ⟨Nat.le_refl _, Nat.le_refl _⟩ ?_ ⟨rfl, rfl⟩
    refine i_eq0 ?_
    rfl
  · refine m_aload_n 44 dX8_wall_43 rfl rfl ?_
    refine m_getf 47 foX8_14 dX8_wall_44 rfl (mw_22 hw) (by rfl) ?_
    refine i_sipush 50 256 dX8_wall_47 rfl (by decide) ?_
    refine m_iload_n 51 dX8_wall_50 rfl rfl ?_
    refine i_mul 52 dX8_wall_51 rfl ?_
    refine m_iload_n 53 dX8_wall_52 rfl rfl ?_
    refine i_add 54 dX8_wall_53 rfl ?_
    refine i_zald 55 dX8_wall_54 rfl (mw_24 hw) ⟨by omega, by omega, by omega⟩ ?_
    refine m_iload_n 56 dX8_wall_55 rfl rfl ?_
    refine b_icmp_ne 59 61 dX8_wall_56 rfl (by decide) (fun q56 => ?_) (fun q56 => ?_)
    · rcases hno with h | h
      · rw [show mA nb a b = true from q40] at h; cases h
      · exact absurd h q56
    · refine i_const 60 dX8_wall_59 rfl ?_
      refine i_retB _ dX8_wall_60 rfl ⟨Nat.le_refl _, Nat.le_refl _⟩ ?_ ⟨rfl, rfl⟩
      refine i_eq0 ?_
      rfl
set_option maxHeartbeats 4000000 in
set_option maxRecDepth 100000 in
theorem c_X8_wallY (hG : m_G G) (d : Nat) {k W H : Int} {n : Nat} (hF : fOK k W H n) {t sz pl so bt : Int} {nb wl ou : Nat → Bool} {ar mk rc ip fd : Nat → Int} (hw : 30 < w.length) {a b : Int} {on : Bool} (ha : 0 ≤ a ∧ a < n) (hb : 0 ≤ b ∧ b < n) (hn1 : mA nb a b = true) (hn2 : mA wl a b ≠ on) : m_Cv G MX8_wall (m_r (d + 3) 0 0) [.ref 22, vI a, vI b, vB on] (mw w t k W H sz pl so bt nb wl ar mk rc ou ip fd) (some (vB true)) (mw w 0 k W H sz pl so bt nb (up (up wl (256 * a + b).toNat on) (256 * b + a).toNat on) ar mk rc ou ip fd) := by
  have hFF := hF
  have hnb := hF.n
  obtain ⟨hk0, hk4, hW1, hW2, hH1, hH2, hn, hg4⟩ := hF
  refine m_enter (L := [some (.ref 22), some (vI a), some (vI b), some (vB on)]) (by decide) hG (m_c1 rfl) (Nat.le_of_ble_eq_true rfl) rfl ?_
  refine m_aload_n 1 dX8_wall_0 rfl rfl ?_
  refine m_aload_n 2 dX8_wall_1 rfl rfl ?_
  refine m_iload_n 3 dX8_wall_2 rfl rfl ?_
  refine m_cV (M' := MX8_isPlace) 6 [_] kX8_70 imX8_isPlace seX8_isPlace clX8_isPlace dX8_wall_3 rfl rfl rfl (mw_22 hw) (m_rmI (by omega) (Nat.le_of_ble_eq_true rfl) (Nat.le_refl _) (Nat.le_refl _)) (c_X8_isPlace hG d hFF hw ⟨by omega, by omega⟩) ?_
  refine b_if_eq 9 17 dX8_wall_6 rfl (by decide) (fun h => absurd h (by rw [inB_1 ha]; decide)) (fun _ => ?_)
  refine m_aload_n 10 dX8_wall_9 rfl rfl ?_
  refine m_iload_n 11 dX8_wall_10 rfl rfl ?_
  refine m_cV (M' := MX8_isPlace) 14 [_] kX8_70 imX8_isPlace seX8_isPlace clX8_isPlace dX8_wall_11 rfl rfl rfl (mw_22 hw) (m_rmI (by omega) (Nat.le_of_ble_eq_true rfl) (Nat.le_refl _) (Nat.le_refl _)) (c_X8_isPlace hG d hFF hw ⟨by omega, by omega⟩) ?_
  refine b_if_ne 17 21 dX8_wall_14 rfl (by decide) (fun _ => ?_) (fun h => absurd h (by rw [inB_1 hb]; decide))
  refine i_const 22 dX8_wall_21 rfl ?_
  refine i_asB false rfl ?_
  refine m_cV (M' := MX8_fails) 25 [_] kX8_74 imX8_fails seX8_fails clX8_fails dX8_wall_22 rfl rfl rfl (mw_22 hw) (m_rmI (by omega) (Nat.le_of_ble_eq_true rfl) (Nat.le_refl _) (Nat.le_refl _)) (c_X8_fails hG d hFF hw) ?_
  refine b_if_ne 28 59 dX8_wall_25 rfl (by decide) (fun h => absurd h (by decide)) (fun _ => ?_)
  refine m_aload_n 29 dX8_wall_28 rfl rfl ?_
  refine m_getf 32 foX8_8 dX8_wall_29 rfl (mw_22 hw) (by rfl) ?_
  refine i_sipush 35 256 dX8_wall_32 rfl (by decide) ?_
  refine m_iload_n 36 dX8_wall_35 rfl rfl ?_
  refine i_mul 37 dX8_wall_36 rfl ?_
  refine m_iload_n 38 dX8_wall_37 rfl rfl ?_
  refine i_add 39 dX8_wall_38 rfl ?_
  refine i_zald 40 dX8_wall_39 rfl (mw_23 hw) ⟨by omega, by omega, by omega⟩ ?_
  refine b_if_eq 43 59 dX8_wall_40 rfl (by decide) (fun h => absurd h (by rw [show nb (256 * a + b).toNat = true from hn1]; decide)) (fun _ => ?_)
  refine m_aload_n 44 dX8_wall_43 rfl rfl ?_
  refine m_getf 47 foX8_14 dX8_wall_44 rfl (mw_22 hw) (by rfl) ?_
  refine i_sipush 50 256 dX8_wall_47 rfl (by decide) ?_
  refine m_iload_n 51 dX8_wall_50 rfl rfl ?_
  refine i_mul 52 dX8_wall_51 rfl ?_
  refine m_iload_n 53 dX8_wall_52 rfl rfl ?_
  refine i_add 54 dX8_wall_53 rfl ?_
  refine i_zald 55 dX8_wall_54 rfl (mw_24 hw) ⟨by omega, by omega, by omega⟩ ?_
  refine m_iload_n 56 dX8_wall_55 rfl rfl ?_
  refine b_icmp_ne 59 61 dX8_wall_56 rfl (by decide) (fun _ => ?_) (fun h => absurd h hn2)
  refine m_aload_n 62 dX8_wall_61 rfl rfl ?_
  refine m_getf 65 foX8_14 dX8_wall_62 rfl (mw_22 hw) (by rfl) ?_
  refine i_sipush 68 256 dX8_wall_65 rfl (by decide) ?_
  refine m_iload_n 69 dX8_wall_68 rfl rfl ?_
  refine i_mul 70 dX8_wall_69 rfl ?_
  refine m_iload_n 71 dX8_wall_70 rfl rfl ?_
  refine i_add 72 dX8_wall_71 rfl ?_
  refine m_iload_n 73 dX8_wall_72 rfl rfl ?_
  refine i_zast 74 dX8_wall_73 rfl (mw_24 hw) ⟨by omega, by omega, by omega⟩ ?_
  rw [mw_s24]
  refine m_aload_n 75 dX8_wall_74 rfl rfl ?_
  refine m_getf 78 foX8_14 dX8_wall_75 rfl (mw_22 hw) (by rfl) ?_
  refine i_sipush 81 256 dX8_wall_78 rfl (by decide) ?_
  refine m_iload_n 82 dX8_wall_81 rfl rfl ?_
  refine i_mul 83 dX8_wall_82 rfl ?_
  refine m_iload_n 84 dX8_wall_83 rfl rfl ?_
  refine i_add 85 dX8_wall_84 rfl ?_
  refine m_iload_n 86 dX8_wall_85 rfl rfl ?_
  refine i_zast 87 dX8_wall_86 rfl (mw_24 hw) ⟨by omega, by omega, by omega⟩ ?_
  rw [mw_s24]
  refine i_const 88 dX8_wall_87 rfl ?_
  refine i_retB _ dX8_wall_88 rfl ⟨Nat.le_refl _, Nat.le_refl _⟩ ?_ ⟨rfl, rfl⟩
  refine i_eq1 ?_
  rfl
end MP
