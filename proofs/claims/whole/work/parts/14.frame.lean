/-! Frame: where places lie -/
section FR
variable {G : mG} {w : List mC}
def plA (W H x y : Int) : Int := if 0 ≤ x ∧ x < W ∧ 0 ≤ y ∧ y < H then W * y + x else -1
def sqS (W H x y s : Int) : Int := if s = 0 then plA W H x (y - 1) else if s = 1 then plA W H (x + 1) y else if s = 2 then plA W H x (y + 1) else if s = 3 then plA W H (x - 1) y else -1
def hxS (W H x y s : Int) : Int := if s = 0 then plA W H (x + y % 2) (y - 1) else if s = 1 then plA W H (x + 1) y else if s = 2 then plA W H (x + y % 2) (y + 1) else if s = 3 then plA W H (x + y % 2 - 1) (y + 1) else if s = 4 then plA W H (x - 1) y else if s = 5 then plA W H (x + y % 2 - 1) (y - 1) else -1
def trS (W H x y s : Int) : Int := if s = 0 then plA W H (x - 1) y else if s = 1 then plA W H (x + 1) y else if s = 2 then plA W H x (if (x + y) % 2 = 0 then y + 1 else y - 1) else -1
def rgS (W H x y s : Int) : Int := if s = 0 then plA W H x (y - 1) else if s = 1 then (if W < 2 then -1 else plA W H (if x = W - 1 then 0 else x + 1) y) else if s = 2 then plA W H x (y + 1) else if s = 3 then (if W < 3 then -1 else plA W H (if x = 0 then W - 1 else x - 1) y) else -1
/-- the place that lies beside (x, y) in direction s, -1 where none does -/
def stp (k W H x y s : Int) : Int := if k = 0 then sqS W H x y s else if k = 1 then hxS W H x y s else if k = 2 then trS W H x y s else if k = 3 then rgS W H x y s else -1
abbrev oFrame (k W H n : Int) : mC := mO 1 [vI k, vI W, vI H, vI n, .ref 3, .ref 4]
/-- the frame's own numbers -/
def fOK (k W H : Int) (n : Nat) : Prop := 0 ≤ k ∧ k ≤ 4 ∧ 1 ≤ W ∧ W ≤ 16 ∧ 1 ≤ H ∧ H ≤ 16 ∧ (n : Int) = W * H ∧ (k = 4 → H = 1)
theorem fOK.n {k W H : Int} {n : Nat} (h : fOK k W H n) : 1 ≤ n ∧ n ≤ 256 := by
  obtain ⟨-, -, h1, h2, h3, h4, h5, -⟩ := h
  have a : W * H ≤ 16 * 16 := Int.mul_le_mul h2 h4 (by omega) (by omega)
  have b : 1 * 1 ≤ W * H := Int.mul_le_mul h1 h3 (by omega) (by omega)
  omega

set_option maxHeartbeats 4000000 in
set_option maxRecDepth 100000 in
theorem c_X1_has (hG : m_G G) (d : Nat) {k W H z : Int} {n : Nat} (h2 : w[2]? = some (oFrame k W H n)) (hF : fOK k W H n) (hz : iR z) : m_Cv G MX1_has (m_r d 0 0) [.ref 2, vI z] w (some (vB (inB z n))) w := by
  have hnb := hF.n
  obtain ⟨hk0, hk4, hW1, hW2, hH1, hH2, hn, hg4⟩ := hF
  obtain ⟨hz1, hz2⟩ := hz
  refine m_enter (L := [some (.ref 2), some (vI z)]) (by decide) hG (m_c1 rfl) (Nat.le_of_ble_eq_true rfl) rfl ?_
  refine m_iload_n 1 dX1_has_0 rfl rfl ?_
  refine i_if_lt 4 16 ⟨by omega, by omega⟩ dX1_has_1 rfl (by decide) (fun q1 => ?_) (fun q1 => ?_)
  · refine i_const 17 dX1_has_16 rfl ?_
    refine i_retB _ dX1_has_17 rfl ⟨Nat.le_refl _, Nat.le_refl _⟩ ?_ ⟨rfl, rfl⟩
    refine i_eq0 ?_
    exact inB_0 (by omega)
  · refine m_iload_n 5 dX1_has_4 rfl rfl ?_
    refine m_aload_n 6 dX1_has_5 rfl rfl ?_
    refine m_getf 9 foX1_25 dX1_has_6 rfl (by first | rfl | assumption) (by rfl) ?_
    refine i_icmp_ge 12 16 ⟨by omega, by omega⟩ ⟨by omega, by omega⟩ dX1_has_9 rfl (by decide) (fun q9 => ?_) (fun q9 => ?_)
    · refine i_const 17 dX1_has_16 rfl ?_
      refine i_retB _ dX1_has_17 rfl ⟨Nat.le_refl _, Nat.le_refl _⟩ ?_ ⟨rfl, rfl⟩
      refine i_eq0 ?_
      exact inB_0 (by omega)
    · refine i_const 13 dX1_has_12 rfl ?_
      refine m_goto 17 dX1_has_13 (by decide) ?_
      refine i_retB _ dX1_has_17 rfl ⟨Nat.le_refl _, Nat.le_refl _⟩ ?_ ⟨rfl, rfl⟩
      refine i_eq1 ?_
      exact inB_1 (by omega)
set_option maxHeartbeats 4000000 in
set_option maxRecDepth 100000 in
theorem c_X1_columnOf (hG : m_G G) (d : Nat) {k W H z : Int} {n : Nat} {col : Nat → Int} (h2 : w[2]? = some (oFrame k W H n)) (hF : fOK k W H n) (h3 : w[3]? = some (cI n col)) (hz : 0 ≤ z ∧ z < n) : m_Cv G MX1_columnOf (m_r (d + 1) 0 0) [.ref 2, vI z] w (some (vI (col z.toNat))) w := by
  have hFF := hF
  have hnb := hF.n
  obtain ⟨hk0, hk4, hW1, hW2, hH1, hH2, hn, hg4⟩ := hF
  refine m_enter (L := [some (.ref 2), some (vI z)]) (by decide) hG (m_c1 rfl) (Nat.le_of_ble_eq_true rfl) rfl ?_
  refine m_aload_n 1 dX1_columnOf_0 rfl rfl ?_
  refine m_iload_n 2 dX1_columnOf_1 rfl rfl ?_
  refine m_cV (M' := MX1_has) 5 [_] kX1_35 imX1_has seX1_has clX1_has dX1_columnOf_2 rfl rfl rfl (by first | rfl | assumption) (m_rmI (by omega) (Nat.le_of_ble_eq_true rfl) (Nat.le_refl _) (Nat.le_refl _)) (c_X1_has hG d h2 hFF ⟨by omega, by omega⟩) ?_
  refine b_if_eq 8 17 dX1_columnOf_5 rfl (by decide) (fun h => absurd h (by rw [inB_1 hz]; decide)) (fun _ => ?_)
  refine m_aload_n 9 dX1_columnOf_8 rfl rfl ?_
  refine m_getf 12 foX1_28 dX1_columnOf_9 rfl (by first | rfl | assumption) (by rfl) ?_
  refine m_iload_n 13 dX1_columnOf_12 rfl rfl ?_
  refine i_ald 14 dX1_columnOf_13 rfl (by first | rfl | assumption) ⟨by omega, by omega, by omega⟩ ?_
  refine m_goto 18 dX1_columnOf_14 (by decide) ?_
  refine i_ret _ dX1_columnOf_18 rfl ⟨Nat.le_refl _, Nat.le_refl _⟩ ?_ ⟨rfl, rfl⟩
  rfl
set_option maxHeartbeats 4000000 in
set_option maxRecDepth 100000 in
theorem c_X1_columnOfN (hG : m_G G) (d : Nat) {k W H z : Int} {n : Nat} (h2 : w[2]? = some (oFrame k W H n)) (hF : fOK k W H n) (hz : ¬ (0 ≤ z ∧ z < n)) (hr : iR z) : m_Cv G MX1_columnOf (m_r (d + 1) 0 0) [.ref 2, vI z] w (some (vI (-1))) w := by
  refine m_enter (L := [some (.ref 2), some (vI z)]) (by decide) hG (m_c1 rfl) (Nat.le_of_ble_eq_true rfl) rfl ?_
  refine m_aload_n 1 dX1_columnOf_0 rfl rfl ?_
  refine m_iload_n 2 dX1_columnOf_1 rfl rfl ?_
  refine m_cV (M' := MX1_has) 5 [_] kX1_35 imX1_has seX1_has clX1_has dX1_columnOf_2 rfl rfl rfl (by first | rfl | assumption) (m_rmI (by omega) (Nat.le_of_ble_eq_true rfl) (Nat.le_refl _) (Nat.le_refl _)) (c_X1_has hG d h2 hF hr) ?_
  refine b_if_eq 8 17 dX1_columnOf_5 rfl (by decide) (fun _ => ?_) (fun h => absurd h (by rw [inB_0 hz]; decide))
  refine i_const 18 dX1_columnOf_17 rfl ?_
  refine i_ret _ dX1_columnOf_18 rfl ⟨Nat.le_refl _, Nat.le_refl _⟩ ?_ ⟨rfl, rfl⟩
  rfl
set_option maxHeartbeats 4000000 in
set_option maxRecDepth 100000 in
theorem c_X1_rowOf (hG : m_G G) (d : Nat) {k W H z : Int} {n : Nat} {row : Nat → Int} (h2 : w[2]? = some (oFrame k W H n)) (hF : fOK k W H n) (h3 : w[4]? = some (cI n row)) (hz : 0 ≤ z ∧ z < n) : m_Cv G MX1_rowOf (m_r (d + 1) 0 0) [.ref 2, vI z] w (some (vI (row z.toNat))) w := by
  have hFF := hF
  have hnb := hF.n
  obtain ⟨hk0, hk4, hW1, hW2, hH1, hH2, hn, hg4⟩ := hF
  refine m_enter (L := [some (.ref 2), some (vI z)]) (by decide) hG (m_c1 rfl) (Nat.le_of_ble_eq_true rfl) rfl ?_
  refine m_aload_n 1 dX1_rowOf_0 rfl rfl ?_
  refine m_iload_n 2 dX1_rowOf_1 rfl rfl ?_
  refine m_cV (M' := MX1_has) 5 [_] kX1_35 imX1_has seX1_has clX1_has dX1_rowOf_2 rfl rfl rfl (by first | rfl | assumption) (m_rmI (by omega) (Nat.le_of_ble_eq_true rfl) (Nat.le_refl _) (Nat.le_refl _)) (c_X1_has hG d h2 hFF ⟨by omega, by omega⟩) ?_
  refine b_if_eq 8 17 dX1_rowOf_5 rfl (by decide) (fun h => absurd h (by rw [inB_1 hz]; decide)) (fun _ => ?_)
  refine m_aload_n 9 dX1_rowOf_8 rfl rfl ?_
  refine m_getf 12 foX1_32 dX1_rowOf_9 rfl (by first | rfl | assumption) (by rfl) ?_
  refine m_iload_n 13 dX1_rowOf_12 rfl rfl ?_
  refine i_ald 14 dX1_rowOf_13 rfl (by first | rfl | assumption) ⟨by omega, by omega, by omega⟩ ?_
  refine m_goto 18 dX1_rowOf_14 (by decide) ?_
  refine i_ret _ dX1_rowOf_18 rfl ⟨Nat.le_refl _, Nat.le_refl _⟩ ?_ ⟨rfl, rfl⟩
  rfl
set_option maxHeartbeats 4000000 in
set_option maxRecDepth 100000 in
theorem c_X1_rowOfN (hG : m_G G) (d : Nat) {k W H z : Int} {n : Nat} (h2 : w[2]? = some (oFrame k W H n)) (hF : fOK k W H n) (hz : ¬ (0 ≤ z ∧ z < n)) (hr : iR z) : m_Cv G MX1_rowOf (m_r (d + 1) 0 0) [.ref 2, vI z] w (some (vI (-1))) w := by
  refine m_enter (L := [some (.ref 2), some (vI z)]) (by decide) hG (m_c1 rfl) (Nat.le_of_ble_eq_true rfl) rfl ?_
  refine m_aload_n 1 dX1_rowOf_0 rfl rfl ?_
  refine m_iload_n 2 dX1_rowOf_1 rfl rfl ?_
  refine m_cV (M' := MX1_has) 5 [_] kX1_35 imX1_has seX1_has clX1_has dX1_rowOf_2 rfl rfl rfl (by first | rfl | assumption) (m_rmI (by omega) (Nat.le_of_ble_eq_true rfl) (Nat.le_refl _) (Nat.le_refl _)) (c_X1_has hG d h2 hF hr) ?_
  refine b_if_eq 8 17 dX1_rowOf_5 rfl (by decide) (fun _ => ?_) (fun h => absurd h (by rw [inB_0 hz]; decide))
  refine i_const 18 dX1_rowOf_17 rfl ?_
  refine i_ret _ dX1_rowOf_18 rfl ⟨Nat.le_refl _, Nat.le_refl _⟩ ?_ ⟨rfl, rfl⟩
  rfl
set_option maxHeartbeats 4000000 in
set_option maxRecDepth 100000 in
theorem c_X1_placeAt (hG : m_G G) (d : Nat) {k W H x y : Int} {n : Nat} (h2 : w[2]? = some (oFrame k W H n)) (hF : fOK k W H n) (hx : iR x) (hy : iR y) : m_Cv G MX1_placeAt (m_r d 0 0) [.ref 2, vI x, vI y] w (some (vI (plA W H x y))) w := by
  have hnb := hF.n
  obtain ⟨hk0, hk4, hW1, hW2, hH1, hH2, hn, hg4⟩ := hF
  obtain ⟨hx1, hx2⟩ := hx
  obtain ⟨hy1, hy2⟩ := hy
  refine m_enter (L := [some (.ref 2), some (vI x), some (vI y), none]) (by decide) hG (m_c1 rfl) (Nat.le_of_ble_eq_true rfl) rfl ?_
  refine m_iload_n 1 dX1_placeAt_0 rfl rfl ?_
  refine i_if_lt 4 28 ⟨by omega, by omega⟩ dX1_placeAt_1 rfl (by decide) (fun q1 => ?_) (fun q1 => ?_)
  · refine i_const 29 dX1_placeAt_28 rfl ?_
    refine m_istore_n 30 dX1_placeAt_29 rfl (by decide) ?_
    refine m_iload_n 31 dX1_placeAt_30 rfl rfl ?_
    refine i_if_eq 34 45 ⟨by omega, by omega⟩ dX1_placeAt_31 rfl (by decide) (fun _ => ?_) (fun h => absurd h (by decide))
    refine i_const 46 dX1_placeAt_45 rfl ?_
    refine i_ret _ dX1_placeAt_46 rfl ⟨Nat.le_refl _, Nat.le_refl _⟩ ?_ ⟨rfl, rfl⟩
    unfold plA; split
    · first | rfl | omega
    · first | rfl | omega
  · refine m_iload_n 5 dX1_placeAt_4 rfl rfl ?_
    refine m_aload_n 6 dX1_placeAt_5 rfl rfl ?_
    refine m_getf 9 foX1_19 dX1_placeAt_6 rfl (by first | rfl | assumption) (by rfl) ?_
    refine i_icmp_ge 12 28 ⟨by omega, by omega⟩ ⟨by omega, by omega⟩ dX1_placeAt_9 rfl (by decide) (fun q9 => ?_) (fun q9 => ?_)
    · refine i_const 29 dX1_placeAt_28 rfl ?_
      refine m_istore_n 30 dX1_placeAt_29 rfl (by decide) ?_
      refine m_iload_n 31 dX1_placeAt_30 rfl rfl ?_
      refine i_if_eq 34 45 ⟨by omega, by omega⟩ dX1_placeAt_31 rfl (by decide) (fun _ => ?_) (fun h => absurd h (by decide))
      refine i_const 46 dX1_placeAt_45 rfl ?_
      refine i_ret _ dX1_placeAt_46 rfl ⟨Nat.le_refl _, Nat.le_refl _⟩ ?_ ⟨rfl, rfl⟩
      unfold plA; split
      · first | rfl | omega
      · first | rfl | omega
    · refine m_iload_n 13 dX1_placeAt_12 rfl rfl ?_
      refine i_if_lt 16 28 ⟨by omega, by omega⟩ dX1_placeAt_13 rfl (by decide) (fun q13 => ?_) (fun q13 => ?_)
      · refine i_const 29 dX1_placeAt_28 rfl ?_
        refine m_istore_n 30 dX1_placeAt_29 rfl (by decide) ?_
        refine m_iload_n 31 dX1_placeAt_30 rfl rfl ?_
        refine i_if_eq 34 45 ⟨by omega, by omega⟩ dX1_placeAt_31 rfl (by decide) (fun _ => ?_) (fun h => absurd h (by decide))
        refine i_const 46 dX1_placeAt_45 rfl ?_
        refine i_ret _ dX1_placeAt_46 rfl ⟨Nat.le_refl _, Nat.le_refl _⟩ ?_ ⟨rfl, rfl⟩
        unfold plA; split
        · first | rfl | omega
        · first | rfl | omega
      · refine m_iload_n 17 dX1_placeAt_16 rfl rfl ?_
        refine m_aload_n 18 dX1_placeAt_17 rfl rfl ?_
        refine m_getf 21 foX1_22 dX1_placeAt_18 rfl (by first | rfl | assumption) (by rfl) ?_
        refine i_icmp_ge 24 28 ⟨by omega, by omega⟩ ⟨by omega, by omega⟩ dX1_placeAt_21 rfl (by decide) (fun q21 => ?_) (fun q21 => ?_)
        · refine i_const 29 dX1_placeAt_28 rfl ?_
          refine m_istore_n 30 dX1_placeAt_29 rfl (by decide) ?_
          refine m_iload_n 31 dX1_placeAt_30 rfl rfl ?_
          refine i_if_eq 34 45 ⟨by omega, by omega⟩ dX1_placeAt_31 rfl (by decide) (fun _ => ?_) (fun h => absurd h (by decide))
          refine i_const 46 dX1_placeAt_45 rfl ?_
          refine i_ret _ dX1_placeAt_46 rfl ⟨Nat.le_refl _, Nat.le_refl _⟩ ?_ ⟨rfl, rfl⟩
          unfold plA; split
          · first | rfl | omega
          · first | rfl | omega
        · refine i_const 25 dX1_placeAt_24 rfl ?_
          refine m_goto 29 dX1_placeAt_25 (by decide) ?_
          refine m_istore_n 30 dX1_placeAt_29 rfl (by decide) ?_
          refine m_iload_n 31 dX1_placeAt_30 rfl rfl ?_
          refine i_if_eq 34 45 ⟨by omega, by omega⟩ dX1_placeAt_31 rfl (by decide) (fun h => absurd h (by decide)) (fun _ => ?_)
          refine m_aload_n 35 dX1_placeAt_34 rfl rfl ?_
          refine m_getf 38 foX1_19 dX1_placeAt_35 rfl (by first | rfl | assumption) (by rfl) ?_
          refine m_iload_n 39 dX1_placeAt_38 rfl rfl ?_
          refine i_mul 40 dX1_placeAt_39 rfl ?_
          refine m_iload_n 41 dX1_placeAt_40 rfl rfl ?_
          refine i_add 42 dX1_placeAt_41 rfl ?_
          refine m_goto 46 dX1_placeAt_42 (by decide) ?_
          refine i_ret _ dX1_placeAt_46 rfl ⟨Nat.le_refl _, Nat.le_refl _⟩ ?_ ⟨rfl, rfl⟩
          unfold plA; split
          · first | rfl | omega
          · first | rfl | omega
/-- how many slots, how many directions -/
def slN (k : Int) (n : Nat) : Nat := if k = 1 then 6 else if k = 2 then 3 else if k = 4 then n else 4
def dirN (k : Int) : Int := if k = 1 then 6 else if k = 2 then 2 else if k = 4 then 0 else 4
set_option maxHeartbeats 4000000 in
set_option maxRecDepth 100000 in
theorem c_X1_slots (hG : m_G G) (d : Nat) {k W H : Int} {n : Nat} (h2 : w[2]? = some (oFrame k W H n)) (hF : fOK k W H n) : m_Cv G MX1_slots (m_r d 0 0) [.ref 2] w (some (vI (slN k n))) w := by
  have hnb := hF.n
  obtain ⟨hk0, hk4, hW1, hW2, hH1, hH2, hn, hg4⟩ := hF
  refine m_enter (L := [some (.ref 2)]) (by decide) hG (m_c1 rfl) (Nat.le_of_ble_eq_true rfl) rfl ?_
  rcases (by omega : k = 0 ∨ k = 1 ∨ k = 2 ∨ k = 3 ∨ k = 4) with rfl | rfl | rfl | rfl | rfl
  · refine m_aload_n 1 dX1_slots_0 rfl rfl ?_
    refine m_getf 4 foX1_13 dX1_slots_1 rfl (by first | rfl | assumption) (by rfl) ?_
    refine i_tableOut 46 ⟨by omega, by omega⟩ dX1_slots_4 (by decide) (by decide) ?_
    refine i_const 47 dX1_slots_46 rfl ?_
    refine i_ret _ dX1_slots_47 rfl ⟨Nat.le_refl _, Nat.le_refl _⟩ ?_ ⟨rfl, rfl⟩
    rfl
  · refine m_aload_n 1 dX1_slots_0 rfl rfl ?_
    refine m_getf 4 foX1_13 dX1_slots_1 rfl (by first | rfl | assumption) (by rfl) ?_
    refine i_tableIn 36 ⟨by omega, by omega⟩ dX1_slots_4 (by decide) (by decide) rfl (by decide) ?_
    refine i_bipush 38 6 dX1_slots_36 rfl (by decide) ?_
    refine i_ret _ dX1_slots_38 rfl ⟨Nat.le_refl _, Nat.le_refl _⟩ ?_ ⟨rfl, rfl⟩
    rfl
  · refine m_aload_n 1 dX1_slots_0 rfl rfl ?_
    refine m_getf 4 foX1_13 dX1_slots_1 rfl (by first | rfl | assumption) (by rfl) ?_
    refine i_tableIn 39 ⟨by omega, by omega⟩ dX1_slots_4 (by decide) (by decide) rfl (by decide) ?_
    refine i_const 40 dX1_slots_39 rfl ?_
    refine i_ret _ dX1_slots_40 rfl ⟨Nat.le_refl _, Nat.le_refl _⟩ ?_ ⟨rfl, rfl⟩
    rfl
  · refine m_aload_n 1 dX1_slots_0 rfl rfl ?_
    refine m_getf 4 foX1_13 dX1_slots_1 rfl (by first | rfl | assumption) (by rfl) ?_
    refine i_tableIn 46 ⟨by omega, by omega⟩ dX1_slots_4 (by decide) (by decide) rfl (by decide) ?_
    refine i_const 47 dX1_slots_46 rfl ?_
    refine i_ret _ dX1_slots_47 rfl ⟨Nat.le_refl _, Nat.le_refl _⟩ ?_ ⟨rfl, rfl⟩
    rfl
  · refine m_aload_n 1 dX1_slots_0 rfl rfl ?_
    refine m_getf 4 foX1_13 dX1_slots_1 rfl (by first | rfl | assumption) (by rfl) ?_
    refine i_tableIn 41 ⟨by omega, by omega⟩ dX1_slots_4 (by decide) (by decide) rfl (by decide) ?_
    refine m_aload_n 42 dX1_slots_41 rfl rfl ?_
    refine m_getf 45 foX1_25 dX1_slots_42 rfl (by first | rfl | assumption) (by rfl) ?_
    refine i_ret _ dX1_slots_45 rfl ⟨Nat.le_refl _, Nat.le_refl _⟩ ?_ ⟨rfl, rfl⟩
    rfl
set_option maxHeartbeats 4000000 in
set_option maxRecDepth 100000 in
theorem c_X1_directions (hG : m_G G) (d : Nat) {k W H : Int} {n : Nat} (h2 : w[2]? = some (oFrame k W H n)) (hF : fOK k W H n) : m_Cv G MX1_directions (m_r d 0 0) [.ref 2] w (some (vI (dirN k))) w := by
  have hnb := hF.n
  obtain ⟨hk0, hk4, hW1, hW2, hH1, hH2, hn, hg4⟩ := hF
  refine m_enter (L := [some (.ref 2)]) (by decide) hG (m_c1 rfl) (Nat.le_of_ble_eq_true rfl) rfl ?_
  rcases (by omega : k = 0 ∨ k = 1 ∨ k = 2 ∨ k = 3 ∨ k = 4) with rfl | rfl | rfl | rfl | rfl
  · refine m_aload_n 1 dX1_directions_0 rfl rfl ?_
    refine m_getf 4 foX1_13 dX1_directions_1 rfl (by first | rfl | assumption) (by rfl) ?_
    refine i_tableOut 43 ⟨by omega, by omega⟩ dX1_directions_4 (by decide) (by decide) ?_
    refine i_const 44 dX1_directions_43 rfl ?_
    refine i_ret _ dX1_directions_44 rfl ⟨Nat.le_refl _, Nat.le_refl _⟩ ?_ ⟨rfl, rfl⟩
    rfl
  · refine m_aload_n 1 dX1_directions_0 rfl rfl ?_
    refine m_getf 4 foX1_13 dX1_directions_1 rfl (by first | rfl | assumption) (by rfl) ?_
    refine i_tableIn 36 ⟨by omega, by omega⟩ dX1_directions_4 (by decide) (by decide) rfl (by decide) ?_
    refine i_bipush 38 6 dX1_directions_36 rfl (by decide) ?_
    refine i_ret _ dX1_directions_38 rfl ⟨Nat.le_refl _, Nat.le_refl _⟩ ?_ ⟨rfl, rfl⟩
    rfl
  · refine m_aload_n 1 dX1_directions_0 rfl rfl ?_
    refine m_getf 4 foX1_13 dX1_directions_1 rfl (by first | rfl | assumption) (by rfl) ?_
    refine i_tableIn 39 ⟨by omega, by omega⟩ dX1_directions_4 (by decide) (by decide) rfl (by decide) ?_
    refine i_const 40 dX1_directions_39 rfl ?_
    refine i_ret _ dX1_directions_40 rfl ⟨Nat.le_refl _, Nat.le_refl _⟩ ?_ ⟨rfl, rfl⟩
    rfl
  · refine m_aload_n 1 dX1_directions_0 rfl rfl ?_
    refine m_getf 4 foX1_13 dX1_directions_1 rfl (by first | rfl | assumption) (by rfl) ?_
    refine i_tableIn 43 ⟨by omega, by omega⟩ dX1_directions_4 (by decide) (by decide) rfl (by decide) ?_
    refine i_const 44 dX1_directions_43 rfl ?_
    refine i_ret _ dX1_directions_44 rfl ⟨Nat.le_refl _, Nat.le_refl _⟩ ?_ ⟨rfl, rfl⟩
    rfl
  · refine m_aload_n 1 dX1_directions_0 rfl rfl ?_
    refine m_getf 4 foX1_13 dX1_directions_1 rfl (by first | rfl | assumption) (by rfl) ?_
    refine i_tableIn 41 ⟨by omega, by omega⟩ dX1_directions_4 (by decide) (by decide) rfl (by decide) ?_
    refine i_const 42 dX1_directions_41 rfl ?_
    refine i_ret _ dX1_directions_42 rfl ⟨Nat.le_refl _, Nat.le_refl _⟩ ?_ ⟨rfl, rfl⟩
    rfl
set_option maxHeartbeats 4000000 in
set_option maxRecDepth 100000 in
theorem c_X1_besideInSquares (hG : m_G G) (d : Nat) {k W H x y s : Int} {n : Nat} (h2 : w[2]? = some (oFrame k W H n)) (hF : fOK k W H n) (hxy : 0 ≤ x ∧ x < W ∧ 0 ≤ y ∧ y < H) (hs : 0 ≤ s ∧ s < 256) : m_Cv G MX1_besideInSquares (m_r (d + 1) 0 0) [.ref 2, vI x, vI y, vI s] w (some (vI (sqS W H x y s))) w := by
  have hFF := hF
  have hnb := hF.n
  obtain ⟨hk0, hk4, hW1, hW2, hH1, hH2, hn, hg4⟩ := hF
  refine m_enter (L := [some (.ref 2), some (vI x), some (vI y), some (vI s)]) (by decide) hG (m_c1 rfl) (Nat.le_of_ble_eq_true rfl) rfl ?_
  rcases (by omega : s = 0 ∨ s = 1 ∨ s = 2 ∨ s = 3 ∨ 3 < s) with rfl | rfl | rfl | rfl | hso
  · refine m_iload_n 1 dX1_besideInSquares_0 rfl rfl ?_
    refine i_tableIn 32 ⟨by omega, by omega⟩ dX1_besideInSquares_1 (by decide) (by decide) rfl (by decide) ?_
    refine m_aload_n 33 dX1_besideInSquares_32 rfl rfl ?_
    refine m_iload_n 34 dX1_besideInSquares_33 rfl rfl ?_
    refine m_iload_n 35 dX1_besideInSquares_34 rfl rfl ?_
    refine i_const 36 dX1_besideInSquares_35 rfl ?_
    refine i_sub 37 dX1_besideInSquares_36 rfl ?_
    refine m_cV (M' := MX1_placeAt) 40 [_, _] kX1_58 imX1_placeAt seX1_placeAt clX1_placeAt dX1_besideInSquares_37 rfl rfl rfl (by first | rfl | assumption) (m_rmI (by omega) (Nat.le_of_ble_eq_true rfl) (Nat.le_refl _) (Nat.le_refl _)) (c_X1_placeAt hG d h2 hFF ⟨by omega, by omega⟩ ⟨by omega, by omega⟩) ?_
    refine i_ret _ dX1_besideInSquares_40 rfl ⟨Nat.le_refl _, Nat.le_refl _⟩ ?_ ⟨rfl, rfl⟩
    unfold sqS; rw [if_pos rfl]
    try (first | rfl | (congr 1 <;> omega) | ((repeat' split) <;> first | rfl | omega | (congr 1 <;> omega)))
  · refine m_iload_n 1 dX1_besideInSquares_0 rfl rfl ?_
    refine i_tableIn 41 ⟨by omega, by omega⟩ dX1_besideInSquares_1 (by decide) (by decide) rfl (by decide) ?_
    refine m_aload_n 42 dX1_besideInSquares_41 rfl rfl ?_
    refine m_iload_n 43 dX1_besideInSquares_42 rfl rfl ?_
    refine i_const 44 dX1_besideInSquares_43 rfl ?_
    refine i_add 45 dX1_besideInSquares_44 rfl ?_
    refine m_iload_n 46 dX1_besideInSquares_45 rfl rfl ?_
    refine m_cV (M' := MX1_placeAt) 49 [_, _] kX1_58 imX1_placeAt seX1_placeAt clX1_placeAt dX1_besideInSquares_46 rfl rfl rfl (by first | rfl | assumption) (m_rmI (by omega) (Nat.le_of_ble_eq_true rfl) (Nat.le_refl _) (Nat.le_refl _)) (c_X1_placeAt hG d h2 hFF ⟨by omega, by omega⟩ ⟨by omega, by omega⟩) ?_
    refine i_ret _ dX1_besideInSquares_49 rfl ⟨Nat.le_refl _, Nat.le_refl _⟩ ?_ ⟨rfl, rfl⟩
    unfold sqS; rw [if_neg (by decide), if_pos rfl]
    try (first | rfl | (congr 1 <;> omega) | ((repeat' split) <;> first | rfl | omega | (congr 1 <;> omega)))
  · refine m_iload_n 1 dX1_besideInSquares_0 rfl rfl ?_
    refine i_tableIn 50 ⟨by omega, by omega⟩ dX1_besideInSquares_1 (by decide) (by decide) rfl (by decide) ?_
    refine m_aload_n 51 dX1_besideInSquares_50 rfl rfl ?_
    refine m_iload_n 52 dX1_besideInSquares_51 rfl rfl ?_
    refine m_iload_n 53 dX1_besideInSquares_52 rfl rfl ?_
    refine i_const 54 dX1_besideInSquares_53 rfl ?_
    refine i_add 55 dX1_besideInSquares_54 rfl ?_
    refine m_cV (M' := MX1_placeAt) 58 [_, _] kX1_58 imX1_placeAt seX1_placeAt clX1_placeAt dX1_besideInSquares_55 rfl rfl rfl (by first | rfl | assumption) (m_rmI (by omega) (Nat.le_of_ble_eq_true rfl) (Nat.le_refl _) (Nat.le_refl _)) (c_X1_placeAt hG d h2 hFF ⟨by omega, by omega⟩ ⟨by omega, by omega⟩) ?_
    refine i_ret _ dX1_besideInSquares_58 rfl ⟨Nat.le_refl _, Nat.le_refl _⟩ ?_ ⟨rfl, rfl⟩
    unfold sqS; rw [if_neg (by decide), if_neg (by decide), if_pos rfl]
    try (first | rfl | (congr 1 <;> omega) | ((repeat' split) <;> first | rfl | omega | (congr 1 <;> omega)))
  · refine m_iload_n 1 dX1_besideInSquares_0 rfl rfl ?_
    refine i_tableIn 59 ⟨by omega, by omega⟩ dX1_besideInSquares_1 (by decide) (by decide) rfl (by decide) ?_
    refine m_aload_n 60 dX1_besideInSquares_59 rfl rfl ?_
    refine m_iload_n 61 dX1_besideInSquares_60 rfl rfl ?_
    refine i_const 62 dX1_besideInSquares_61 rfl ?_
    refine i_sub 63 dX1_besideInSquares_62 rfl ?_
    refine m_iload_n 64 dX1_besideInSquares_63 rfl rfl ?_
    refine m_cV (M' := MX1_placeAt) 67 [_, _] kX1_58 imX1_placeAt seX1_placeAt clX1_placeAt dX1_besideInSquares_64 rfl rfl rfl (by first | rfl | assumption) (m_rmI (by omega) (Nat.le_of_ble_eq_true rfl) (Nat.le_refl _) (Nat.le_refl _)) (c_X1_placeAt hG d h2 hFF ⟨by omega, by omega⟩ ⟨by omega, by omega⟩) ?_
    refine i_ret _ dX1_besideInSquares_67 rfl ⟨Nat.le_refl _, Nat.le_refl _⟩ ?_ ⟨rfl, rfl⟩
    unfold sqS; rw [if_neg (by decide), if_neg (by decide), if_neg (by decide), if_pos rfl]
    try (first | rfl | (congr 1 <;> omega) | ((repeat' split) <;> first | rfl | omega | (congr 1 <;> omega)))
  · refine m_iload_n 1 dX1_besideInSquares_0 rfl rfl ?_
    refine i_tableOut 68 ⟨by omega, by omega⟩ dX1_besideInSquares_1 (by omega) (by decide) ?_
    refine i_const 69 dX1_besideInSquares_68 rfl ?_
    refine i_ret _ dX1_besideInSquares_69 rfl ⟨Nat.le_refl _, Nat.le_refl _⟩ ?_ ⟨rfl, rfl⟩
    unfold sqS; rw [if_neg (by omega), if_neg (by omega), if_neg (by omega), if_neg (by omega)]
set_option maxHeartbeats 4000000 in
set_option maxRecDepth 100000 in
theorem c_X1_besideInHexes (hG : m_G G) (d : Nat) {k W H x y s : Int} {n : Nat} (h2 : w[2]? = some (oFrame k W H n)) (hF : fOK k W H n) (hxy : 0 ≤ x ∧ x < W ∧ 0 ≤ y ∧ y < H) (hs : 0 ≤ s ∧ s < 256) : m_Cv G MX1_besideInHexes (m_r (d + 1) 0 0) [.ref 2, vI x, vI y, vI s] w (some (vI (hxS W H x y s))) w := by
  have hFF := hF
  have hnb := hF.n
  obtain ⟨hk0, hk4, hW1, hW2, hH1, hH2, hn, hg4⟩ := hF
  refine m_enter (L := [some (.ref 2), some (vI x), some (vI y), some (vI s), none, none]) (by decide) hG (m_c1 rfl) (Nat.le_of_ble_eq_true rfl) rfl ?_
  rcases (by omega : s = 0 ∨ s = 1 ∨ s = 2 ∨ s = 3 ∨ s = 4 ∨ s = 5 ∨ 5 < s) with rfl | rfl | rfl | rfl | rfl | rfl | hso
  · refine m_iload_n 1 dX1_besideInHexes_0 rfl rfl ?_
    refine i_const 2 dX1_besideInHexes_1 rfl ?_
    refine i_and 3 1 dX1_besideInHexes_2 rfl ⟨by omega, by omega⟩ (by decide) ?_
    refine i_if_ne 6 10 ⟨by omega, by omega⟩ dX1_besideInHexes_3 rfl (by decide) (fun q3 => ?_) (fun q3 => ?_)
    · refine m_iload_n 11 dX1_besideInHexes_10 rfl rfl ?_
      refine i_const 12 dX1_besideInHexes_11 rfl ?_
      refine i_add 13 dX1_besideInHexes_12 rfl ?_
      refine m_istore 15 dX1_besideInHexes_13 rfl (by decide) ?_
      refine m_iload 17 dX1_besideInHexes_15 rfl rfl ?_
      refine i_const 18 dX1_besideInHexes_17 rfl ?_
      refine i_sub 19 dX1_besideInHexes_18 rfl ?_
      refine m_istore 21 dX1_besideInHexes_19 rfl (by decide) ?_
      refine m_iload_n 22 dX1_besideInHexes_21 rfl rfl ?_
      refine i_tableIn 60 ⟨by omega, by omega⟩ dX1_besideInHexes_22 (by decide) (by decide) rfl (by decide) ?_
      refine m_aload_n 61 dX1_besideInHexes_60 rfl rfl ?_
      refine m_iload 63 dX1_besideInHexes_61 rfl rfl ?_
      refine m_iload_n 64 dX1_besideInHexes_63 rfl rfl ?_
      refine i_const 65 dX1_besideInHexes_64 rfl ?_
      refine i_sub 66 dX1_besideInHexes_65 rfl ?_
      refine m_cV (M' := MX1_placeAt) 69 [_, _] kX1_58 imX1_placeAt seX1_placeAt clX1_placeAt dX1_besideInHexes_66 rfl rfl rfl (by first | rfl | assumption) (m_rmI (by omega) (Nat.le_of_ble_eq_true rfl) (Nat.le_refl _) (Nat.le_refl _)) (c_X1_placeAt hG d h2 hFF ⟨by omega, by omega⟩ ⟨by omega, by omega⟩) ?_
      refine i_ret _ dX1_besideInHexes_69 rfl ⟨Nat.le_refl _, Nat.le_refl _⟩ ?_ ⟨rfl, rfl⟩
      unfold hxS; rw [if_pos rfl]
      try (first | rfl | (congr 1 <;> omega) | ((repeat' split) <;> first | rfl | omega | (congr 1 <;> omega)))
    · refine m_iload_n 7 dX1_besideInHexes_6 rfl rfl ?_
      refine m_goto 13 dX1_besideInHexes_7 (by decide) ?_
      refine m_istore 15 dX1_besideInHexes_13 rfl (by decide) ?_
      refine m_iload 17 dX1_besideInHexes_15 rfl rfl ?_
      refine i_const 18 dX1_besideInHexes_17 rfl ?_
      refine i_sub 19 dX1_besideInHexes_18 rfl ?_
      refine m_istore 21 dX1_besideInHexes_19 rfl (by decide) ?_
      refine m_iload_n 22 dX1_besideInHexes_21 rfl rfl ?_
      refine i_tableIn 60 ⟨by omega, by omega⟩ dX1_besideInHexes_22 (by decide) (by decide) rfl (by decide) ?_
      refine m_aload_n 61 dX1_besideInHexes_60 rfl rfl ?_
      refine m_iload 63 dX1_besideInHexes_61 rfl rfl ?_
      refine m_iload_n 64 dX1_besideInHexes_63 rfl rfl ?_
      refine i_const 65 dX1_besideInHexes_64 rfl ?_
      refine i_sub 66 dX1_besideInHexes_65 rfl ?_
      refine m_cV (M' := MX1_placeAt) 69 [_, _] kX1_58 imX1_placeAt seX1_placeAt clX1_placeAt dX1_besideInHexes_66 rfl rfl rfl (by first | rfl | assumption) (m_rmI (by omega) (Nat.le_of_ble_eq_true rfl) (Nat.le_refl _) (Nat.le_refl _)) (c_X1_placeAt hG d h2 hFF ⟨by omega, by omega⟩ ⟨by omega, by omega⟩) ?_
      refine i_ret _ dX1_besideInHexes_69 rfl ⟨Nat.le_refl _, Nat.le_refl _⟩ ?_ ⟨rfl, rfl⟩
      unfold hxS; rw [if_pos rfl]
      try (first | rfl | (congr 1 <;> omega) | ((repeat' split) <;> first | rfl | omega | (congr 1 <;> omega)))
  · refine m_iload_n 1 dX1_besideInHexes_0 rfl rfl ?_
    refine i_const 2 dX1_besideInHexes_1 rfl ?_
    refine i_and 3 1 dX1_besideInHexes_2 rfl ⟨by omega, by omega⟩ (by decide) ?_
    refine i_if_ne 6 10 ⟨by omega, by omega⟩ dX1_besideInHexes_3 rfl (by decide) (fun q3 => ?_) (fun q3 => ?_)
    · refine m_iload_n 11 dX1_besideInHexes_10 rfl rfl ?_
      refine i_const 12 dX1_besideInHexes_11 rfl ?_
      refine i_add 13 dX1_besideInHexes_12 rfl ?_
      refine m_istore 15 dX1_besideInHexes_13 rfl (by decide) ?_
      refine m_iload 17 dX1_besideInHexes_15 rfl rfl ?_
      refine i_const 18 dX1_besideInHexes_17 rfl ?_
      refine i_sub 19 dX1_besideInHexes_18 rfl ?_
      refine m_istore 21 dX1_besideInHexes_19 rfl (by decide) ?_
      refine m_iload_n 22 dX1_besideInHexes_21 rfl rfl ?_
      refine i_tableIn 70 ⟨by omega, by omega⟩ dX1_besideInHexes_22 (by decide) (by decide) rfl (by decide) ?_
      refine m_aload_n 71 dX1_besideInHexes_70 rfl rfl ?_
      refine m_iload_n 72 dX1_besideInHexes_71 rfl rfl ?_
      refine i_const 73 dX1_besideInHexes_72 rfl ?_
      refine i_add 74 dX1_besideInHexes_73 rfl ?_
      refine m_iload_n 75 dX1_besideInHexes_74 rfl rfl ?_
      refine m_cV (M' := MX1_placeAt) 78 [_, _] kX1_58 imX1_placeAt seX1_placeAt clX1_placeAt dX1_besideInHexes_75 rfl rfl rfl (by first | rfl | assumption) (m_rmI (by omega) (Nat.le_of_ble_eq_true rfl) (Nat.le_refl _) (Nat.le_refl _)) (c_X1_placeAt hG d h2 hFF ⟨by omega, by omega⟩ ⟨by omega, by omega⟩) ?_
      refine i_ret _ dX1_besideInHexes_78 rfl ⟨Nat.le_refl _, Nat.le_refl _⟩ ?_ ⟨rfl, rfl⟩
      unfold hxS; rw [if_neg (by decide), if_pos rfl]
      try (first | rfl | (congr 1 <;> omega) | ((repeat' split) <;> first | rfl | omega | (congr 1 <;> omega)))
    · refine m_iload_n 7 dX1_besideInHexes_6 rfl rfl ?_
      refine m_goto 13 dX1_besideInHexes_7 (by decide) ?_
      refine m_istore 15 dX1_besideInHexes_13 rfl (by decide) ?_
      refine m_iload 17 dX1_besideInHexes_15 rfl rfl ?_
      refine i_const 18 dX1_besideInHexes_17 rfl ?_
      refine i_sub 19 dX1_besideInHexes_18 rfl ?_
      refine m_istore 21 dX1_besideInHexes_19 rfl (by decide) ?_
      refine m_iload_n 22 dX1_besideInHexes_21 rfl rfl ?_
      refine i_tableIn 70 ⟨by omega, by omega⟩ dX1_besideInHexes_22 (by decide) (by decide) rfl (by decide) ?_
      refine m_aload_n 71 dX1_besideInHexes_70 rfl rfl ?_
      refine m_iload_n 72 dX1_besideInHexes_71 rfl rfl ?_
      refine i_const 73 dX1_besideInHexes_72 rfl ?_
      refine i_add 74 dX1_besideInHexes_73 rfl ?_
      refine m_iload_n 75 dX1_besideInHexes_74 rfl rfl ?_
      refine m_cV (M' := MX1_placeAt) 78 [_, _] kX1_58 imX1_placeAt seX1_placeAt clX1_placeAt dX1_besideInHexes_75 rfl rfl rfl (by first | rfl | assumption) (m_rmI (by omega) (Nat.le_of_ble_eq_true rfl) (Nat.le_refl _) (Nat.le_refl _)) (c_X1_placeAt hG d h2 hFF ⟨by omega, by omega⟩ ⟨by omega, by omega⟩) ?_
      refine i_ret _ dX1_besideInHexes_78 rfl ⟨Nat.le_refl _, Nat.le_refl _⟩ ?_ ⟨rfl, rfl⟩
      unfold hxS; rw [if_neg (by decide), if_pos rfl]
      try (first | rfl | (congr 1 <;> omega) | ((repeat' split) <;> first | rfl | omega | (congr 1 <;> omega)))
  · refine m_iload_n 1 dX1_besideInHexes_0 rfl rfl ?_
    refine i_const 2 dX1_besideInHexes_1 rfl ?_
    refine i_and 3 1 dX1_besideInHexes_2 rfl ⟨by omega, by omega⟩ (by decide) ?_
    refine i_if_ne 6 10 ⟨by omega, by omega⟩ dX1_besideInHexes_3 rfl (by decide) (fun q3 => ?_) (fun q3 => ?_)
    · refine m_iload_n 11 dX1_besideInHexes_10 rfl rfl ?_
      refine i_const 12 dX1_besideInHexes_11 rfl ?_
      refine i_add 13 dX1_besideInHexes_12 rfl ?_
      refine m_istore 15 dX1_besideInHexes_13 rfl (by decide) ?_
      refine m_iload 17 dX1_besideInHexes_15 rfl rfl ?_
      refine i_const 18 dX1_besideInHexes_17 rfl ?_
      refine i_sub 19 dX1_besideInHexes_18 rfl ?_
      refine m_istore 21 dX1_besideInHexes_19 rfl (by decide) ?_
      refine m_iload_n 22 dX1_besideInHexes_21 rfl rfl ?_
      refine i_tableIn 79 ⟨by omega, by omega⟩ dX1_besideInHexes_22 (by decide) (by decide) rfl (by decide) ?_
      refine m_aload_n 80 dX1_besideInHexes_79 rfl rfl ?_
      refine m_iload 82 dX1_besideInHexes_80 rfl rfl ?_
      refine m_iload_n 83 dX1_besideInHexes_82 rfl rfl ?_
      refine i_const 84 dX1_besideInHexes_83 rfl ?_
      refine i_add 85 dX1_besideInHexes_84 rfl ?_
      refine m_cV (M' := MX1_placeAt) 88 [_, _] kX1_58 imX1_placeAt seX1_placeAt clX1_placeAt dX1_besideInHexes_85 rfl rfl rfl (by first | rfl | assumption) (m_rmI (by omega) (Nat.le_of_ble_eq_true rfl) (Nat.le_refl _) (Nat.le_refl _)) (c_X1_placeAt hG d h2 hFF ⟨by omega, by omega⟩ ⟨by omega, by omega⟩) ?_
      refine i_ret _ dX1_besideInHexes_88 rfl ⟨Nat.le_refl _, Nat.le_refl _⟩ ?_ ⟨rfl, rfl⟩
      unfold hxS; rw [if_neg (by decide), if_neg (by decide), if_pos rfl]
      try (first | rfl | (congr 1 <;> omega) | ((repeat' split) <;> first | rfl | omega | (congr 1 <;> omega)))
    · refine m_iload_n 7 dX1_besideInHexes_6 rfl rfl ?_
      refine m_goto 13 dX1_besideInHexes_7 (by decide) ?_
      refine m_istore 15 dX1_besideInHexes_13 rfl (by decide) ?_
      refine m_iload 17 dX1_besideInHexes_15 rfl rfl ?_
      refine i_const 18 dX1_besideInHexes_17 rfl ?_
      refine i_sub 19 dX1_besideInHexes_18 rfl ?_
      refine m_istore 21 dX1_besideInHexes_19 rfl (by decide) ?_
      refine m_iload_n 22 dX1_besideInHexes_21 rfl rfl ?_
      refine i_tableIn 79 ⟨by omega, by omega⟩ dX1_besideInHexes_22 (by decide) (by decide) rfl (by decide) ?_
      refine m_aload_n 80 dX1_besideInHexes_79 rfl rfl ?_
      refine m_iload 82 dX1_besideInHexes_80 rfl rfl ?_
      refine m_iload_n 83 dX1_besideInHexes_82 rfl rfl ?_
      refine i_const 84 dX1_besideInHexes_83 rfl ?_
      refine i_add 85 dX1_besideInHexes_84 rfl ?_
      refine m_cV (M' := MX1_placeAt) 88 [_, _] kX1_58 imX1_placeAt seX1_placeAt clX1_placeAt dX1_besideInHexes_85 rfl rfl rfl (by first | rfl | assumption) (m_rmI (by omega) (Nat.le_of_ble_eq_true rfl) (Nat.le_refl _) (Nat.le_refl _)) (c_X1_placeAt hG d h2 hFF ⟨by omega, by omega⟩ ⟨by omega, by omega⟩) ?_
      refine i_ret _ dX1_besideInHexes_88 rfl ⟨Nat.le_refl _, Nat.le_refl _⟩ ?_ ⟨rfl, rfl⟩
      unfold hxS; rw [if_neg (by decide), if_neg (by decide), if_pos rfl]
      try (first | rfl | (congr 1 <;> omega) | ((repeat' split) <;> first | rfl | omega | (congr 1 <;> omega)))
  · refine m_iload_n 1 dX1_besideInHexes_0 rfl rfl ?_
    refine i_const 2 dX1_besideInHexes_1 rfl ?_
    refine i_and 3 1 dX1_besideInHexes_2 rfl ⟨by omega, by omega⟩ (by decide) ?_
    refine i_if_ne 6 10 ⟨by omega, by omega⟩ dX1_besideInHexes_3 rfl (by decide) (fun q3 => ?_) (fun q3 => ?_)
    · refine m_iload_n 11 dX1_besideInHexes_10 rfl rfl ?_
      refine i_const 12 dX1_besideInHexes_11 rfl ?_
      refine i_add 13 dX1_besideInHexes_12 rfl ?_
      refine m_istore 15 dX1_besideInHexes_13 rfl (by decide) ?_
      refine m_iload 17 dX1_besideInHexes_15 rfl rfl ?_
      refine i_const 18 dX1_besideInHexes_17 rfl ?_
      refine i_sub 19 dX1_besideInHexes_18 rfl ?_
      refine m_istore 21 dX1_besideInHexes_19 rfl (by decide) ?_
      refine m_iload_n 22 dX1_besideInHexes_21 rfl rfl ?_
      refine i_tableIn 89 ⟨by omega, by omega⟩ dX1_besideInHexes_22 (by decide) (by decide) rfl (by decide) ?_
      refine m_aload_n 90 dX1_besideInHexes_89 rfl rfl ?_
      refine m_iload 92 dX1_besideInHexes_90 rfl rfl ?_
      refine m_iload_n 93 dX1_besideInHexes_92 rfl rfl ?_
      refine i_const 94 dX1_besideInHexes_93 rfl ?_
      refine i_add 95 dX1_besideInHexes_94 rfl ?_
      refine m_cV (M' := MX1_placeAt) 98 [_, _] kX1_58 imX1_placeAt seX1_placeAt clX1_placeAt dX1_besideInHexes_95 rfl rfl rfl (by first | rfl | assumption) (m_rmI (by omega) (Nat.le_of_ble_eq_true rfl) (Nat.le_refl _) (Nat.le_refl _)) (c_X1_placeAt hG d h2 hFF ⟨by omega, by omega⟩ ⟨by omega, by omega⟩) ?_
      refine i_ret _ dX1_besideInHexes_98 rfl ⟨Nat.le_refl _, Nat.le_refl _⟩ ?_ ⟨rfl, rfl⟩
      unfold hxS; rw [if_neg (by decide), if_neg (by decide), if_neg (by decide), if_pos rfl]
      try (first | rfl | (congr 1 <;> omega) | ((repeat' split) <;> first | rfl | omega | (congr 1 <;> omega)))
    · refine m_iload_n 7 dX1_besideInHexes_6 rfl rfl ?_
      refine m_goto 13 dX1_besideInHexes_7 (by decide) ?_
      refine m_istore 15 dX1_besideInHexes_13 rfl (by decide) ?_
      refine m_iload 17 dX1_besideInHexes_15 rfl rfl ?_
      refine i_const 18 dX1_besideInHexes_17 rfl ?_
      refine i_sub 19 dX1_besideInHexes_18 rfl ?_
      refine m_istore 21 dX1_besideInHexes_19 rfl (by decide) ?_
      refine m_iload_n 22 dX1_besideInHexes_21 rfl rfl ?_
      refine i_tableIn 89 ⟨by omega, by omega⟩ dX1_besideInHexes_22 (by decide) (by decide) rfl (by decide) ?_
      refine m_aload_n 90 dX1_besideInHexes_89 rfl rfl ?_
      refine m_iload 92 dX1_besideInHexes_90 rfl rfl ?_
      refine m_iload_n 93 dX1_besideInHexes_92 rfl rfl ?_
      refine i_const 94 dX1_besideInHexes_93 rfl ?_
      refine i_add 95 dX1_besideInHexes_94 rfl ?_
      refine m_cV (M' := MX1_placeAt) 98 [_, _] kX1_58 imX1_placeAt seX1_placeAt clX1_placeAt dX1_besideInHexes_95 rfl rfl rfl (by first | rfl | assumption) (m_rmI (by omega) (Nat.le_of_ble_eq_true rfl) (Nat.le_refl _) (Nat.le_refl _)) (c_X1_placeAt hG d h2 hFF ⟨by omega, by omega⟩ ⟨by omega, by omega⟩) ?_
      refine i_ret _ dX1_besideInHexes_98 rfl ⟨Nat.le_refl _, Nat.le_refl _⟩ ?_ ⟨rfl, rfl⟩
      unfold hxS; rw [if_neg (by decide), if_neg (by decide), if_neg (by decide), if_pos rfl]
      try (first | rfl | (congr 1 <;> omega) | ((repeat' split) <;> first | rfl | omega | (congr 1 <;> omega)))
  · refine m_iload_n 1 dX1_besideInHexes_0 rfl rfl ?_
    refine i_const 2 dX1_besideInHexes_1 rfl ?_
    refine i_and 3 1 dX1_besideInHexes_2 rfl ⟨by omega, by omega⟩ (by decide) ?_
    refine i_if_ne 6 10 ⟨by omega, by omega⟩ dX1_besideInHexes_3 rfl (by decide) (fun q3 => ?_) (fun q3 => ?_)
    · refine m_iload_n 11 dX1_besideInHexes_10 rfl rfl ?_
      refine i_const 12 dX1_besideInHexes_11 rfl ?_
      refine i_add 13 dX1_besideInHexes_12 rfl ?_
      refine m_istore 15 dX1_besideInHexes_13 rfl (by decide) ?_
      refine m_iload 17 dX1_besideInHexes_15 rfl rfl ?_
      refine i_const 18 dX1_besideInHexes_17 rfl ?_
      refine i_sub 19 dX1_besideInHexes_18 rfl ?_
      refine m_istore 21 dX1_besideInHexes_19 rfl (by decide) ?_
      refine m_iload_n 22 dX1_besideInHexes_21 rfl rfl ?_
      refine i_tableIn 99 ⟨by omega, by omega⟩ dX1_besideInHexes_22 (by decide) (by decide) rfl (by decide) ?_
      refine m_aload_n 100 dX1_besideInHexes_99 rfl rfl ?_
      refine m_iload_n 101 dX1_besideInHexes_100 rfl rfl ?_
      refine i_const 102 dX1_besideInHexes_101 rfl ?_
      refine i_sub 103 dX1_besideInHexes_102 rfl ?_
      refine m_iload_n 104 dX1_besideInHexes_103 rfl rfl ?_
      refine m_cV (M' := MX1_placeAt) 107 [_, _] kX1_58 imX1_placeAt seX1_placeAt clX1_placeAt dX1_besideInHexes_104 rfl rfl rfl (by first | rfl | assumption) (m_rmI (by omega) (Nat.le_of_ble_eq_true rfl) (Nat.le_refl _) (Nat.le_refl _)) (c_X1_placeAt hG d h2 hFF ⟨by omega, by omega⟩ ⟨by omega, by omega⟩) ?_
      refine i_ret _ dX1_besideInHexes_107 rfl ⟨Nat.le_refl _, Nat.le_refl _⟩ ?_ ⟨rfl, rfl⟩
      unfold hxS; rw [if_neg (by decide), if_neg (by decide), if_neg (by decide), if_neg (by decide), if_pos rfl]
      try (first | rfl | (congr 1 <;> omega) | ((repeat' split) <;> first | rfl | omega | (congr 1 <;> omega)))
    · refine m_iload_n 7 dX1_besideInHexes_6 rfl rfl ?_
      refine m_goto 13 dX1_besideInHexes_7 (by decide) ?_
      refine m_istore 15 dX1_besideInHexes_13 rfl (by decide) ?_
      refine m_iload 17 dX1_besideInHexes_15 rfl rfl ?_
      refine i_const 18 dX1_besideInHexes_17 rfl ?_
      refine i_sub 19 dX1_besideInHexes_18 rfl ?_
      refine m_istore 21 dX1_besideInHexes_19 rfl (by decide) ?_
      refine m_iload_n 22 dX1_besideInHexes_21 rfl rfl ?_
      refine i_tableIn 99 ⟨by omega, by omega⟩ dX1_besideInHexes_22 (by decide) (by decide) rfl (by decide) ?_
      refine m_aload_n 100 dX1_besideInHexes_99 rfl rfl ?_
      refine m_iload_n 101 dX1_besideInHexes_100 rfl rfl ?_
      refine i_const 102 dX1_besideInHexes_101 rfl ?_
      refine i_sub 103 dX1_besideInHexes_102 rfl ?_
      refine m_iload_n 104 dX1_besideInHexes_103 rfl rfl ?_
      refine m_cV (M' := MX1_placeAt) 107 [_, _] kX1_58 imX1_placeAt seX1_placeAt clX1_placeAt dX1_besideInHexes_104 rfl rfl rfl (by first | rfl | assumption) (m_rmI (by omega) (Nat.le_of_ble_eq_true rfl) (Nat.le_refl _) (Nat.le_refl _)) (c_X1_placeAt hG d h2 hFF ⟨by omega, by omega⟩ ⟨by omega, by omega⟩) ?_
      refine i_ret _ dX1_besideInHexes_107 rfl ⟨Nat.le_refl _, Nat.le_refl _⟩ ?_ ⟨rfl, rfl⟩
      unfold hxS; rw [if_neg (by decide), if_neg (by decide), if_neg (by decide), if_neg (by decide), if_pos rfl]
      try (first | rfl | (congr 1 <;> omega) | ((repeat' split) <;> first | rfl | omega | (congr 1 <;> omega)))
  · refine m_iload_n 1 dX1_besideInHexes_0 rfl rfl ?_
    refine i_const 2 dX1_besideInHexes_1 rfl ?_
    refine i_and 3 1 dX1_besideInHexes_2 rfl ⟨by omega, by omega⟩ (by decide) ?_
    refine i_if_ne 6 10 ⟨by omega, by omega⟩ dX1_besideInHexes_3 rfl (by decide) (fun q3 => ?_) (fun q3 => ?_)
    · refine m_iload_n 11 dX1_besideInHexes_10 rfl rfl ?_
      refine i_const 12 dX1_besideInHexes_11 rfl ?_
      refine i_add 13 dX1_besideInHexes_12 rfl ?_
      refine m_istore 15 dX1_besideInHexes_13 rfl (by decide) ?_
      refine m_iload 17 dX1_besideInHexes_15 rfl rfl ?_
      refine i_const 18 dX1_besideInHexes_17 rfl ?_
      refine i_sub 19 dX1_besideInHexes_18 rfl ?_
      refine m_istore 21 dX1_besideInHexes_19 rfl (by decide) ?_
      refine m_iload_n 22 dX1_besideInHexes_21 rfl rfl ?_
      refine i_tableIn 108 ⟨by omega, by omega⟩ dX1_besideInHexes_22 (by decide) (by decide) rfl (by decide) ?_
      refine m_aload_n 109 dX1_besideInHexes_108 rfl rfl ?_
      refine m_iload 111 dX1_besideInHexes_109 rfl rfl ?_
      refine m_iload_n 112 dX1_besideInHexes_111 rfl rfl ?_
      refine i_const 113 dX1_besideInHexes_112 rfl ?_
      refine i_sub 114 dX1_besideInHexes_113 rfl ?_
      refine m_cV (M' := MX1_placeAt) 117 [_, _] kX1_58 imX1_placeAt seX1_placeAt clX1_placeAt dX1_besideInHexes_114 rfl rfl rfl (by first | rfl | assumption) (m_rmI (by omega) (Nat.le_of_ble_eq_true rfl) (Nat.le_refl _) (Nat.le_refl _)) (c_X1_placeAt hG d h2 hFF ⟨by omega, by omega⟩ ⟨by omega, by omega⟩) ?_
      refine i_ret _ dX1_besideInHexes_117 rfl ⟨Nat.le_refl _, Nat.le_refl _⟩ ?_ ⟨rfl, rfl⟩
      unfold hxS; rw [if_neg (by decide), if_neg (by decide), if_neg (by decide), if_neg (by decide), if_neg (by decide), if_pos rfl]
      try (first | rfl | (congr 1 <;> omega) | ((repeat' split) <;> first | rfl | omega | (congr 1 <;> omega)))
    · refine m_iload_n 7 dX1_besideInHexes_6 rfl rfl ?_
      refine m_goto 13 dX1_besideInHexes_7 (by decide) ?_
      refine m_istore 15 dX1_besideInHexes_13 rfl (by decide) ?_
      refine m_iload 17 dX1_besideInHexes_15 rfl rfl ?_
      refine i_const 18 dX1_besideInHexes_17 rfl ?_
      refine i_sub 19 dX1_besideInHexes_18 rfl ?_
      refine m_istore 21 dX1_besideInHexes_19 rfl (by decide) ?_
      refine m_iload_n 22 dX1_besideInHexes_21 rfl rfl ?_
      refine i_tableIn 108 ⟨by omega, by omega⟩ dX1_besideInHexes_22 (by decide) (by decide) rfl (by decide) ?_
      refine m_aload_n 109 dX1_besideInHexes_108 rfl rfl ?_
      refine m_iload 111 dX1_besideInHexes_109 rfl rfl ?_
      refine m_iload_n 112 dX1_besideInHexes_111 rfl rfl ?_
      refine i_const 113 dX1_besideInHexes_112 rfl ?_
      refine i_sub 114 dX1_besideInHexes_113 rfl ?_
      refine m_cV (M' := MX1_placeAt) 117 [_, _] kX1_58 imX1_placeAt seX1_placeAt clX1_placeAt dX1_besideInHexes_114 rfl rfl rfl (by first | rfl | assumption) (m_rmI (by omega) (Nat.le_of_ble_eq_true rfl) (Nat.le_refl _) (Nat.le_refl _)) (c_X1_placeAt hG d h2 hFF ⟨by omega, by omega⟩ ⟨by omega, by omega⟩) ?_
      refine i_ret _ dX1_besideInHexes_117 rfl ⟨Nat.le_refl _, Nat.le_refl _⟩ ?_ ⟨rfl, rfl⟩
      unfold hxS; rw [if_neg (by decide), if_neg (by decide), if_neg (by decide), if_neg (by decide), if_neg (by decide), if_pos rfl]
      try (first | rfl | (congr 1 <;> omega) | ((repeat' split) <;> first | rfl | omega | (congr 1 <;> omega)))
  · refine m_iload_n 1 dX1_besideInHexes_0 rfl rfl ?_
    refine i_const 2 dX1_besideInHexes_1 rfl ?_
    refine i_and 3 1 dX1_besideInHexes_2 rfl ⟨by omega, by omega⟩ (by decide) ?_
    refine i_if_ne 6 10 ⟨by omega, by omega⟩ dX1_besideInHexes_3 rfl (by decide) (fun q3 => ?_) (fun q3 => ?_)
    · refine m_iload_n 11 dX1_besideInHexes_10 rfl rfl ?_
      refine i_const 12 dX1_besideInHexes_11 rfl ?_
      refine i_add 13 dX1_besideInHexes_12 rfl ?_
      refine m_istore 15 dX1_besideInHexes_13 rfl (by decide) ?_
      refine m_iload 17 dX1_besideInHexes_15 rfl rfl ?_
      refine i_const 18 dX1_besideInHexes_17 rfl ?_
      refine i_sub 19 dX1_besideInHexes_18 rfl ?_
      refine m_istore 21 dX1_besideInHexes_19 rfl (by decide) ?_
      refine m_iload_n 22 dX1_besideInHexes_21 rfl rfl ?_
      refine i_tableOut 118 ⟨by omega, by omega⟩ dX1_besideInHexes_22 (by omega) (by decide) ?_
      refine i_const 119 dX1_besideInHexes_118 rfl ?_
      refine i_ret _ dX1_besideInHexes_119 rfl ⟨Nat.le_refl _, Nat.le_refl _⟩ ?_ ⟨rfl, rfl⟩
      unfold hxS; rw [if_neg (by omega), if_neg (by omega), if_neg (by omega), if_neg (by omega), if_neg (by omega), if_neg (by omega)]
    · refine m_iload_n 7 dX1_besideInHexes_6 rfl rfl ?_
      refine m_goto 13 dX1_besideInHexes_7 (by decide) ?_
      refine m_istore 15 dX1_besideInHexes_13 rfl (by decide) ?_
      refine m_iload 17 dX1_besideInHexes_15 rfl rfl ?_
      refine i_const 18 dX1_besideInHexes_17 rfl ?_
      refine i_sub 19 dX1_besideInHexes_18 rfl ?_
      refine m_istore 21 dX1_besideInHexes_19 rfl (by decide) ?_
      refine m_iload_n 22 dX1_besideInHexes_21 rfl rfl ?_
      refine i_tableOut 118 ⟨by omega, by omega⟩ dX1_besideInHexes_22 (by omega) (by decide) ?_
      refine i_const 119 dX1_besideInHexes_118 rfl ?_
      refine i_ret _ dX1_besideInHexes_119 rfl ⟨Nat.le_refl _, Nat.le_refl _⟩ ?_ ⟨rfl, rfl⟩
      unfold hxS; rw [if_neg (by omega), if_neg (by omega), if_neg (by omega), if_neg (by omega), if_neg (by omega), if_neg (by omega)]
set_option maxHeartbeats 4000000 in
set_option maxRecDepth 100000 in
theorem c_X1_besideInTriangles (hG : m_G G) (d : Nat) {k W H x y s : Int} {n : Nat} (h2 : w[2]? = some (oFrame k W H n)) (hF : fOK k W H n) (hxy : 0 ≤ x ∧ x < W ∧ 0 ≤ y ∧ y < H) (hs : 0 ≤ s ∧ s < 256) : m_Cv G MX1_besideInTriangles (m_r (d + 1) 0 0) [.ref 2, vI x, vI y, vI s] w (some (vI (trS W H x y s))) w := by
  have hFF := hF
  have hnb := hF.n
  obtain ⟨hk0, hk4, hW1, hW2, hH1, hH2, hn, hg4⟩ := hF
  refine m_enter (L := [some (.ref 2), some (vI x), some (vI y), some (vI s), none]) (by decide) hG (m_c1 rfl) (Nat.le_of_ble_eq_true rfl) rfl ?_
  rcases (by omega : s = 0 ∨ s = 1 ∨ s = 2 ∨ 2 < s) with rfl | rfl | rfl | hso
  · refine m_iload_n 1 dX1_besideInTriangles_0 rfl rfl ?_
    refine m_iload_n 2 dX1_besideInTriangles_1 rfl rfl ?_
    refine i_add 3 dX1_besideInTriangles_2 rfl ?_
    refine i_const 4 dX1_besideInTriangles_3 rfl ?_
    refine i_and 5 1 dX1_besideInTriangles_4 rfl ⟨by omega, by omega⟩ (by decide) ?_
    refine i_if_ne 8 12 ⟨by omega, by omega⟩ dX1_besideInTriangles_5 rfl (by decide) (fun q5 => ?_) (fun q5 => ?_)
    · refine i_const 13 dX1_besideInTriangles_12 rfl ?_
      refine m_istore 15 dX1_besideInTriangles_13 rfl (by decide) ?_
      refine m_iload_n 16 dX1_besideInTriangles_15 rfl rfl ?_
      refine i_tableIn 44 ⟨by omega, by omega⟩ dX1_besideInTriangles_16 (by decide) (by decide) rfl (by decide) ?_
      refine m_aload_n 45 dX1_besideInTriangles_44 rfl rfl ?_
      refine m_iload_n 46 dX1_besideInTriangles_45 rfl rfl ?_
      refine i_const 47 dX1_besideInTriangles_46 rfl ?_
      refine i_sub 48 dX1_besideInTriangles_47 rfl ?_
      refine m_iload_n 49 dX1_besideInTriangles_48 rfl rfl ?_
      refine m_cV (M' := MX1_placeAt) 52 [_, _] kX1_58 imX1_placeAt seX1_placeAt clX1_placeAt dX1_besideInTriangles_49 rfl rfl rfl (by first | rfl | assumption) (m_rmI (by omega) (Nat.le_of_ble_eq_true rfl) (Nat.le_refl _) (Nat.le_refl _)) (c_X1_placeAt hG d h2 hFF ⟨by omega, by omega⟩ ⟨by omega, by omega⟩) ?_
      refine i_ret _ dX1_besideInTriangles_52 rfl ⟨Nat.le_refl _, Nat.le_refl _⟩ ?_ ⟨rfl, rfl⟩
      unfold trS; rw [if_pos rfl]
      try (first | rfl | (congr 1 <;> omega) | ((repeat' split) <;> first | rfl | omega | (congr 1 <;> omega)))
    · refine i_const 9 dX1_besideInTriangles_8 rfl ?_
      refine m_goto 13 dX1_besideInTriangles_9 (by decide) ?_
      refine m_istore 15 dX1_besideInTriangles_13 rfl (by decide) ?_
      refine m_iload_n 16 dX1_besideInTriangles_15 rfl rfl ?_
      refine i_tableIn 44 ⟨by omega, by omega⟩ dX1_besideInTriangles_16 (by decide) (by decide) rfl (by decide) ?_
      refine m_aload_n 45 dX1_besideInTriangles_44 rfl rfl ?_
      refine m_iload_n 46 dX1_besideInTriangles_45 rfl rfl ?_
      refine i_const 47 dX1_besideInTriangles_46 rfl ?_
      refine i_sub 48 dX1_besideInTriangles_47 rfl ?_
      refine m_iload_n 49 dX1_besideInTriangles_48 rfl rfl ?_
      refine m_cV (M' := MX1_placeAt) 52 [_, _] kX1_58 imX1_placeAt seX1_placeAt clX1_placeAt dX1_besideInTriangles_49 rfl rfl rfl (by first | rfl | assumption) (m_rmI (by omega) (Nat.le_of_ble_eq_true rfl) (Nat.le_refl _) (Nat.le_refl _)) (c_X1_placeAt hG d h2 hFF ⟨by omega, by omega⟩ ⟨by omega, by omega⟩) ?_
      refine i_ret _ dX1_besideInTriangles_52 rfl ⟨Nat.le_refl _, Nat.le_refl _⟩ ?_ ⟨rfl, rfl⟩
      unfold trS; rw [if_pos rfl]
      try (first | rfl | (congr 1 <;> omega) | ((repeat' split) <;> first | rfl | omega | (congr 1 <;> omega)))
  · refine m_iload_n 1 dX1_besideInTriangles_0 rfl rfl ?_
    refine m_iload_n 2 dX1_besideInTriangles_1 rfl rfl ?_
    refine i_add 3 dX1_besideInTriangles_2 rfl ?_
    refine i_const 4 dX1_besideInTriangles_3 rfl ?_
    refine i_and 5 1 dX1_besideInTriangles_4 rfl ⟨by omega, by omega⟩ (by decide) ?_
    refine i_if_ne 8 12 ⟨by omega, by omega⟩ dX1_besideInTriangles_5 rfl (by decide) (fun q5 => ?_) (fun q5 => ?_)
    · refine i_const 13 dX1_besideInTriangles_12 rfl ?_
      refine m_istore 15 dX1_besideInTriangles_13 rfl (by decide) ?_
      refine m_iload_n 16 dX1_besideInTriangles_15 rfl rfl ?_
      refine i_tableIn 53 ⟨by omega, by omega⟩ dX1_besideInTriangles_16 (by decide) (by decide) rfl (by decide) ?_
      refine m_aload_n 54 dX1_besideInTriangles_53 rfl rfl ?_
      refine m_iload_n 55 dX1_besideInTriangles_54 rfl rfl ?_
      refine i_const 56 dX1_besideInTriangles_55 rfl ?_
      refine i_add 57 dX1_besideInTriangles_56 rfl ?_
      refine m_iload_n 58 dX1_besideInTriangles_57 rfl rfl ?_
      refine m_cV (M' := MX1_placeAt) 61 [_, _] kX1_58 imX1_placeAt seX1_placeAt clX1_placeAt dX1_besideInTriangles_58 rfl rfl rfl (by first | rfl | assumption) (m_rmI (by omega) (Nat.le_of_ble_eq_true rfl) (Nat.le_refl _) (Nat.le_refl _)) (c_X1_placeAt hG d h2 hFF ⟨by omega, by omega⟩ ⟨by omega, by omega⟩) ?_
      refine i_ret _ dX1_besideInTriangles_61 rfl ⟨Nat.le_refl _, Nat.le_refl _⟩ ?_ ⟨rfl, rfl⟩
      unfold trS; rw [if_neg (by decide), if_pos rfl]
      try (first | rfl | (congr 1 <;> omega) | ((repeat' split) <;> first | rfl | omega | (congr 1 <;> omega)))
    · refine i_const 9 dX1_besideInTriangles_8 rfl ?_
      refine m_goto 13 dX1_besideInTriangles_9 (by decide) ?_
      refine m_istore 15 dX1_besideInTriangles_13 rfl (by decide) ?_
      refine m_iload_n 16 dX1_besideInTriangles_15 rfl rfl ?_
      refine i_tableIn 53 ⟨by omega, by omega⟩ dX1_besideInTriangles_16 (by decide) (by decide) rfl (by decide) ?_
      refine m_aload_n 54 dX1_besideInTriangles_53 rfl rfl ?_
      refine m_iload_n 55 dX1_besideInTriangles_54 rfl rfl ?_
      refine i_const 56 dX1_besideInTriangles_55 rfl ?_
      refine i_add 57 dX1_besideInTriangles_56 rfl ?_
      refine m_iload_n 58 dX1_besideInTriangles_57 rfl rfl ?_
      refine m_cV (M' := MX1_placeAt) 61 [_, _] kX1_58 imX1_placeAt seX1_placeAt clX1_placeAt dX1_besideInTriangles_58 rfl rfl rfl (by first | rfl | assumption) (m_rmI (by omega) (Nat.le_of_ble_eq_true rfl) (Nat.le_refl _) (Nat.le_refl _)) (c_X1_placeAt hG d h2 hFF ⟨by omega, by omega⟩ ⟨by omega, by omega⟩) ?_
      refine i_ret _ dX1_besideInTriangles_61 rfl ⟨Nat.le_refl _, Nat.le_refl _⟩ ?_ ⟨rfl, rfl⟩
      unfold trS; rw [if_neg (by decide), if_pos rfl]
      try (first | rfl | (congr 1 <;> omega) | ((repeat' split) <;> first | rfl | omega | (congr 1 <;> omega)))
  · refine m_iload_n 1 dX1_besideInTriangles_0 rfl rfl ?_
    refine m_iload_n 2 dX1_besideInTriangles_1 rfl rfl ?_
    refine i_add 3 dX1_besideInTriangles_2 rfl ?_
    refine i_const 4 dX1_besideInTriangles_3 rfl ?_
    refine i_and 5 1 dX1_besideInTriangles_4 rfl ⟨by omega, by omega⟩ (by decide) ?_
    refine i_if_ne 8 12 ⟨by omega, by omega⟩ dX1_besideInTriangles_5 rfl (by decide) (fun q5 => ?_) (fun q5 => ?_)
    · refine i_const 13 dX1_besideInTriangles_12 rfl ?_
      refine m_istore 15 dX1_besideInTriangles_13 rfl (by decide) ?_
      refine m_iload_n 16 dX1_besideInTriangles_15 rfl rfl ?_
      refine i_tableIn 62 ⟨by omega, by omega⟩ dX1_besideInTriangles_16 (by decide) (by decide) rfl (by decide) ?_
      refine m_aload_n 63 dX1_besideInTriangles_62 rfl rfl ?_
      refine m_iload_n 64 dX1_besideInTriangles_63 rfl rfl ?_
      refine m_iload 66 dX1_besideInTriangles_64 rfl rfl ?_
      refine i_if_eq 69 75 ⟨by omega, by omega⟩ dX1_besideInTriangles_66 rfl (by decide) (fun _ => ?_) (fun h => absurd h (by decide))
      refine m_iload_n 76 dX1_besideInTriangles_75 rfl rfl ?_
      refine i_const 77 dX1_besideInTriangles_76 rfl ?_
      refine i_sub 78 dX1_besideInTriangles_77 rfl ?_
      refine m_cV (M' := MX1_placeAt) 81 [_, _] kX1_58 imX1_placeAt seX1_placeAt clX1_placeAt dX1_besideInTriangles_78 rfl rfl rfl (by first | rfl | assumption) (m_rmI (by omega) (Nat.le_of_ble_eq_true rfl) (Nat.le_refl _) (Nat.le_refl _)) (c_X1_placeAt hG d h2 hFF ⟨by omega, by omega⟩ ⟨by omega, by omega⟩) ?_
      refine i_ret _ dX1_besideInTriangles_81 rfl ⟨Nat.le_refl _, Nat.le_refl _⟩ ?_ ⟨rfl, rfl⟩
      unfold trS; rw [if_neg (by decide), if_neg (by decide), if_pos rfl]
      try (first | rfl | (congr 1 <;> omega) | ((repeat' split) <;> first | rfl | omega | (congr 1 <;> omega)))
    · refine i_const 9 dX1_besideInTriangles_8 rfl ?_
      refine m_goto 13 dX1_besideInTriangles_9 (by decide) ?_
      refine m_istore 15 dX1_besideInTriangles_13 rfl (by decide) ?_
      refine m_iload_n 16 dX1_besideInTriangles_15 rfl rfl ?_
      refine i_tableIn 62 ⟨by omega, by omega⟩ dX1_besideInTriangles_16 (by decide) (by decide) rfl (by decide) ?_
      refine m_aload_n 63 dX1_besideInTriangles_62 rfl rfl ?_
      refine m_iload_n 64 dX1_besideInTriangles_63 rfl rfl ?_
      refine m_iload 66 dX1_besideInTriangles_64 rfl rfl ?_
      refine i_if_eq 69 75 ⟨by omega, by omega⟩ dX1_besideInTriangles_66 rfl (by decide) (fun h => absurd h (by decide)) (fun _ => ?_)
      refine m_iload_n 70 dX1_besideInTriangles_69 rfl rfl ?_
      refine i_const 71 dX1_besideInTriangles_70 rfl ?_
      refine i_add 72 dX1_besideInTriangles_71 rfl ?_
      refine m_goto 78 dX1_besideInTriangles_72 (by decide) ?_
      refine m_cV (M' := MX1_placeAt) 81 [_, _] kX1_58 imX1_placeAt seX1_placeAt clX1_placeAt dX1_besideInTriangles_78 rfl rfl rfl (by first | rfl | assumption) (m_rmI (by omega) (Nat.le_of_ble_eq_true rfl) (Nat.le_refl _) (Nat.le_refl _)) (c_X1_placeAt hG d h2 hFF ⟨by omega, by omega⟩ ⟨by omega, by omega⟩) ?_
      refine i_ret _ dX1_besideInTriangles_81 rfl ⟨Nat.le_refl _, Nat.le_refl _⟩ ?_ ⟨rfl, rfl⟩
      unfold trS; rw [if_neg (by decide), if_neg (by decide), if_pos rfl]
      try (first | rfl | (congr 1 <;> omega) | ((repeat' split) <;> first | rfl | omega | (congr 1 <;> omega)))
  · refine m_iload_n 1 dX1_besideInTriangles_0 rfl rfl ?_
    refine m_iload_n 2 dX1_besideInTriangles_1 rfl rfl ?_
    refine i_add 3 dX1_besideInTriangles_2 rfl ?_
    refine i_const 4 dX1_besideInTriangles_3 rfl ?_
    refine i_and 5 1 dX1_besideInTriangles_4 rfl ⟨by omega, by omega⟩ (by decide) ?_
    refine i_if_ne 8 12 ⟨by omega, by omega⟩ dX1_besideInTriangles_5 rfl (by decide) (fun q5 => ?_) (fun q5 => ?_)
    · refine i_const 13 dX1_besideInTriangles_12 rfl ?_
      refine m_istore 15 dX1_besideInTriangles_13 rfl (by decide) ?_
      refine m_iload_n 16 dX1_besideInTriangles_15 rfl rfl ?_
      refine i_tableOut 82 ⟨by omega, by omega⟩ dX1_besideInTriangles_16 (by omega) (by decide) ?_
      refine i_const 83 dX1_besideInTriangles_82 rfl ?_
      refine i_ret _ dX1_besideInTriangles_83 rfl ⟨Nat.le_refl _, Nat.le_refl _⟩ ?_ ⟨rfl, rfl⟩
      unfold trS; rw [if_neg (by omega), if_neg (by omega), if_neg (by omega)]
    · refine i_const 9 dX1_besideInTriangles_8 rfl ?_
      refine m_goto 13 dX1_besideInTriangles_9 (by decide) ?_
      refine m_istore 15 dX1_besideInTriangles_13 rfl (by decide) ?_
      refine m_iload_n 16 dX1_besideInTriangles_15 rfl rfl ?_
      refine i_tableOut 82 ⟨by omega, by omega⟩ dX1_besideInTriangles_16 (by omega) (by decide) ?_
      refine i_const 83 dX1_besideInTriangles_82 rfl ?_
      refine i_ret _ dX1_besideInTriangles_83 rfl ⟨Nat.le_refl _, Nat.le_refl _⟩ ?_ ⟨rfl, rfl⟩
      unfold trS; rw [if_neg (by omega), if_neg (by omega), if_neg (by omega)]
set_option maxHeartbeats 4000000 in
set_option maxRecDepth 100000 in
theorem c_X1_besideInRings (hG : m_G G) (d : Nat) {k W H x y s : Int} {n : Nat} (h2 : w[2]? = some (oFrame k W H n)) (hF : fOK k W H n) (hxy : 0 ≤ x ∧ x < W ∧ 0 ≤ y ∧ y < H) (hs : 0 ≤ s ∧ s < 256) : m_Cv G MX1_besideInRings (m_r (d + 1) 0 0) [.ref 2, vI x, vI y, vI s] w (some (vI (rgS W H x y s))) w := by
  have hFF := hF
  have hnb := hF.n
  obtain ⟨hk0, hk4, hW1, hW2, hH1, hH2, hn, hg4⟩ := hF
  refine m_enter (L := [some (.ref 2), some (vI x), some (vI y), some (vI s)]) (by decide) hG (m_c1 rfl) (Nat.le_of_ble_eq_true rfl) rfl ?_
  rcases (by omega : s = 0 ∨ s = 1 ∨ s = 2 ∨ s = 3 ∨ 3 < s) with rfl | rfl | rfl | rfl | hso
  · refine m_iload_n 1 dX1_besideInRings_0 rfl rfl ?_
    refine i_tableIn 32 ⟨by omega, by omega⟩ dX1_besideInRings_1 (by decide) (by decide) rfl (by decide) ?_
    refine m_aload_n 33 dX1_besideInRings_32 rfl rfl ?_
    refine m_iload_n 34 dX1_besideInRings_33 rfl rfl ?_
    refine m_iload_n 35 dX1_besideInRings_34 rfl rfl ?_
    refine i_const 36 dX1_besideInRings_35 rfl ?_
    refine i_sub 37 dX1_besideInRings_36 rfl ?_
    refine m_cV (M' := MX1_placeAt) 40 [_, _] kX1_58 imX1_placeAt seX1_placeAt clX1_placeAt dX1_besideInRings_37 rfl rfl rfl (by first | rfl | assumption) (m_rmI (by omega) (Nat.le_of_ble_eq_true rfl) (Nat.le_refl _) (Nat.le_refl _)) (c_X1_placeAt hG d h2 hFF ⟨by omega, by omega⟩ ⟨by omega, by omega⟩) ?_
    refine i_ret _ dX1_besideInRings_40 rfl ⟨Nat.le_refl _, Nat.le_refl _⟩ ?_ ⟨rfl, rfl⟩
    unfold rgS; rw [if_pos rfl]
    try (first | rfl | (congr 1 <;> omega) | ((repeat' split) <;> first | rfl | omega | (congr 1 <;> omega)))
  · refine m_iload_n 1 dX1_besideInRings_0 rfl rfl ?_
    refine i_tableIn 41 ⟨by omega, by omega⟩ dX1_besideInRings_1 (by decide) (by decide) rfl (by decide) ?_
    refine m_aload_n 42 dX1_besideInRings_41 rfl rfl ?_
    refine m_getf 45 foX1_19 dX1_besideInRings_42 rfl (by first | rfl | assumption) (by rfl) ?_
    refine i_const 46 dX1_besideInRings_45 rfl ?_
    refine i_icmp_ge 49 53 ⟨by omega, by omega⟩ ⟨by omega, by omega⟩ dX1_besideInRings_46 rfl (by decide) (fun q46 => ?_) (fun q46 => ?_)
    · refine m_aload_n 54 dX1_besideInRings_53 rfl rfl ?_
      refine m_iload_n 55 dX1_besideInRings_54 rfl rfl ?_
      refine m_aload_n 56 dX1_besideInRings_55 rfl rfl ?_
      refine m_getf 59 foX1_19 dX1_besideInRings_56 rfl (by first | rfl | assumption) (by rfl) ?_
      refine i_const 60 dX1_besideInRings_59 rfl ?_
      refine i_sub 61 dX1_besideInRings_60 rfl ?_
      refine i_icmp_ne 64 68 ⟨by omega, by omega⟩ ⟨by omega, by omega⟩ dX1_besideInRings_61 rfl (by decide) (fun q61 => ?_) (fun q61 => ?_)
      · refine m_iload_n 69 dX1_besideInRings_68 rfl rfl ?_
        refine i_const 70 dX1_besideInRings_69 rfl ?_
        refine i_add 71 dX1_besideInRings_70 rfl ?_
        refine m_iload_n 72 dX1_besideInRings_71 rfl rfl ?_
        refine m_cV (M' := MX1_placeAt) 75 [_, _] kX1_58 imX1_placeAt seX1_placeAt clX1_placeAt dX1_besideInRings_72 rfl rfl rfl (by first | rfl | assumption) (m_rmI (by omega) (Nat.le_of_ble_eq_true rfl) (Nat.le_refl _) (Nat.le_refl _)) (c_X1_placeAt hG d h2 hFF ⟨by omega, by omega⟩ ⟨by omega, by omega⟩) ?_
        refine i_ret _ dX1_besideInRings_75 rfl ⟨Nat.le_refl _, Nat.le_refl _⟩ ?_ ⟨rfl, rfl⟩
        unfold rgS; rw [if_neg (by decide), if_pos rfl]
        try (first | rfl | (congr 1 <;> omega) | ((repeat' split) <;> first | rfl | omega | (congr 1 <;> omega)))
      · refine i_const 65 dX1_besideInRings_64 rfl ?_
        refine m_goto 71 dX1_besideInRings_65 (by decide) ?_
        refine m_iload_n 72 dX1_besideInRings_71 rfl rfl ?_
        refine m_cV (M' := MX1_placeAt) 75 [_, _] kX1_58 imX1_placeAt seX1_placeAt clX1_placeAt dX1_besideInRings_72 rfl rfl rfl (by first | rfl | assumption) (m_rmI (by omega) (Nat.le_of_ble_eq_true rfl) (Nat.le_refl _) (Nat.le_refl _)) (c_X1_placeAt hG d h2 hFF ⟨by omega, by omega⟩ ⟨by omega, by omega⟩) ?_
        refine i_ret _ dX1_besideInRings_75 rfl ⟨Nat.le_refl _, Nat.le_refl _⟩ ?_ ⟨rfl, rfl⟩
        unfold rgS; rw [if_neg (by decide), if_pos rfl]
        try (first | rfl | (congr 1 <;> omega) | ((repeat' split) <;> first | rfl | omega | (congr 1 <;> omega)))
    · refine i_const 50 dX1_besideInRings_49 rfl ?_
      refine m_goto 75 dX1_besideInRings_50 (by decide) ?_
      refine i_ret _ dX1_besideInRings_75 rfl ⟨Nat.le_refl _, Nat.le_refl _⟩ ?_ ⟨rfl, rfl⟩
      unfold rgS; rw [if_neg (by decide), if_pos rfl]
      try (first | rfl | (congr 1 <;> omega) | ((repeat' split) <;> first | rfl | omega | (congr 1 <;> omega)))
  · refine m_iload_n 1 dX1_besideInRings_0 rfl rfl ?_
    refine i_tableIn 76 ⟨by omega, by omega⟩ dX1_besideInRings_1 (by decide) (by decide) rfl (by decide) ?_
    refine m_aload_n 77 dX1_besideInRings_76 rfl rfl ?_
    refine m_iload_n 78 dX1_besideInRings_77 rfl rfl ?_
    refine m_iload_n 79 dX1_besideInRings_78 rfl rfl ?_
    refine i_const 80 dX1_besideInRings_79 rfl ?_
    refine i_add 81 dX1_besideInRings_80 rfl ?_
    refine m_cV (M' := MX1_placeAt) 84 [_, _] kX1_58 imX1_placeAt seX1_placeAt clX1_placeAt dX1_besideInRings_81 rfl rfl rfl (by first | rfl | assumption) (m_rmI (by omega) (Nat.le_of_ble_eq_true rfl) (Nat.le_refl _) (Nat.le_refl _)) (c_X1_placeAt hG d h2 hFF ⟨by omega, by omega⟩ ⟨by omega, by omega⟩) ?_
    refine i_ret _ dX1_besideInRings_84 rfl ⟨Nat.le_refl _, Nat.le_refl _⟩ ?_ ⟨rfl, rfl⟩
    unfold rgS; rw [if_neg (by decide), if_neg (by decide), if_pos rfl]
    try (first | rfl | (congr 1 <;> omega) | ((repeat' split) <;> first | rfl | omega | (congr 1 <;> omega)))
  · refine m_iload_n 1 dX1_besideInRings_0 rfl rfl ?_
    refine i_tableIn 85 ⟨by omega, by omega⟩ dX1_besideInRings_1 (by decide) (by decide) rfl (by decide) ?_
    refine m_aload_n 86 dX1_besideInRings_85 rfl rfl ?_
    refine m_getf 89 foX1_19 dX1_besideInRings_86 rfl (by first | rfl | assumption) (by rfl) ?_
    refine i_const 90 dX1_besideInRings_89 rfl ?_
    refine i_icmp_ge 93 97 ⟨by omega, by omega⟩ ⟨by omega, by omega⟩ dX1_besideInRings_90 rfl (by decide) (fun q90 => ?_) (fun q90 => ?_)
    · refine m_aload_n 98 dX1_besideInRings_97 rfl rfl ?_
      refine m_iload_n 99 dX1_besideInRings_98 rfl rfl ?_
      refine i_if_ne 102 111 ⟨by omega, by omega⟩ dX1_besideInRings_99 rfl (by decide) (fun q99 => ?_) (fun q99 => ?_)
      · refine m_iload_n 112 dX1_besideInRings_111 rfl rfl ?_
        refine i_const 113 dX1_besideInRings_112 rfl ?_
        refine i_sub 114 dX1_besideInRings_113 rfl ?_
        refine m_iload_n 115 dX1_besideInRings_114 rfl rfl ?_
        refine m_cV (M' := MX1_placeAt) 118 [_, _] kX1_58 imX1_placeAt seX1_placeAt clX1_placeAt dX1_besideInRings_115 rfl rfl rfl (by first | rfl | assumption) (m_rmI (by omega) (Nat.le_of_ble_eq_true rfl) (Nat.le_refl _) (Nat.le_refl _)) (c_X1_placeAt hG d h2 hFF ⟨by omega, by omega⟩ ⟨by omega, by omega⟩) ?_
        refine i_ret _ dX1_besideInRings_118 rfl ⟨Nat.le_refl _, Nat.le_refl _⟩ ?_ ⟨rfl, rfl⟩
        unfold rgS; rw [if_neg (by decide), if_neg (by decide), if_neg (by decide), if_pos rfl]
        try (first | rfl | (congr 1 <;> omega) | ((repeat' split) <;> first | rfl | omega | (congr 1 <;> omega)))
      · refine m_aload_n 103 dX1_besideInRings_102 rfl rfl ?_
        refine m_getf 106 foX1_19 dX1_besideInRings_103 rfl (by first | rfl | assumption) (by rfl) ?_
        refine i_const 107 dX1_besideInRings_106 rfl ?_
        refine i_sub 108 dX1_besideInRings_107 rfl ?_
        refine m_goto 114 dX1_besideInRings_108 (by decide) ?_
        refine m_iload_n 115 dX1_besideInRings_114 rfl rfl ?_
        refine m_cV (M' := MX1_placeAt) 118 [_, _] kX1_58 imX1_placeAt seX1_placeAt clX1_placeAt dX1_besideInRings_115 rfl rfl rfl (by first | rfl | assumption) (m_rmI (by omega) (Nat.le_of_ble_eq_true rfl) (Nat.le_refl _) (Nat.le_refl _)) (c_X1_placeAt hG d h2 hFF ⟨by omega, by omega⟩ ⟨by omega, by omega⟩) ?_
        refine i_ret _ dX1_besideInRings_118 rfl ⟨Nat.le_refl _, Nat.le_refl _⟩ ?_ ⟨rfl, rfl⟩
        unfold rgS; rw [if_neg (by decide), if_neg (by decide), if_neg (by decide), if_pos rfl]
        try (first | rfl | (congr 1 <;> omega) | ((repeat' split) <;> first | rfl | omega | (congr 1 <;> omega)))
    · refine i_const 94 dX1_besideInRings_93 rfl ?_
      refine m_goto 118 dX1_besideInRings_94 (by decide) ?_
      refine i_ret _ dX1_besideInRings_118 rfl ⟨Nat.le_refl _, Nat.le_refl _⟩ ?_ ⟨rfl, rfl⟩
      unfold rgS; rw [if_neg (by decide), if_neg (by decide), if_neg (by decide), if_pos rfl]
      try (first | rfl | (congr 1 <;> omega) | ((repeat' split) <;> first | rfl | omega | (congr 1 <;> omega)))
  · refine m_iload_n 1 dX1_besideInRings_0 rfl rfl ?_
    refine i_tableOut 119 ⟨by omega, by omega⟩ dX1_besideInRings_1 (by omega) (by decide) ?_
    refine i_const 120 dX1_besideInRings_119 rfl ?_
    refine i_ret _ dX1_besideInRings_120 rfl ⟨Nat.le_refl _, Nat.le_refl _⟩ ?_ ⟨rfl, rfl⟩
    unfold rgS; rw [if_neg (by omega), if_neg (by omega), if_neg (by omega), if_neg (by omega)]
set_option maxHeartbeats 4000000 in
set_option maxRecDepth 100000 in
theorem c_X1_firstBeside (hG : m_G G) (d : Nat) {k W H z s : Int} {n : Nat} {col row : Nat → Int} (h2 : w[2]? = some (oFrame k W H n)) (hF : fOK k W H n) (h3 : w[3]? = some (cI n col)) (h4 : w[4]? = some (cI n row)) (hz : 0 ≤ z ∧ z < n) (hxy : 0 ≤ col z.toNat ∧ col z.toNat < W ∧ 0 ≤ row z.toNat ∧ row z.toNat < H) (hs : 0 ≤ s ∧ s < 256) : m_Cv G MX1_firstBeside (m_r (d + 2) 0 0) [.ref 2, vI z, vI s] w (some (vI (stp k W H (col z.toNat) (row z.toNat) s))) w := by
  have hFF := hF
  have hnb := hF.n
  obtain ⟨hk0, hk4, hW1, hW2, hH1, hH2, hn, hg4⟩ := hF
  refine m_enter (L := [some (.ref 2), some (vI z), some (vI s), none, none]) (by decide) hG (m_c1 rfl) (Nat.le_of_ble_eq_true rfl) rfl ?_
  rcases (by omega : k = 0 ∨ k = 1 ∨ k = 2 ∨ k = 3 ∨ k = 4) with rfl | rfl | rfl | rfl | rfl
  · refine m_aload_n 1 dX1_firstBeside_0 rfl rfl ?_
    refine m_iload_n 2 dX1_firstBeside_1 rfl rfl ?_
    refine m_cV (M' := MX1_columnOf) 5 [_] kX1_39 imX1_columnOf seX1_columnOf clX1_columnOf dX1_firstBeside_2 rfl rfl rfl (by first | rfl | assumption) (m_rmI (by omega) (Nat.le_of_ble_eq_true rfl) (Nat.le_refl _) (Nat.le_refl _)) (c_X1_columnOf hG d h2 hFF h3 hz) ?_
    refine m_istore_n 6 dX1_firstBeside_5 rfl (by decide) ?_
    refine m_aload_n 7 dX1_firstBeside_6 rfl rfl ?_
    refine m_iload_n 8 dX1_firstBeside_7 rfl rfl ?_
    refine m_cV (M' := MX1_rowOf) 11 [_] kX1_43 imX1_rowOf seX1_rowOf clX1_rowOf dX1_firstBeside_8 rfl rfl rfl (by first | rfl | assumption) (m_rmI (by omega) (Nat.le_of_ble_eq_true rfl) (Nat.le_refl _) (Nat.le_refl _)) (c_X1_rowOf hG d h2 hFF h4 hz) ?_
    refine m_istore 13 dX1_firstBeside_11 rfl (by decide) ?_
    refine m_aload_n 14 dX1_firstBeside_13 rfl rfl ?_
    refine m_getf 17 foX1_13 dX1_firstBeside_14 rfl (by first | rfl | assumption) (by rfl) ?_
    refine i_tableIn 48 ⟨by omega, by omega⟩ dX1_firstBeside_17 (by decide) (by decide) rfl (by decide) ?_
    refine m_aload_n 49 dX1_firstBeside_48 rfl rfl ?_
    refine m_iload_n 50 dX1_firstBeside_49 rfl rfl ?_
    refine m_iload 52 dX1_firstBeside_50 rfl rfl ?_
    refine m_iload_n 53 dX1_firstBeside_52 rfl rfl ?_
    refine m_cV (M' := MX1_besideInSquares) 56 [_, _, _] kX1_46 imX1_besideInSquares seX1_besideInSquares clX1_besideInSquares dX1_firstBeside_53 rfl rfl rfl (by first | rfl | assumption) (m_rmI (by omega) (Nat.le_of_ble_eq_true rfl) (Nat.le_refl _) (Nat.le_refl _)) (c_X1_besideInSquares hG d h2 hFF hxy hs) ?_
    refine i_ret _ dX1_firstBeside_56 rfl ⟨Nat.le_refl _, Nat.le_refl _⟩ ?_ ⟨rfl, rfl⟩
    rfl
  · refine m_aload_n 1 dX1_firstBeside_0 rfl rfl ?_
    refine m_iload_n 2 dX1_firstBeside_1 rfl rfl ?_
    refine m_cV (M' := MX1_columnOf) 5 [_] kX1_39 imX1_columnOf seX1_columnOf clX1_columnOf dX1_firstBeside_2 rfl rfl rfl (by first | rfl | assumption) (m_rmI (by omega) (Nat.le_of_ble_eq_true rfl) (Nat.le_refl _) (Nat.le_refl _)) (c_X1_columnOf hG d h2 hFF h3 hz) ?_
    refine m_istore_n 6 dX1_firstBeside_5 rfl (by decide) ?_
    refine m_aload_n 7 dX1_firstBeside_6 rfl rfl ?_
    refine m_iload_n 8 dX1_firstBeside_7 rfl rfl ?_
    refine m_cV (M' := MX1_rowOf) 11 [_] kX1_43 imX1_rowOf seX1_rowOf clX1_rowOf dX1_firstBeside_8 rfl rfl rfl (by first | rfl | assumption) (m_rmI (by omega) (Nat.le_of_ble_eq_true rfl) (Nat.le_refl _) (Nat.le_refl _)) (c_X1_rowOf hG d h2 hFF h4 hz) ?_
    refine m_istore 13 dX1_firstBeside_11 rfl (by decide) ?_
    refine m_aload_n 14 dX1_firstBeside_13 rfl rfl ?_
    refine m_getf 17 foX1_13 dX1_firstBeside_14 rfl (by first | rfl | assumption) (by rfl) ?_
    refine i_tableIn 57 ⟨by omega, by omega⟩ dX1_firstBeside_17 (by decide) (by decide) rfl (by decide) ?_
    refine m_aload_n 58 dX1_firstBeside_57 rfl rfl ?_
    refine m_iload_n 59 dX1_firstBeside_58 rfl rfl ?_
    refine m_iload 61 dX1_firstBeside_59 rfl rfl ?_
    refine m_iload_n 62 dX1_firstBeside_61 rfl rfl ?_
    refine m_cV (M' := MX1_besideInHexes) 65 [_, _, _] kX1_49 imX1_besideInHexes seX1_besideInHexes clX1_besideInHexes dX1_firstBeside_62 rfl rfl rfl (by first | rfl | assumption) (m_rmI (by omega) (Nat.le_of_ble_eq_true rfl) (Nat.le_refl _) (Nat.le_refl _)) (c_X1_besideInHexes hG d h2 hFF hxy hs) ?_
    refine i_ret _ dX1_firstBeside_65 rfl ⟨Nat.le_refl _, Nat.le_refl _⟩ ?_ ⟨rfl, rfl⟩
    rfl
  · refine m_aload_n 1 dX1_firstBeside_0 rfl rfl ?_
    refine m_iload_n 2 dX1_firstBeside_1 rfl rfl ?_
    refine m_cV (M' := MX1_columnOf) 5 [_] kX1_39 imX1_columnOf seX1_columnOf clX1_columnOf dX1_firstBeside_2 rfl rfl rfl (by first | rfl | assumption) (m_rmI (by omega) (Nat.le_of_ble_eq_true rfl) (Nat.le_refl _) (Nat.le_refl _)) (c_X1_columnOf hG d h2 hFF h3 hz) ?_
    refine m_istore_n 6 dX1_firstBeside_5 rfl (by decide) ?_
    refine m_aload_n 7 dX1_firstBeside_6 rfl rfl ?_
    refine m_iload_n 8 dX1_firstBeside_7 rfl rfl ?_
    refine m_cV (M' := MX1_rowOf) 11 [_] kX1_43 imX1_rowOf seX1_rowOf clX1_rowOf dX1_firstBeside_8 rfl rfl rfl (by first | rfl | assumption) (m_rmI (by omega) (Nat.le_of_ble_eq_true rfl) (Nat.le_refl _) (Nat.le_refl _)) (c_X1_rowOf hG d h2 hFF h4 hz) ?_
    refine m_istore 13 dX1_firstBeside_11 rfl (by decide) ?_
    refine m_aload_n 14 dX1_firstBeside_13 rfl rfl ?_
    refine m_getf 17 foX1_13 dX1_firstBeside_14 rfl (by first | rfl | assumption) (by rfl) ?_
    refine i_tableIn 66 ⟨by omega, by omega⟩ dX1_firstBeside_17 (by decide) (by decide) rfl (by decide) ?_
    refine m_aload_n 67 dX1_firstBeside_66 rfl rfl ?_
    refine m_iload_n 68 dX1_firstBeside_67 rfl rfl ?_
    refine m_iload 70 dX1_firstBeside_68 rfl rfl ?_
    refine m_iload_n 71 dX1_firstBeside_70 rfl rfl ?_
    refine m_cV (M' := MX1_besideInTriangles) 74 [_, _, _] kX1_52 imX1_besideInTriangles seX1_besideInTriangles clX1_besideInTriangles dX1_firstBeside_71 rfl rfl rfl (by first | rfl | assumption) (m_rmI (by omega) (Nat.le_of_ble_eq_true rfl) (Nat.le_refl _) (Nat.le_refl _)) (c_X1_besideInTriangles hG d h2 hFF hxy hs) ?_
    refine i_ret _ dX1_firstBeside_74 rfl ⟨Nat.le_refl _, Nat.le_refl _⟩ ?_ ⟨rfl, rfl⟩
    rfl
  · refine m_aload_n 1 dX1_firstBeside_0 rfl rfl ?_
    refine m_iload_n 2 dX1_firstBeside_1 rfl rfl ?_
    refine m_cV (M' := MX1_columnOf) 5 [_] kX1_39 imX1_columnOf seX1_columnOf clX1_columnOf dX1_firstBeside_2 rfl rfl rfl (by first | rfl | assumption) (m_rmI (by omega) (Nat.le_of_ble_eq_true rfl) (Nat.le_refl _) (Nat.le_refl _)) (c_X1_columnOf hG d h2 hFF h3 hz) ?_
    refine m_istore_n 6 dX1_firstBeside_5 rfl (by decide) ?_
    refine m_aload_n 7 dX1_firstBeside_6 rfl rfl ?_
    refine m_iload_n 8 dX1_firstBeside_7 rfl rfl ?_
    refine m_cV (M' := MX1_rowOf) 11 [_] kX1_43 imX1_rowOf seX1_rowOf clX1_rowOf dX1_firstBeside_8 rfl rfl rfl (by first | rfl | assumption) (m_rmI (by omega) (Nat.le_of_ble_eq_true rfl) (Nat.le_refl _) (Nat.le_refl _)) (c_X1_rowOf hG d h2 hFF h4 hz) ?_
    refine m_istore 13 dX1_firstBeside_11 rfl (by decide) ?_
    refine m_aload_n 14 dX1_firstBeside_13 rfl rfl ?_
    refine m_getf 17 foX1_13 dX1_firstBeside_14 rfl (by first | rfl | assumption) (by rfl) ?_
    refine i_tableIn 75 ⟨by omega, by omega⟩ dX1_firstBeside_17 (by decide) (by decide) rfl (by decide) ?_
    refine m_aload_n 76 dX1_firstBeside_75 rfl rfl ?_
    refine m_iload_n 77 dX1_firstBeside_76 rfl rfl ?_
    refine m_iload 79 dX1_firstBeside_77 rfl rfl ?_
    refine m_iload_n 80 dX1_firstBeside_79 rfl rfl ?_
    refine m_cV (M' := MX1_besideInRings) 83 [_, _, _] kX1_55 imX1_besideInRings seX1_besideInRings clX1_besideInRings dX1_firstBeside_80 rfl rfl rfl (by first | rfl | assumption) (m_rmI (by omega) (Nat.le_of_ble_eq_true rfl) (Nat.le_refl _) (Nat.le_refl _)) (c_X1_besideInRings hG d h2 hFF hxy hs) ?_
    refine i_ret _ dX1_firstBeside_83 rfl ⟨Nat.le_refl _, Nat.le_refl _⟩ ?_ ⟨rfl, rfl⟩
    rfl
  · refine m_aload_n 1 dX1_firstBeside_0 rfl rfl ?_
    refine m_iload_n 2 dX1_firstBeside_1 rfl rfl ?_
    refine m_cV (M' := MX1_columnOf) 5 [_] kX1_39 imX1_columnOf seX1_columnOf clX1_columnOf dX1_firstBeside_2 rfl rfl rfl (by first | rfl | assumption) (m_rmI (by omega) (Nat.le_of_ble_eq_true rfl) (Nat.le_refl _) (Nat.le_refl _)) (c_X1_columnOf hG d h2 hFF h3 hz) ?_
    refine m_istore_n 6 dX1_firstBeside_5 rfl (by decide) ?_
    refine m_aload_n 7 dX1_firstBeside_6 rfl rfl ?_
    refine m_iload_n 8 dX1_firstBeside_7 rfl rfl ?_
    refine m_cV (M' := MX1_rowOf) 11 [_] kX1_43 imX1_rowOf seX1_rowOf clX1_rowOf dX1_firstBeside_8 rfl rfl rfl (by first | rfl | assumption) (m_rmI (by omega) (Nat.le_of_ble_eq_true rfl) (Nat.le_refl _) (Nat.le_refl _)) (c_X1_rowOf hG d h2 hFF h4 hz) ?_
    refine m_istore 13 dX1_firstBeside_11 rfl (by decide) ?_
    refine m_aload_n 14 dX1_firstBeside_13 rfl rfl ?_
    refine m_getf 17 foX1_13 dX1_firstBeside_14 rfl (by first | rfl | assumption) (by rfl) ?_
    refine i_tableOut 84 ⟨by omega, by omega⟩ dX1_firstBeside_17 (by decide) (by decide) ?_
    refine i_const 85 dX1_firstBeside_84 rfl ?_
    refine i_ret _ dX1_firstBeside_85 rfl ⟨Nat.le_refl _, Nat.le_refl _⟩ ?_ ⟨rfl, rfl⟩
    rfl
end FR
