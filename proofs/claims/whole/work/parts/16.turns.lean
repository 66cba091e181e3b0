/-! Turns -/
section TU
variable {G : mG} {w : List mC}
theorem i_andP {G : mG} {M : mM} {R : Room} {Q : Option (Option Value) → List mC → Prop} {nc ns pc : Nat} {L : List (Option Value)} {st : List Value} {w : List mC} (pc' : Nat) {x m : Int} (hd : decode M.2.1 pc = .ok (.iand, 1)) (hp : pc + 1 = pc') (hm : m = 2 ∨ m = 4) (hx : 0 ≤ x ∧ x < 8) (k : m_J G M R Q nc ns pc' L (vI (x / m % 2 * m) :: st) w) : m_J G M R Q nc ns pc L (vI m :: vI x :: st) w := by
  refine m_iand pc' hd hp ?_
  have e : iI x &&& iI m = iI (x / m % 2 * m) := by
    rcases (by omega : x = 0 ∨ x = 1 ∨ x = 2 ∨ x = 3 ∨ x = 4 ∨ x = 5 ∨ x = 6 ∨ x = 7) with rfl | rfl | rfl | rfl | rfl | rfl | rfl | rfl <;> rcases hm with rfl | rfl <;> decide
  rw [e]
  exact k
abbrev oTurns (c : Int) : mC := mO 5 [vI c, .ref 2]
/-- how many turns there are -/
def tuN (k W H : Int) : Int := if k = 4 then 1 else if k = 3 then 2 * W else if W = H then 8 else 4
/-- the column around the ring -/
def rgC (W t x : Int) : Int := if t % 2 = 0 then (if x + t / 2 < W then x + t / 2 else x + t / 2 - W) else (if t / 2 - x < 0 then t / 2 - x + W else t / 2 - x)
/-- where turn t puts (x, y) -/
def trn (k W H t x y : Int) : Int := if k = 3 then plA W H (rgC W t x) y else plA W H (if t % 2 = 1 then W - 1 - (if t < 4 then x else y) else (if t < 4 then x else y)) (if 1 < t % 4 then H - 1 - (if t < 4 then y else x) else (if t < 4 then y else x))

set_option maxHeartbeats 4000000 in
set_option maxRecDepth 100000 in
theorem c_X5_has (hG : m_G G) (d : Nat) {c z : Int} (h8 : w[8]? = some (oTurns c)) (hc : iR c) (hz : iR z) : m_Cv G MX5_has (m_r d 0 0) [.ref 8, vI z] w (some (vB (inB z c))) w := by
  obtain ⟨hz1, hz2⟩ := hz
  obtain ⟨hc1, hc2⟩ := hc
  refine m_enter (L := [some (.ref 8), some (vI z)]) (by decide) hG (m_c1 rfl) (Nat.le_of_ble_eq_true rfl) rfl ?_
  refine m_iload_n 1 dX5_has_0 rfl rfl ?_
  refine i_if_lt 4 16 ⟨by omega, by omega⟩ dX5_has_1 rfl (by decide) (fun q1 => ?_) (fun q1 => ?_)
  · refine i_const 17 dX5_has_16 rfl ?_
    refine i_retB _ dX5_has_17 rfl ⟨Nat.le_refl _, Nat.le_refl _⟩ ?_ ⟨rfl, rfl⟩
    refine i_eq0 ?_
    exact inB_0 (by omega)
  · refine m_iload_n 5 dX5_has_4 rfl rfl ?_
    refine m_aload_n 6 dX5_has_5 rfl rfl ?_
    refine m_getf 9 foX5_21 dX5_has_6 rfl (by first | rfl | assumption) (by rfl) ?_
    refine i_icmp_ge 12 16 ⟨by omega, by omega⟩ ⟨by omega, by omega⟩ dX5_has_9 rfl (by decide) (fun q9 => ?_) (fun q9 => ?_)
    · refine i_const 17 dX5_has_16 rfl ?_
      refine i_retB _ dX5_has_17 rfl ⟨Nat.le_refl _, Nat.le_refl _⟩ ?_ ⟨rfl, rfl⟩
      refine i_eq0 ?_
      exact inB_0 (by omega)
    · refine i_const 13 dX5_has_12 rfl ?_
      refine m_goto 17 dX5_has_13 (by decide) ?_
      refine i_retB _ dX5_has_17 rfl ⟨Nat.le_refl _, Nat.le_refl _⟩ ?_ ⟨rfl, rfl⟩
      refine i_eq1 ?_
      exact inB_1 (by omega)
set_option maxHeartbeats 4000000 in
set_option maxRecDepth 100000 in
theorem c_X5_columnAround (hG : m_G G) (d : Nat) {k W H t x c : Int} {n : Nat} (h8 : w[8]? = some (oTurns c)) (h2 : w[2]? = some (oFrame k W H n)) (hF : fOK k W H n) (ht : 0 ≤ t ∧ t < 2 * W) (hx : 0 ≤ x ∧ x < W) : m_Cv G MX5_columnAround (m_r d 0 0) [.ref 8, vI t, vI x] w (some (vI (rgC W t x))) w := by
  have hFF := hF
  have hnb := hF.n
  obtain ⟨hk0, hk4, hW1, hW2, hH1, hH2, hn, hg4⟩ := hF
  refine m_enter (L := [some (.ref 8), some (vI t), some (vI x), none, none]) (by decide) hG (m_c1 rfl) (Nat.le_of_ble_eq_true rfl) rfl ?_
  refine m_iload_n 1 dX5_columnAround_0 rfl rfl ?_
  refine i_const 2 dX5_columnAround_1 rfl ?_
  refine i_shr1 3 dX5_columnAround_2 rfl ⟨by omega, by omega⟩ ?_
  refine m_istore_n 4 dX5_columnAround_3 rfl (by decide) ?_
  refine m_iload_n 5 dX5_columnAround_4 rfl rfl ?_
  refine i_const 6 dX5_columnAround_5 rfl ?_
  refine i_and 7 1 dX5_columnAround_6 rfl ⟨by omega, by omega⟩ (by decide) ?_
  refine i_if_ne 10 43 ⟨by omega, by omega⟩ dX5_columnAround_7 rfl (by decide) (fun q7 => ?_) (fun q7 => ?_)
  · refine m_iload_n 44 dX5_columnAround_43 rfl rfl ?_
    refine m_iload_n 45 dX5_columnAround_44 rfl rfl ?_
    refine i_sub 46 dX5_columnAround_45 rfl ?_
    refine m_istore 48 dX5_columnAround_46 rfl (by decide) ?_
    refine m_iload 50 dX5_columnAround_48 rfl rfl ?_
    refine i_if_ge 53 66 ⟨by omega, by omega⟩ dX5_columnAround_50 rfl (by decide) (fun q50 => ?_) (fun q50 => ?_)
    · refine m_iload 68 dX5_columnAround_66 rfl rfl ?_
      refine i_ret _ dX5_columnAround_68 rfl ⟨Nat.le_refl _, Nat.le_refl _⟩ ?_ ⟨rfl, rfl⟩
      unfold rgC; (repeat' split) <;> omega
    · refine m_iload 55 dX5_columnAround_53 rfl rfl ?_
      refine m_aload_n 56 dX5_columnAround_55 rfl rfl ?_
      refine m_getf 59 foX5_9 dX5_columnAround_56 rfl (by first | rfl | assumption) (by rfl) ?_
      refine m_getf 62 foX5_24 dX5_columnAround_59 rfl (by first | rfl | assumption) (by rfl) ?_
      refine i_add 63 dX5_columnAround_62 rfl ?_
      refine m_goto 68 dX5_columnAround_63 (by decide) ?_
      refine i_ret _ dX5_columnAround_68 rfl ⟨Nat.le_refl _, Nat.le_refl _⟩ ?_ ⟨rfl, rfl⟩
      unfold rgC; (repeat' split) <;> omega
  · refine m_iload_n 11 dX5_columnAround_10 rfl rfl ?_
    refine m_iload_n 12 dX5_columnAround_11 rfl rfl ?_
    refine i_add 13 dX5_columnAround_12 rfl ?_
    refine m_istore 15 dX5_columnAround_13 rfl (by decide) ?_
    refine m_iload 17 dX5_columnAround_15 rfl rfl ?_
    refine m_aload_n 18 dX5_columnAround_17 rfl rfl ?_
    refine m_getf 21 foX5_9 dX5_columnAround_18 rfl (by first | rfl | assumption) (by rfl) ?_
    refine m_getf 24 foX5_24 dX5_columnAround_21 rfl (by first | rfl | assumption) (by rfl) ?_
    refine i_icmp_lt 27 40 ⟨by omega, by omega⟩ ⟨by omega, by omega⟩ dX5_columnAround_24 rfl (by decide) (fun q24 => ?_) (fun q24 => ?_)
    · refine m_iload 42 dX5_columnAround_40 rfl rfl ?_
      refine i_ret _ dX5_columnAround_42 rfl ⟨Nat.le_refl _, Nat.le_refl _⟩ ?_ ⟨rfl, rfl⟩
      unfold rgC; (repeat' split) <;> omega
    · refine m_iload 29 dX5_columnAround_27 rfl rfl ?_
      refine m_aload_n 30 dX5_columnAround_29 rfl rfl ?_
      refine m_getf 33 foX5_9 dX5_columnAround_30 rfl (by first | rfl | assumption) (by rfl) ?_
      refine m_getf 36 foX5_24 dX5_columnAround_33 rfl (by first | rfl | assumption) (by rfl) ?_
      refine i_sub 37 dX5_columnAround_36 rfl ?_
      refine m_goto 42 dX5_columnAround_37 (by decide) ?_
      refine i_ret _ dX5_columnAround_42 rfl ⟨Nat.le_refl _, Nat.le_refl _⟩ ?_ ⟨rfl, rfl⟩
      unfold rgC; (repeat' split) <;> omega
set_option maxHeartbeats 4000000 in
set_option maxRecDepth 100000 in
theorem c_X5_placeAfter (hG : m_G G) (d : Nat) {k W H t z c : Int} {n : Nat} {col row : Nat → Int} (h8 : w[8]? = some (oTurns c)) (h2 : w[2]? = some (oFrame k W H n)) (hF : fOK k W H n) (h3 : w[3]? = some (cI n col)) (h4 : w[4]? = some (cI n row)) (hz : 0 ≤ z ∧ z < n) (hxy : 0 ≤ col z.toNat ∧ col z.toNat < W ∧ 0 ≤ row z.toNat ∧ row z.toNat < H) (ht : 0 ≤ t ∧ (k = 3 → t < 2 * W) ∧ (k ≠ 3 → t < 8)) : m_Cv G MX5_placeAfter (m_r (d + 2) 0 0) [.ref 8, vI t, vI z] w (some (vI (trn k W H t (col z.toNat) (row z.toNat)))) w := by
  have hFF := hF
  have hnb := hF.n
  obtain ⟨hk0, hk4, hW1, hW2, hH1, hH2, hn, hg4⟩ := hF
  refine m_enter (L := [some (.ref 8), some (vI t), some (vI z), none, none, none, none, none, none, none]) (by decide) hG (m_c1 rfl) (Nat.le_of_ble_eq_true rfl) rfl ?_
  refine m_aload_n 1 dX5_placeAfter_0 rfl rfl ?_
  refine m_getf 4 foX5_9 dX5_placeAfter_1 rfl (by first | rfl | assumption) (by rfl) ?_
  refine m_iload_n 5 dX5_placeAfter_4 rfl rfl ?_
  refine m_cV (M' := MX1_columnOf) 8 [_] kX5_30 imX1_columnOf seX1_columnOf clX1_columnOf dX5_placeAfter_5 rfl rfl rfl (by first | rfl | assumption) (m_rmI (by omega) (Nat.le_of_ble_eq_true rfl) (Nat.le_refl _) (Nat.le_refl _)) (c_X1_columnOf hG d h2 hFF h3 hz) ?_
  refine m_istore_n 9 dX5_placeAfter_8 rfl (by decide) ?_
  refine m_aload_n 10 dX5_placeAfter_9 rfl rfl ?_
  refine m_getf 13 foX5_9 dX5_placeAfter_10 rfl (by first | rfl | assumption) (by rfl) ?_
  refine m_iload_n 14 dX5_placeAfter_13 rfl rfl ?_
  refine m_cV (M' := MX1_rowOf) 17 [_] kX5_34 imX1_rowOf seX1_rowOf clX1_rowOf dX5_placeAfter_14 rfl rfl rfl (by first | rfl | assumption) (m_rmI (by omega) (Nat.le_of_ble_eq_true rfl) (Nat.le_refl _) (Nat.le_refl _)) (c_X1_rowOf hG d h2 hFF h4 hz) ?_
  refine m_istore 19 dX5_placeAfter_17 rfl (by decide) ?_
  refine m_aload_n 20 dX5_placeAfter_19 rfl rfl ?_
  refine m_getf 23 foX5_9 dX5_placeAfter_20 rfl (by first | rfl | assumption) (by rfl) ?_
  refine m_getf 26 foX5_15 dX5_placeAfter_23 rfl (by first | rfl | assumption) (by rfl) ?_
  refine i_const 27 dX5_placeAfter_26 rfl ?_
  refine i_icmp_ne 30 46 ⟨by omega, by omega⟩ ⟨by omega, by omega⟩ dX5_placeAfter_27 rfl (by decide) (fun q27 => ?_) (fun q27 => ?_)
  · have ht3 := ht.2.2 q27
    refine m_iload_n 47 dX5_placeAfter_46 rfl rfl ?_
    refine i_const 48 dX5_placeAfter_47 rfl ?_
    refine i_andP 49 dX5_placeAfter_48 rfl (by omega) ⟨by omega, by omega⟩ ?_
    refine i_if_eq 52 56 ⟨by omega, by omega⟩ dX5_placeAfter_49 rfl (by decide) (fun q49 => ?_) (fun q49 => ?_)
    · refine i_const 57 dX5_placeAfter_56 rfl ?_
      refine m_istore 59 dX5_placeAfter_57 rfl (by decide) ?_
      refine m_iload 61 dX5_placeAfter_59 rfl rfl ?_
      refine i_if_eq 64 69 ⟨by omega, by omega⟩ dX5_placeAfter_61 rfl (by decide) (fun _ => ?_) (fun h => absurd h (by decide))
      refine m_iload_n 70 dX5_placeAfter_69 rfl rfl ?_
      refine m_istore 72 dX5_placeAfter_70 rfl (by decide) ?_
      refine m_iload 74 dX5_placeAfter_72 rfl rfl ?_
      refine i_if_eq 77 81 ⟨by omega, by omega⟩ dX5_placeAfter_74 rfl (by decide) (fun _ => ?_) (fun h => absurd h (by decide))
      refine m_iload 83 dX5_placeAfter_81 rfl rfl ?_
      refine m_istore 85 dX5_placeAfter_83 rfl (by decide) ?_
      refine m_iload_n 86 dX5_placeAfter_85 rfl rfl ?_
      refine i_const 87 dX5_placeAfter_86 rfl ?_
      refine i_and 88 1 dX5_placeAfter_87 rfl ⟨by omega, by omega⟩ (by decide) ?_
      refine i_if_eq 91 106 ⟨by omega, by omega⟩ dX5_placeAfter_88 rfl (by decide) (fun q88 => ?_) (fun q88 => ?_)
      · refine m_iload 108 dX5_placeAfter_106 rfl rfl ?_
        refine m_istore 110 dX5_placeAfter_108 rfl (by decide) ?_
        refine m_iload_n 111 dX5_placeAfter_110 rfl rfl ?_
        refine i_const 112 dX5_placeAfter_111 rfl ?_
        refine i_andP 113 dX5_placeAfter_112 rfl (by omega) ⟨by omega, by omega⟩ ?_
        refine i_if_eq 116 131 ⟨by omega, by omega⟩ dX5_placeAfter_113 rfl (by decide) (fun q113 => ?_) (fun q113 => ?_)
        · refine m_iload 133 dX5_placeAfter_131 rfl rfl ?_
          refine m_istore 135 dX5_placeAfter_133 rfl (by decide) ?_
          refine m_aload_n 136 dX5_placeAfter_135 rfl rfl ?_
          refine m_getf 139 foX5_9 dX5_placeAfter_136 rfl (by first | rfl | assumption) (by rfl) ?_
          refine m_iload 141 dX5_placeAfter_139 rfl rfl ?_
          refine m_iload 143 dX5_placeAfter_141 rfl rfl ?_
          refine m_cV (M' := MX1_placeAt) 146 [_, _] kX5_41 imX1_placeAt seX1_placeAt clX1_placeAt dX5_placeAfter_143 rfl rfl rfl (by first | rfl | assumption) (m_rmI (by omega) (Nat.le_of_ble_eq_true rfl) (Nat.le_refl _) (Nat.le_refl _)) (c_X1_placeAt hG d h2 hFF ⟨by omega, by omega⟩ ⟨by omega, by omega⟩) ?_
          refine i_ret _ dX5_placeAfter_146 rfl ⟨Nat.le_refl _, Nat.le_refl _⟩ ?_ ⟨rfl, rfl⟩
          unfold trn; first | (rw [if_pos q27]) | (rw [if_neg q27]; congr 1 <;> (repeat' split) <;> omega)
        · refine m_aload_n 117 dX5_placeAfter_116 rfl rfl ?_
          refine m_getf 120 foX5_9 dX5_placeAfter_117 rfl (by first | rfl | assumption) (by rfl) ?_
          refine m_getf 123 foX5_27 dX5_placeAfter_120 rfl (by first | rfl | assumption) (by rfl) ?_
          refine i_const 124 dX5_placeAfter_123 rfl ?_
          refine i_sub 125 dX5_placeAfter_124 rfl ?_
          refine m_iload 127 dX5_placeAfter_125 rfl rfl ?_
          refine i_sub 128 dX5_placeAfter_127 rfl ?_
          refine m_goto 133 dX5_placeAfter_128 (by decide) ?_
          refine m_istore 135 dX5_placeAfter_133 rfl (by decide) ?_
          refine m_aload_n 136 dX5_placeAfter_135 rfl rfl ?_
          refine m_getf 139 foX5_9 dX5_placeAfter_136 rfl (by first | rfl | assumption) (by rfl) ?_
          refine m_iload 141 dX5_placeAfter_139 rfl rfl ?_
          refine m_iload 143 dX5_placeAfter_141 rfl rfl ?_
          refine m_cV (M' := MX1_placeAt) 146 [_, _] kX5_41 imX1_placeAt seX1_placeAt clX1_placeAt dX5_placeAfter_143 rfl rfl rfl (by first | rfl | assumption) (m_rmI (by omega) (Nat.le_of_ble_eq_true rfl) (Nat.le_refl _) (Nat.le_refl _)) (c_X1_placeAt hG d h2 hFF ⟨by omega, by omega⟩ ⟨by omega, by omega⟩) ?_
          refine i_ret _ dX5_placeAfter_146 rfl ⟨Nat.le_refl _, Nat.le_refl _⟩ ?_ ⟨rfl, rfl⟩
          unfold trn; first | (rw [if_pos q27]) | (rw [if_neg q27]; congr 1 <;> (repeat' split) <;> omega)
      · refine m_aload_n 92 dX5_placeAfter_91 rfl rfl ?_
        refine m_getf 95 foX5_9 dX5_placeAfter_92 rfl (by first | rfl | assumption) (by rfl) ?_
        refine m_getf 98 foX5_24 dX5_placeAfter_95 rfl (by first | rfl | assumption) (by rfl) ?_
        refine i_const 99 dX5_placeAfter_98 rfl ?_
        refine i_sub 100 dX5_placeAfter_99 rfl ?_
        refine m_iload 102 dX5_placeAfter_100 rfl rfl ?_
        refine i_sub 103 dX5_placeAfter_102 rfl ?_
        refine m_goto 108 dX5_placeAfter_103 (by decide) ?_
        refine m_istore 110 dX5_placeAfter_108 rfl (by decide) ?_
        refine m_iload_n 111 dX5_placeAfter_110 rfl rfl ?_
        refine i_const 112 dX5_placeAfter_111 rfl ?_
        refine i_andP 113 dX5_placeAfter_112 rfl (by omega) ⟨by omega, by omega⟩ ?_
        refine i_if_eq 116 131 ⟨by omega, by omega⟩ dX5_placeAfter_113 rfl (by decide) (fun q113 => ?_) (fun q113 => ?_)
        · refine m_iload 133 dX5_placeAfter_131 rfl rfl ?_
          refine m_istore 135 dX5_placeAfter_133 rfl (by decide) ?_
          refine m_aload_n 136 dX5_placeAfter_135 rfl rfl ?_
          refine m_getf 139 foX5_9 dX5_placeAfter_136 rfl (by first | rfl | assumption) (by rfl) ?_
          refine m_iload 141 dX5_placeAfter_139 rfl rfl ?_
          refine m_iload 143 dX5_placeAfter_141 rfl rfl ?_
          refine m_cV (M' := MX1_placeAt) 146 [_, _] kX5_41 imX1_placeAt seX1_placeAt clX1_placeAt dX5_placeAfter_143 rfl rfl rfl (by first | rfl | assumption) (m_rmI (by omega) (Nat.le_of_ble_eq_true rfl) (Nat.le_refl _) (Nat.le_refl _)) (c_X1_placeAt hG d h2 hFF ⟨by omega, by omega⟩ ⟨by omega, by omega⟩) ?_
          refine i_ret _ dX5_placeAfter_146 rfl ⟨Nat.le_refl _, Nat.le_refl _⟩ ?_ ⟨rfl, rfl⟩
          unfold trn; first | (rw [if_pos q27]) | (rw [if_neg q27]; congr 1 <;> (repeat' split) <;> omega)
        · refine m_aload_n 117 dX5_placeAfter_116 rfl rfl ?_
          refine m_getf 120 foX5_9 dX5_placeAfter_117 rfl (by first | rfl | assumption) (by rfl) ?_
          refine m_getf 123 foX5_27 dX5_placeAfter_120 rfl (by first | rfl | assumption) (by rfl) ?_
          refine i_const 124 dX5_placeAfter_123 rfl ?_
          refine i_sub 125 dX5_placeAfter_124 rfl ?_
          refine m_iload 127 dX5_placeAfter_125 rfl rfl ?_
          refine i_sub 128 dX5_placeAfter_127 rfl ?_
          refine m_goto 133 dX5_placeAfter_128 (by decide) ?_
          refine m_istore 135 dX5_placeAfter_133 rfl (by decide) ?_
          refine m_aload_n 136 dX5_placeAfter_135 rfl rfl ?_
          refine m_getf 139 foX5_9 dX5_placeAfter_136 rfl (by first | rfl | assumption) (by rfl) ?_
          refine m_iload 141 dX5_placeAfter_139 rfl rfl ?_
          refine m_iload 143 dX5_placeAfter_141 rfl rfl ?_
          refine m_cV (M' := MX1_placeAt) 146 [_, _] kX5_41 imX1_placeAt seX1_placeAt clX1_placeAt dX5_placeAfter_143 rfl rfl rfl (by first | rfl | assumption) (m_rmI (by omega) (Nat.le_of_ble_eq_true rfl) (Nat.le_refl _) (Nat.le_refl _)) (c_X1_placeAt hG d h2 hFF ⟨by omega, by omega⟩ ⟨by omega, by omega⟩) ?_
          refine i_ret _ dX5_placeAfter_146 rfl ⟨Nat.le_refl _, Nat.le_refl _⟩ ?_ ⟨rfl, rfl⟩
          unfold trn; first | (rw [if_pos q27]) | (rw [if_neg q27]; congr 1 <;> (repeat' split) <;> omega)
    · refine i_const 53 dX5_placeAfter_52 rfl ?_
      refine m_goto 57 dX5_placeAfter_53 (by decide) ?_
      refine m_istore 59 dX5_placeAfter_57 rfl (by decide) ?_
      refine m_iload 61 dX5_placeAfter_59 rfl rfl ?_
      refine i_if_eq 64 69 ⟨by omega, by omega⟩ dX5_placeAfter_61 rfl (by decide) (fun h => absurd h (by decide)) (fun _ => ?_)
      refine m_iload 66 dX5_placeAfter_64 rfl rfl ?_
      refine m_goto 70 dX5_placeAfter_66 (by decide) ?_
      refine m_istore 72 dX5_placeAfter_70 rfl (by decide) ?_
      refine m_iload 74 dX5_placeAfter_72 rfl rfl ?_
      refine i_if_eq 77 81 ⟨by omega, by omega⟩ dX5_placeAfter_74 rfl (by decide) (fun h => absurd h (by decide)) (fun _ => ?_)
      refine m_iload_n 78 dX5_placeAfter_77 rfl rfl ?_
      refine m_goto 83 dX5_placeAfter_78 (by decide) ?_
      refine m_istore 85 dX5_placeAfter_83 rfl (by decide) ?_
      refine m_iload_n 86 dX5_placeAfter_85 rfl rfl ?_
      refine i_const 87 dX5_placeAfter_86 rfl ?_
      refine i_and 88 1 dX5_placeAfter_87 rfl ⟨by omega, by omega⟩ (by decide) ?_
      refine i_if_eq 91 106 ⟨by omega, by omega⟩ dX5_placeAfter_88 rfl (by decide) (fun q88 => ?_) (fun q88 => ?_)
      · refine m_iload 108 dX5_placeAfter_106 rfl rfl ?_
        refine m_istore 110 dX5_placeAfter_108 rfl (by decide) ?_
        refine m_iload_n 111 dX5_placeAfter_110 rfl rfl ?_
        refine i_const 112 dX5_placeAfter_111 rfl ?_
        refine i_andP 113 dX5_placeAfter_112 rfl (by omega) ⟨by omega, by omega⟩ ?_
        refine i_if_eq 116 131 ⟨by omega, by omega⟩ dX5_placeAfter_113 rfl (by decide) (fun q113 => ?_) (fun q113 => ?_)
        · refine m_iload 133 dX5_placeAfter_131 rfl rfl ?_
          refine m_istore 135 dX5_placeAfter_133 rfl (by decide) ?_
          refine m_aload_n 136 dX5_placeAfter_135 rfl rfl ?_
          refine m_getf 139 foX5_9 dX5_placeAfter_136 rfl (by first | rfl | assumption) (by rfl) ?_
          refine m_iload 141 dX5_placeAfter_139 rfl rfl ?_
          refine m_iload 143 dX5_placeAfter_141 rfl rfl ?_
          refine m_cV (M' := MX1_placeAt) 146 [_, _] kX5_41 imX1_placeAt seX1_placeAt clX1_placeAt dX5_placeAfter_143 rfl rfl rfl (by first | rfl | assumption) (m_rmI (by omega) (Nat.le_of_ble_eq_true rfl) (Nat.le_refl _) (Nat.le_refl _)) (c_X1_placeAt hG d h2 hFF ⟨by omega, by omega⟩ ⟨by omega, by omega⟩) ?_
          refine i_ret _ dX5_placeAfter_146 rfl ⟨Nat.le_refl _, Nat.le_refl _⟩ ?_ ⟨rfl, rfl⟩
          unfold trn; first | (rw [if_pos q27]) | (rw [if_neg q27]; congr 1 <;> (repeat' split) <;> omega)
        · refine m_aload_n 117 dX5_placeAfter_116 rfl rfl ?_
          refine m_getf 120 foX5_9 dX5_placeAfter_117 rfl (by first | rfl | assumption) (by rfl) ?_
          refine m_getf 123 foX5_27 dX5_placeAfter_120 rfl (by first | rfl | assumption) (by rfl) ?_
          refine i_const 124 dX5_placeAfter_123 rfl ?_
          refine i_sub 125 dX5_placeAfter_124 rfl ?_
          refine m_iload 127 dX5_placeAfter_125 rfl rfl ?_
          refine i_sub 128 dX5_placeAfter_127 rfl ?_
          refine m_goto 133 dX5_placeAfter_128 (by decide) ?_
          refine m_istore 135 dX5_placeAfter_133 rfl (by decide) ?_
          refine m_aload_n 136 dX5_placeAfter_135 rfl rfl ?_
          refine m_getf 139 foX5_9 dX5_placeAfter_136 rfl (by first | rfl | assumption) (by rfl) ?_
          refine m_iload 141 dX5_placeAfter_139 rfl rfl ?_
          refine m_iload 143 dX5_placeAfter_141 rfl rfl ?_
          refine m_cV (M' := MX1_placeAt) 146 [_, _] kX5_41 imX1_placeAt seX1_placeAt clX1_placeAt dX5_placeAfter_143 rfl rfl rfl (by first | rfl | assumption) (m_rmI (by omega) (Nat.le_of_ble_eq_true rfl) (Nat.le_refl _) (Nat.le_refl _)) (c_X1_placeAt hG d h2 hFF ⟨by omega, by omega⟩ ⟨by omega, by omega⟩) ?_
          refine i_ret _ dX5_placeAfter_146 rfl ⟨Nat.le_refl _, Nat.le_refl _⟩ ?_ ⟨rfl, rfl⟩
          unfold trn; first | (rw [if_pos q27]) | (rw [if_neg q27]; congr 1 <;> (repeat' split) <;> omega)
      · refine m_aload_n 92 dX5_placeAfter_91 rfl rfl ?_
        refine m_getf 95 foX5_9 dX5_placeAfter_92 rfl (by first | rfl | assumption) (by rfl) ?_
        refine m_getf 98 foX5_24 dX5_placeAfter_95 rfl (by first | rfl | assumption) (by rfl) ?_
        refine i_const 99 dX5_placeAfter_98 rfl ?_
        refine i_sub 100 dX5_placeAfter_99 rfl ?_
        refine m_iload 102 dX5_placeAfter_100 rfl rfl ?_
        refine i_sub 103 dX5_placeAfter_102 rfl ?_
        refine m_goto 108 dX5_placeAfter_103 (by decide) ?_
        refine m_istore 110 dX5_placeAfter_108 rfl (by decide) ?_
        refine m_iload_n 111 dX5_placeAfter_110 rfl rfl ?_
        refine i_const 112 dX5_placeAfter_111 rfl ?_
        refine i_andP 113 dX5_placeAfter_112 rfl (by omega) ⟨by omega, by omega⟩ ?_
        refine i_if_eq 116 131 ⟨by omega, by omega⟩ dX5_placeAfter_113 rfl (by decide) (fun q113 => ?_) (fun q113 => ?_)
        · refine m_iload 133 dX5_placeAfter_131 rfl rfl ?_
          refine m_istore 135 dX5_placeAfter_133 rfl (by decide) ?_
          refine m_aload_n 136 dX5_placeAfter_135 rfl rfl ?_
          refine m_getf 139 foX5_9 dX5_placeAfter_136 rfl (by first | rfl | assumption) (by rfl) ?_
          refine m_iload 141 dX5_placeAfter_139 rfl rfl ?_
          refine m_iload 143 dX5_placeAfter_141 rfl rfl ?_
          refine m_cV (M' := MX1_placeAt) 146 [_, _] kX5_41 imX1_placeAt seX1_placeAt clX1_placeAt dX5_placeAfter_143 rfl rfl rfl (by first | rfl | assumption) (m_rmI (by omega) (Nat.le_of_ble_eq_true rfl) (Nat.le_refl _) (Nat.le_refl _)) (c_X1_placeAt hG d h2 hFF ⟨by omega, by omega⟩ ⟨by omega, by omega⟩) ?_
          refine i_ret _ dX5_placeAfter_146 rfl ⟨Nat.le_refl _, Nat.le_refl _⟩ ?_ ⟨rfl, rfl⟩
          unfold trn; first | (rw [if_pos q27]) | (rw [if_neg q27]; congr 1 <;> (repeat' split) <;> omega)
        · refine m_aload_n 117 dX5_placeAfter_116 rfl rfl ?_
          refine m_getf 120 foX5_9 dX5_placeAfter_117 rfl (by first | rfl | assumption) (by rfl) ?_
          refine m_getf 123 foX5_27 dX5_placeAfter_120 rfl (by first | rfl | assumption) (by rfl) ?_
          refine i_const 124 dX5_placeAfter_123 rfl ?_
          refine i_sub 125 dX5_placeAfter_124 rfl ?_
          refine m_iload 127 dX5_placeAfter_125 rfl rfl ?_
          refine i_sub 128 dX5_placeAfter_127 rfl ?_
          refine m_goto 133 dX5_placeAfter_128 (by decide) ?_
          refine m_istore 135 dX5_placeAfter_133 rfl (by decide) ?_
          refine m_aload_n 136 dX5_placeAfter_135 rfl rfl ?_
          refine m_getf 139 foX5_9 dX5_placeAfter_136 rfl (by first | rfl | assumption) (by rfl) ?_
          refine m_iload 141 dX5_placeAfter_139 rfl rfl ?_
          refine m_iload 143 dX5_placeAfter_141 rfl rfl ?_
          refine m_cV (M' := MX1_placeAt) 146 [_, _] kX5_41 imX1_placeAt seX1_placeAt clX1_placeAt dX5_placeAfter_143 rfl rfl rfl (by first | rfl | assumption) (m_rmI (by omega) (Nat.le_of_ble_eq_true rfl) (Nat.le_refl _) (Nat.le_refl _)) (c_X1_placeAt hG d h2 hFF ⟨by omega, by omega⟩ ⟨by omega, by omega⟩) ?_
          refine i_ret _ dX5_placeAfter_146 rfl ⟨Nat.le_refl _, Nat.le_refl _⟩ ?_ ⟨rfl, rfl⟩
          unfold trn; first | (rw [if_pos q27]) | (rw [if_neg q27]; congr 1 <;> (repeat' split) <;> omega)
  · have ht2 := ht.2.1 q27
    have hrc : iR (rgC W t (col z.toNat)) := by unfold rgC; constructor <;> (repeat' split) <;> omega
    refine m_aload_n 31 dX5_placeAfter_30 rfl rfl ?_
    refine m_getf 34 foX5_9 dX5_placeAfter_31 rfl (by first | rfl | assumption) (by rfl) ?_
    refine m_aload_n 35 dX5_placeAfter_34 rfl rfl ?_
    refine m_iload_n 36 dX5_placeAfter_35 rfl rfl ?_
    refine m_iload_n 37 dX5_placeAfter_36 rfl rfl ?_
    refine m_cV (M' := MX5_columnAround) 40 [_, _] kX5_37 imX5_columnAround seX5_columnAround clX5_columnAround dX5_placeAfter_37 rfl rfl rfl (by first | rfl | assumption) (m_rmI (by omega) (Nat.le_of_ble_eq_true rfl) (Nat.le_refl _) (Nat.le_refl _)) (c_X5_columnAround hG (d + 1) h8 h2 hFF ⟨by omega, ht.2.1 q27⟩ ⟨by omega, by omega⟩) ?_
    refine m_iload 42 dX5_placeAfter_40 rfl rfl ?_
    refine m_cV (M' := MX1_placeAt) 45 [_, _] kX5_41 imX1_placeAt seX1_placeAt clX1_placeAt dX5_placeAfter_42 rfl rfl rfl (by first | rfl | assumption) (m_rmI (by omega) (Nat.le_of_ble_eq_true rfl) (Nat.le_refl _) (Nat.le_refl _)) (c_X1_placeAt hG d h2 hFF hrc ⟨by omega, by omega⟩) ?_
    refine i_ret _ dX5_placeAfter_45 rfl ⟨Nat.le_refl _, Nat.le_refl _⟩ ?_ ⟨rfl, rfl⟩
    unfold trn; first | (rw [if_pos q27]) | (rw [if_neg q27]; congr 1 <;> (repeat' split) <;> omega)
end TU
