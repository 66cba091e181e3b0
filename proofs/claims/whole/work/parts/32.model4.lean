/-! the model: turns that keep -/
section MR
variable {G : mG} {w : List mC}
set_option maxHeartbeats 4000000 in
set_option maxRecDepth 100000 in
theorem c_X8_turned (hG : m_G G) (d : Nat) {k W H : Int} {n : Nat} (hF : fOK k W H n) {th sz pl so bt : Int} {nb wl ou : Nat → Bool} {ar mk rc ip fd : Nat → Int} (hw : 30 < w.length) {t p : Int} (ht : 0 ≤ t ∧ t < tuN k W H) (hp : 0 ≤ p ∧ p < n) : m_Cv G MX8_turned (m_r (d + 1) 0 0) [.ref 22, vI t, vI p] (mw w th k W H sz pl so bt nb wl ar mk rc ou ip fd) (some (vI (TM k W H t p))) (mw w th k W H sz pl so bt nb wl ar mk rc ou ip fd) := by
  have hFF := hF
  have hnb := hF.n
  obtain ⟨hk0, hk4, hW1, hW2, hH1, hH2, hn, hg4⟩ := hF
  have hxy : 0 ≤ p % W ∧ p % W < W ∧ 0 ≤ p / W ∧ p / W < H := ⟨Int.emod_nonneg _ (by omega), Int.emod_lt_of_pos _ (by omega), Int.ediv_nonneg hp.1 (by omega), Int.ediv_lt_of_lt_mul (by omega) (by rw [Int.mul_comm, ← hn]; exact hp.2)⟩
  obtain ⟨ht0, ht3, ht8⟩ := tuR (k := k) (W := W) (H := H) (t := t) ⟨by omega, by omega, by omega, by omega⟩ ht
  have e1 : k = 3 → (if p % W + t / 2 < W then p % W + t / 2 else p % W + t / 2 - W) = (p % W + t / 2) % W := fun h3 => by
    have := ht3 h3
    split
    · exact (Int.emod_eq_of_lt (by omega) (by omega)).symm
    · rw [show p % W + t / 2 = p % W + t / 2 - W + W by omega, Int.add_emod_right]
      rw [show p % W + t / 2 - W + W - W = p % W + t / 2 - W by omega]
      exact (Int.emod_eq_of_lt (by omega) (by omega)).symm
  have e2 : k = 3 → (if t / 2 - p % W < 0 then t / 2 - p % W + W else t / 2 - p % W) = (t / 2 - p % W + W) % W := fun h3 => by
    have := ht3 h3
    split
    · exact (Int.emod_eq_of_lt (by omega) (by omega)).symm
    · rw [Int.add_emod_right]
      exact (Int.emod_eq_of_lt (by omega) (by omega)).symm
  have eb1 : 0 ≤ (p % W + t / 2) % W ∧ (p % W + t / 2) % W < W := ⟨Int.emod_nonneg _ (by omega), Int.emod_lt_of_pos _ (by omega)⟩
  have eb2 : 0 ≤ (t / 2 - p % W + W) % W ∧ (t / 2 - p % W + W) % W < W := ⟨Int.emod_nonneg _ (by omega), Int.emod_lt_of_pos _ (by omega)⟩
  have ht33 : k = 3 → t < 32 := fun h => by have := ht3 h; omega
  have htb : t < 32 := by by_cases h : k = 3 <;> omega
  refine m_enter (L := [some (.ref 22), some (vI t), some (vI p), none, none, none, none, none, none]) (by decide) hG (m_c1 rfl) (Nat.le_of_ble_eq_true rfl) rfl ?_
  refine m_iload_n 1 dX8_turned_0 rfl rfl ?_
  refine m_aload_n 2 dX8_turned_1 rfl rfl ?_
  refine m_getf 5 foX8_44 dX8_turned_2 rfl (mw_22 hw) (by rfl) ?_
  refine i_rem 6 dX8_turned_5 rfl ⟨by omega, by omega, by omega, by omega⟩ ?_
  refine m_istore_n 7 dX8_turned_6 rfl (by decide) ?_
  refine m_iload_n 8 dX8_turned_7 rfl rfl ?_
  refine m_aload_n 9 dX8_turned_8 rfl rfl ?_
  refine m_getf 12 foX8_44 dX8_turned_9 rfl (mw_22 hw) (by rfl) ?_
  refine i_div 13 dX8_turned_12 rfl ⟨by omega, by omega, by omega, by omega⟩ ?_
  refine m_istore 15 dX8_turned_13 rfl (by decide) ?_
  refine m_aload_n 16 dX8_turned_15 rfl rfl ?_
  refine m_getf 19 foX8_40 dX8_turned_16 rfl (mw_22 hw) (by rfl) ?_
  refine i_const 20 dX8_turned_19 rfl ?_
  refine i_icmp_ne 23 64 ⟨by omega, by omega⟩ ⟨by omega, by omega⟩ dX8_turned_20 rfl (by decide) (fun q20 => ?_) (fun q20 => ?_)
  · refine m_iload_n 65 dX8_turned_64 rfl rfl ?_
    refine i_const 66 dX8_turned_65 rfl ?_
    refine i_icmp_ge 69 73 ⟨by omega, by omega⟩ ⟨by omega, by omega⟩ dX8_turned_66 rfl (by decide) (fun q66 => ?_) (fun q66 => ?_)
    · refine m_iload 75 dX8_turned_73 rfl rfl ?_
      refine m_istore 77 dX8_turned_75 rfl (by decide) ?_
      refine m_iload_n 78 dX8_turned_77 rfl rfl ?_
      refine i_const 79 dX8_turned_78 rfl ?_
      refine i_icmp_ge 82 87 ⟨by omega, by omega⟩ ⟨by omega, by omega⟩ dX8_turned_79 rfl (by decide) (fun q79 => ?_) (fun q79 => ?_)
      · refine m_iload_n 88 dX8_turned_87 rfl rfl ?_
        refine m_istore 90 dX8_turned_88 rfl (by decide) ?_
        refine m_iload_n 91 dX8_turned_90 rfl rfl ?_
        refine i_const 92 dX8_turned_91 rfl ?_
        refine i_rem 93 dX8_turned_92 rfl ⟨by omega, by omega, by omega, by omega⟩ ?_
        refine i_const 94 dX8_turned_93 rfl ?_
        refine i_icmp_ne 97 101 ⟨by omega, by omega⟩ ⟨by omega, by omega⟩ dX8_turned_94 rfl (by decide) (fun q94 => ?_) (fun q94 => ?_)
        · refine i_const 102 dX8_turned_101 rfl ?_
          refine m_istore 104 dX8_turned_102 rfl (by decide) ?_
          refine m_iload_n 105 dX8_turned_104 rfl rfl ?_
          refine i_const 106 dX8_turned_105 rfl ?_
          refine i_rem 107 dX8_turned_106 rfl ⟨by omega, by omega, by omega, by omega⟩ ?_
          refine i_const 108 dX8_turned_107 rfl ?_
          refine i_icmp_le 111 115 ⟨by omega, by omega⟩ ⟨by omega, by omega⟩ dX8_turned_108 rfl (by decide) (fun q108 => ?_) (fun q108 => ?_)
          · refine i_const 116 dX8_turned_115 rfl ?_
            refine m_istore 118 dX8_turned_116 rfl (by decide) ?_
            refine m_aload_n 119 dX8_turned_118 rfl rfl ?_
            refine m_iload 121 dX8_turned_119 rfl rfl ?_
            refine i_if_eq 124 136 ⟨by omega, by omega⟩ dX8_turned_121 rfl (by decide) (fun _ => ?_) (fun h => absurd h (by decide))
            refine m_iload 138 dX8_turned_136 rfl rfl ?_
            refine m_iload 140 dX8_turned_138 rfl rfl ?_
            refine i_if_eq 143 155 ⟨by omega, by omega⟩ dX8_turned_140 rfl (by decide) (fun _ => ?_) (fun h => absurd h (by decide))
            refine m_iload 157 dX8_turned_155 rfl rfl ?_
            refine m_cV (M' := MX8_at) 160 [_, _] kX8_61 imX8_at seX8_at clX8_at dX8_turned_157 rfl rfl rfl (mw_22 hw) (m_rmI (by omega) (Nat.le_of_ble_eq_true rfl) (Nat.le_refl _) (Nat.le_refl _)) (c_X8_at hG d hFF hw ⟨by omega, by omega⟩ ⟨by omega, by omega⟩) ?_
            refine i_ret _ dX8_turned_160 rfl ⟨Nat.le_refl _, Nat.le_refl _⟩ ?_ ⟨rfl, rfl⟩
            show _ = trn k W H t (p % W) (p / W)
            unfold trn
            first
              | (rw [if_neg (show ¬ k = 3 by omega), if_pos (show (t % 2 = 1) by omega), if_pos (show (1 < t % 4) by omega), if_pos (show (t < 4) by omega), if_pos (show (t < 4) by omega)]; done)
              | (rw [if_neg (show ¬ k = 3 by omega), if_pos (show (t % 2 = 1) by omega), if_neg (show ¬ (1 < t % 4) by omega), if_pos (show (t < 4) by omega), if_pos (show (t < 4) by omega)]; done)
              | (rw [if_neg (show ¬ k = 3 by omega), if_neg (show ¬ (t % 2 = 1) by omega), if_pos (show (1 < t % 4) by omega), if_pos (show (t < 4) by omega), if_pos (show (t < 4) by omega)]; done)
              | (rw [if_neg (show ¬ k = 3 by omega), if_neg (show ¬ (t % 2 = 1) by omega), if_neg (show ¬ (1 < t % 4) by omega), if_pos (show (t < 4) by omega), if_pos (show (t < 4) by omega)]; done)
              | (rw [if_neg (show ¬ k = 3 by omega), if_pos (show (t % 2 = 1) by omega), if_pos (show (1 < t % 4) by omega), if_neg (show ¬ (t < 4) by omega), if_neg (show ¬ (t < 4) by omega)]; done)
              | (rw [if_neg (show ¬ k = 3 by omega), if_pos (show (t % 2 = 1) by omega), if_neg (show ¬ (1 < t % 4) by omega), if_neg (show ¬ (t < 4) by omega), if_neg (show ¬ (t < 4) by omega)]; done)
              | (rw [if_neg (show ¬ k = 3 by omega), if_neg (show ¬ (t % 2 = 1) by omega), if_pos (show (1 < t % 4) by omega), if_neg (show ¬ (t < 4) by omega), if_neg (show ¬ (t < 4) by omega)]; done)
              | (rw [if_neg (show ¬ k = 3 by omega), if_neg (show ¬ (t % 2 = 1) by omega), if_neg (show ¬ (1 < t % 4) by omega), if_neg (show ¬ (t < 4) by omega), if_neg (show ¬ (t < 4) by omega)]; done)
              | (rw [if_pos (show k = 3 by omega)]; unfold rgC; rw [if_pos (show t % 2 = 0 by omega), e1 (by omega)]; done)
              | (rw [if_pos (show k = 3 by omega)]; unfold rgC; rw [if_neg (show ¬ t % 2 = 0 by omega), e2 (by omega)]; done)
              | (exfalso; omega)
          · refine i_const 112 dX8_turned_111 rfl ?_
            refine m_goto 116 dX8_turned_112 (by decide) ?_
            refine m_istore 118 dX8_turned_116 rfl (by decide) ?_
            refine m_aload_n 119 dX8_turned_118 rfl rfl ?_
            refine m_iload 121 dX8_turned_119 rfl rfl ?_
            refine i_if_eq 124 136 ⟨by omega, by omega⟩ dX8_turned_121 rfl (by decide) (fun _ => ?_) (fun h => absurd h (by decide))
            refine m_iload 138 dX8_turned_136 rfl rfl ?_
            refine m_iload 140 dX8_turned_138 rfl rfl ?_
            refine i_if_eq 143 155 ⟨by omega, by omega⟩ dX8_turned_140 rfl (by decide) (fun h => absurd h (by decide)) (fun _ => ?_)
            refine m_aload_n 144 dX8_turned_143 rfl rfl ?_
            refine m_getf 147 foX8_47 dX8_turned_144 rfl (mw_22 hw) (by rfl) ?_
            refine i_const 148 dX8_turned_147 rfl ?_
            refine i_sub 149 dX8_turned_148 rfl ?_
            refine m_iload 151 dX8_turned_149 rfl rfl ?_
            refine i_sub 152 dX8_turned_151 rfl ?_
            refine m_goto 157 dX8_turned_152 (by decide) ?_
            refine m_cV (M' := MX8_at) 160 [_, _] kX8_61 imX8_at seX8_at clX8_at dX8_turned_157 rfl rfl rfl (mw_22 hw) (m_rmI (by omega) (Nat.le_of_ble_eq_true rfl) (Nat.le_refl _) (Nat.le_refl _)) (c_X8_at hG d hFF hw ⟨by omega, by omega⟩ ⟨by omega, by omega⟩) ?_
            refine i_ret _ dX8_turned_160 rfl ⟨Nat.le_refl _, Nat.le_refl _⟩ ?_ ⟨rfl, rfl⟩
            show _ = trn k W H t (p % W) (p / W)
            unfold trn
            first
              | (rw [if_neg (show ¬ k = 3 by omega), if_pos (show (t % 2 = 1) by omega), if_pos (show (1 < t % 4) by omega), if_pos (show (t < 4) by omega), if_pos (show (t < 4) by omega)]; done)
              | (rw [if_neg (show ¬ k = 3 by omega), if_pos (show (t % 2 = 1) by omega), if_neg (show ¬ (1 < t % 4) by omega), if_pos (show (t < 4) by omega), if_pos (show (t < 4) by omega)]; done)
              | (rw [if_neg (show ¬ k = 3 by omega), if_neg (show ¬ (t % 2 = 1) by omega), if_pos (show (1 < t % 4) by omega), if_pos (show (t < 4) by omega), if_pos (show (t < 4) by omega)]; done)
              | (rw [if_neg (show ¬ k = 3 by omega), if_neg (show ¬ (t % 2 = 1) by omega), if_neg (show ¬ (1 < t % 4) by omega), if_pos (show (t < 4) by omega), if_pos (show (t < 4) by omega)]; done)
              | (rw [if_neg (show ¬ k = 3 by omega), if_pos (show (t % 2 = 1) by omega), if_pos (show (1 < t % 4) by omega), if_neg (show ¬ (t < 4) by omega), if_neg (show ¬ (t < 4) by omega)]; done)
              | (rw [if_neg (show ¬ k = 3 by omega), if_pos (show (t % 2 = 1) by omega), if_neg (show ¬ (1 < t % 4) by omega), if_neg (show ¬ (t < 4) by omega), if_neg (show ¬ (t < 4) by omega)]; done)
              | (rw [if_neg (show ¬ k = 3 by omega), if_neg (show ¬ (t % 2 = 1) by omega), if_pos (show (1 < t % 4) by omega), if_neg (show ¬ (t < 4) by omega), if_neg (show ¬ (t < 4) by omega)]; done)
              | (rw [if_neg (show ¬ k = 3 by omega), if_neg (show ¬ (t % 2 = 1) by omega), if_neg (show ¬ (1 < t % 4) by omega), if_neg (show ¬ (t < 4) by omega), if_neg (show ¬ (t < 4) by omega)]; done)
              | (rw [if_pos (show k = 3 by omega)]; unfold rgC; rw [if_pos (show t % 2 = 0 by omega), e1 (by omega)]; done)
              | (rw [if_pos (show k = 3 by omega)]; unfold rgC; rw [if_neg (show ¬ t % 2 = 0 by omega), e2 (by omega)]; done)
              | (exfalso; omega)
        · refine i_const 98 dX8_turned_97 rfl ?_
          refine m_goto 102 dX8_turned_98 (by decide) ?_
          refine m_istore 104 dX8_turned_102 rfl (by decide) ?_
          refine m_iload_n 105 dX8_turned_104 rfl rfl ?_
          refine i_const 106 dX8_turned_105 rfl ?_
          refine i_rem 107 dX8_turned_106 rfl ⟨by omega, by omega, by omega, by omega⟩ ?_
          refine i_const 108 dX8_turned_107 rfl ?_
          refine i_icmp_le 111 115 ⟨by omega, by omega⟩ ⟨by omega, by omega⟩ dX8_turned_108 rfl (by decide) (fun q108 => ?_) (fun q108 => ?_)
          · refine i_const 116 dX8_turned_115 rfl ?_
            refine m_istore 118 dX8_turned_116 rfl (by decide) ?_
            refine m_aload_n 119 dX8_turned_118 rfl rfl ?_
            refine m_iload 121 dX8_turned_119 rfl rfl ?_
            refine i_if_eq 124 136 ⟨by omega, by omega⟩ dX8_turned_121 rfl (by decide) (fun h => absurd h (by decide)) (fun _ => ?_)
            refine m_aload_n 125 dX8_turned_124 rfl rfl ?_
            refine m_getf 128 foX8_44 dX8_turned_125 rfl (mw_22 hw) (by rfl) ?_
            refine i_const 129 dX8_turned_128 rfl ?_
            refine i_sub 130 dX8_turned_129 rfl ?_
            refine m_iload 132 dX8_turned_130 rfl rfl ?_
            refine i_sub 133 dX8_turned_132 rfl ?_
            refine m_goto 138 dX8_turned_133 (by decide) ?_
            refine m_iload 140 dX8_turned_138 rfl rfl ?_
            refine i_if_eq 143 155 ⟨by omega, by omega⟩ dX8_turned_140 rfl (by decide) (fun _ => ?_) (fun h => absurd h (by decide))
            refine m_iload 157 dX8_turned_155 rfl rfl ?_
            refine m_cV (M' := MX8_at) 160 [_, _] kX8_61 imX8_at seX8_at clX8_at dX8_turned_157 rfl rfl rfl (mw_22 hw) (m_rmI (by omega) (Nat.le_of_ble_eq_true rfl) (Nat.le_refl _) (Nat.le_refl _)) (c_X8_at hG d hFF hw ⟨by omega, by omega⟩ ⟨by omega, by omega⟩) ?_
            refine i_ret _ dX8_turned_160 rfl ⟨Nat.le_refl _, Nat.le_refl _⟩ ?_ ⟨rfl, rfl⟩
            show _ = trn k W H t (p % W) (p / W)
            unfold trn
            first
              | (rw [if_neg (show ¬ k = 3 by omega), if_pos (show (t % 2 = 1) by omega), if_pos (show (1 < t % 4) by omega), if_pos (show (t < 4) by omega), if_pos (show (t < 4) by omega)]; done)
              | (rw [if_neg (show ¬ k = 3 by omega), if_pos (show (t % 2 = 1) by omega), if_neg (show ¬ (1 < t % 4) by omega), if_pos (show (t < 4) by omega), if_pos (show (t < 4) by omega)]; done)
              | (rw [if_neg (show ¬ k = 3 by omega), if_neg (show ¬ (t % 2 = 1) by omega), if_pos (show (1 < t % 4) by omega), if_pos (show (t < 4) by omega), if_pos (show (t < 4) by omega)]; done)
              | (rw [if_neg (show ¬ k = 3 by omega), if_neg (show ¬ (t % 2 = 1) by omega), if_neg (show ¬ (1 < t % 4) by omega), if_pos (show (t < 4) by omega), if_pos (show (t < 4) by omega)]; done)
              | (rw [if_neg (show ¬ k = 3 by omega), if_pos (show (t % 2 = 1) by omega), if_pos (show (1 < t % 4) by omega), if_neg (show ¬ (t < 4) by omega), if_neg (show ¬ (t < 4) by omega)]; done)
              | (rw [if_neg (show ¬ k = 3 by omega), if_pos (show (t % 2 = 1) by omega), if_neg (show ¬ (1 < t % 4) by omega), if_neg (show ¬ (t < 4) by omega), if_neg (show ¬ (t < 4) by omega)]; done)
              | (rw [if_neg (show ¬ k = 3 by omega), if_neg (show ¬ (t % 2 = 1) by omega), if_pos (show (1 < t % 4) by omega), if_neg (show ¬ (t < 4) by omega), if_neg (show ¬ (t < 4) by omega)]; done)
              | (rw [if_neg (show ¬ k = 3 by omega), if_neg (show ¬ (t % 2 = 1) by omega), if_neg (show ¬ (1 < t % 4) by omega), if_neg (show ¬ (t < 4) by omega), if_neg (show ¬ (t < 4) by omega)]; done)
              | (rw [if_pos (show k = 3 by omega)]; unfold rgC; rw [if_pos (show t % 2 = 0 by omega), e1 (by omega)]; done)
              | (rw [if_pos (show k = 3 by omega)]; unfold rgC; rw [if_neg (show ¬ t % 2 = 0 by omega), e2 (by omega)]; done)
              | (exfalso; omega)
          · refine i_const 112 dX8_turned_111 rfl ?_
            refine m_goto 116 dX8_turned_112 (by decide) ?_
            refine m_istore 118 dX8_turned_116 rfl (by decide) ?_
            refine m_aload_n 119 dX8_turned_118 rfl rfl ?_
            refine m_iload 121 dX8_turned_119 rfl rfl ?_
            refine i_if_eq 124 136 ⟨by omega, by omega⟩ dX8_turned_121 rfl (by decide) (fun h => absurd h (by decide)) (fun _ => ?_)
            refine m_aload_n 125 dX8_turned_124 rfl rfl ?_
            refine m_getf 128 foX8_44 dX8_turned_125 rfl (mw_22 hw) (by rfl) ?_
            refine i_const 129 dX8_turned_128 rfl ?_
            refine i_sub 130 dX8_turned_129 rfl ?_
            refine m_iload 132 dX8_turned_130 rfl rfl ?_
            refine i_sub 133 dX8_turned_132 rfl ?_
            refine m_goto 138 dX8_turned_133 (by decide) ?_
            refine m_iload 140 dX8_turned_138 rfl rfl ?_
            refine i_if_eq 143 155 ⟨by omega, by omega⟩ dX8_turned_140 rfl (by decide) (fun h => absurd h (by decide)) (fun _ => ?_)
            refine m_aload_n 144 dX8_turned_143 rfl rfl ?_
            refine m_getf 147 foX8_47 dX8_turned_144 rfl (mw_22 hw) (by rfl) ?_
            refine i_const 148 dX8_turned_147 rfl ?_
            refine i_sub 149 dX8_turned_148 rfl ?_
            refine m_iload 151 dX8_turned_149 rfl rfl ?_
            refine i_sub 152 dX8_turned_151 rfl ?_
            refine m_goto 157 dX8_turned_152 (by decide) ?_
            refine m_cV (M' := MX8_at) 160 [_, _] kX8_61 imX8_at seX8_at clX8_at dX8_turned_157 rfl rfl rfl (mw_22 hw) (m_rmI (by omega) (Nat.le_of_ble_eq_true rfl) (Nat.le_refl _) (Nat.le_refl _)) (c_X8_at hG d hFF hw ⟨by omega, by omega⟩ ⟨by omega, by omega⟩) ?_
            refine i_ret _ dX8_turned_160 rfl ⟨Nat.le_refl _, Nat.le_refl _⟩ ?_ ⟨rfl, rfl⟩
            show _ = trn k W H t (p % W) (p / W)
            unfold trn
            first
              | (rw [if_neg (show ¬ k = 3 by omega), if_pos (show (t % 2 = 1) by omega), if_pos (show (1 < t % 4) by omega), if_pos (show (t < 4) by omega), if_pos (show (t < 4) by omega)]; done)
              | (rw [if_neg (show ¬ k = 3 by omega), if_pos (show (t % 2 = 1) by omega), if_neg (show ¬ (1 < t % 4) by omega), if_pos (show (t < 4) by omega), if_pos (show (t < 4) by omega)]; done)
              | (rw [if_neg (show ¬ k = 3 by omega), if_neg (show ¬ (t % 2 = 1) by omega), if_pos (show (1 < t % 4) by omega), if_pos (show (t < 4) by omega), if_pos (show (t < 4) by omega)]; done)
              | (rw [if_neg (show ¬ k = 3 by omega), if_neg (show ¬ (t % 2 = 1) by omega), if_neg (show ¬ (1 < t % 4) by omega), if_pos (show (t < 4) by omega), if_pos (show (t < 4) by omega)]; done)
              | (rw [if_neg (show ¬ k = 3 by omega), if_pos (show (t % 2 = 1) by omega), if_pos (show (1 < t % 4) by omega), if_neg (show ¬ (t < 4) by omega), if_neg (show ¬ (t < 4) by omega)]; done)
              | (rw [if_neg (show ¬ k = 3 by omega), if_pos (show (t % 2 = 1) by omega), if_neg (show ¬ (1 < t % 4) by omega), if_neg (show ¬ (t < 4) by omega), if_neg (show ¬ (t < 4) by omega)]; done)
              | (rw [if_neg (show ¬ k = 3 by omega), if_neg (show ¬ (t % 2 = 1) by omega), if_pos (show (1 < t % 4) by omega), if_neg (show ¬ (t < 4) by omega), if_neg (show ¬ (t < 4) by omega)]; done)
              | (rw [if_neg (show ¬ k = 3 by omega), if_neg (show ¬ (t % 2 = 1) by omega), if_neg (show ¬ (1 < t % 4) by omega), if_neg (show ¬ (t < 4) by omega), if_neg (show ¬ (t < 4) by omega)]; done)
              | (rw [if_pos (show k = 3 by omega)]; unfold rgC; rw [if_pos (show t % 2 = 0 by omega), e1 (by omega)]; done)
              | (rw [if_pos (show k = 3 by omega)]; unfold rgC; rw [if_neg (show ¬ t % 2 = 0 by omega), e2 (by omega)]; done)
              | (exfalso; omega)
      · refine m_iload 84 dX8_turned_82 rfl rfl ?_
        refine m_goto 88 dX8_turned_84 (by decide) ?_
        refine m_istore 90 dX8_turned_88 rfl (by decide) ?_
        refine m_iload_n 91 dX8_turned_90 rfl rfl ?_
        refine i_const 92 dX8_turned_91 rfl ?_
        refine i_rem 93 dX8_turned_92 rfl ⟨by omega, by omega, by omega, by omega⟩ ?_
        refine i_const 94 dX8_turned_93 rfl ?_
        refine i_icmp_ne 97 101 ⟨by omega, by omega⟩ ⟨by omega, by omega⟩ dX8_turned_94 rfl (by decide) (fun q94 => ?_) (fun q94 => ?_)
        · refine i_const 102 dX8_turned_101 rfl ?_
          refine m_istore 104 dX8_turned_102 rfl (by decide) ?_
          refine m_iload_n 105 dX8_turned_104 rfl rfl ?_
          refine i_const 106 dX8_turned_105 rfl ?_
          refine i_rem 107 dX8_turned_106 rfl ⟨by omega, by omega, by omega, by omega⟩ ?_
          refine i_const 108 dX8_turned_107 rfl ?_
          refine i_icmp_le 111 115 ⟨by omega, by omega⟩ ⟨by omega, by omega⟩ dX8_turned_108 rfl (by decide) (fun q108 => ?_) (fun q108 => ?_)
          · refine i_const 116 dX8_turned_115 rfl ?_
            refine m_istore 118 dX8_turned_116 rfl (by decide) ?_
            refine m_aload_n 119 dX8_turned_118 rfl rfl ?_
            refine m_iload 121 dX8_turned_119 rfl rfl ?_
            refine i_if_eq 124 136 ⟨by omega, by omega⟩ dX8_turned_121 rfl (by decide) (fun _ => ?_) (fun h => absurd h (by decide))
            refine m_iload 138 dX8_turned_136 rfl rfl ?_
            refine m_iload 140 dX8_turned_138 rfl rfl ?_
            refine i_if_eq 143 155 ⟨by omega, by omega⟩ dX8_turned_140 rfl (by decide) (fun _ => ?_) (fun h => absurd h (by decide))
            refine m_iload 157 dX8_turned_155 rfl rfl ?_
            refine m_cV (M' := MX8_at) 160 [_, _] kX8_61 imX8_at seX8_at clX8_at dX8_turned_157 rfl rfl rfl (mw_22 hw) (m_rmI (by omega) (Nat.le_of_ble_eq_true rfl) (Nat.le_refl _) (Nat.le_refl _)) (c_X8_at hG d hFF hw ⟨by omega, by omega⟩ ⟨by omega, by omega⟩) ?_
            refine i_ret _ dX8_turned_160 rfl ⟨Nat.le_refl _, Nat.le_refl _⟩ ?_ ⟨rfl, rfl⟩
            show _ = trn k W H t (p % W) (p / W)
            unfold trn
            first
              | (rw [if_neg (show ¬ k = 3 by omega), if_pos (show (t % 2 = 1) by omega), if_pos (show (1 < t % 4) by omega), if_pos (show (t < 4) by omega), if_pos (show (t < 4) by omega)]; done)
              | (rw [if_neg (show ¬ k = 3 by omega), if_pos (show (t % 2 = 1) by omega), if_neg (show ¬ (1 < t % 4) by omega), if_pos (show (t < 4) by omega), if_pos (show (t < 4) by omega)]; done)
              | (rw [if_neg (show ¬ k = 3 by omega), if_neg (show ¬ (t % 2 = 1) by omega), if_pos (show (1 < t % 4) by omega), if_pos (show (t < 4) by omega), if_pos (show (t < 4) by omega)]; done)
              | (rw [if_neg (show ¬ k = 3 by omega), if_neg (show ¬ (t % 2 = 1) by omega), if_neg (show ¬ (1 < t % 4) by omega), if_pos (show (t < 4) by omega), if_pos (show (t < 4) by omega)]; done)
              | (rw [if_neg (show ¬ k = 3 by omega), if_pos (show (t % 2 = 1) by omega), if_pos (show (1 < t % 4) by omega), if_neg (show ¬ (t < 4) by omega), if_neg (show ¬ (t < 4) by omega)]; done)
              | (rw [if_neg (show ¬ k = 3 by omega), if_pos (show (t % 2 = 1) by omega), if_neg (show ¬ (1 < t % 4) by omega), if_neg (show ¬ (t < 4) by omega), if_neg (show ¬ (t < 4) by omega)]; done)
              | (rw [if_neg (show ¬ k = 3 by omega), if_neg (show ¬ (t % 2 = 1) by omega), if_pos (show (1 < t % 4) by omega), if_neg (show ¬ (t < 4) by omega), if_neg (show ¬ (t < 4) by omega)]; done)
              | (rw [if_neg (show ¬ k = 3 by omega), if_neg (show ¬ (t % 2 = 1) by omega), if_neg (show ¬ (1 < t % 4) by omega), if_neg (show ¬ (t < 4) by omega), if_neg (show ¬ (t < 4) by omega)]; done)
              | (rw [if_pos (show k = 3 by omega)]; unfold rgC; rw [if_pos (show t % 2 = 0 by omega), e1 (by omega)]; done)
              | (rw [if_pos (show k = 3 by omega)]; unfold rgC; rw [if_neg (show ¬ t % 2 = 0 by omega), e2 (by omega)]; done)
              | (exfalso; omega)
          · refine i_const 112 dX8_turned_111 rfl ?_
            refine m_goto 116 dX8_turned_112 (by decide) ?_
            refine m_istore 118 dX8_turned_116 rfl (by decide) ?_
            refine m_aload_n 119 dX8_turned_118 rfl rfl ?_
            refine m_iload 121 dX8_turned_119 rfl rfl ?_
            refine i_if_eq 124 136 ⟨by omega, by omega⟩ dX8_turned_121 rfl (by decide) (fun _ => ?_) (fun h => absurd h (by decide))
            refine m_iload 138 dX8_turned_136 rfl rfl ?_
            refine m_iload 140 dX8_turned_138 rfl rfl ?_
            refine i_if_eq 143 155 ⟨by omega, by omega⟩ dX8_turned_140 rfl (by decide) (fun h => absurd h (by decide)) (fun _ => ?_)
            refine m_aload_n 144 dX8_turned_143 rfl rfl ?_
            refine m_getf 147 foX8_47 dX8_turned_144 rfl (mw_22 hw) (by rfl) ?_
            refine i_const 148 dX8_turned_147 rfl ?_
            refine i_sub 149 dX8_turned_148 rfl ?_
            refine m_iload 151 dX8_turned_149 rfl rfl ?_
            refine i_sub 152 dX8_turned_151 rfl ?_
            refine m_goto 157 dX8_turned_152 (by decide) ?_
            refine m_cV (M' := MX8_at) 160 [_, _] kX8_61 imX8_at seX8_at clX8_at dX8_turned_157 rfl rfl rfl (mw_22 hw) (m_rmI (by omega) (Nat.le_of_ble_eq_true rfl) (Nat.le_refl _) (Nat.le_refl _)) (c_X8_at hG d hFF hw ⟨by omega, by omega⟩ ⟨by omega, by omega⟩) ?_
            refine i_ret _ dX8_turned_160 rfl ⟨Nat.le_refl _, Nat.le_refl _⟩ ?_ ⟨rfl, rfl⟩
            show _ = trn k W H t (p % W) (p / W)
            unfold trn
            first
              | (rw [if_neg (show ¬ k = 3 by omega), if_pos (show (t % 2 = 1) by omega), if_pos (show (1 < t % 4) by omega), if_pos (show (t < 4) by omega), if_pos (show (t < 4) by omega)]; done)
              | (rw [if_neg (show ¬ k = 3 by omega), if_pos (show (t % 2 = 1) by omega), if_neg (show ¬ (1 < t % 4) by omega), if_pos (show (t < 4) by omega), if_pos (show (t < 4) by omega)]; done)
              | (rw [if_neg (show ¬ k = 3 by omega), if_neg (show ¬ (t % 2 = 1) by omega), if_pos (show (1 < t % 4) by omega), if_pos (show (t < 4) by omega), if_pos (show (t < 4) by omega)]; done)
              | (rw [if_neg (show ¬ k = 3 by omega), if_neg (show ¬ (t % 2 = 1) by omega), if_neg (show ¬ (1 < t % 4) by omega), if_pos (show (t < 4) by omega), if_pos (show (t < 4) by omega)]; done)
              | (rw [if_neg (show ¬ k = 3 by omega), if_pos (show (t % 2 = 1) by omega), if_pos (show (1 < t % 4) by omega), if_neg (show ¬ (t < 4) by omega), if_neg (show ¬ (t < 4) by omega)]; done)
              | (rw [if_neg (show ¬ k = 3 by omega), if_pos (show (t % 2 = 1) by omega), if_neg (show ¬ (1 < t % 4) by omega), if_neg (show ¬ (t < 4) by omega), if_neg (show ¬ (t < 4) by omega)]; done)
              | (rw [if_neg (show ¬ k = 3 by omega), if_neg (show ¬ (t % 2 = 1) by omega), if_pos (show (1 < t % 4) by omega), if_neg (show ¬ (t < 4) by omega), if_neg (show ¬ (t < 4) by omega)]; done)
              | (rw [if_neg (show ¬ k = 3 by omega), if_neg (show ¬ (t % 2 = 1) by omega), if_neg (show ¬ (1 < t % 4) by omega), if_neg (show ¬ (t < 4) by omega), if_neg (show ¬ (t < 4) by omega)]; done)
              | (rw [if_pos (show k = 3 by omega)]; unfold rgC; rw [if_pos (show t % 2 = 0 by omega), e1 (by omega)]; done)
              | (rw [if_pos (show k = 3 by omega)]; unfold rgC; rw [if_neg (show ¬ t % 2 = 0 by omega), e2 (by omega)]; done)
              | (exfalso; omega)
        · refine i_const 98 dX8_turned_97 rfl ?_
          refine m_goto 102 dX8_turned_98 (by decide) ?_
          refine m_istore 104 dX8_turned_102 rfl (by decide) ?_
          refine m_iload_n 105 dX8_turned_104 rfl rfl ?_
          refine i_const 106 dX8_turned_105 rfl ?_
          refine i_rem 107 dX8_turned_106 rfl ⟨by omega, by omega, by omega, by omega⟩ ?_
          refine i_const 108 dX8_turned_107 rfl ?_
          refine i_icmp_le 111 115 ⟨by omega, by omega⟩ ⟨by omega, by omega⟩ dX8_turned_108 rfl (by decide) (fun q108 => ?_) (fun q108 => ?_)
          · refine i_const 116 dX8_turned_115 rfl ?_
            refine m_istore 118 dX8_turned_116 rfl (by decide) ?_
            refine m_aload_n 119 dX8_turned_118 rfl rfl ?_
            refine m_iload 121 dX8_turned_119 rfl rfl ?_
            refine i_if_eq 124 136 ⟨by omega, by omega⟩ dX8_turned_121 rfl (by decide) (fun h => absurd h (by decide)) (fun _ => ?_)
            refine m_aload_n 125 dX8_turned_124 rfl rfl ?_
            refine m_getf 128 foX8_44 dX8_turned_125 rfl (mw_22 hw) (by rfl) ?_
            refine i_const 129 dX8_turned_128 rfl ?_
            refine i_sub 130 dX8_turned_129 rfl ?_
            refine m_iload 132 dX8_turned_130 rfl rfl ?_
            refine i_sub 133 dX8_turned_132 rfl ?_
            refine m_goto 138 dX8_turned_133 (by decide) ?_
            refine m_iload 140 dX8_turned_138 rfl rfl ?_
            refine i_if_eq 143 155 ⟨by omega, by omega⟩ dX8_turned_140 rfl (by decide) (fun _ => ?_) (fun h => absurd h (by decide))
            refine m_iload 157 dX8_turned_155 rfl rfl ?_
            refine m_cV (M' := MX8_at) 160 [_, _] kX8_61 imX8_at seX8_at clX8_at dX8_turned_157 rfl rfl rfl (mw_22 hw) (m_rmI (by omega) (Nat.le_of_ble_eq_true rfl) (Nat.le_refl _) (Nat.le_refl _)) (c_X8_at hG d hFF hw ⟨by omega, by omega⟩ ⟨by omega, by omega⟩) ?_
            refine i_ret _ dX8_turned_160 rfl ⟨Nat.le_refl _, Nat.le_refl _⟩ ?_ ⟨rfl, rfl⟩
            show _ = trn k W H t (p % W) (p / W)
            unfold trn
            first
              | (rw [if_neg (show ¬ k = 3 by omega), if_pos (show (t % 2 = 1) by omega), if_pos (show (1 < t % 4) by omega), if_pos (show (t < 4) by omega), if_pos (show (t < 4) by omega)]; done)
              | (rw [if_neg (show ¬ k = 3 by omega), if_pos (show (t % 2 = 1) by omega), if_neg (show ¬ (1 < t % 4) by omega), if_pos (show (t < 4) by omega), if_pos (show (t < 4) by omega)]; done)
              | (rw [if_neg (show ¬ k = 3 by omega), if_neg (show ¬ (t % 2 = 1) by omega), if_pos (show (1 < t % 4) by omega), if_pos (show (t < 4) by omega), if_pos (show (t < 4) by omega)]; done)
              | (rw [if_neg (show ¬ k = 3 by omega), if_neg (show ¬ (t % 2 = 1) by omega), if_neg (show ¬ (1 < t % 4) by omega), if_pos (show (t < 4) by omega), if_pos (show (t < 4) by omega)]; done)
              | (rw [if_neg (show ¬ k = 3 by omega), if_pos (show (t % 2 = 1) by omega), if_pos (show (1 < t % 4) by omega), if_neg (show ¬ (t < 4) by omega), if_neg (show ¬ (t < 4) by omega)]; done)
              | (rw [if_neg (show ¬ k = 3 by omega), if_pos (show (t % 2 = 1) by omega), if_neg (show ¬ (1 < t % 4) by omega), if_neg (show ¬ (t < 4) by omega), if_neg (show ¬ (t < 4) by omega)]; done)
              | (rw [if_neg (show ¬ k = 3 by omega), if_neg (show ¬ (t % 2 = 1) by omega), if_pos (show (1 < t % 4) by omega), if_neg (show ¬ (t < 4) by omega), if_neg (show ¬ (t < 4) by omega)]; done)
              | (rw [if_neg (show ¬ k = 3 by omega), if_neg (show ¬ (t % 2 = 1) by omega), if_neg (show ¬ (1 < t % 4) by omega), if_neg (show ¬ (t < 4) by omega), if_neg (show ¬ (t < 4) by omega)]; done)
              | (rw [if_pos (show k = 3 by omega)]; unfold rgC; rw [if_pos (show t % 2 = 0 by omega), e1 (by omega)]; done)
              | (rw [if_pos (show k = 3 by omega)]; unfold rgC; rw [if_neg (show ¬ t % 2 = 0 by omega), e2 (by omega)]; done)
              | (exfalso; omega)
          · refine i_const 112 dX8_turned_111 rfl ?_
            refine m_goto 116 dX8_turned_112 (by decide) ?_
            refine m_istore 118 dX8_turned_116 rfl (by decide) ?_
            refine m_aload_n 119 dX8_turned_118 rfl rfl ?_
            refine m_iload 121 dX8_turned_119 rfl rfl ?_
            refine i_if_eq 124 136 ⟨by omega, by omega⟩ dX8_turned_121 rfl (by decide) (fun h => absurd h (by decide)) (fun _ => ?_)
            refine m_aload_n 125 dX8_turned_124 rfl rfl ?_
            refine m_getf 128 foX8_44 dX8_turned_125 rfl (mw_22 hw) (by rfl) ?_
            refine i_const 129 dX8_turned_128 rfl ?_
            refine i_sub 130 dX8_turned_129 rfl ?_
            refine m_iload 132 dX8_turned_130 rfl rfl ?_
            refine i_sub 133 dX8_turned_132 rfl ?_
            refine m_goto 138 dX8_turned_133 (by decide) ?_
            refine m_iload 140 dX8_turned_138 rfl rfl ?_
            refine i_if_eq 143 155 ⟨by omega, by omega⟩ dX8_turned_140 rfl (by decide) (fun h => absurd h (by decide)) (fun _ => ?_)
            refine m_aload_n 144 dX8_turned_143 rfl rfl ?_
            refine m_getf 147 foX8_47 dX8_turned_144 rfl (mw_22 hw) (by rfl) ?_
            refine i_const 148 dX8_turned_147 rfl ?_
            refine i_sub 149 dX8_turned_148 rfl ?_
            refine m_iload 151 dX8_turned_149 rfl rfl ?_
            refine i_sub 152 dX8_turned_151 rfl ?_
            refine m_goto 157 dX8_turned_152 (by decide) ?_
            refine m_cV (M' := MX8_at) 160 [_, _] kX8_61 imX8_at seX8_at clX8_at dX8_turned_157 rfl rfl rfl (mw_22 hw) (m_rmI (by omega) (Nat.le_of_ble_eq_true rfl) (Nat.le_refl _) (Nat.le_refl _)) (c_X8_at hG d hFF hw ⟨by omega, by omega⟩ ⟨by omega, by omega⟩) ?_
            refine i_ret _ dX8_turned_160 rfl ⟨Nat.le_refl _, Nat.le_refl _⟩ ?_ ⟨rfl, rfl⟩
            show _ = trn k W H t (p % W) (p / W)
            unfold trn
            first
              | (rw [if_neg (show ¬ k = 3 by omega), if_pos (show (t % 2 = 1) by omega), if_pos (show (1 < t % 4) by omega), if_pos (show (t < 4) by omega), if_pos (show (t < 4) by omega)]; done)
              | (rw [if_neg (show ¬ k = 3 by omega), if_pos (show (t % 2 = 1) by omega), if_neg (show ¬ (1 < t % 4) by omega), if_pos (show (t < 4) by omega), if_pos (show (t < 4) by omega)]; done)
              | (rw [if_neg (show ¬ k = 3 by omega), if_neg (show ¬ (t % 2 = 1) by omega), if_pos (show (1 < t % 4) by omega), if_pos (show (t < 4) by omega), if_pos (show (t < 4) by omega)]; done)
              | (rw [if_neg (show ¬ k = 3 by omega), if_neg (show ¬ (t % 2 = 1) by omega), if_neg (show ¬ (1 < t % 4) by omega), if_pos (show (t < 4) by omega), if_pos (show (t < 4) by omega)]; done)
              | (rw [if_neg (show ¬ k = 3 by omega), if_pos (show (t % 2 = 1) by omega), if_pos (show (1 < t % 4) by omega), if_neg (show ¬ (t < 4) by omega), if_neg (show ¬ (t < 4) by omega)]; done)
              | (rw [if_neg (show ¬ k = 3 by omega), if_pos (show (t % 2 = 1) by omega), if_neg (show ¬ (1 < t % 4) by omega), if_neg (show ¬ (t < 4) by omega), if_neg (show ¬ (t < 4) by omega)]; done)
              | (rw [if_neg (show ¬ k = 3 by omega), if_neg (show ¬ (t % 2 = 1) by omega), if_pos (show (1 < t % 4) by omega), if_neg (show ¬ (t < 4) by omega), if_neg (show ¬ (t < 4) by omega)]; done)
              | (rw [if_neg (show ¬ k = 3 by omega), if_neg (show ¬ (t % 2 = 1) by omega), if_neg (show ¬ (1 < t % 4) by omega), if_neg (show ¬ (t < 4) by omega), if_neg (show ¬ (t < 4) by omega)]; done)
              | (rw [if_pos (show k = 3 by omega)]; unfold rgC; rw [if_pos (show t % 2 = 0 by omega), e1 (by omega)]; done)
              | (rw [if_pos (show k = 3 by omega)]; unfold rgC; rw [if_neg (show ¬ t % 2 = 0 by omega), e2 (by omega)]; done)
              | (exfalso; omega)
    · refine m_iload_n 70 dX8_turned_69 rfl rfl ?_
      refine m_goto 75 dX8_turned_70 (by decide) ?_
      refine m_istore 77 dX8_turned_75 rfl (by decide) ?_
      refine m_iload_n 78 dX8_turned_77 rfl rfl ?_
      refine i_const 79 dX8_turned_78 rfl ?_
      refine i_icmp_ge 82 87 ⟨by omega, by omega⟩ ⟨by omega, by omega⟩ dX8_turned_79 rfl (by decide) (fun q79 => ?_) (fun q79 => ?_)
      · refine m_iload_n 88 dX8_turned_87 rfl rfl ?_
        refine m_istore 90 dX8_turned_88 rfl (by decide) ?_
        refine m_iload_n 91 dX8_turned_90 rfl rfl ?_
        refine i_const 92 dX8_turned_91 rfl ?_
        refine i_rem 93 dX8_turned_92 rfl ⟨by omega, by omega, by omega, by omega⟩ ?_
        refine i_const 94 dX8_turned_93 rfl ?_
        refine i_icmp_ne 97 101 ⟨by omega, by omega⟩ ⟨by omega, by omega⟩ dX8_turned_94 rfl (by decide) (fun q94 => ?_) (fun q94 => ?_)
        · refine i_const 102 dX8_turned_101 rfl ?_
          refine m_istore 104 dX8_turned_102 rfl (by decide) ?_
          refine m_iload_n 105 dX8_turned_104 rfl rfl ?_
          refine i_const 106 dX8_turned_105 rfl ?_
          refine i_rem 107 dX8_turned_106 rfl ⟨by omega, by omega, by omega, by omega⟩ ?_
          refine i_const 108 dX8_turned_107 rfl ?_
          refine i_icmp_le 111 115 ⟨by omega, by omega⟩ ⟨by omega, by omega⟩ dX8_turned_108 rfl (by decide) (fun q108 => ?_) (fun q108 => ?_)
          · refine i_const 116 dX8_turned_115 rfl ?_
            refine m_istore 118 dX8_turned_116 rfl (by decide) ?_
            refine m_aload_n 119 dX8_turned_118 rfl rfl ?_
            refine m_iload 121 dX8_turned_119 rfl rfl ?_
            refine i_if_eq 124 136 ⟨by omega, by omega⟩ dX8_turned_121 rfl (by decide) (fun _ => ?_) (fun h => absurd h (by decide))
            refine m_iload 138 dX8_turned_136 rfl rfl ?_
            refine m_iload 140 dX8_turned_138 rfl rfl ?_
            refine i_if_eq 143 155 ⟨by omega, by omega⟩ dX8_turned_140 rfl (by decide) (fun _ => ?_) (fun h => absurd h (by decide))
            refine m_iload 157 dX8_turned_155 rfl rfl ?_
            refine m_cV (M' := MX8_at) 160 [_, _] kX8_61 imX8_at seX8_at clX8_at dX8_turned_157 rfl rfl rfl (mw_22 hw) (m_rmI (by omega) (Nat.le_of_ble_eq_true rfl) (Nat.le_refl _) (Nat.le_refl _)) (c_X8_at hG d hFF hw ⟨by omega, by omega⟩ ⟨by omega, by omega⟩) ?_
            refine i_ret _ dX8_turned_160 rfl ⟨Nat.le_refl _, Nat.le_refl _⟩ ?_ ⟨rfl, rfl⟩
            show _ = trn k W H t (p % W) (p / W)
            unfold trn
            first
              | (rw [if_neg (show ¬ k = 3 by omega), if_pos (show (t % 2 = 1) by omega), if_pos (show (1 < t % 4) by omega), if_pos (show (t < 4) by omega), if_pos (show (t < 4) by omega)]; done)
              | (rw [if_neg (show ¬ k = 3 by omega), if_pos (show (t % 2 = 1) by omega), if_neg (show ¬ (1 < t % 4) by omega), if_pos (show (t < 4) by omega), if_pos (show (t < 4) by omega)]; done)
              | (rw [if_neg (show ¬ k = 3 by omega), if_neg (show ¬ (t % 2 = 1) by omega), if_pos (show (1 < t % 4) by omega), if_pos (show (t < 4) by omega), if_pos (show (t < 4) by omega)]; done)
              | (rw [if_neg (show ¬ k = 3 by omega), if_neg (show ¬ (t % 2 = 1) by omega), if_neg (show ¬ (1 < t % 4) by omega), if_pos (show (t < 4) by omega), if_pos (show (t < 4) by omega)]; done)
              | (rw [if_neg (show ¬ k = 3 by omega), if_pos (show (t % 2 = 1) by omega), if_pos (show (1 < t % 4) by omega), if_neg (show ¬ (t < 4) by omega), if_neg (show ¬ (t < 4) by omega)]; done)
              | (rw [if_neg (show ¬ k = 3 by omega), if_pos (show (t % 2 = 1) by omega), if_neg (show ¬ (1 < t % 4) by omega), if_neg (show ¬ (t < 4) by omega), if_neg (show ¬ (t < 4) by omega)]; done)
              | (rw [if_neg (show ¬ k = 3 by omega), if_neg (show ¬ (t % 2 = 1) by omega), if_pos (show (1 < t % 4) by omega), if_neg (show ¬ (t < 4) by omega), if_neg (show ¬ (t < 4) by omega)]; done)
              | (rw [if_neg (show ¬ k = 3 by omega), if_neg (show ¬ (t % 2 = 1) by omega), if_neg (show ¬ (1 < t % 4) by omega), if_neg (show ¬ (t < 4) by omega), if_neg (show ¬ (t < 4) by omega)]; done)
              | (rw [if_pos (show k = 3 by omega)]; unfold rgC; rw [if_pos (show t % 2 = 0 by omega), e1 (by omega)]; done)
              | (rw [if_pos (show k = 3 by omega)]; unfold rgC; rw [if_neg (show ¬ t % 2 = 0 by omega), e2 (by omega)]; done)
              | (exfalso; omega)
          · refine i_const 112 dX8_turned_111 rfl ?_
            refine m_goto 116 dX8_turned_112 (by decide) ?_
            refine m_istore 118 dX8_turned_116 rfl (by decide) ?_
            refine m_aload_n 119 dX8_turned_118 rfl rfl ?_
            refine m_iload 121 dX8_turned_119 rfl rfl ?_
            refine i_if_eq 124 136 ⟨by omega, by omega⟩ dX8_turned_121 rfl (by decide) (fun _ => ?_) (fun h => absurd h (by decide))
            refine m_iload 138 dX8_turned_136 rfl rfl ?_
            refine m_iload 140 dX8_turned_138 rfl rfl ?_
            refine i_if_eq 143 155 ⟨by omega, by omega⟩ dX8_turned_140 rfl (by decide) (fun h => absurd h (by decide)) (fun _ => ?_)
            refine m_aload_n 144 dX8_turned_143 rfl rfl ?_
            refine m_getf 147 foX8_47 dX8_turned_144 rfl (mw_22 hw) (by rfl) ?_
            refine i_const 148 dX8_turned_147 rfl ?_
            refine i_sub 149 dX8_turned_148 rfl ?_
            refine m_iload 151 dX8_turned_149 rfl rfl ?_
            refine i_sub 152 dX8_turned_151 rfl ?_
            refine m_goto 157 dX8_turned_152 (by decide) ?_
            refine m_cV (M' := MX8_at) 160 [_, _] kX8_61 imX8_at seX8_at clX8_at dX8_turned_157 rfl rfl rfl (mw_22 hw) (m_rmI (by omega) (Nat.le_of_ble_eq_true rfl) (Nat.le_refl _) (Nat.le_refl _)) (c_X8_at hG d hFF hw ⟨by omega, by omega⟩ ⟨by omega, by omega⟩) ?_
            refine i_ret _ dX8_turned_160 rfl ⟨Nat.le_refl _, Nat.le_refl _⟩ ?_ ⟨rfl, rfl⟩
            show _ = trn k W H t (p % W) (p / W)
            unfold trn
            first
              | (rw [if_neg (show ¬ k = 3 by omega), if_pos (show (t % 2 = 1) by omega), if_pos (show (1 < t % 4) by omega), if_pos (show (t < 4) by omega), if_pos (show (t < 4) by omega)]; done)
              | (rw [if_neg (show ¬ k = 3 by omega), if_pos (show (t % 2 = 1) by omega), if_neg (show ¬ (1 < t % 4) by omega), if_pos (show (t < 4) by omega), if_pos (show (t < 4) by omega)]; done)
              | (rw [if_neg (show ¬ k = 3 by omega), if_neg (show ¬ (t % 2 = 1) by omega), if_pos (show (1 < t % 4) by omega), if_pos (show (t < 4) by omega), if_pos (show (t < 4) by omega)]; done)
              | (rw [if_neg (show ¬ k = 3 by omega), if_neg (show ¬ (t % 2 = 1) by omega), if_neg (show ¬ (1 < t % 4) by omega), if_pos (show (t < 4) by omega), if_pos (show (t < 4) by omega)]; done)
              | (rw [if_neg (show ¬ k = 3 by omega), if_pos (show (t % 2 = 1) by omega), if_pos (show (1 < t % 4) by omega), if_neg (show ¬ (t < 4) by omega), if_neg (show ¬ (t < 4) by omega)]; done)
              | (rw [if_neg (show ¬ k = 3 by omega), if_pos (show (t % 2 = 1) by omega), if_neg (show ¬ (1 < t % 4) by omega), if_neg (show ¬ (t < 4) by omega), if_neg (show ¬ (t < 4) by omega)]; done)
              | (rw [if_neg (show ¬ k = 3 by omega), if_neg (show ¬ (t % 2 = 1) by omega), if_pos (show (1 < t % 4) by omega), if_neg (show ¬ (t < 4) by omega), if_neg (show ¬ (t < 4) by omega)]; done)
              | (rw [if_neg (show ¬ k = 3 by omega), if_neg (show ¬ (t % 2 = 1) by omega), if_neg (show ¬ (1 < t % 4) by omega), if_neg (show ¬ (t < 4) by omega), if_neg (show ¬ (t < 4) by omega)]; done)
              | (rw [if_pos (show k = 3 by omega)]; unfold rgC; rw [if_pos (show t % 2 = 0 by omega), e1 (by omega)]; done)
              | (rw [if_pos (show k = 3 by omega)]; unfold rgC; rw [if_neg (show ¬ t % 2 = 0 by omega), e2 (by omega)]; done)
              | (exfalso; omega)
        · refine i_const 98 dX8_turned_97 rfl ?_
          refine m_goto 102 dX8_turned_98 (by decide) ?_
          refine m_istore 104 dX8_turned_102 rfl (by decide) ?_
          refine m_iload_n 105 dX8_turned_104 rfl rfl ?_
          refine i_const 106 dX8_turned_105 rfl ?_
          refine i_rem 107 dX8_turned_106 rfl ⟨by omega, by omega, by omega, by omega⟩ ?_
          refine i_const 108 dX8_turned_107 rfl ?_
          refine i_icmp_le 111 115 ⟨by omega, by omega⟩ ⟨by omega, by omega⟩ dX8_turned_108 rfl (by decide) (fun q108 => ?_) (fun q108 => ?_)
          · refine i_const 116 dX8_turned_115 rfl ?_
            refine m_istore 118 dX8_turned_116 rfl (by decide) ?_
            refine m_aload_n 119 dX8_turned_118 rfl rfl ?_
            refine m_iload 121 dX8_turned_119 rfl rfl ?_
            refine i_if_eq 124 136 ⟨by omega, by omega⟩ dX8_turned_121 rfl (by decide) (fun h => absurd h (by decide)) (fun _ => ?_)
            refine m_aload_n 125 dX8_turned_124 rfl rfl ?_
            refine m_getf 128 foX8_44 dX8_turned_125 rfl (mw_22 hw) (by rfl) ?_
            refine i_const 129 dX8_turned_128 rfl ?_
            refine i_sub 130 dX8_turned_129 rfl ?_
            refine m_iload 132 dX8_turned_130 rfl rfl ?_
            refine i_sub 133 dX8_turned_132 rfl ?_
            refine m_goto 138 dX8_turned_133 (by decide) ?_
            refine m_iload 140 dX8_turned_138 rfl rfl ?_
            refine i_if_eq 143 155 ⟨by omega, by omega⟩ dX8_turned_140 rfl (by decide) (fun _ => ?_) (fun h => absurd h (by decide))
            refine m_iload 157 dX8_turned_155 rfl rfl ?_
            refine m_cV (M' := MX8_at) 160 [_, _] kX8_61 imX8_at seX8_at clX8_at dX8_turned_157 rfl rfl rfl (mw_22 hw) (m_rmI (by omega) (Nat.le_of_ble_eq_true rfl) (Nat.le_refl _) (Nat.le_refl _)) (c_X8_at hG d hFF hw ⟨by omega, by omega⟩ ⟨by omega, by omega⟩) ?_
            refine i_ret _ dX8_turned_160 rfl ⟨Nat.le_refl _, Nat.le_refl _⟩ ?_ ⟨rfl, rfl⟩
            show _ = trn k W H t (p % W) (p / W)
            unfold trn
            first
              | (rw [if_neg (show ¬ k = 3 by omega), if_pos (show (t % 2 = 1) by omega), if_pos (show (1 < t % 4) by omega), if_pos (show (t < 4) by omega), if_pos (show (t < 4) by omega)]; done)
              | (rw [if_neg (show ¬ k = 3 by omega), if_pos (show (t % 2 = 1) by omega), if_neg (show ¬ (1 < t % 4) by omega), if_pos (show (t < 4) by omega), if_pos (show (t < 4) by omega)]; done)
              | (rw [if_neg (show ¬ k = 3 by omega), if_neg (show ¬ (t % 2 = 1) by omega), if_pos (show (1 < t % 4) by omega), if_pos (show (t < 4) by omega), if_pos (show (t < 4) by omega)]; done)
              | (rw [if_neg (show ¬ k = 3 by omega), if_neg (show ¬ (t % 2 = 1) by omega), if_neg (show ¬ (1 < t % 4) by omega), if_pos (show (t < 4) by omega), if_pos (show (t < 4) by omega)]; done)
              | (rw [if_neg (show ¬ k = 3 by omega), if_pos (show (t % 2 = 1) by omega), if_pos (show (1 < t % 4) by omega), if_neg (show ¬ (t < 4) by omega), if_neg (show ¬ (t < 4) by omega)]; done)
              | (rw [if_neg (show ¬ k = 3 by omega), if_pos (show (t % 2 = 1) by omega), if_neg (show ¬ (1 < t % 4) by omega), if_neg (show ¬ (t < 4) by omega), if_neg (show ¬ (t < 4) by omega)]; done)
              | (rw [if_neg (show ¬ k = 3 by omega), if_neg (show ¬ (t % 2 = 1) by omega), if_pos (show (1 < t % 4) by omega), if_neg (show ¬ (t < 4) by omega), if_neg (show ¬ (t < 4) by omega)]; done)
              | (rw [if_neg (show ¬ k = 3 by omega), if_neg (show ¬ (t % 2 = 1) by omega), if_neg (show ¬ (1 < t % 4) by omega), if_neg (show ¬ (t < 4) by omega), if_neg (show ¬ (t < 4) by omega)]; done)
              | (rw [if_pos (show k = 3 by omega)]; unfold rgC; rw [if_pos (show t % 2 = 0 by omega), e1 (by omega)]; done)
              | (rw [if_pos (show k = 3 by omega)]; unfold rgC; rw [if_neg (show ¬ t % 2 = 0 by omega), e2 (by omega)]; done)
              | (exfalso; omega)
          · refine i_const 112 dX8_turned_111 rfl ?_
            refine m_goto 116 dX8_turned_112 (by decide) ?_
            refine m_istore 118 dX8_turned_116 rfl (by decide) ?_
            refine m_aload_n 119 dX8_turned_118 rfl rfl ?_
            refine m_iload 121 dX8_turned_119 rfl rfl ?_
            refine i_if_eq 124 136 ⟨by omega, by omega⟩ dX8_turned_121 rfl (by decide) (fun h => absurd h (by decide)) (fun _ => ?_)
            refine m_aload_n 125 dX8_turned_124 rfl rfl ?_
            refine m_getf 128 foX8_44 dX8_turned_125 rfl (mw_22 hw) (by rfl) ?_
            refine i_const 129 dX8_turned_128 rfl ?_
            refine i_sub 130 dX8_turned_129 rfl ?_
            refine m_iload 132 dX8_turned_130 rfl rfl ?_
            refine i_sub 133 dX8_turned_132 rfl ?_
            refine m_goto 138 dX8_turned_133 (by decide) ?_
            refine m_iload 140 dX8_turned_138 rfl rfl ?_
            refine i_if_eq 143 155 ⟨by omega, by omega⟩ dX8_turned_140 rfl (by decide) (fun h => absurd h (by decide)) (fun _ => ?_)
            refine m_aload_n 144 dX8_turned_143 rfl rfl ?_
            refine m_getf 147 foX8_47 dX8_turned_144 rfl (mw_22 hw) (by rfl) ?_
            refine i_const 148 dX8_turned_147 rfl ?_
            refine i_sub 149 dX8_turned_148 rfl ?_
            refine m_iload 151 dX8_turned_149 rfl rfl ?_
            refine i_sub 152 dX8_turned_151 rfl ?_
            refine m_goto 157 dX8_turned_152 (by decide) ?_
            refine m_cV (M' := MX8_at) 160 [_, _] kX8_61 imX8_at seX8_at clX8_at dX8_turned_157 rfl rfl rfl (mw_22 hw) (m_rmI (by omega) (Nat.le_of_ble_eq_true rfl) (Nat.le_refl _) (Nat.le_refl _)) (c_X8_at hG d hFF hw ⟨by omega, by omega⟩ ⟨by omega, by omega⟩) ?_
            refine i_ret _ dX8_turned_160 rfl ⟨Nat.le_refl _, Nat.le_refl _⟩ ?_ ⟨rfl, rfl⟩
            show _ = trn k W H t (p % W) (p / W)
            unfold trn
            first
              | (rw [if_neg (show ¬ k = 3 by omega), if_pos (show (t % 2 = 1) by omega), if_pos (show (1 < t % 4) by omega), if_pos (show (t < 4) by omega), if_pos (show (t < 4) by omega)]; done)
              | (rw [if_neg (show ¬ k = 3 by omega), if_pos (show (t % 2 = 1) by omega), if_neg (show ¬ (1 < t % 4) by omega), if_pos (show (t < 4) by omega), if_pos (show (t < 4) by omega)]; done)
              | (rw [if_neg (show ¬ k = 3 by omega), if_neg (show ¬ (t % 2 = 1) by omega), if_pos (show (1 < t % 4) by omega), if_pos (show (t < 4) by omega), if_pos (show (t < 4) by omega)]; done)
              | (rw [if_neg (show ¬ k = 3 by omega), if_neg (show ¬ (t % 2 = 1) by omega), if_neg (show ¬ (1 < t % 4) by omega), if_pos (show (t < 4) by omega), if_pos (show (t < 4) by omega)]; done)
              | (rw [if_neg (show ¬ k = 3 by omega), if_pos (show (t % 2 = 1) by omega), if_pos (show (1 < t % 4) by omega), if_neg (show ¬ (t < 4) by omega), if_neg (show ¬ (t < 4) by omega)]; done)
              | (rw [if_neg (show ¬ k = 3 by omega), if_pos (show (t % 2 = 1) by omega), if_neg (show ¬ (1 < t % 4) by omega), if_neg (show ¬ (t < 4) by omega), if_neg (show ¬ (t < 4) by omega)]; done)
              | (rw [if_neg (show ¬ k = 3 by omega), if_neg (show ¬ (t % 2 = 1) by omega), if_pos (show (1 < t % 4) by omega), if_neg (show ¬ (t < 4) by omega), if_neg (show ¬ (t < 4) by omega)]; done)
              | (rw [if_neg (show ¬ k = 3 by omega), if_neg (show ¬ (t % 2 = 1) by omega), if_neg (show ¬ (1 < t % 4) by omega), if_neg (show ¬ (t < 4) by omega), if_neg (show ¬ (t < 4) by omega)]; done)
              | (rw [if_pos (show k = 3 by omega)]; unfold rgC; rw [if_pos (show t % 2 = 0 by omega), e1 (by omega)]; done)
              | (rw [if_pos (show k = 3 by omega)]; unfold rgC; rw [if_neg (show ¬ t % 2 = 0 by omega), e2 (by omega)]; done)
              | (exfalso; omega)
      · refine m_iload 84 dX8_turned_82 rfl rfl ?_
        refine m_goto 88 dX8_turned_84 (by decide) ?_
        refine m_istore 90 dX8_turned_88 rfl (by decide) ?_
        refine m_iload_n 91 dX8_turned_90 rfl rfl ?_
        refine i_const 92 dX8_turned_91 rfl ?_
        refine i_rem 93 dX8_turned_92 rfl ⟨by omega, by omega, by omega, by omega⟩ ?_
        refine i_const 94 dX8_turned_93 rfl ?_
        refine i_icmp_ne 97 101 ⟨by omega, by omega⟩ ⟨by omega, by omega⟩ dX8_turned_94 rfl (by decide) (fun q94 => ?_) (fun q94 => ?_)
        · refine i_const 102 dX8_turned_101 rfl ?_
          refine m_istore 104 dX8_turned_102 rfl (by decide) ?_
          refine m_iload_n 105 dX8_turned_104 rfl rfl ?_
          refine i_const 106 dX8_turned_105 rfl ?_
          refine i_rem 107 dX8_turned_106 rfl ⟨by omega, by omega, by omega, by omega⟩ ?_
          refine i_const 108 dX8_turned_107 rfl ?_
          refine i_icmp_le 111 115 ⟨by omega, by omega⟩ ⟨by omega, by omega⟩ dX8_turned_108 rfl (by decide) (fun q108 => ?_) (fun q108 => ?_)
          · refine i_const 116 dX8_turned_115 rfl ?_
            refine m_istore 118 dX8_turned_116 rfl (by decide) ?_
            refine m_aload_n 119 dX8_turned_118 rfl rfl ?_
            refine m_iload 121 dX8_turned_119 rfl rfl ?_
            refine i_if_eq 124 136 ⟨by omega, by omega⟩ dX8_turned_121 rfl (by decide) (fun _ => ?_) (fun h => absurd h (by decide))
            refine m_iload 138 dX8_turned_136 rfl rfl ?_
            refine m_iload 140 dX8_turned_138 rfl rfl ?_
            refine i_if_eq 143 155 ⟨by omega, by omega⟩ dX8_turned_140 rfl (by decide) (fun _ => ?_) (fun h => absurd h (by decide))
            refine m_iload 157 dX8_turned_155 rfl rfl ?_
            refine m_cV (M' := MX8_at) 160 [_, _] kX8_61 imX8_at seX8_at clX8_at dX8_turned_157 rfl rfl rfl (mw_22 hw) (m_rmI (by omega) (Nat.le_of_ble_eq_true rfl) (Nat.le_refl _) (Nat.le_refl _)) (c_X8_at hG d hFF hw ⟨by omega, by omega⟩ ⟨by omega, by omega⟩) ?_
            refine i_ret _ dX8_turned_160 rfl ⟨Nat.le_refl _, Nat.le_refl _⟩ ?_ ⟨rfl, rfl⟩
            show _ = trn k W H t (p % W) (p / W)
            unfold trn
            first
              | (rw [if_neg (show ¬ k = 3 by omega), if_pos (show (t % 2 = 1) by omega), if_pos (show (1 < t % 4) by omega), if_pos (show (t < 4) by omega), if_pos (show (t < 4) by omega)]; done)
              | (rw [if_neg (show ¬ k = 3 by omega), if_pos (show (t % 2 = 1) by omega), if_neg (show ¬ (1 < t % 4) by omega), if_pos (show (t < 4) by omega), if_pos (show (t < 4) by omega)]; done)
              | (rw [if_neg (show ¬ k = 3 by omega), if_neg (show ¬ (t % 2 = 1) by omega), if_pos (show (1 < t % 4) by omega), if_pos (show (t < 4) by omega), if_pos (show (t < 4) by omega)]; done)
              | (rw [if_neg (show ¬ k = 3 by omega), if_neg (show ¬ (t % 2 = 1) by omega), if_neg (show ¬ (1 < t % 4) by omega), if_pos (show (t < 4) by omega), if_pos (show (t < 4) by omega)]; done)
              | (rw [if_neg (show ¬ k = 3 by omega), if_pos (show (t % 2 = 1) by omega), if_pos (show (1 < t % 4) by omega), if_neg (show ¬ (t < 4) by omega), if_neg (show ¬ (t < 4) by omega)]; done)
              | (rw [if_neg (show ¬ k = 3 by omega), if_pos (show (t % 2 = 1) by omega), if_neg (show ¬ (1 < t % 4) by omega), if_neg (show ¬ (t < 4) by omega), if_neg (show ¬ (t < 4) by omega)]; done)
              | (rw [if_neg (show ¬ k = 3 by omega), if_neg (show ¬ (t % 2 = 1) by omega), if_pos (show (1 < t % 4) by omega), if_neg (show ¬ (t < 4) by omega), if_neg (show ¬ (t < 4) by omega)]; done)
              | (rw [if_neg (show ¬ k = 3 by omega), if_neg (show ¬ (t % 2 = 1) by omega), if_neg (show ¬ (1 < t % 4) by omega), if_neg (show ¬ (t < 4) by omega), if_neg (show ¬ (t < 4) by omega)]; done)
              | (rw [if_pos (show k = 3 by omega)]; unfold rgC; rw [if_pos (show t % 2 = 0 by omega), e1 (by omega)]; done)
              | (rw [if_pos (show k = 3 by omega)]; unfold rgC; rw [if_neg (show ¬ t % 2 = 0 by omega), e2 (by omega)]; done)
              | (exfalso; omega)
          · refine i_const 112 dX8_turned_111 rfl ?_
            refine m_goto 116 dX8_turned_112 (by decide) ?_
            refine m_istore 118 dX8_turned_116 rfl (by decide) ?_
            refine m_aload_n 119 dX8_turned_118 rfl rfl ?_
            refine m_iload 121 dX8_turned_119 rfl rfl ?_
            refine i_if_eq 124 136 ⟨by omega, by omega⟩ dX8_turned_121 rfl (by decide) (fun _ => ?_) (fun h => absurd h (by decide))
            refine m_iload 138 dX8_turned_136 rfl rfl ?_
            refine m_iload 140 dX8_turned_138 rfl rfl ?_
            refine i_if_eq 143 155 ⟨by omega, by omega⟩ dX8_turned_140 rfl (by decide) (fun h => absurd h (by decide)) (fun _ => ?_)
            refine m_aload_n 144 dX8_turned_143 rfl rfl ?_
            refine m_getf 147 foX8_47 dX8_turned_144 rfl (mw_22 hw) (by rfl) ?_
            refine i_const 148 dX8_turned_147 rfl ?_
            refine i_sub 149 dX8_turned_148 rfl ?_
            refine m_iload 151 dX8_turned_149 rfl rfl ?_
            refine i_sub 152 dX8_turned_151 rfl ?_
            refine m_goto 157 dX8_turned_152 (by decide) ?_
            refine m_cV (M' := MX8_at) 160 [_, _] kX8_61 imX8_at seX8_at clX8_at dX8_turned_157 rfl rfl rfl (mw_22 hw) (m_rmI (by omega) (Nat.le_of_ble_eq_true rfl) (Nat.le_refl _) (Nat.le_refl _)) (c_X8_at hG d hFF hw ⟨by omega, by omega⟩ ⟨by omega, by omega⟩) ?_
            refine i_ret _ dX8_turned_160 rfl ⟨Nat.le_refl _, Nat.le_refl _⟩ ?_ ⟨rfl, rfl⟩
            show _ = trn k W H t (p % W) (p / W)
            unfold trn
            first
              | (rw [if_neg (show ¬ k = 3 by omega), if_pos (show (t % 2 = 1) by omega), if_pos (show (1 < t % 4) by omega), if_pos (show (t < 4) by omega), if_pos (show (t < 4) by omega)]; done)
              | (rw [if_neg (show ¬ k = 3 by omega), if_pos (show (t % 2 = 1) by omega), if_neg (show ¬ (1 < t % 4) by omega), if_pos (show (t < 4) by omega), if_pos (show (t < 4) by omega)]; done)
              | (rw [if_neg (show ¬ k = 3 by omega), if_neg (show ¬ (t % 2 = 1) by omega), if_pos (show (1 < t % 4) by omega), if_pos (show (t < 4) by omega), if_pos (show (t < 4) by omega)]; done)
              | (rw [if_neg (show ¬ k = 3 by omega), if_neg (show ¬ (t % 2 = 1) by omega), if_neg (show ¬ (1 < t % 4) by omega), if_pos (show (t < 4) by omega), if_pos (show (t < 4) by omega)]; done)
              | (rw [if_neg (show ¬ k = 3 by omega), if_pos (show (t % 2 = 1) by omega), if_pos (show (1 < t % 4) by omega), if_neg (show ¬ (t < 4) by omega), if_neg (show ¬ (t < 4) by omega)]; done)
              | (rw [if_neg (show ¬ k = 3 by omega), if_pos (show (t % 2 = 1) by omega), if_neg (show ¬ (1 < t % 4) by omega), if_neg (show ¬ (t < 4) by omega), if_neg (show ¬ (t < 4) by omega)]; done)
              | (rw [if_neg (show ¬ k = 3 by omega), if_neg (show ¬ (t % 2 = 1) by omega), if_pos (show (1 < t % 4) by omega), if_neg (show ¬ (t < 4) by omega), if_neg (show ¬ (t < 4) by omega)]; done)
              | (rw [if_neg (show ¬ k = 3 by omega), if_neg (show ¬ (t % 2 = 1) by omega), if_neg (show ¬ (1 < t % 4) by omega), if_neg (show ¬ (t < 4) by omega), if_neg (show ¬ (t < 4) by omega)]; done)
              | (rw [if_pos (show k = 3 by omega)]; unfold rgC; rw [if_pos (show t % 2 = 0 by omega), e1 (by omega)]; done)
              | (rw [if_pos (show k = 3 by omega)]; unfold rgC; rw [if_neg (show ¬ t % 2 = 0 by omega), e2 (by omega)]; done)
              | (exfalso; omega)
        · refine i_const 98 dX8_turned_97 rfl ?_
          refine m_goto 102 dX8_turned_98 (by decide) ?_
          refine m_istore 104 dX8_turned_102 rfl (by decide) ?_
          refine m_iload_n 105 dX8_turned_104 rfl rfl ?_
          refine i_const 106 dX8_turned_105 rfl ?_
          refine i_rem 107 dX8_turned_106 rfl ⟨by omega, by omega, by omega, by omega⟩ ?_
          refine i_const 108 dX8_turned_107 rfl ?_
          refine i_icmp_le 111 115 ⟨by omega, by omega⟩ ⟨by omega, by omega⟩ dX8_turned_108 rfl (by decide) (fun q108 => ?_) (fun q108 => ?_)
          · refine i_const 116 dX8_turned_115 rfl ?_
            refine m_istore 118 dX8_turned_116 rfl (by decide) ?_
            refine m_aload_n 119 dX8_turned_118 rfl rfl ?_
            refine m_iload 121 dX8_turned_119 rfl rfl ?_
            refine i_if_eq 124 136 ⟨by omega, by omega⟩ dX8_turned_121 rfl (by decide) (fun h => absurd h (by decide)) (fun _ => ?_)
            refine m_aload_n 125 dX8_turned_124 rfl rfl ?_
            refine m_getf 128 foX8_44 dX8_turned_125 rfl (mw_22 hw) (by rfl) ?_
            refine i_const 129 dX8_turned_128 rfl ?_
            refine i_sub 130 dX8_turned_129 rfl ?_
            refine m_iload 132 dX8_turned_130 rfl rfl ?_
            refine i_sub 133 dX8_turned_132 rfl ?_
            refine m_goto 138 dX8_turned_133 (by decide) ?_
            refine m_iload 140 dX8_turned_138 rfl rfl ?_
            refine i_if_eq 143 155 ⟨by omega, by omega⟩ dX8_turned_140 rfl (by decide) (fun _ => ?_) (fun h => absurd h (by decide))
            refine m_iload 157 dX8_turned_155 rfl rfl ?_
            refine m_cV (M' := MX8_at) 160 [_, _] kX8_61 imX8_at seX8_at clX8_at dX8_turned_157 rfl rfl rfl (mw_22 hw) (m_rmI (by omega) (Nat.le_of_ble_eq_true rfl) (Nat.le_refl _) (Nat.le_refl _)) (c_X8_at hG d hFF hw ⟨by omega, by omega⟩ ⟨by omega, by omega⟩) ?_
            refine i_ret _ dX8_turned_160 rfl ⟨Nat.le_refl _, Nat.le_refl _⟩ ?_ ⟨rfl, rfl⟩
            show _ = trn k W H t (p % W) (p / W)
            unfold trn
            first
              | (rw [if_neg (show ¬ k = 3 by omega), if_pos (show (t % 2 = 1) by omega), if_pos (show (1 < t % 4) by omega), if_pos (show (t < 4) by omega), if_pos (show (t < 4) by omega)]; done)
              | (rw [if_neg (show ¬ k = 3 by omega), if_pos (show (t % 2 = 1) by omega), if_neg (show ¬ (1 < t % 4) by omega), if_pos (show (t < 4) by omega), if_pos (show (t < 4) by omega)]; done)
              | (rw [if_neg (show ¬ k = 3 by omega), if_neg (show ¬ (t % 2 = 1) by omega), if_pos (show (1 < t % 4) by omega), if_pos (show (t < 4) by omega), if_pos (show (t < 4) by omega)]; done)
              | (rw [if_neg (show ¬ k = 3 by omega), if_neg (show ¬ (t % 2 = 1) by omega), if_neg (show ¬ (1 < t % 4) by omega), if_pos (show (t < 4) by omega), if_pos (show (t < 4) by omega)]; done)
              | (rw [if_neg (show ¬ k = 3 by omega), if_pos (show (t % 2 = 1) by omega), if_pos (show (1 < t % 4) by omega), if_neg (show ¬ (t < 4) by omega), if_neg (show ¬ (t < 4) by omega)]; done)
              | (rw [if_neg (show ¬ k = 3 by omega), if_pos (show (t % 2 = 1) by omega), if_neg (show ¬ (1 < t % 4) by omega), if_neg (show ¬ (t < 4) by omega), if_neg (show ¬ (t < 4) by omega)]; done)
              | (rw [if_neg (show ¬ k = 3 by omega), if_neg (show ¬ (t % 2 = 1) by omega), if_pos (show (1 < t % 4) by omega), if_neg (show ¬ (t < 4) by omega), if_neg (show ¬ (t < 4) by omega)]; done)
              | (rw [if_neg (show ¬ k = 3 by omega), if_neg (show ¬ (t % 2 = 1) by omega), if_neg (show ¬ (1 < t % 4) by omega), if_neg (show ¬ (t < 4) by omega), if_neg (show ¬ (t < 4) by omega)]; done)
              | (rw [if_pos (show k = 3 by omega)]; unfold rgC; rw [if_pos (show t % 2 = 0 by omega), e1 (by omega)]; done)
              | (rw [if_pos (show k = 3 by omega)]; unfold rgC; rw [if_neg (show ¬ t % 2 = 0 by omega), e2 (by omega)]; done)
              | (exfalso; omega)
          · refine i_const 112 dX8_turned_111 rfl ?_
            refine m_goto 116 dX8_turned_112 (by decide) ?_
            refine m_istore 118 dX8_turned_116 rfl (by decide) ?_
            refine m_aload_n 119 dX8_turned_118 rfl rfl ?_
            refine m_iload 121 dX8_turned_119 rfl rfl ?_
            refine i_if_eq 124 136 ⟨by omega, by omega⟩ dX8_turned_121 rfl (by decide) (fun h => absurd h (by decide)) (fun _ => ?_)
            refine m_aload_n 125 dX8_turned_124 rfl rfl ?_
            refine m_getf 128 foX8_44 dX8_turned_125 rfl (mw_22 hw) (by rfl) ?_
            refine i_const 129 dX8_turned_128 rfl ?_
            refine i_sub 130 dX8_turned_129 rfl ?_
            refine m_iload 132 dX8_turned_130 rfl rfl ?_
            refine i_sub 133 dX8_turned_132 rfl ?_
            refine m_goto 138 dX8_turned_133 (by decide) ?_
            refine m_iload 140 dX8_turned_138 rfl rfl ?_
            refine i_if_eq 143 155 ⟨by omega, by omega⟩ dX8_turned_140 rfl (by decide) (fun h => absurd h (by decide)) (fun _ => ?_)
            refine m_aload_n 144 dX8_turned_143 rfl rfl ?_
            refine m_getf 147 foX8_47 dX8_turned_144 rfl (mw_22 hw) (by rfl) ?_
            refine i_const 148 dX8_turned_147 rfl ?_
            refine i_sub 149 dX8_turned_148 rfl ?_
            refine m_iload 151 dX8_turned_149 rfl rfl ?_
            refine i_sub 152 dX8_turned_151 rfl ?_
            refine m_goto 157 dX8_turned_152 (by decide) ?_
            refine m_cV (M' := MX8_at) 160 [_, _] kX8_61 imX8_at seX8_at clX8_at dX8_turned_157 rfl rfl rfl (mw_22 hw) (m_rmI (by omega) (Nat.le_of_ble_eq_true rfl) (Nat.le_refl _) (Nat.le_refl _)) (c_X8_at hG d hFF hw ⟨by omega, by omega⟩ ⟨by omega, by omega⟩) ?_
            refine i_ret _ dX8_turned_160 rfl ⟨Nat.le_refl _, Nat.le_refl _⟩ ?_ ⟨rfl, rfl⟩
            show _ = trn k W H t (p % W) (p / W)
            unfold trn
            first
              | (rw [if_neg (show ¬ k = 3 by omega), if_pos (show (t % 2 = 1) by omega), if_pos (show (1 < t % 4) by omega), if_pos (show (t < 4) by omega), if_pos (show (t < 4) by omega)]; done)
              | (rw [if_neg (show ¬ k = 3 by omega), if_pos (show (t % 2 = 1) by omega), if_neg (show ¬ (1 < t % 4) by omega), if_pos (show (t < 4) by omega), if_pos (show (t < 4) by omega)]; done)
              | (rw [if_neg (show ¬ k = 3 by omega), if_neg (show ¬ (t % 2 = 1) by omega), if_pos (show (1 < t % 4) by omega), if_pos (show (t < 4) by omega), if_pos (show (t < 4) by omega)]; done)
              | (rw [if_neg (show ¬ k = 3 by omega), if_neg (show ¬ (t % 2 = 1) by omega), if_neg (show ¬ (1 < t % 4) by omega), if_pos (show (t < 4) by omega), if_pos (show (t < 4) by omega)]; done)
              | (rw [if_neg (show ¬ k = 3 by omega), if_pos (show (t % 2 = 1) by omega), if_pos (show (1 < t % 4) by omega), if_neg (show ¬ (t < 4) by omega), if_neg (show ¬ (t < 4) by omega)]; done)
              | (rw [if_neg (show ¬ k = 3 by omega), if_pos (show (t % 2 = 1) by omega), if_neg (show ¬ (1 < t % 4) by omega), if_neg (show ¬ (t < 4) by omega), if_neg (show ¬ (t < 4) by omega)]; done)
              | (rw [if_neg (show ¬ k = 3 by omega), if_neg (show ¬ (t % 2 = 1) by omega), if_pos (show (1 < t % 4) by omega), if_neg (show ¬ (t < 4) by omega), if_neg (show ¬ (t < 4) by omega)]; done)
              | (rw [if_neg (show ¬ k = 3 by omega), if_neg (show ¬ (t % 2 = 1) by omega), if_neg (show ¬ (1 < t % 4) by omega), if_neg (show ¬ (t < 4) by omega), if_neg (show ¬ (t < 4) by omega)]; done)
              | (rw [if_pos (show k = 3 by omega)]; unfold rgC; rw [if_pos (show t % 2 = 0 by omega), e1 (by omega)]; done)
              | (rw [if_pos (show k = 3 by omega)]; unfold rgC; rw [if_neg (show ¬ t % 2 = 0 by omega), e2 (by omega)]; done)
              | (exfalso; omega)
  · refine m_aload_n 24 dX8_turned_23 rfl rfl ?_
    refine m_iload_n 25 dX8_turned_24 rfl rfl ?_
    refine i_const 26 dX8_turned_25 rfl ?_
    refine i_rem 27 dX8_turned_26 rfl ⟨by omega, by omega, by omega, by omega⟩ ?_
    refine i_if_ne 30 43 ⟨by omega, by omega⟩ dX8_turned_27 rfl (by decide) (fun q27 => ?_) (fun q27 => ?_)
    · refine m_iload_n 44 dX8_turned_43 rfl rfl ?_
      refine i_const 45 dX8_turned_44 rfl ?_
      refine i_div 46 dX8_turned_45 rfl ⟨by omega, by omega, by omega, by omega⟩ ?_
      refine m_iload_n 47 dX8_turned_46 rfl rfl ?_
      refine i_sub 48 dX8_turned_47 rfl ?_
      refine m_aload_n 49 dX8_turned_48 rfl rfl ?_
      refine m_getf 52 foX8_44 dX8_turned_49 rfl (mw_22 hw) (by rfl) ?_
      refine i_add 53 dX8_turned_52 rfl ?_
      refine m_aload_n 54 dX8_turned_53 rfl rfl ?_
      refine m_getf 57 foX8_44 dX8_turned_54 rfl (mw_22 hw) (by rfl) ?_
      refine i_rem 58 dX8_turned_57 rfl ⟨by omega, by omega, by omega, by omega⟩ ?_
      refine m_iload 60 dX8_turned_58 rfl rfl ?_
      refine m_cV (M' := MX8_at) 63 [_, _] kX8_61 imX8_at seX8_at clX8_at dX8_turned_60 rfl rfl rfl (mw_22 hw) (m_rmI (by omega) (Nat.le_of_ble_eq_true rfl) (Nat.le_refl _) (Nat.le_refl _)) (c_X8_at hG d hFF hw ⟨by omega, by omega⟩ ⟨by omega, by omega⟩) ?_
      refine i_ret _ dX8_turned_63 rfl ⟨Nat.le_refl _, Nat.le_refl _⟩ ?_ ⟨rfl, rfl⟩
      show _ = trn k W H t (p % W) (p / W)
      unfold trn
      first
        | (rw [if_neg (show ¬ k = 3 by omega), if_pos (show (t % 2 = 1) by omega), if_pos (show (1 < t % 4) by omega), if_pos (show (t < 4) by omega), if_pos (show (t < 4) by omega)]; done)
        | (rw [if_neg (show ¬ k = 3 by omega), if_pos (show (t % 2 = 1) by omega), if_neg (show ¬ (1 < t % 4) by omega), if_pos (show (t < 4) by omega), if_pos (show (t < 4) by omega)]; done)
        | (rw [if_neg (show ¬ k = 3 by omega), if_neg (show ¬ (t % 2 = 1) by omega), if_pos (show (1 < t % 4) by omega), if_pos (show (t < 4) by omega), if_pos (show (t < 4) by omega)]; done)
        | (rw [if_neg (show ¬ k = 3 by omega), if_neg (show ¬ (t % 2 = 1) by omega), if_neg (show ¬ (1 < t % 4) by omega), if_pos (show (t < 4) by omega), if_pos (show (t < 4) by omega)]; done)
        | (rw [if_neg (show ¬ k = 3 by omega), if_pos (show (t % 2 = 1) by omega), if_pos (show (1 < t % 4) by omega), if_neg (show ¬ (t < 4) by omega), if_neg (show ¬ (t < 4) by omega)]; done)
        | (rw [if_neg (show ¬ k = 3 by omega), if_pos (show (t % 2 = 1) by omega), if_neg (show ¬ (1 < t % 4) by omega), if_neg (show ¬ (t < 4) by omega), if_neg (show ¬ (t < 4) by omega)]; done)
        | (rw [if_neg (show ¬ k = 3 by omega), if_neg (show ¬ (t % 2 = 1) by omega), if_pos (show (1 < t % 4) by omega), if_neg (show ¬ (t < 4) by omega), if_neg (show ¬ (t < 4) by omega)]; done)
        | (rw [if_neg (show ¬ k = 3 by omega), if_neg (show ¬ (t % 2 = 1) by omega), if_neg (show ¬ (1 < t % 4) by omega), if_neg (show ¬ (t < 4) by omega), if_neg (show ¬ (t < 4) by omega)]; done)
        | (rw [if_pos (show k = 3 by omega)]; unfold rgC; rw [if_pos (show t % 2 = 0 by omega), e1 (by omega)]; done)
        | (rw [if_pos (show k = 3 by omega)]; unfold rgC; rw [if_neg (show ¬ t % 2 = 0 by omega), e2 (by omega)]; done)
        | (exfalso; omega)
    · refine m_iload_n 31 dX8_turned_30 rfl rfl ?_
      refine m_iload_n 32 dX8_turned_31 rfl rfl ?_
      refine i_const 33 dX8_turned_32 rfl ?_
      refine i_div 34 dX8_turned_33 rfl ⟨by omega, by omega, by omega, by omega⟩ ?_
      refine i_add 35 dX8_turned_34 rfl ?_
      refine m_aload_n 36 dX8_turned_35 rfl rfl ?_
      refine m_getf 39 foX8_44 dX8_turned_36 rfl (mw_22 hw) (by rfl) ?_
      refine i_rem 40 dX8_turned_39 rfl ⟨by omega, by omega, by omega, by omega⟩ ?_
      refine m_goto 58 dX8_turned_40 (by decide) ?_
      refine m_iload 60 dX8_turned_58 rfl rfl ?_
      refine m_cV (M' := MX8_at) 63 [_, _] kX8_61 imX8_at seX8_at clX8_at dX8_turned_60 rfl rfl rfl (mw_22 hw) (m_rmI (by omega) (Nat.le_of_ble_eq_true rfl) (Nat.le_refl _) (Nat.le_refl _)) (c_X8_at hG d hFF hw ⟨by omega, by omega⟩ ⟨by omega, by omega⟩) ?_
      refine i_ret _ dX8_turned_63 rfl ⟨Nat.le_refl _, Nat.le_refl _⟩ ?_ ⟨rfl, rfl⟩
      show _ = trn k W H t (p % W) (p / W)
      unfold trn
      first
        | (rw [if_neg (show ¬ k = 3 by omega), if_pos (show (t % 2 = 1) by omega), if_pos (show (1 < t % 4) by omega), if_pos (show (t < 4) by omega), if_pos (show (t < 4) by omega)]; done)
        | (rw [if_neg (show ¬ k = 3 by omega), if_pos (show (t % 2 = 1) by omega), if_neg (show ¬ (1 < t % 4) by omega), if_pos (show (t < 4) by omega), if_pos (show (t < 4) by omega)]; done)
        | (rw [if_neg (show ¬ k = 3 by omega), if_neg (show ¬ (t % 2 = 1) by omega), if_pos (show (1 < t % 4) by omega), if_pos (show (t < 4) by omega), if_pos (show (t < 4) by omega)]; done)
        | (rw [if_neg (show ¬ k = 3 by omega), if_neg (show ¬ (t % 2 = 1) by omega), if_neg (show ¬ (1 < t % 4) by omega), if_pos (show (t < 4) by omega), if_pos (show (t < 4) by omega)]; done)
        | (rw [if_neg (show ¬ k = 3 by omega), if_pos (show (t % 2 = 1) by omega), if_pos (show (1 < t % 4) by omega), if_neg (show ¬ (t < 4) by omega), if_neg (show ¬ (t < 4) by omega)]; done)
        | (rw [if_neg (show ¬ k = 3 by omega), if_pos (show (t % 2 = 1) by omega), if_neg (show ¬ (1 < t % 4) by omega), if_neg (show ¬ (t < 4) by omega), if_neg (show ¬ (t < 4) by omega)]; done)
        | (rw [if_neg (show ¬ k = 3 by omega), if_neg (show ¬ (t % 2 = 1) by omega), if_pos (show (1 < t % 4) by omega), if_neg (show ¬ (t < 4) by omega), if_neg (show ¬ (t < 4) by omega)]; done)
        | (rw [if_neg (show ¬ k = 3 by omega), if_neg (show ¬ (t % 2 = 1) by omega), if_neg (show ¬ (1 < t % 4) by omega), if_neg (show ¬ (t < 4) by omega), if_neg (show ¬ (t < 4) by omega)]; done)
        | (rw [if_pos (show k = 3 by omega)]; unfold rgC; rw [if_pos (show t % 2 = 0 by omega), e1 (by omega)]; done)
        | (rw [if_pos (show k = 3 by omega)]; unfold rgC; rw [if_neg (show ¬ t % 2 = 0 by omega), e2 (by omega)]; done)
        | (exfalso; omega)
set_option maxHeartbeats 4000000 in
set_option maxRecDepth 100000 in
theorem c_X8_imageX (hG : m_G G) (d : Nat) {k W H : Int} {n : Nat} (hF : fOK k W H n) {t sz pl so bt : Int} {nb wl ou : Nat → Bool} {ar mk rc ip fd : Nat → Int} (hw : 30 < w.length) {p : Int} {a : Int} (hp : ¬ (0 ≤ p ∧ p < n)) (hr : iR p) : m_Cv G MX8_image (m_r (d + 3) 0 0) [.ref 22, vI a, vI p] (mw w t k W H sz pl so bt nb wl ar mk rc ou ip fd) (some (vI 0)) (mw w 1 k W H sz pl so bt nb wl ar mk rc ou ip fd) := by
  have hFF := hF
  have hnb := hF.n
  obtain ⟨hk0, hk4, hW1, hW2, hH1, hH2, hn, hg4⟩ := hF
  refine m_enter (L := [some (.ref 22), some (vI a), some (vI p)]) (by decide) hG (m_c1 rfl) (Nat.le_of_ble_eq_true rfl) rfl ?_
  refine m_aload_n 1 dX8_image_0 rfl rfl ?_
  refine m_aload_n 2 dX8_image_1 rfl rfl ?_
  refine m_iload_n 3 dX8_image_2 rfl rfl ?_
  refine m_cV (M' := MX8_isPlace) 6 [_] kX8_70 imX8_isPlace seX8_isPlace clX8_isPlace dX8_image_3 rfl rfl rfl (mw_22 hw) (m_rmI (by omega) (Nat.le_of_ble_eq_true rfl) (Nat.le_refl _) (Nat.le_refl _)) (c_X8_isPlace hG d hFF hw hr) ?_
  refine b_if_ne 9 13 dX8_image_6 rfl (by decide) (fun h => absurd h (by rw [inB_0 hp]; decide)) (fun _ => ?_)
  refine i_const 10 dX8_image_9 rfl ?_
  refine m_goto 14 dX8_image_10 (by decide) ?_
  refine i_asB true rfl ?_
  refine m_cV (M' := MX8_fails) 17 [_] kX8_74 imX8_fails seX8_fails clX8_fails dX8_image_14 rfl rfl rfl (mw_22 hw) (m_rmI (by omega) (Nat.le_of_ble_eq_true rfl) (Nat.le_refl _) (Nat.le_refl _)) (c_X8_fails hG d hFF hw) ?_
  refine b_if_eq 20 22 dX8_image_17 rfl (by decide) (fun h => absurd h (by decide)) (fun _ => ?_)
  refine i_const 21 dX8_image_20 rfl ?_
  refine i_ret _ dX8_image_21 rfl ⟨Nat.le_refl _, Nat.le_refl _⟩ ?_ ⟨rfl, rfl⟩
  rfl
set_option maxHeartbeats 4000000 in
set_option maxRecDepth 100000 in
theorem c_X8_image (hG : m_G G) (d : Nat) {k W H : Int} {n : Nat} (hF : fOK k W H n) {th sz pl so bt : Int} {nb wl ou : Nat → Bool} {ar mk rc ip fd : Nat → Int} (hw : 30 < w.length) {t p : Int} (hp : 0 ≤ p ∧ p < n) (ht : iR t) : m_Cv G MX8_image (m_r (d + 3) 0 0) [.ref 22, vI t, vI p] (mw w th k W H sz pl so bt nb wl ar mk rc ou ip fd) (some (vI (if inB t (tuN k W H) then TM k W H t p else -1))) (mw w 0 k W H sz pl so bt nb wl ar mk rc ou ip fd) := by
  have hFF := hF
  have hnb := hF.n
  obtain ⟨hk0, hk4, hW1, hW2, hH1, hH2, hn, hg4⟩ := hF
  refine m_enter (L := [some (.ref 22), some (vI t), some (vI p)]) (by decide) hG (m_c1 rfl) (Nat.le_of_ble_eq_true rfl) rfl ?_
  refine m_aload_n 1 dX8_image_0 rfl rfl ?_
  refine m_aload_n 2 dX8_image_1 rfl rfl ?_
  refine m_iload_n 3 dX8_image_2 rfl rfl ?_
  refine m_cV (M' := MX8_isPlace) 6 [_] kX8_70 imX8_isPlace seX8_isPlace clX8_isPlace dX8_image_3 rfl rfl rfl (mw_22 hw) (m_rmI (by omega) (Nat.le_of_ble_eq_true rfl) (Nat.le_refl _) (Nat.le_refl _)) (c_X8_isPlace hG d hFF hw ⟨by omega, by omega⟩) ?_
  refine b_if_ne 9 13 dX8_image_6 rfl (by decide) (fun _ => ?_) (fun h => absurd h (by rw [inB_1 hp]; decide))
  refine i_const 14 dX8_image_13 rfl ?_
  refine i_asB false rfl ?_
  refine m_cV (M' := MX8_fails) 17 [_] kX8_74 imX8_fails seX8_fails clX8_fails dX8_image_14 rfl rfl rfl (mw_22 hw) (m_rmI (by omega) (Nat.le_of_ble_eq_true rfl) (Nat.le_refl _) (Nat.le_refl _)) (c_X8_fails hG d hFF hw) ?_
  refine b_if_eq 20 22 dX8_image_17 rfl (by decide) (fun _ => ?_) (fun h => absurd h (by decide))
  refine m_aload_n 23 dX8_image_22 rfl rfl ?_
  refine m_iload_n 24 dX8_image_23 rfl rfl ?_
  refine m_cV (M' := MX8_isTurn) 27 [_] kX8_95 imX8_isTurn seX8_isTurn clX8_isTurn dX8_image_24 rfl rfl rfl (mw_22 hw) (m_rmI (by omega) (Nat.le_of_ble_eq_true rfl) (Nat.le_refl _) (Nat.le_refl _)) (c_X8_isTurn hG (d + 2) hFF hw ht) ?_
  refine b_if_eq 30 39 dX8_image_27 rfl (by decide) (fun q27 => ?_) (fun q27 => ?_)
  · refine i_const 40 dX8_image_39 rfl ?_
    refine i_ret _ dX8_image_40 rfl ⟨Nat.le_refl _, Nat.le_refl _⟩ ?_ ⟨rfl, rfl⟩
    first | rw [if_pos q27] | rw [if_neg (by rw [q27]; decide)]
  · refine m_aload_n 31 dX8_image_30 rfl rfl ?_
    refine m_iload_n 32 dX8_image_31 rfl rfl ?_
    refine m_iload_n 33 dX8_image_32 rfl rfl ?_
    refine m_cV (M' := MX8_turned) 36 [_, _] kX8_98 imX8_turned seX8_turned clX8_turned dX8_image_33 rfl rfl rfl (mw_22 hw) (m_rmI (by omega) (Nat.le_of_ble_eq_true rfl) (Nat.le_refl _) (Nat.le_refl _)) (c_X8_turned hG (d + 1) hFF hw (inB_t.mp q27) hp) ?_
    refine m_goto 40 dX8_image_36 (by decide) ?_
    refine i_ret _ dX8_image_40 rfl ⟨Nat.le_refl _, Nat.le_refl _⟩ ?_ ⟨rfl, rfl⟩
    first | rw [if_pos q27] | rw [if_neg (by rw [q27]; decide)]
def kIn (nb wl : Nat → Bool) (T : Int → Int) (p : Int) : Int → Bool := fun q => (mA nb p q == mA nb (T p) (T q)) && (mA wl p q == mA wl (T p) (T q))
def kOut (n : Nat) (nb wl : Nat → Bool) (mk : Nat → Int) (T : Int → Int) : Int → Bool := fun p => (mk p.toNat == mk (T p).toNat) && allF (kIn nb wl T p) n 0
theorem TM_r {k W H t p : Int} {n : Nat} (hF : fOK k W H n) (ht : 0 ≤ t ∧ t < tuN k W H) (hp : 0 ≤ p ∧ p < n) : 0 ≤ TM k W H t p ∧ TM k W H t p < n := by
  have hFF := hF
  obtain ⟨hk0, hk4, hW1, hW2, hH1, hH2, hn, hg4⟩ := hF
  exact trn_r hFF ht ⟨Int.emod_nonneg _ (by omega), Int.emod_lt_of_pos _ (by omega), Int.ediv_nonneg hp.1 (by omega), Int.ediv_lt_of_lt_mul (by omega) (by rw [Int.mul_comm, ← hn]; exact hp.2)⟩
set_option maxHeartbeats 4000000 in
set_option maxRecDepth 100000 in
theorem l_X8_keptI (hG : m_G G) (d : Nat) {k W H : Int} {n : Nat} (hF : fOK k W H n) {th sz pl so bt : Int} {nb wl ou : Nat → Bool} {ar mk rc ip fd : Nat → Int} (hw : 30 < w.length) {t p : Int} {Q : Option (Option Value) → List mC → Prop} (ht : 0 ≤ t ∧ t < tuN k W H) (hp : 0 ≤ p ∧ p < n) :
    ∀ (j : Nat) (i : Int) (x5 : Option Value), 0 ≤ i → i + j = n → (∀ x4 x5, allF (kIn nb wl (TM k W H t) p) j i = true → m_J G MX8_isKept (m_r (d + 2) 0 0) Q 0 0 121 [some (.ref 22), some (vI t), some (vI p), some (vI (TM k W H t p)), x4, x5] [] (mw w th k W H sz pl so bt nb wl ar mk rc ou ip fd)) → (allF (kIn nb wl (TM k W H t) p) j i = false → Q (some (some (vB false))) (mw w th k W H sz pl so bt nb wl ar mk rc ou ip fd)) → m_J G MX8_isKept (m_r (d + 2) 0 0) Q 0 0 37 [some (.ref 22), some (vI t), some (vI p), some (vI (TM k W H t p)), some (vI i), x5] [] (mw w th k W H sz pl so bt nb wl ar mk rc ou ip fd) := by
  have hFF := hF
  have hnb := hF.n
  obtain ⟨hk0, hk4, hW1, hW2, hH1, hH2, hn, hg4⟩ := hF
  have hTp := TM_r hFF ht hp
  intro j
  induction j with
  | zero =>
    intro i x5 hi hij kk kl
    refine m_iload 39 dX8_isKept_37 rfl rfl ?_
    refine m_aload_n 40 dX8_isKept_39 rfl rfl ?_
    refine m_cV (M' := MX8_all) 43 [] kX8_50 imX8_all seX8_all clX8_all dX8_isKept_40 rfl rfl rfl (mw_22 hw) (m_rmI (by omega) (Nat.le_of_ble_eq_true rfl) (Nat.le_refl _) (Nat.le_refl _)) (c_X8_all hG (d + 1) hFF hw) ?_
    refine i_icmp_ge 46 121 ⟨by omega, by omega⟩ ⟨by omega, by omega⟩ dX8_isKept_43 rfl (by decide) (fun _ => ?_) (fun h => absurd h (by omega))
    exact kk _ _ rfl
  | succ j ih =>
    intro i x5 hi hij kk kl
    have hTi := TM_r hFF ht (p := i) ⟨by omega, by omega⟩
    have ea : allF (kIn nb wl (TM k W H t) p) (j + 1) i = (kIn nb wl (TM k W H t) p i && allF (kIn nb wl (TM k W H t) p) j (i + 1)) := rfl
    have ek : kIn nb wl (TM k W H t) p i = ((mA nb p i == mA nb (TM k W H t p) (TM k W H t i)) && (mA wl p i == mA wl (TM k W H t p) (TM k W H t i))) := rfl
    refine m_iload 39 dX8_isKept_37 rfl rfl ?_
    refine m_aload_n 40 dX8_isKept_39 rfl rfl ?_
    refine m_cV (M' := MX8_all) 43 [] kX8_50 imX8_all seX8_all clX8_all dX8_isKept_40 rfl rfl rfl (mw_22 hw) (m_rmI (by omega) (Nat.le_of_ble_eq_true rfl) (Nat.le_refl _) (Nat.le_refl _)) (c_X8_all hG (d + 1) hFF hw) ?_
    refine i_icmp_ge 46 121 ⟨by omega, by omega⟩ ⟨by omega, by omega⟩ dX8_isKept_43 rfl (by decide) (fun h => absurd h (by omega)) (fun _ => ?_)
    refine m_aload_n 47 dX8_isKept_46 rfl rfl ?_
    refine m_iload_n 48 dX8_isKept_47 rfl rfl ?_
    refine m_iload 50 dX8_isKept_48 rfl rfl ?_
    refine m_cV (M' := MX8_turned) 53 [_, _] kX8_98 imX8_turned seX8_turned clX8_turned dX8_isKept_50 rfl rfl rfl (mw_22 hw) (m_rmI (by omega) (Nat.le_of_ble_eq_true rfl) (Nat.le_refl _) (Nat.le_refl _)) (c_X8_turned hG d hFF hw ht ⟨by omega, by omega⟩) ?_
    refine m_istore 55 dX8_isKept_53 rfl (by decide) ?_
    refine m_aload_n 56 dX8_isKept_55 rfl rfl ?_
    refine m_getf 59 foX8_8 dX8_isKept_56 rfl (mw_22 hw) (by rfl) ?_
    refine i_sipush 62 256 dX8_isKept_59 rfl (by decide) ?_
    refine m_iload_n 63 dX8_isKept_62 rfl rfl ?_
    refine i_mul 64 dX8_isKept_63 rfl ?_
    refine m_iload 66 dX8_isKept_64 rfl rfl ?_
    refine i_add 67 dX8_isKept_66 rfl ?_
    refine i_zald 68 dX8_isKept_67 rfl (mw_23 hw) ⟨by omega, by omega, by omega⟩ ?_
    refine m_aload_n 69 dX8_isKept_68 rfl rfl ?_
    refine m_getf 72 foX8_8 dX8_isKept_69 rfl (mw_22 hw) (by rfl) ?_
    refine i_sipush 75 256 dX8_isKept_72 rfl (by decide) ?_
    refine m_iload_n 76 dX8_isKept_75 rfl rfl ?_
    refine i_mul 77 dX8_isKept_76 rfl ?_
    refine m_iload 79 dX8_isKept_77 rfl rfl ?_
    refine i_add 80 dX8_isKept_79 rfl ?_
    refine i_zald 81 dX8_isKept_80 rfl (mw_23 hw) ⟨by omega, by omega, by omega⟩ ?_
    refine b_icmp_ne 84 113 dX8_isKept_81 rfl (by decide) (fun q81 => ?_) (fun q81 => ?_)
    · have e : allF (kIn nb wl (TM k W H t) p) (j + 1) i = false := by
        rw [ea, ek]
        first
          | rw [beq_false_of_ne (show mA nb p i ≠ mA nb (TM k W H t p) (TM k W H t i) from q81), Bool.false_and, Bool.false_and]
          | rw [beq_false_of_ne (show mA wl p i ≠ mA wl (TM k W H t p) (TM k W H t i) from q110), Bool.and_false, Bool.false_and]
      refine i_const 114 dX8_isKept_113 rfl ?_
      refine i_retB _ dX8_isKept_114 rfl ⟨Nat.le_refl _, Nat.le_refl _⟩ ?_ (kl e)
      refine i_eq0 ?_
      rfl
    · refine m_aload_n 85 dX8_isKept_84 rfl rfl ?_
      refine m_getf 88 foX8_14 dX8_isKept_85 rfl (mw_22 hw) (by rfl) ?_
      refine i_sipush 91 256 dX8_isKept_88 rfl (by decide) ?_
      refine m_iload_n 92 dX8_isKept_91 rfl rfl ?_
      refine i_mul 93 dX8_isKept_92 rfl ?_
      refine m_iload 95 dX8_isKept_93 rfl rfl ?_
      refine i_add 96 dX8_isKept_95 rfl ?_
      refine i_zald 97 dX8_isKept_96 rfl (mw_24 hw) ⟨by omega, by omega, by omega⟩ ?_
      refine m_aload_n 98 dX8_isKept_97 rfl rfl ?_
      refine m_getf 101 foX8_14 dX8_isKept_98 rfl (mw_22 hw) (by rfl) ?_
      refine i_sipush 104 256 dX8_isKept_101 rfl (by decide) ?_
      refine m_iload_n 105 dX8_isKept_104 rfl rfl ?_
      refine i_mul 106 dX8_isKept_105 rfl ?_
      refine m_iload 108 dX8_isKept_106 rfl rfl ?_
      refine i_add 109 dX8_isKept_108 rfl ?_
      refine i_zald 110 dX8_isKept_109 rfl (mw_24 hw) ⟨by omega, by omega, by omega⟩ ?_
      refine b_icmp_eq 113 115 dX8_isKept_110 rfl (by decide) (fun q110 => ?_) (fun q110 => ?_)
      · refine i_inc 118 dX8_isKept_115 rfl rfl (by decide) ?_
        refine m_goto 37 dX8_isKept_118 (by decide) ?_
        have e : allF (kIn nb wl (TM k W H t) p) (j + 1) i = allF (kIn nb wl (TM k W H t) p) j (i + 1) := by
          rw [ea, ek, show mA nb p i = mA nb (TM k W H t p) (TM k W H t i) from q81, show mA wl p i = mA wl (TM k W H t p) (TM k W H t i) from q110, beq_self_eq_true, beq_self_eq_true, Bool.true_and, Bool.true_and]
        rw [e] at kk kl
        exact ih _ _ (by omega) (by omega) kk kl
      · have e : allF (kIn nb wl (TM k W H t) p) (j + 1) i = false := by
          rw [ea, ek]
          first
            | rw [beq_false_of_ne (show mA nb p i ≠ mA nb (TM k W H t p) (TM k W H t i) from q81), Bool.false_and, Bool.false_and]
            | rw [beq_false_of_ne (show mA wl p i ≠ mA wl (TM k W H t p) (TM k W H t i) from q110), Bool.and_false, Bool.false_and]
        refine i_const 114 dX8_isKept_113 rfl ?_
        refine i_retB _ dX8_isKept_114 rfl ⟨Nat.le_refl _, Nat.le_refl _⟩ ?_ (kl e)
        refine i_eq0 ?_
        rfl
set_option maxHeartbeats 4000000 in
set_option maxRecDepth 100000 in
theorem l_X8_kept (hG : m_G G) (d : Nat) {k W H : Int} {n : Nat} (hF : fOK k W H n) {th sz pl so bt : Int} {nb wl ou : Nat → Bool} {ar mk rc ip fd : Nat → Int} (hw : 30 < w.length) {t : Int} (ht : 0 ≤ t ∧ t < tuN k W H) (hM : ∀ j, j < n → iR (mk j)) {r : Bool} :
    ∀ (j : Nat) (p : Int) (x3 x4 x5 : Option Value), 0 ≤ p → p + j = n → allF (kOut n nb wl mk (TM k W H t)) j p = r → m_J G MX8_isKept (m_r (d + 2) 0 0) (fun x y => x = some (some (vB r)) ∧ y = (mw w th k W H sz pl so bt nb wl ar mk rc ou ip fd)) 0 0 2 [some (.ref 22), some (vI t), some (vI p), x3, x4, x5] [] (mw w th k W H sz pl so bt nb wl ar mk rc ou ip fd) := by
  have hFF := hF
  have hnb := hF.n
  obtain ⟨hk0, hk4, hW1, hW2, hH1, hH2, hn, hg4⟩ := hF
  intro j
  induction j with
  | zero =>
    intro p x3 x4 x5 hp hpj hr
    refine m_iload_n 3 dX8_isKept_2 rfl rfl ?_
    refine m_aload_n 4 dX8_isKept_3 rfl rfl ?_
    refine m_cV (M' := MX8_all) 7 [] kX8_50 imX8_all seX8_all clX8_all dX8_isKept_4 rfl rfl rfl (mw_22 hw) (m_rmI (by omega) (Nat.le_of_ble_eq_true rfl) (Nat.le_refl _) (Nat.le_refl _)) (c_X8_all hG (d + 1) hFF hw) ?_
    refine i_icmp_ge 10 127 ⟨by omega, by omega⟩ ⟨by omega, by omega⟩ dX8_isKept_7 rfl (by decide) (fun _ => ?_) (fun h => absurd h (by omega))
    refine i_const 128 dX8_isKept_127 rfl ?_
    refine i_retB _ dX8_isKept_128 rfl ⟨Nat.le_refl _, Nat.le_refl _⟩ ?_ ⟨rfl, rfl⟩
    refine i_eq1 ?_
    exact hr.symm
  | succ j ih =>
    intro p x3 x4 x5 hp hpj hr
    have hTp := TM_r hFF ht (p := p) ⟨by omega, by omega⟩
    obtain ⟨m1, m2⟩ := hM p.toNat (by omega)
    obtain ⟨m3, m4⟩ := hM (TM k W H t p).toNat (by omega)
    have ea : allF (kOut n nb wl mk (TM k W H t)) (j + 1) p = (kOut n nb wl mk (TM k W H t) p && allF (kOut n nb wl mk (TM k W H t)) j (p + 1)) := rfl
    have ek : kOut n nb wl mk (TM k W H t) p = ((mk p.toNat == mk (TM k W H t p).toNat) && allF (kIn nb wl (TM k W H t) p) n 0) := rfl
    refine m_iload_n 3 dX8_isKept_2 rfl rfl ?_
    refine m_aload_n 4 dX8_isKept_3 rfl rfl ?_
    refine m_cV (M' := MX8_all) 7 [] kX8_50 imX8_all seX8_all clX8_all dX8_isKept_4 rfl rfl rfl (mw_22 hw) (m_rmI (by omega) (Nat.le_of_ble_eq_true rfl) (Nat.le_refl _) (Nat.le_refl _)) (c_X8_all hG (d + 1) hFF hw) ?_
    refine i_icmp_ge 10 127 ⟨by omega, by omega⟩ ⟨by omega, by omega⟩ dX8_isKept_7 rfl (by decide) (fun h => absurd h (by omega)) (fun _ => ?_)
    refine m_aload_n 11 dX8_isKept_10 rfl rfl ?_
    refine m_iload_n 12 dX8_isKept_11 rfl rfl ?_
    refine m_iload_n 13 dX8_isKept_12 rfl rfl ?_
    refine m_cV (M' := MX8_turned) 16 [_, _] kX8_98 imX8_turned seX8_turned clX8_turned dX8_isKept_13 rfl rfl rfl (mw_22 hw) (m_rmI (by omega) (Nat.le_of_ble_eq_true rfl) (Nat.le_refl _) (Nat.le_refl _)) (c_X8_turned hG d hFF hw ht ⟨by omega, by omega⟩) ?_
    refine m_istore_n 17 dX8_isKept_16 rfl (by decide) ?_
    refine m_aload_n 18 dX8_isKept_17 rfl rfl ?_
    refine m_getf 21 foX8_21 dX8_isKept_18 rfl (mw_22 hw) (by rfl) ?_
    refine m_iload_n 22 dX8_isKept_21 rfl rfl ?_
    refine i_ald 23 dX8_isKept_22 rfl (mw_26 hw) ⟨by omega, by omega, by omega⟩ ?_
    refine m_aload_n 24 dX8_isKept_23 rfl rfl ?_
    refine m_getf 27 foX8_21 dX8_isKept_24 rfl (mw_22 hw) (by rfl) ?_
    refine m_iload_n 28 dX8_isKept_27 rfl rfl ?_
    refine i_ald 29 dX8_isKept_28 rfl (mw_26 hw) ⟨by omega, by omega, by omega⟩ ?_
    refine i_icmp_eq 32 34 ⟨by omega, by omega⟩ ⟨by omega, by omega⟩ dX8_isKept_29 rfl (by decide) (fun q29 => ?_) (fun q29 => ?_)
    · refine i_const 35 dX8_isKept_34 rfl ?_
      refine m_istore 37 dX8_isKept_35 rfl (by decide) ?_
      refine l_X8_keptI hG d hFF hw ht (p := p) ⟨by omega, by omega⟩ n 0 _ (by omega) (by omega) (fun y4 y5 e => ?_) (fun e => ⟨?_, rfl⟩)
      · rw [ea, ek, e, q29, beq_self_eq_true, Bool.true_and, Bool.true_and] at hr
        refine i_inc 124 dX8_isKept_121 rfl rfl (by decide) ?_
        refine m_goto 2 dX8_isKept_124 (by decide) ?_
        exact ih _ _ _ _ (by omega) (by omega) hr
      · rw [ea, ek, e, Bool.and_false, Bool.false_and] at hr
        rw [← hr]
    · refine i_const 33 dX8_isKept_32 rfl ?_
      refine i_retB _ dX8_isKept_33 rfl ⟨Nat.le_refl _, Nat.le_refl _⟩ ?_ ⟨rfl, rfl⟩
      refine i_eq0 ?_
      rw [← hr, ea, ek, beq_false_of_ne q29, Bool.false_and, Bool.false_and]
set_option maxHeartbeats 4000000 in
set_option maxRecDepth 100000 in
theorem c_X8_isKept (hG : m_G G) (d : Nat) {k W H : Int} {n : Nat} (hF : fOK k W H n) {th sz pl so bt : Int} {nb wl ou : Nat → Bool} {ar mk rc ip fd : Nat → Int} (hw : 30 < w.length) {t : Int} (ht : 0 ≤ t ∧ t < tuN k W H) (hM : ∀ j, j < n → iR (mk j)) : m_Cv G MX8_isKept (m_r (d + 2) 0 0) [.ref 22, vI t] (mw w th k W H sz pl so bt nb wl ar mk rc ou ip fd) (some (vB (allF (kOut n nb wl mk (TM k W H t)) n 0))) (mw w th k W H sz pl so bt nb wl ar mk rc ou ip fd) := by
  have hFF := hF
  have hnb := hF.n
  obtain ⟨hk0, hk4, hW1, hW2, hH1, hH2, hn, hg4⟩ := hF
  refine m_enter (L := [some (.ref 22), some (vI t), none, none, none, none]) (by decide) hG (m_c1 rfl) (Nat.le_of_ble_eq_true rfl) rfl ?_
  refine i_const 1 dX8_isKept_0 rfl ?_
  refine m_istore_n 2 dX8_isKept_1 rfl (by decide) ?_
  exact l_X8_kept hG d hFF hw ht hM n 0 _ _ _ (by omega) (by omega) rfl
set_option maxHeartbeats 4000000 in
set_option maxRecDepth 100000 in
theorem c_X8_keeps (hG : m_G G) (d : Nat) {k W H : Int} {n : Nat} (hF : fOK k W H n) {th sz pl so bt : Int} {nb wl ou : Nat → Bool} {ar mk rc ip fd : Nat → Int} (hw : 30 < w.length) {t : Int} (ht : iR t) (hM : ∀ j, j < n → iR (mk j)) : m_Cv G MX8_keeps (m_r (d + 3) 0 0) [.ref 22, vI t] (mw w th k W H sz pl so bt nb wl ar mk rc ou ip fd) (some (vB (inB t (tuN k W H) && allF (kOut n nb wl mk (TM k W H t)) n 0))) (mw w 0 k W H sz pl so bt nb wl ar mk rc ou ip fd) := by
  have hFF := hF
  have hnb := hF.n
  obtain ⟨hk0, hk4, hW1, hW2, hH1, hH2, hn, hg4⟩ := hF
  refine m_enter (L := [some (.ref 22), some (vI t)]) (by decide) hG (m_c1 rfl) (Nat.le_of_ble_eq_true rfl) rfl ?_
  refine m_aload_n 1 dX8_keeps_0 rfl rfl ?_
  refine i_const 2 dX8_keeps_1 rfl ?_
  refine p8_0 (M := MX8_keeps) 5 rfl dX8_keeps_2 rfl hw ?_
  refine m_aload_n 6 dX8_keeps_5 rfl rfl ?_
  refine m_iload_n 7 dX8_keeps_6 rfl rfl ?_
  refine m_cV (M' := MX8_isTurn) 10 [_] kX8_95 imX8_isTurn seX8_isTurn clX8_isTurn dX8_keeps_7 rfl rfl rfl (mw_22 hw) (m_rmI (by omega) (Nat.le_of_ble_eq_true rfl) (Nat.le_refl _) (Nat.le_refl _)) (c_X8_isTurn hG (d + 2) hFF hw ht) ?_
  refine b_if_eq 13 25 dX8_keeps_10 rfl (by decide) (fun q10 => ?_) (fun q10 => ?_)
  · refine i_const 26 dX8_keeps_25 rfl ?_
    refine i_retB _ dX8_keeps_26 rfl ⟨Nat.le_refl _, Nat.le_refl _⟩ ?_ ⟨rfl, rfl⟩
    refine i_eq0 ?_
    first | (rw [q10, q18]; rfl) | (rw [q10]; rfl)
  · refine m_aload_n 14 dX8_keeps_13 rfl rfl ?_
    refine m_iload_n 15 dX8_keeps_14 rfl rfl ?_
    refine m_cV (M' := MX8_isKept) 18 [_] kX8_101 imX8_isKept seX8_isKept clX8_isKept dX8_keeps_15 rfl rfl rfl (mw_22 hw) (m_rmI (by omega) (Nat.le_of_ble_eq_true rfl) (Nat.le_refl _) (Nat.le_refl _)) (c_X8_isKept hG d hFF hw (inB_t.mp q10) hM) ?_
    refine b_if_eq 21 25 dX8_keeps_18 rfl (by decide) (fun q18 => ?_) (fun q18 => ?_)
    · refine i_const 26 dX8_keeps_25 rfl ?_
      refine i_retB _ dX8_keeps_26 rfl ⟨Nat.le_refl _, Nat.le_refl _⟩ ?_ ⟨rfl, rfl⟩
      refine i_eq0 ?_
      first | (rw [q10, q18]; rfl) | (rw [q10]; rfl)
    · refine i_const 22 dX8_keeps_21 rfl ?_
      refine m_goto 26 dX8_keeps_22 (by decide) ?_
      refine i_retB _ dX8_keeps_26 rfl ⟨Nat.le_refl _, Nat.le_refl _⟩ ?_ ⟨rfl, rfl⟩
      refine i_eq1 ?_
      first | (rw [q10, q18]; rfl) | (rw [q10]; rfl)
set_option maxHeartbeats 4000000 in
set_option maxRecDepth 100000 in
theorem l_X8_keeping (hG : m_G G) (d : Nat) {k W H : Int} {n : Nat} (hF : fOK k W H n) {th sz pl so bt : Int} {nb wl ou : Nat → Bool} {ar mk rc ip fd : Nat → Int} (hw : 30 < w.length) (hM : ∀ j, j < n → iR (mk j)) {r : Int} :
    ∀ (j : Nat) (i f : Int), 0 ≤ i → i + j = tuN k W H → f + cntF (fun t => allF (kOut n nb wl mk (TM k W H t)) n 0) j i = r → m_J G MX8_keeping (m_r (d + 3) 0 0) (fun x y => x = some (some (vI r)) ∧ y = (mw w th k W H sz pl so bt nb wl ar mk rc ou ip fd)) 0 0 9 [some (.ref 22), some (vI f), some (vI i)] [] (mw w th k W H sz pl so bt nb wl ar mk rc ou ip fd) := by
  have hFF := hF
  have hnb := hF.n
  obtain ⟨hk0, hk4, hW1, hW2, hH1, hH2, hn, hg4⟩ := hF
  have htu : 0 ≤ tuN k W H ∧ tuN k W H ≤ 32 := by unfold tuN; split <;> first | omega | (split <;> first | omega | (split <;> omega))
  intro j
  induction j with
  | zero =>
    intro i f hi hij ht
    have hno : inB i (tuN k W H) = false := inB_0 (by omega)
    refine m_aload_n 10 dX8_keeping_9 rfl rfl ?_
    refine m_iload_n 11 dX8_keeping_10 rfl rfl ?_
    refine m_cV (M' := MX8_isTurn) 14 [_] kX8_95 imX8_isTurn seX8_isTurn clX8_isTurn dX8_keeping_11 rfl rfl rfl (mw_22 hw) (m_rmI (by omega) (Nat.le_of_ble_eq_true rfl) (Nat.le_refl _) (Nat.le_refl _)) (c_X8_isTurn hG (d + 2) hFF hw ⟨by omega, by omega⟩) ?_
    refine b_if_eq 17 39 dX8_keeping_14 rfl (by decide) (fun _ => ?_) (fun h => absurd h (by rw [hno]; decide))
    refine m_iload_n 40 dX8_keeping_39 rfl rfl ?_
    refine i_ret _ dX8_keeping_40 rfl ⟨Nat.le_refl _, Nat.le_refl _⟩ ?_ ⟨rfl, rfl⟩
    simp only [cntF] at ht; omega
  | succ j ih =>
    intro i f hi hij ht
    have hyes : inB i (tuN k W H) = true := inB_1 (by omega)
    unfold cntF at ht
    refine m_aload_n 10 dX8_keeping_9 rfl rfl ?_
    refine m_iload_n 11 dX8_keeping_10 rfl rfl ?_
    refine m_cV (M' := MX8_isTurn) 14 [_] kX8_95 imX8_isTurn seX8_isTurn clX8_isTurn dX8_keeping_11 rfl rfl rfl (mw_22 hw) (m_rmI (by omega) (Nat.le_of_ble_eq_true rfl) (Nat.le_refl _) (Nat.le_refl _)) (c_X8_isTurn hG (d + 2) hFF hw ⟨by omega, by omega⟩) ?_
    refine b_if_eq 17 39 dX8_keeping_14 rfl (by decide) (fun h => absurd h (by rw [hyes]; decide)) (fun _ => ?_)
    refine m_iload_n 18 dX8_keeping_17 rfl rfl ?_
    refine m_aload_n 19 dX8_keeping_18 rfl rfl ?_
    refine m_iload_n 20 dX8_keeping_19 rfl rfl ?_
    refine m_cV (M' := MX8_isKept) 23 [_] kX8_101 imX8_isKept seX8_isKept clX8_isKept dX8_keeping_20 rfl rfl rfl (mw_22 hw) (m_rmI (by omega) (Nat.le_of_ble_eq_true rfl) (Nat.le_refl _) (Nat.le_refl _)) (c_X8_isKept hG d hFF hw (t := i) ⟨by omega, by omega⟩ hM) ?_
    refine b_if_eq 26 30 dX8_keeping_23 rfl (by decide) (fun q23 => ?_) (fun q23 => ?_)
    · refine i_const 31 dX8_keeping_30 rfl ?_
      refine i_add 32 dX8_keeping_31 rfl ?_
      refine m_istore_n 33 dX8_keeping_32 rfl (by decide) ?_
      refine i_inc 36 dX8_keeping_33 rfl rfl (by decide) ?_
      refine m_goto 9 dX8_keeping_36 (by decide) ?_
      refine ih _ _ (by omega) (by omega) ?_
      first
        | (rw [if_pos q23] at ht; omega)
        | (rw [if_neg (by rw [q23]; decide)] at ht; omega)
    · refine i_const 27 dX8_keeping_26 rfl ?_
      refine m_goto 31 dX8_keeping_27 (by decide) ?_
      refine i_add 32 dX8_keeping_31 rfl ?_
      refine m_istore_n 33 dX8_keeping_32 rfl (by decide) ?_
      refine i_inc 36 dX8_keeping_33 rfl rfl (by decide) ?_
      refine m_goto 9 dX8_keeping_36 (by decide) ?_
      refine ih _ _ (by omega) (by omega) ?_
      first
        | (rw [if_pos q23] at ht; omega)
        | (rw [if_neg (by rw [q23]; decide)] at ht; omega)
set_option maxHeartbeats 4000000 in
set_option maxRecDepth 100000 in
theorem c_X8_keeping (hG : m_G G) (d : Nat) {k W H : Int} {n : Nat} (hF : fOK k W H n) {th sz pl so bt : Int} {nb wl ou : Nat → Bool} {ar mk rc ip fd : Nat → Int} (hw : 30 < w.length) (hM : ∀ j, j < n → iR (mk j)) : m_Cv G MX8_keeping (m_r (d + 3) 0 0) [.ref 22] (mw w th k W H sz pl so bt nb wl ar mk rc ou ip fd) (some (vI (cntF (fun t => allF (kOut n nb wl mk (TM k W H t)) n 0) (tuN k W H).toNat 0))) (mw w 0 k W H sz pl so bt nb wl ar mk rc ou ip fd) := by
  have hFF := hF
  have hnb := hF.n
  obtain ⟨hk0, hk4, hW1, hW2, hH1, hH2, hn, hg4⟩ := hF
  have htu : 0 ≤ tuN k W H ∧ tuN k W H ≤ 32 := by unfold tuN; split <;> first | omega | (split <;> first | omega | (split <;> omega))
  refine m_enter (L := [some (.ref 22), none, none]) (by decide) hG (m_c1 rfl) (Nat.le_of_ble_eq_true rfl) rfl ?_
  refine m_aload_n 1 dX8_keeping_0 rfl rfl ?_
  refine i_const 2 dX8_keeping_1 rfl ?_
  refine p8_0 (M := MX8_keeping) 5 rfl dX8_keeping_2 rfl hw ?_
  refine i_const 6 dX8_keeping_5 rfl ?_
  refine m_istore_n 7 dX8_keeping_6 rfl (by decide) ?_
  refine i_const 8 dX8_keeping_7 rfl ?_
  refine m_istore_n 9 dX8_keeping_8 rfl (by decide) ?_
  exact l_X8_keeping hG d hFF hw hM (tuN k W H).toNat 0 0 (by omega) (by omega) (by omega)
end MR
