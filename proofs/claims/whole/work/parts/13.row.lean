/-! Row and Frame -/
section RF
variable {G : mG} {w : List mC}
/-- place z of n -/
def inB (z : Int) (n : Int) : Bool := decide (0 ≤ z) && decide (z < n)
theorem inB_t {z n : Int} : inB z n = true ↔ 0 ≤ z ∧ z < n := by unfold inB; simp
theorem inB_f {z n : Int} : inB z n = false ↔ ¬ (0 ≤ z ∧ z < n) := by rw [← inB_t]; cases inB z n <;> simp
theorem inB_1 {z n : Int} (h : 0 ≤ z ∧ z < n) : inB z n = true := inB_t.mpr h
theorem inB_0 {z n : Int} (h : ¬ (0 ≤ z ∧ z < n)) : inB z n = false := inB_f.mpr h
/-- a row of numbers: its object at i, its cells at c -/
abbrev oRow (c : Nat) (f : Int) : mC := mO 3 [.ref c, vI f]

set_option maxHeartbeats 4000000 in
set_option maxRecDepth 100000 in
theorem c_X3_length (hG : m_G G) (d : Nat) {i c : Nat} {f : Int} (h1 : w[i]? = some (oRow c f)) : m_Cv G MX3_length (m_r d 0 0) [.ref i] w (some (vI f)) w := by
  refine m_enter (L := [some (.ref i)]) (by decide) hG (m_c1 rfl) (Nat.le_of_ble_eq_true rfl) rfl ?_
  refine m_aload_n 1 dX3_length_0 rfl rfl ?_
  refine m_getf 4 foX3_15 dX3_length_1 rfl (by first | rfl | assumption) (by rfl) ?_
  refine i_ret _ dX3_length_4 rfl ⟨Nat.le_refl _, Nat.le_refl _⟩ ?_ ⟨rfl, rfl⟩
  rfl
/-- what a row holds at z, -1 where nothing stands -/
def rAt (n : Nat) (f : Int) (g : Nat → Int) (z : Int) : Int := if 0 ≤ z ∧ z < f ∧ z < n then g z.toNat else -1
set_option maxHeartbeats 4000000 in
set_option maxRecDepth 100000 in
theorem c_X3_at (hG : m_G G) (d : Nat) {i c n : Nat} {f z : Int} {g : Nat → Int} (h1 : w[i]? = some (oRow c f)) (h2 : w[c]? = some (cI n g)) (hf : iR f) (hz : iR z) (hn : n < 2147483648) : m_Cv G MX3_at (m_r d 0 0) [.ref i, vI z] w (some (vI (rAt n f g z))) w := by
  obtain ⟨hf1, hf2⟩ := hf
  obtain ⟨hz1, hz2⟩ := hz
  refine m_enter (L := [some (.ref i), some (vI z)]) (by decide) hG (m_c1 rfl) (Nat.le_of_ble_eq_true rfl) rfl ?_
  refine m_iload_n 1 dX3_at_0 rfl rfl ?_
  refine i_if_lt 4 30 ⟨by omega, by omega⟩ dX3_at_1 rfl (by decide) (fun q1 => ?_) (fun q1 => ?_)
  · refine i_const 31 dX3_at_30 rfl ?_
    refine i_ret _ dX3_at_31 rfl ⟨Nat.le_refl _, Nat.le_refl _⟩ ?_ ⟨rfl, rfl⟩
    unfold rAt; split
    · first | rfl | omega
    · first | rfl | omega
  · refine m_iload_n 5 dX3_at_4 rfl rfl ?_
    refine m_aload_n 6 dX3_at_5 rfl rfl ?_
    refine m_getf 9 foX3_15 dX3_at_6 rfl (by first | rfl | assumption) (by rfl) ?_
    refine i_icmp_ge 12 30 ⟨by omega, by omega⟩ ⟨by omega, by omega⟩ dX3_at_9 rfl (by decide) (fun q9 => ?_) (fun q9 => ?_)
    · refine i_const 31 dX3_at_30 rfl ?_
      refine i_ret _ dX3_at_31 rfl ⟨Nat.le_refl _, Nat.le_refl _⟩ ?_ ⟨rfl, rfl⟩
      unfold rAt; split
      · first | rfl | omega
      · first | rfl | omega
    · refine m_iload_n 13 dX3_at_12 rfl rfl ?_
      refine m_aload_n 14 dX3_at_13 rfl rfl ?_
      refine m_getf 17 foX3_9 dX3_at_14 rfl (by first | rfl | assumption) (by rfl) ?_
      refine i_len 18 dX3_at_17 rfl (by first | rfl | assumption) ?_
      refine i_icmp_ge 21 30 ⟨by omega, by omega⟩ ⟨by omega, by omega⟩ dX3_at_18 rfl (by decide) (fun q18 => ?_) (fun q18 => ?_)
      · refine i_const 31 dX3_at_30 rfl ?_
        refine i_ret _ dX3_at_31 rfl ⟨Nat.le_refl _, Nat.le_refl _⟩ ?_ ⟨rfl, rfl⟩
        unfold rAt; split
        · first | rfl | omega
        · first | rfl | omega
      · refine m_aload_n 22 dX3_at_21 rfl rfl ?_
        refine m_getf 25 foX3_9 dX3_at_22 rfl (by first | rfl | assumption) (by rfl) ?_
        refine m_iload_n 26 dX3_at_25 rfl rfl ?_
        refine i_ald 27 dX3_at_26 rfl (by first | rfl | assumption) ⟨by omega, by omega, by omega⟩ ?_
        refine m_goto 31 dX3_at_27 (by decide) ?_
        refine i_ret _ dX3_at_31 rfl ⟨Nat.le_refl _, Nat.le_refl _⟩ ?_ ⟨rfl, rfl⟩
        unfold rAt; split
        · first | rfl | omega
        · first | rfl | omega
set_option maxHeartbeats 4000000 in
set_option maxRecDepth 100000 in
theorem c_X3_clear (hG : m_G G) (d : Nat) {i c : Nat} {f : Int} (h1 : w[i + 1]? = some (oRow c f)) : m_Cv G MX3_clear (m_r d 0 0) [.ref (i + 1)] w none (w.set (i + 1) (oRow c 0)) := by
  refine m_enter (L := [some (.ref (i + 1))]) (by decide) hG (m_c1 rfl) (Nat.le_of_ble_eq_true rfl) rfl ?_
  refine m_aload_n 1 dX3_clear_0 rfl rfl ?_
  refine i_const 2 dX3_clear_1 rfl ?_
  refine m_putf 5 tyX3 rfl tyX3_ok nmX3 (Or.inl rfl) foX3_15 dX3_clear_2 rfl (by first | rfl | assumption) (Nat.le_of_ble_eq_true rfl) (Or.inl ⟨rfl, _, rfl⟩) ?_
  refine m_vret dX3_clear_5 rfl ⟨Nat.le_refl _, Nat.le_refl _⟩ ?_
  exact ⟨rfl, rfl⟩
set_option maxHeartbeats 4000000 in
set_option maxRecDepth 100000 in
theorem c_X3_put (hG : m_G G) (d : Nat) {i c n : Nat} {f z : Int} {g : Nat → Int} (h1 : w[i + 1]? = some (oRow (c + 1) f)) (h2 : w[c + 1]? = some (cI n g)) (hic : i ≠ c) (hf : 0 ≤ f ∧ f < n) (hn : n < 2147483647) : m_Cv G MX3_put (m_r d 0 0) [.ref (i + 1), vI z] w (some (vB true)) ((w.set (c + 1) (cI n (up g f.toNat z))).set (i + 1) (oRow (c + 1) (f + 1))) := by
  have h3 : (w.set (c + 1) (cI n (up g f.toNat z)))[i + 1]? = some (oRow (c + 1) f) := by rw [List.getElem?_set_ne (by omega)]; exact h1
  refine m_enter (L := [some (.ref (i + 1)), some (vI z)]) (by decide) hG (m_c1 rfl) (Nat.le_of_ble_eq_true rfl) rfl ?_
  refine m_aload_n 1 dX3_put_0 rfl rfl ?_
  refine m_getf 4 foX3_15 dX3_put_1 rfl (by first | rfl | assumption) (by rfl) ?_
  refine i_if_lt 7 19 ⟨by omega, by omega⟩ dX3_put_4 rfl (by decide) (fun h => absurd h (by omega)) (fun _ => ?_)
  refine m_aload_n 8 dX3_put_7 rfl rfl ?_
  refine m_getf 11 foX3_15 dX3_put_8 rfl (by first | rfl | assumption) (by rfl) ?_
  refine m_aload_n 12 dX3_put_11 rfl rfl ?_
  refine m_getf 15 foX3_9 dX3_put_12 rfl (by first | rfl | assumption) (by rfl) ?_
  refine i_len 16 dX3_put_15 rfl (by first | rfl | assumption) ?_
  refine i_icmp_lt 19 21 ⟨by omega, by omega⟩ ⟨by omega, by omega⟩ dX3_put_16 rfl (by decide) (fun _ => ?_) (fun h => absurd h (by omega))
  refine m_aload_n 22 dX3_put_21 rfl rfl ?_
  refine m_getf 25 foX3_9 dX3_put_22 rfl (by first | rfl | assumption) (by rfl) ?_
  refine m_aload_n 26 dX3_put_25 rfl rfl ?_
  refine m_getf 29 foX3_15 dX3_put_26 rfl (by first | rfl | assumption) (by rfl) ?_
  refine m_iload_n 30 dX3_put_29 rfl rfl ?_
  refine i_ast 31 dX3_put_30 rfl (by first | rfl | assumption) ⟨by omega, by omega, by omega⟩ ?_
  refine m_aload_n 32 dX3_put_31 rfl rfl ?_
  refine m_dup 33 dX3_put_32 rfl rfl ?_
  refine m_getf 36 foX3_15 dX3_put_33 rfl (by first | rfl | assumption) (by rfl) ?_
  refine i_const 37 dX3_put_36 rfl ?_
  refine i_add 38 dX3_put_37 rfl ?_
  refine m_putf 41 tyX3 rfl tyX3_ok nmX3 (Or.inl rfl) foX3_15 dX3_put_38 rfl (by first | rfl | assumption) (Nat.le_of_ble_eq_true rfl) (Or.inl ⟨rfl, _, rfl⟩) ?_
  refine i_const 42 dX3_put_41 rfl ?_
  refine i_retB _ dX3_put_42 rfl ⟨Nat.le_refl _, Nat.le_refl _⟩ ?_ ⟨rfl, rfl⟩
  refine i_eq1 ?_
  rfl
set_option maxHeartbeats 4000000 in
set_option maxRecDepth 100000 in
theorem c_X3_putF (hG : m_G G) (d : Nat) {i c n : Nat} {f z : Int} {g : Nat → Int} (h1 : w[i]? = some (oRow c f)) (h2 : w[c]? = some (cI n g)) (hf : (n : Int) ≤ f) (hr : iR f) (hn : n < 2147483647) : m_Cv G MX3_put (m_r d 0 0) [.ref i, vI z] w (some (vB false)) w := by
  obtain ⟨hr1, hr2⟩ := hr
  refine m_enter (L := [some (.ref i), some (vI z)]) (by decide) hG (m_c1 rfl) (Nat.le_of_ble_eq_true rfl) rfl ?_
  refine m_aload_n 1 dX3_put_0 rfl rfl ?_
  refine m_getf 4 foX3_15 dX3_put_1 rfl (by first | rfl | assumption) (by rfl) ?_
  refine i_if_lt 7 19 ⟨by omega, by omega⟩ dX3_put_4 rfl (by decide) (fun h => absurd h (by omega)) (fun _ => ?_)
  refine m_aload_n 8 dX3_put_7 rfl rfl ?_
  refine m_getf 11 foX3_15 dX3_put_8 rfl (by first | rfl | assumption) (by rfl) ?_
  refine m_aload_n 12 dX3_put_11 rfl rfl ?_
  refine m_getf 15 foX3_9 dX3_put_12 rfl (by first | rfl | assumption) (by rfl) ?_
  refine i_len 16 dX3_put_15 rfl (by first | rfl | assumption) ?_
  refine i_icmp_lt 19 21 ⟨by omega, by omega⟩ ⟨by omega, by omega⟩ dX3_put_16 rfl (by decide) (fun h => absurd h (by omega)) (fun _ => ?_)
  refine i_const 20 dX3_put_19 rfl ?_
  refine i_retB _ dX3_put_20 rfl ⟨Nat.le_refl _, Nat.le_refl _⟩ ?_ ⟨rfl, rfl⟩
  refine i_eq0 ?_
  rfl
end RF
