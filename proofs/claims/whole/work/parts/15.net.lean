/-! Net: who lies beside whom, and the walls -/
section NT
variable {G : mG} {w : List mC}
abbrev oNet (n sl : Nat) : mC := mO 2 [vI sl, vI n, .ref 6, .ref 7]
def nOK (n sl m : Nat) : Prop := 1 ≤ n ∧ n ≤ 256 ∧ 1 ≤ sl ∧ sl ≤ 256 ∧ (m : Int) = (n : Int) * sl ∧ m ≤ 65536
theorem nIx {n sl m : Nat} (h : nOK n sl m) {p s : Int} (hp : 0 ≤ p ∧ p < n) (hs : 0 ≤ s ∧ s < sl) : 0 ≤ p * sl + s ∧ p * sl + s < m := by
  obtain ⟨h1, h2, h3, h4, h5, h6⟩ := h
  have a : (p + 1) * (sl : Int) ≤ (n : Int) * sl := Int.mul_le_mul_of_nonneg_right (by omega) (by omega)
  have b : 0 ≤ p * (sl : Int) := Int.mul_nonneg hp.1 (by omega)
  rw [Int.add_mul, Int.one_mul] at a
  omega
/-- the slot's content -/
def bAt (sl : Nat) (f : Nat → Int) (p s : Int) : Int := f (p * sl + s).toNat
def wAt (sl : Nat) (f : Nat → Bool) (p s : Int) : Bool := f (p * sl + s).toNat
def oAt (sl : Nat) (f : Nat → Int) (g : Nat → Bool) (p s : Int) : Int := if wAt sl g p s then -1 else bAt sl f p s
/-- the first i from i on, of so many, with P; -1 where there is none -/
def fndF (P : Int → Bool) : Nat → Int → Int
  | 0, _ => -1
  | k + 1, i => if P i then i else fndF P k (i + 1)

set_option maxHeartbeats 4000000 in
set_option maxRecDepth 100000 in
theorem c_X2_has (hG : m_G G) (d : Nat) {p s : Int} {n sl m : Nat} (h5 : w[5]? = some (oNet n sl)) (hN : nOK n sl m) (hp : iR p) (hs : iR s) : m_Cv G MX2_has (m_r d 0 0) [.ref 5, vI p, vI s] w (some (vB (inB p n && inB s sl))) w := by
  have hNN := hN
  obtain ⟨hn1, hn2, hl1, hl2, hm, hm2⟩ := hN
  obtain ⟨hp1, hp2⟩ := hp
  obtain ⟨hs1, hs2⟩ := hs
  refine m_enter (L := [some (.ref 5), some (vI p), some (vI s)]) (by decide) hG (m_c1 rfl) (Nat.le_of_ble_eq_true rfl) rfl ?_
  refine m_iload_n 1 dX2_has_0 rfl rfl ?_
  refine i_if_lt 4 28 ⟨by omega, by omega⟩ dX2_has_1 rfl (by decide) (fun q1 => ?_) (fun q1 => ?_)
  · refine i_const 29 dX2_has_28 rfl ?_
    refine i_retB _ dX2_has_29 rfl ⟨Nat.le_refl _, Nat.le_refl _⟩ ?_ ⟨rfl, rfl⟩
    refine i_eq0 ?_
    first | (rw [inB_0 (by omega)]; rfl) | (rw [Bool.and_comm, inB_0 (by omega)]; rfl)
  · refine m_iload_n 5 dX2_has_4 rfl rfl ?_
    refine m_aload_n 6 dX2_has_5 rfl rfl ?_
    refine m_getf 9 foX2_15 dX2_has_6 rfl (by first | rfl | assumption) (by rfl) ?_
    refine i_icmp_ge 12 28 ⟨by omega, by omega⟩ ⟨by omega, by omega⟩ dX2_has_9 rfl (by decide) (fun q9 => ?_) (fun q9 => ?_)
    · refine i_const 29 dX2_has_28 rfl ?_
      refine i_retB _ dX2_has_29 rfl ⟨Nat.le_refl _, Nat.le_refl _⟩ ?_ ⟨rfl, rfl⟩
      refine i_eq0 ?_
      first | (rw [inB_0 (by omega)]; rfl) | (rw [Bool.and_comm, inB_0 (by omega)]; rfl)
    · refine m_iload_n 13 dX2_has_12 rfl rfl ?_
      refine i_if_lt 16 28 ⟨by omega, by omega⟩ dX2_has_13 rfl (by decide) (fun q13 => ?_) (fun q13 => ?_)
      · refine i_const 29 dX2_has_28 rfl ?_
        refine i_retB _ dX2_has_29 rfl ⟨Nat.le_refl _, Nat.le_refl _⟩ ?_ ⟨rfl, rfl⟩
        refine i_eq0 ?_
        first | (rw [inB_0 (by omega)]; rfl) | (rw [Bool.and_comm, inB_0 (by omega)]; rfl)
      · refine m_iload_n 17 dX2_has_16 rfl rfl ?_
        refine m_aload_n 18 dX2_has_17 rfl rfl ?_
        refine m_getf 21 foX2_22 dX2_has_18 rfl (by first | rfl | assumption) (by rfl) ?_
        refine i_icmp_ge 24 28 ⟨by omega, by omega⟩ ⟨by omega, by omega⟩ dX2_has_21 rfl (by decide) (fun q21 => ?_) (fun q21 => ?_)
        · refine i_const 29 dX2_has_28 rfl ?_
          refine i_retB _ dX2_has_29 rfl ⟨Nat.le_refl _, Nat.le_refl _⟩ ?_ ⟨rfl, rfl⟩
          refine i_eq0 ?_
          first | (rw [inB_0 (by omega)]; rfl) | (rw [Bool.and_comm, inB_0 (by omega)]; rfl)
        · refine i_const 25 dX2_has_24 rfl ?_
          refine m_goto 29 dX2_has_25 (by decide) ?_
          refine i_retB _ dX2_has_29 rfl ⟨Nat.le_refl _, Nat.le_refl _⟩ ?_ ⟨rfl, rfl⟩
          refine i_eq1 ?_
          rw [inB_1 (by omega), inB_1 (by omega)]; rfl
set_option maxHeartbeats 4000000 in
set_option maxRecDepth 100000 in
theorem c_X2_besideAt (hG : m_G G) (d : Nat) {p s : Int} {n sl m : Nat} {f : Nat → Int} (h5 : w[5]? = some (oNet n sl)) (hN : nOK n sl m) (h6 : w[6]? = some (cI m f)) (hp : 0 ≤ p ∧ p < n) (hs : 0 ≤ s ∧ s < sl) : m_Cv G MX2_besideAt (m_r (d + 1) 0 0) [.ref 5, vI p, vI s] w (some (vI (bAt sl f p s))) w := by
  have hNN := hN
  obtain ⟨hn1, hn2, hl1, hl2, hm, hm2⟩ := hN
  have hix := nIx hNN hp hs
  refine m_enter (L := [some (.ref 5), some (vI p), some (vI s)]) (by decide) hG (m_c1 rfl) (Nat.le_of_ble_eq_true rfl) rfl ?_
  refine m_aload_n 1 dX2_besideAt_0 rfl rfl ?_
  refine m_iload_n 2 dX2_besideAt_1 rfl rfl ?_
  refine m_iload_n 3 dX2_besideAt_2 rfl rfl ?_
  refine m_cV (M' := MX2_has) 6 [_, _] kX2_36 imX2_has seX2_has clX2_has dX2_besideAt_3 rfl rfl rfl (by first | rfl | assumption) (m_rmI (by omega) (Nat.le_of_ble_eq_true rfl) (Nat.le_refl _) (Nat.le_refl _)) (c_X2_has hG d h5 hNN ⟨by omega, by omega⟩ ⟨by omega, by omega⟩) ?_
  refine b_if_eq 9 25 dX2_besideAt_6 rfl (by decide) (fun h => absurd h (by rw [inB_1 hp, inB_1 hs]; decide)) (fun _ => ?_)
  refine m_aload_n 10 dX2_besideAt_9 rfl rfl ?_
  refine m_getf 13 foX2_24 dX2_besideAt_10 rfl (by first | rfl | assumption) (by rfl) ?_
  refine m_iload_n 14 dX2_besideAt_13 rfl rfl ?_
  refine m_aload_n 15 dX2_besideAt_14 rfl rfl ?_
  refine m_getf 18 foX2_22 dX2_besideAt_15 rfl (by first | rfl | assumption) (by rfl) ?_
  refine i_mul 19 dX2_besideAt_18 rfl ?_
  refine m_iload_n 20 dX2_besideAt_19 rfl rfl ?_
  refine i_add 21 dX2_besideAt_20 rfl ?_
  refine i_ald 22 dX2_besideAt_21 rfl (by first | rfl | assumption) ⟨by omega, by omega, by omega⟩ ?_
  refine m_goto 26 dX2_besideAt_22 (by decide) ?_
  refine i_ret _ dX2_besideAt_26 rfl ⟨Nat.le_refl _, Nat.le_refl _⟩ ?_ ⟨rfl, rfl⟩
  rfl
set_option maxHeartbeats 4000000 in
set_option maxRecDepth 100000 in
theorem c_X2_walledAt (hG : m_G G) (d : Nat) {p s : Int} {n sl m : Nat} {g : Nat → Bool} (h5 : w[5]? = some (oNet n sl)) (hN : nOK n sl m) (h7 : w[7]? = some (cZ m g)) (hp : 0 ≤ p ∧ p < n) (hs : 0 ≤ s ∧ s < sl) : m_Cv G MX2_walledAt (m_r (d + 1) 0 0) [.ref 5, vI p, vI s] w (some (vB (wAt sl g p s))) w := by
  have hNN := hN
  obtain ⟨hn1, hn2, hl1, hl2, hm, hm2⟩ := hN
  have hix := nIx hNN hp hs
  refine m_enter (L := [some (.ref 5), some (vI p), some (vI s)]) (by decide) hG (m_c1 rfl) (Nat.le_of_ble_eq_true rfl) rfl ?_
  refine m_aload_n 1 dX2_walledAt_0 rfl rfl ?_
  refine m_iload_n 2 dX2_walledAt_1 rfl rfl ?_
  refine m_iload_n 3 dX2_walledAt_2 rfl rfl ?_
  refine m_cV (M' := MX2_has) 6 [_, _] kX2_36 imX2_has seX2_has clX2_has dX2_walledAt_3 rfl rfl rfl (by first | rfl | assumption) (m_rmI (by omega) (Nat.le_of_ble_eq_true rfl) (Nat.le_refl _) (Nat.le_refl _)) (c_X2_has hG d h5 hNN ⟨by omega, by omega⟩ ⟨by omega, by omega⟩) ?_
  refine b_if_eq 9 29 dX2_walledAt_6 rfl (by decide) (fun h => absurd h (by rw [inB_1 hp, inB_1 hs]; decide)) (fun _ => ?_)
  refine m_aload_n 10 dX2_walledAt_9 rfl rfl ?_
  refine m_getf 13 foX2_28 dX2_walledAt_10 rfl (by first | rfl | assumption) (by rfl) ?_
  refine m_iload_n 14 dX2_walledAt_13 rfl rfl ?_
  refine m_aload_n 15 dX2_walledAt_14 rfl rfl ?_
  refine m_getf 18 foX2_22 dX2_walledAt_15 rfl (by first | rfl | assumption) (by rfl) ?_
  refine i_mul 19 dX2_walledAt_18 rfl ?_
  refine m_iload_n 20 dX2_walledAt_19 rfl rfl ?_
  refine i_add 21 dX2_walledAt_20 rfl ?_
  refine i_zald 22 dX2_walledAt_21 rfl (by first | rfl | assumption) ⟨by omega, by omega, by omega⟩ ?_
  refine b_if_eq 25 29 dX2_walledAt_22 rfl (by decide) (fun q22 => ?_) (fun q22 => ?_)
  · refine i_const 30 dX2_walledAt_29 rfl ?_
    refine i_retB _ dX2_walledAt_30 rfl ⟨Nat.le_refl _, Nat.le_refl _⟩ ?_ ⟨rfl, rfl⟩
    refine i_eq0 ?_
    assumption
  · refine i_const 26 dX2_walledAt_25 rfl ?_
    refine m_goto 30 dX2_walledAt_26 (by decide) ?_
    refine i_retB _ dX2_walledAt_30 rfl ⟨Nat.le_refl _, Nat.le_refl _⟩ ?_ ⟨rfl, rfl⟩
    refine i_eq1 ?_
    assumption
set_option maxHeartbeats 4000000 in
set_option maxRecDepth 100000 in
theorem c_X2_openAt (hG : m_G G) (d : Nat) {p s : Int} {n sl m : Nat} {f : Nat → Int} {g : Nat → Bool} (h5 : w[5]? = some (oNet n sl)) (hN : nOK n sl m) (h6 : w[6]? = some (cI m f)) (h7 : w[7]? = some (cZ m g)) (hp : 0 ≤ p ∧ p < n) (hs : 0 ≤ s ∧ s < sl) : m_Cv G MX2_openAt (m_r (d + 2) 0 0) [.ref 5, vI p, vI s] w (some (vI (oAt sl f g p s))) w := by
  refine m_enter (L := [some (.ref 5), some (vI p), some (vI s)]) (by decide) hG (m_c1 rfl) (Nat.le_of_ble_eq_true rfl) rfl ?_
  refine m_aload_n 1 dX2_openAt_0 rfl rfl ?_
  refine m_iload_n 2 dX2_openAt_1 rfl rfl ?_
  refine m_iload_n 3 dX2_openAt_2 rfl rfl ?_
  refine m_cV (M' := MX2_walledAt) 6 [_, _] kX2_40 imX2_walledAt seX2_walledAt clX2_walledAt dX2_openAt_3 rfl rfl rfl (by first | rfl | assumption) (m_rmI (by omega) (Nat.le_of_ble_eq_true rfl) (Nat.le_refl _) (Nat.le_refl _)) (c_X2_walledAt hG d h5 hN h7 hp hs) ?_
  refine b_if_eq 9 13 dX2_openAt_6 rfl (by decide) (fun q6 => ?_) (fun q6 => ?_)
  · refine m_aload_n 14 dX2_openAt_13 rfl rfl ?_
    refine m_iload_n 15 dX2_openAt_14 rfl rfl ?_
    refine m_iload_n 16 dX2_openAt_15 rfl rfl ?_
    refine m_cV (M' := MX2_besideAt) 19 [_, _] kX2_43 imX2_besideAt seX2_besideAt clX2_besideAt dX2_openAt_16 rfl rfl rfl (by first | rfl | assumption) (m_rmI (by omega) (Nat.le_of_ble_eq_true rfl) (Nat.le_refl _) (Nat.le_refl _)) (c_X2_besideAt hG d h5 hN h6 hp hs) ?_
    refine i_ret _ dX2_openAt_19 rfl ⟨Nat.le_refl _, Nat.le_refl _⟩ ?_ ⟨rfl, rfl⟩
    unfold oAt; split <;> first | rfl | simp_all
  · refine i_const 10 dX2_openAt_9 rfl ?_
    refine m_goto 19 dX2_openAt_10 (by decide) ?_
    refine i_ret _ dX2_openAt_19 rfl ⟨Nat.le_refl _, Nat.le_refl _⟩ ?_ ⟨rfl, rfl⟩
    unfold oAt; split <;> first | rfl | simp_all
set_option maxHeartbeats 4000000 in
set_option maxRecDepth 100000 in
theorem l_X2_slotOf (hG : m_G G) (d : Nat) {p o t : Int} {n sl m : Nat} {f : Nat → Int} (h5 : w[5]? = some (oNet n sl)) (hN : nOK n sl m) (h6 : w[6]? = some (cI m f)) (hp : 0 ≤ p ∧ p < n) (ho : iR o) (hf : ∀ s : Int, 0 ≤ s → s < sl → iR (bAt sl f p s)) :
    ∀ (k : Nat) (i : Int), 0 ≤ i → i + k = sl → fndF (fun s => bAt sl f p s == o) k i = t → m_J G MX2_slotOf (m_r (d + 2) 0 0) (fun r x => r = some (some (vI t)) ∧ x = w) 0 0 7 [some (.ref 5), some (vI p), some (vI o), some (vI i)] [] w := by
  have hNN := hN
  obtain ⟨hn1, hn2, hl1, hl2, hm, hm2⟩ := hN
  obtain ⟨ho1, ho2⟩ := ho
  intro k
  induction k with
  | zero =>
    intro i hi0 hik ht
    refine m_iload_n 8 dX2_slotOf_7 rfl rfl ?_
    refine m_aload_n 9 dX2_slotOf_8 rfl rfl ?_
    refine m_getf 12 foX2_22 dX2_slotOf_9 rfl (by first | rfl | assumption) (by rfl) ?_
    refine i_icmp_ge 15 33 ⟨by omega, by omega⟩ ⟨by omega, by omega⟩ dX2_slotOf_12 rfl (by decide) (fun _ => ?_) (fun h => absurd h (by omega))
    refine i_const 34 dX2_slotOf_33 rfl ?_
    refine i_ret _ dX2_slotOf_34 rfl ⟨Nat.le_refl _, Nat.le_refl _⟩ ?_ ⟨rfl, rfl⟩
    exact ht
  | succ k ih =>
    intro i hi0 hik ht
    have hs : 0 ≤ i ∧ i < (sl : Int) := by omega
    obtain ⟨hb1, hb2⟩ := hf i hs.1 hs.2
    unfold fndF at ht
    refine m_iload_n 8 dX2_slotOf_7 rfl rfl ?_
    refine m_aload_n 9 dX2_slotOf_8 rfl rfl ?_
    refine m_getf 12 foX2_22 dX2_slotOf_9 rfl (by first | rfl | assumption) (by rfl) ?_
    refine i_icmp_ge 15 33 ⟨by omega, by omega⟩ ⟨by omega, by omega⟩ dX2_slotOf_12 rfl (by decide) (fun h => absurd h (by omega)) (fun _ => ?_)
    refine m_aload_n 16 dX2_slotOf_15 rfl rfl ?_
    refine m_iload_n 17 dX2_slotOf_16 rfl rfl ?_
    refine m_iload_n 18 dX2_slotOf_17 rfl rfl ?_
    refine m_cV (M' := MX2_besideAt) 21 [_, _] kX2_43 imX2_besideAt seX2_besideAt clX2_besideAt dX2_slotOf_18 rfl rfl rfl (by first | rfl | assumption) (m_rmI (by omega) (Nat.le_of_ble_eq_true rfl) (Nat.le_refl _) (Nat.le_refl _)) (c_X2_besideAt hG d h5 hNN h6 hp hs) ?_
    refine m_iload_n 22 dX2_slotOf_21 rfl rfl ?_
    refine i_icmp_ne 25 27 ⟨by omega, by omega⟩ ⟨by omega, by omega⟩ dX2_slotOf_22 rfl (by decide) (fun q22 => ?_) (fun q22 => ?_)
    · refine i_inc 30 dX2_slotOf_27 rfl rfl (by decide) ?_
      refine m_goto 7 dX2_slotOf_30 (by decide) ?_
      exact ih (i + 1) (by omega) (by omega) (by rw [if_neg (by simpa using q22)] at ht; exact ht)
    · refine m_iload_n 26 dX2_slotOf_25 rfl rfl ?_
      refine i_ret _ dX2_slotOf_26 rfl ⟨Nat.le_refl _, Nat.le_refl _⟩ ?_ ⟨rfl, rfl⟩
      rw [if_pos (by simpa using q22)] at ht; exact ht
/-- the slot of o beside p -/
def sOf (sl : Nat) (f : Nat → Int) (p o : Int) : Int := if o = -1 then -1 else fndF (fun s => bAt sl f p s == o) sl 0
set_option maxHeartbeats 4000000 in
set_option maxRecDepth 100000 in
theorem c_X2_slotOf (hG : m_G G) (d : Nat) {p o : Int} {n sl m : Nat} {f : Nat → Int} (h5 : w[5]? = some (oNet n sl)) (hN : nOK n sl m) (h6 : w[6]? = some (cI m f)) (hp : 0 ≤ p ∧ p < n) (ho : iR o) (hf : ∀ s : Int, 0 ≤ s → s < sl → iR (bAt sl f p s)) : m_Cv G MX2_slotOf (m_r (d + 2) 0 0) [.ref 5, vI p, vI o] w (some (vI (sOf sl f p o))) w := by
  have hoo := ho
  obtain ⟨ho1, ho2⟩ := ho
  refine m_enter (L := [some (.ref 5), some (vI p), some (vI o), none]) (by decide) hG (m_c1 rfl) (Nat.le_of_ble_eq_true rfl) rfl ?_
  refine m_iload_n 1 dX2_slotOf_0 rfl rfl ?_
  refine i_const 2 dX2_slotOf_1 rfl ?_
  refine i_icmp_eq 5 33 ⟨by omega, by omega⟩ ⟨by omega, by omega⟩ dX2_slotOf_2 rfl (by decide) (fun q2 => ?_) (fun q2 => ?_)
  · refine i_const 34 dX2_slotOf_33 rfl ?_
    refine i_ret _ dX2_slotOf_34 rfl ⟨Nat.le_refl _, Nat.le_refl _⟩ ?_ ⟨rfl, rfl⟩
    unfold sOf; rw [if_pos q2]
  · refine i_const 6 dX2_slotOf_5 rfl ?_
    refine m_istore_n 7 dX2_slotOf_6 rfl (by decide) ?_
    exact l_X2_slotOf hG d h5 hN h6 hp hoo hf sl 0 (by omega) (by omega) (by unfold sOf; rw [if_neg q2])
/-- the least number above b in the slots from i on, against what was found -/
def lbF (f : Int → Int) (b : Int) : Nat → Int → Int → Int
  | 0, _, l => l
  | k + 1, i, l => lbF f b k (i + 1) (if b < f i ∧ (l = -1 ∨ f i < l) then f i else l)
set_option maxHeartbeats 4000000 in
set_option maxRecDepth 100000 in
theorem l_X2_leastBeyond (hG : m_G G) (d : Nat) {p b t : Int} {n sl m : Nat} {f : Nat → Int} (h5 : w[5]? = some (oNet n sl)) (hN : nOK n sl m) (h6 : w[6]? = some (cI m f)) (hp : 0 ≤ p ∧ p < n) (hb : iR b) (hf : ∀ s : Int, 0 ≤ s → s < sl → iR (bAt sl f p s)) :
    ∀ (k : Nat) (i l : Int) (x5 : Option Value), 0 ≤ i → i + k = sl → iR l → lbF (bAt sl f p) b k i l = t → m_J G MX2_leastBeyond (m_r (d + 2) 0 0) (fun r x => r = some (some (vI t)) ∧ x = w) 0 0 5 [some (.ref 5), some (vI p), some (vI b), some (vI l), some (vI i), x5] [] w := by
  have hNN := hN
  obtain ⟨hn1, hn2, hl1, hl2, hm, hm2⟩ := hN
  obtain ⟨hb1, hb2⟩ := hb
  intro k
  induction k with
  | zero =>
    intro i l x5 hi0 hik hl ht
    refine m_iload 7 dX2_leastBeyond_5 rfl rfl ?_
    refine m_aload_n 8 dX2_leastBeyond_7 rfl rfl ?_
    refine m_getf 11 foX2_22 dX2_leastBeyond_8 rfl (by first | rfl | assumption) (by rfl) ?_
    refine i_icmp_ge 14 49 ⟨by omega, by omega⟩ ⟨by omega, by omega⟩ dX2_leastBeyond_11 rfl (by decide) (fun _ => ?_) (fun h => absurd h (by omega))
    refine m_iload_n 50 dX2_leastBeyond_49 rfl rfl ?_
    refine i_ret _ dX2_leastBeyond_50 rfl ⟨Nat.le_refl _, Nat.le_refl _⟩ ?_ ⟨rfl, rfl⟩
    exact ht
  | succ k ih =>
    intro i l x5 hi0 hik hl ht
    have hs : 0 ≤ i ∧ i < (sl : Int) := by omega
    have hfi := hf i hs.1 hs.2
    have hll := hl
    obtain ⟨hc1, hc2⟩ := hf i hs.1 hs.2
    obtain ⟨hl3, hl4⟩ := hl
    unfold lbF at ht
    refine m_iload 7 dX2_leastBeyond_5 rfl rfl ?_
    refine m_aload_n 8 dX2_leastBeyond_7 rfl rfl ?_
    refine m_getf 11 foX2_22 dX2_leastBeyond_8 rfl (by first | rfl | assumption) (by rfl) ?_
    refine i_icmp_ge 14 49 ⟨by omega, by omega⟩ ⟨by omega, by omega⟩ dX2_leastBeyond_11 rfl (by decide) (fun h => absurd h (by omega)) (fun _ => ?_)
    refine m_aload_n 15 dX2_leastBeyond_14 rfl rfl ?_
    refine m_iload_n 16 dX2_leastBeyond_15 rfl rfl ?_
    refine m_iload 18 dX2_leastBeyond_16 rfl rfl ?_
    refine m_cV (M' := MX2_besideAt) 21 [_, _] kX2_43 imX2_besideAt seX2_besideAt clX2_besideAt dX2_leastBeyond_18 rfl rfl rfl (by first | rfl | assumption) (m_rmI (by omega) (Nat.le_of_ble_eq_true rfl) (Nat.le_refl _) (Nat.le_refl _)) (c_X2_besideAt hG d h5 hNN h6 hp hs) ?_
    refine m_istore 23 dX2_leastBeyond_21 rfl (by decide) ?_
    refine m_iload 25 dX2_leastBeyond_23 rfl rfl ?_
    refine m_iload_n 26 dX2_leastBeyond_25 rfl rfl ?_
    refine i_icmp_le 29 43 ⟨by omega, by omega⟩ ⟨by omega, by omega⟩ dX2_leastBeyond_26 rfl (by decide) (fun q26 => ?_) (fun q26 => ?_)
    · refine i_inc 46 dX2_leastBeyond_43 rfl rfl (by decide) ?_
      refine m_goto 5 dX2_leastBeyond_46 (by decide) ?_
      first | exact ih _ _ _ (by omega) (by omega) hll (by rw [if_neg (by omega)] at ht; exact ht) | exact ih _ _ _ (by omega) (by omega) hfi (by rw [if_pos (by omega)] at ht; exact ht)
    · refine m_iload_n 30 dX2_leastBeyond_29 rfl rfl ?_
      refine i_const 31 dX2_leastBeyond_30 rfl ?_
      refine i_icmp_eq 34 40 ⟨by omega, by omega⟩ ⟨by omega, by omega⟩ dX2_leastBeyond_31 rfl (by decide) (fun q31 => ?_) (fun q31 => ?_)
      · refine m_iload 42 dX2_leastBeyond_40 rfl rfl ?_
        refine m_istore_n 43 dX2_leastBeyond_42 rfl (by decide) ?_
        refine i_inc 46 dX2_leastBeyond_43 rfl rfl (by decide) ?_
        refine m_goto 5 dX2_leastBeyond_46 (by decide) ?_
        first | exact ih _ _ _ (by omega) (by omega) hll (by rw [if_neg (by omega)] at ht; exact ht) | exact ih _ _ _ (by omega) (by omega) hfi (by rw [if_pos (by omega)] at ht; exact ht)
      · refine m_iload 36 dX2_leastBeyond_34 rfl rfl ?_
        refine m_iload_n 37 dX2_leastBeyond_36 rfl rfl ?_
        refine i_icmp_ge 40 43 ⟨by omega, by omega⟩ ⟨by omega, by omega⟩ dX2_leastBeyond_37 rfl (by decide) (fun q37 => ?_) (fun q37 => ?_)
        · refine i_inc 46 dX2_leastBeyond_43 rfl rfl (by decide) ?_
          refine m_goto 5 dX2_leastBeyond_46 (by decide) ?_
          first | exact ih _ _ _ (by omega) (by omega) hll (by rw [if_neg (by omega)] at ht; exact ht) | exact ih _ _ _ (by omega) (by omega) hfi (by rw [if_pos (by omega)] at ht; exact ht)
        · refine m_iload 42 dX2_leastBeyond_40 rfl rfl ?_
          refine m_istore_n 43 dX2_leastBeyond_42 rfl (by decide) ?_
          refine i_inc 46 dX2_leastBeyond_43 rfl rfl (by decide) ?_
          refine m_goto 5 dX2_leastBeyond_46 (by decide) ?_
          first | exact ih _ _ _ (by omega) (by omega) hll (by rw [if_neg (by omega)] at ht; exact ht) | exact ih _ _ _ (by omega) (by omega) hfi (by rw [if_pos (by omega)] at ht; exact ht)
/-- the least neighbour of p above b -/
def lbN (sl : Nat) (f : Nat → Int) (p b : Int) : Int := lbF (bAt sl f p) b sl 0 (-1)
set_option maxHeartbeats 4000000 in
set_option maxRecDepth 100000 in
theorem c_X2_leastBeyond (hG : m_G G) (d : Nat) {p b : Int} {n sl m : Nat} {f : Nat → Int} (h5 : w[5]? = some (oNet n sl)) (hN : nOK n sl m) (h6 : w[6]? = some (cI m f)) (hp : 0 ≤ p ∧ p < n) (hb : iR b) (hf : ∀ s : Int, 0 ≤ s → s < sl → iR (bAt sl f p s)) : m_Cv G MX2_leastBeyond (m_r (d + 2) 0 0) [.ref 5, vI p, vI b] w (some (vI (lbN sl f p b))) w := by
  refine m_enter (L := [some (.ref 5), some (vI p), some (vI b), none, none, none]) (by decide) hG (m_c1 rfl) (Nat.le_of_ble_eq_true rfl) rfl ?_
  refine i_const 1 dX2_leastBeyond_0 rfl ?_
  refine m_istore_n 2 dX2_leastBeyond_1 rfl (by decide) ?_
  refine i_const 3 dX2_leastBeyond_2 rfl ?_
  refine m_istore 5 dX2_leastBeyond_3 rfl (by decide) ?_
  exact l_X2_leastBeyond hG d h5 hN h6 hp hb hf sl 0 (-1) _ (by omega) (by omega) ⟨by omega, by omega⟩ rfl
set_option maxHeartbeats 4000000 in
set_option maxRecDepth 100000 in
theorem c_X2_tie (hG : m_G G) (d : Nat) {a b : Int} {n sl m : Nat} {f : Nat → Int} (h5 : w[5]? = some (oNet n sl)) (hN : nOK n sl m) (h6 : w[6]? = some (cI m f)) (ha : 0 ≤ a ∧ a < n ∧ a < sl) (hb : 0 ≤ b ∧ b < n ∧ b < sl) : m_Cv G MX2_tie (m_r (d + 1) 0 0) [.ref 5, vI a, vI b] w none (w.set 6 (cI m (up (up f (a * sl + b).toNat b) (b * sl + a).toNat a))) := by
  have hNN := hN
  obtain ⟨hn1, hn2, hl1, hl2, hm, hm2⟩ := hN
  have hi1 := nIx hNN (p := a) (s := b) (by omega) (by omega)
  have hi2 := nIx hNN (p := b) (s := a) (by omega) (by omega)
  have h5' : (w.set 6 (cI m (up f (a * sl + b).toNat b)))[5]? = some (oNet n sl) := by rw [List.getElem?_set_ne (by decide)]; exact h5
  have h6' : (w.set 6 (cI m (up f (a * sl + b).toNat b)))[6]? = some (cI m (up f (a * sl + b).toNat b)) := List.getElem?_set_self (List.getElem?_eq_some_iff.mp h6).1
  refine m_enter (L := [some (.ref 5), some (vI a), some (vI b)]) (by decide) hG (m_c1 rfl) (Nat.le_of_ble_eq_true rfl) rfl ?_
  refine m_aload_n 1 dX2_tie_0 rfl rfl ?_
  refine m_iload_n 2 dX2_tie_1 rfl rfl ?_
  refine m_iload_n 3 dX2_tie_2 rfl rfl ?_
  refine m_cV (M' := MX2_has) 6 [_, _] kX2_36 imX2_has seX2_has clX2_has dX2_tie_3 rfl rfl rfl (by first | rfl | assumption) (m_rmI (by omega) (Nat.le_of_ble_eq_true rfl) (Nat.le_refl _) (Nat.le_refl _)) (c_X2_has hG d h5 hNN ⟨by omega, by omega⟩ ⟨by omega, by omega⟩) ?_
  refine b_if_eq 9 46 dX2_tie_6 rfl (by decide) (fun h => absurd h (by rw [inB_1 (by omega), inB_1 (by omega)]; decide)) (fun _ => ?_)
  refine m_aload_n 10 dX2_tie_9 rfl rfl ?_
  refine m_iload_n 11 dX2_tie_10 rfl rfl ?_
  refine m_iload_n 12 dX2_tie_11 rfl rfl ?_
  refine m_cV (M' := MX2_has) 15 [_, _] kX2_36 imX2_has seX2_has clX2_has dX2_tie_12 rfl rfl rfl (by first | rfl | assumption) (m_rmI (by omega) (Nat.le_of_ble_eq_true rfl) (Nat.le_refl _) (Nat.le_refl _)) (c_X2_has hG d h5 hNN ⟨by omega, by omega⟩ ⟨by omega, by omega⟩) ?_
  refine b_if_eq 18 46 dX2_tie_15 rfl (by decide) (fun h => absurd h (by rw [inB_1 (by omega), inB_1 (by omega)]; decide)) (fun _ => ?_)
  refine m_aload_n 19 dX2_tie_18 rfl rfl ?_
  refine m_getf 22 foX2_24 dX2_tie_19 rfl (by first | rfl | assumption) (by rfl) ?_
  refine m_iload_n 23 dX2_tie_22 rfl rfl ?_
  refine m_aload_n 24 dX2_tie_23 rfl rfl ?_
  refine m_getf 27 foX2_22 dX2_tie_24 rfl (by first | rfl | assumption) (by rfl) ?_
  refine i_mul 28 dX2_tie_27 rfl ?_
  refine m_iload_n 29 dX2_tie_28 rfl rfl ?_
  refine i_add 30 dX2_tie_29 rfl ?_
  refine m_iload_n 31 dX2_tie_30 rfl rfl ?_
  refine i_ast 32 dX2_tie_31 rfl (by first | rfl | assumption) ⟨by omega, by omega, by omega⟩ ?_
  refine m_aload_n 33 dX2_tie_32 rfl rfl ?_
  refine m_getf 36 foX2_24 dX2_tie_33 rfl (by first | rfl | assumption) (by rfl) ?_
  refine m_iload_n 37 dX2_tie_36 rfl rfl ?_
  refine m_aload_n 38 dX2_tie_37 rfl rfl ?_
  refine m_getf 41 foX2_22 dX2_tie_38 rfl (by first | rfl | assumption) (by rfl) ?_
  refine i_mul 42 dX2_tie_41 rfl ?_
  refine m_iload_n 43 dX2_tie_42 rfl rfl ?_
  refine i_add 44 dX2_tie_43 rfl ?_
  refine m_iload_n 45 dX2_tie_44 rfl rfl ?_
  refine i_ast 46 dX2_tie_45 rfl (by first | rfl | assumption) ⟨by omega, by omega, by omega⟩ ?_
  refine m_vret dX2_tie_46 rfl ⟨Nat.le_refl _, Nat.le_refl _⟩ ?_
  exact ⟨rfl, List.set_set _⟩
set_option maxHeartbeats 4000000 in
set_option maxRecDepth 100000 in
theorem c_X2_setWall (hG : m_G G) (d : Nat) {p s : Int} {b : Bool} {n sl m : Nat} {g : Nat → Bool} (h5 : w[5]? = some (oNet n sl)) (hN : nOK n sl m) (h7 : w[7]? = some (cZ m g)) (hp : 0 ≤ p ∧ p < n) (hs : 0 ≤ s ∧ s < sl) : m_Cv G MX2_setWall (m_r (d + 1) 0 0) [.ref 5, vI p, vI s, vB b] w none (w.set 7 (cZ m (up g (p * sl + s).toNat b))) := by
  have hNN := hN
  obtain ⟨hn1, hn2, hl1, hl2, hm, hm2⟩ := hN
  have hix := nIx hNN hp hs
  refine m_enter (L := [some (.ref 5), some (vI p), some (vI s), some (vB b)]) (by decide) hG (m_c1 rfl) (Nat.le_of_ble_eq_true rfl) rfl ?_
  refine m_aload_n 1 dX2_setWall_0 rfl rfl ?_
  refine m_iload_n 2 dX2_setWall_1 rfl rfl ?_
  refine m_iload_n 3 dX2_setWall_2 rfl rfl ?_
  refine m_cV (M' := MX2_has) 6 [_, _] kX2_36 imX2_has seX2_has clX2_has dX2_setWall_3 rfl rfl rfl (by first | rfl | assumption) (m_rmI (by omega) (Nat.le_of_ble_eq_true rfl) (Nat.le_refl _) (Nat.le_refl _)) (c_X2_has hG d h5 hNN ⟨by omega, by omega⟩ ⟨by omega, by omega⟩) ?_
  refine b_if_eq 9 23 dX2_setWall_6 rfl (by decide) (fun h => absurd h (by rw [inB_1 hp, inB_1 hs]; decide)) (fun _ => ?_)
  refine m_aload_n 10 dX2_setWall_9 rfl rfl ?_
  refine m_getf 13 foX2_28 dX2_setWall_10 rfl (by first | rfl | assumption) (by rfl) ?_
  refine m_iload_n 14 dX2_setWall_13 rfl rfl ?_
  refine m_aload_n 15 dX2_setWall_14 rfl rfl ?_
  refine m_getf 18 foX2_22 dX2_setWall_15 rfl (by first | rfl | assumption) (by rfl) ?_
  refine i_mul 19 dX2_setWall_18 rfl ?_
  refine m_iload_n 20 dX2_setWall_19 rfl rfl ?_
  refine i_add 21 dX2_setWall_20 rfl ?_
  refine m_iload_n 22 dX2_setWall_21 rfl rfl ?_
  refine i_zast 23 dX2_setWall_22 rfl (by first | rfl | assumption) ⟨by omega, by omega, by omega⟩ ?_
  refine m_vret dX2_setWall_23 rfl ⟨Nat.le_refl _, Nat.le_refl _⟩ ?_
  exact ⟨rfl, rfl⟩
end NT
