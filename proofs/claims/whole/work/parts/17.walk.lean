/-! Walk: the simple ones -/
section WK
variable {G : mG} {w : List mC}
theorem set_get {w : List mC} {i : Nat} {c : mC} (h : w[i]? = some c) : w.set i c = w := by
  apply List.ext_getElem?
  intro j
  by_cases hj : j = i
  · subst hj
    rw [List.getElem?_set_self (List.getElem?_eq_some_iff.mp h).1, h]
  · rw [List.getElem?_set_ne (Ne.symm hj)]
abbrev oWalk : mC := mO 6 [.ref 5, .ref 10, .ref 11]
/-- the walk's three cells -/
def wW (w : List mC) (a b c : mC) : List mC := ((w.set 10 a).set 11 b).set 12 c
theorem wW_10 (w : List mC) (a b c a' : mC) : (wW w a b c).set 10 a' = wW w a' b c := by
  unfold wW
  rw [List.set_comm _ _ (by decide : (12 : Nat) ≠ 10), List.set_comm _ _ (by decide : (11 : Nat) ≠ 10), List.set_set]
theorem wW_11 (w : List mC) (a b c b' : mC) : (wW w a b c).set 11 b' = wW w a b' c := by
  unfold wW
  rw [List.set_comm _ _ (by decide : (12 : Nat) ≠ 11), List.set_set]
theorem wW_12 (w : List mC) (a b c c' : mC) : (wW w a b c).set 12 c' = wW w a b c' := by
  unfold wW
  rw [List.set_set]
theorem wW_n {w : List mC} {a b c : mC} {i : Nat} (h1 : i ≠ 10) (h2 : i ≠ 11) (h3 : i ≠ 12) : (wW w a b c)[i]? = w[i]? := by
  unfold wW
  rw [List.getElem?_set_ne (Ne.symm h3), List.getElem?_set_ne (Ne.symm h2), List.getElem?_set_ne (Ne.symm h1)]
theorem wW_a {w : List mC} {a b c : mC} (h : 12 < w.length) : (wW w a b c)[10]? = some a := by
  unfold wW
  rw [List.getElem?_set_ne (by decide), List.getElem?_set_ne (by decide), List.getElem?_set_self (by omega)]
theorem wW_b {w : List mC} {a b c : mC} (h : 12 < w.length) : (wW w a b c)[11]? = some b := by
  unfold wW
  rw [List.getElem?_set_ne (by decide), List.getElem?_set_self (by simp; omega)]
theorem wW_c {w : List mC} {a b c : mC} (h : 12 < w.length) : (wW w a b c)[12]? = some c := by
  unfold wW
  rw [List.getElem?_set_self (by simp; omega)]
/-- the first i numbers by g, the rest as they were -/
def fill {α : Type} (i : Nat) (g f : Nat → α) : Nat → α := fun j => if j < i then g j else f j
theorem fill_0 {α : Type} (g f : Nat → α) : fill 0 g f = f := by funext j; simp [fill]
theorem fill_s {α : Type} (i : Nat) (g f : Nat → α) : up (fill i g f) i (g i) = fill (i + 1) g f := by
  funext j
  unfold up fill
  by_cases h : j = i
  · subst h; simp
  · rw [if_neg h]
    by_cases h2 : j < i
    · rw [if_pos h2, if_pos (by omega)]
    · rw [if_neg h2, if_neg (by omega)]

set_option maxHeartbeats 4000000 in
set_option maxRecDepth 100000 in
theorem l_X6_admitAll (hG : m_G G) (d : Nat) {n : Nat} {f : Nat → Int} (hn : n < 100000) (hw : 10 < w.length) (h9 : w[9]? = some oWalk) : ∀ (k i : Nat), i + k = n →
    m_J G MX6_admitAll (m_r d 0 0) (fun r x => r = some none ∧ x = w.set 10 (cI n (fill n (fun _ => -1) f))) 0 0 2 [some (.ref 9), some (vI i)] [] (w.set 10 (cI n (fill i (fun _ => -1) f))) := by
  intro k
  induction k with
  | zero =>
    intro i hi
    have hin : i = n := by omega
    subst hin
    have e9 : (w.set 10 (cI i (fill i (fun _ => -1) f)))[9]? = some oWalk := by rw [List.getElem?_set_ne (by decide)]; exact h9
    have e10 : (w.set 10 (cI i (fill i (fun _ => -1) f)))[10]? = some (cI i (fill i (fun _ => -1) f)) := List.getElem?_set_self hw
    refine m_iload_n 3 dX6_admitAll_2 rfl rfl ?_
    refine m_aload_n 4 dX6_admitAll_3 rfl rfl ?_
    refine m_getf 7 foX6_19 dX6_admitAll_4 rfl (by first | rfl | assumption) (by rfl) ?_
    refine i_len 8 dX6_admitAll_7 rfl (by first | rfl | assumption) ?_
    refine i_icmp_ge 11 24 ⟨by omega, by omega⟩ ⟨by omega, by omega⟩ dX6_admitAll_8 rfl (by decide) (fun _ => ?_) (fun h => absurd h (by omega))
    refine m_vret dX6_admitAll_24 rfl ⟨Nat.le_refl _, Nat.le_refl _⟩ ?_
    exact ⟨rfl, rfl⟩
  | succ k ih =>
    intro i hi
    have e9 : (w.set 10 (cI n (fill i (fun _ => -1) f)))[9]? = some oWalk := by rw [List.getElem?_set_ne (by decide)]; exact h9
    have e10 : (w.set 10 (cI n (fill i (fun _ => -1) f)))[10]? = some (cI n (fill i (fun _ => -1) f)) := List.getElem?_set_self hw
    refine m_iload_n 3 dX6_admitAll_2 rfl rfl ?_
    refine m_aload_n 4 dX6_admitAll_3 rfl rfl ?_
    refine m_getf 7 foX6_19 dX6_admitAll_4 rfl (by first | rfl | assumption) (by rfl) ?_
    refine i_len 8 dX6_admitAll_7 rfl (by first | rfl | assumption) ?_
    refine i_icmp_ge 11 24 ⟨by omega, by omega⟩ ⟨by omega, by omega⟩ dX6_admitAll_8 rfl (by decide) (fun h => absurd h (by omega)) (fun _ => ?_)
    refine m_aload_n 12 dX6_admitAll_11 rfl rfl ?_
    refine m_getf 15 foX6_19 dX6_admitAll_12 rfl (by first | rfl | assumption) (by rfl) ?_
    refine m_iload_n 16 dX6_admitAll_15 rfl rfl ?_
    refine i_const 17 dX6_admitAll_16 rfl ?_
    refine i_ast 18 dX6_admitAll_17 rfl (by first | rfl | assumption) ⟨by omega, by omega, by omega⟩ ?_
    refine i_inc 21 dX6_admitAll_18 rfl rfl (by decide) ?_
    refine m_goto 2 dX6_admitAll_21 (by decide) ?_
    have e := ih (i + 1) (by omega)
    rw [← fill_s] at e
    rw [List.set_set]
    exact e
set_option maxHeartbeats 4000000 in
set_option maxRecDepth 100000 in
theorem c_X6_admitAll (hG : m_G G) (d : Nat) {n : Nat} {f : Nat → Int} (hn : n < 100000) (h9 : w[9]? = some oWalk) (h10 : w[10]? = some (cI n f)) : m_Cv G MX6_admitAll (m_r d 0 0) [.ref 9] w none (w.set 10 (cI n (fill n (fun _ => -1) f))) := by
  refine m_enter (L := [some (.ref 9), none]) (by decide) hG (m_c1 rfl) (Nat.le_of_ble_eq_true rfl) rfl ?_
  refine i_const 1 dX6_admitAll_0 rfl ?_
  refine m_istore_n 2 dX6_admitAll_1 rfl (by decide) ?_
  have e := l_X6_admitAll hG d (f := f) hn (List.getElem?_eq_some_iff.mp h10).1 h9 n 0 (by omega)
  rw [fill_0] at e
  rw [show w.set 10 (cI n f) = w from set_get h10] at e
  exact e
set_option maxHeartbeats 4000000 in
set_option maxRecDepth 100000 in
theorem l_X6_admitArea (hG : m_G G) (d : Nat) {n : Nat} {a : Int} {f g : Nat → Int} (hn : n < 100000) (ha : iR a) (hg : ∀ j, j < n → iR (g j)) (hw : 10 < w.length) (h9 : w[9]? = some oWalk) (h21 : w[21]? = some (cI n g)) : ∀ (k i : Nat), i + k = n →
    m_J G MX6_admitArea (m_r d 0 0) (fun r x => r = some none ∧ x = w.set 10 (cI n (fill n (fun j => if g j = a then -1 else -2) f))) 0 0 2 [some (.ref 9), some (.ref 21), some (vI a), some (vI i)] [] (w.set 10 (cI n (fill i (fun j => if g j = a then -1 else -2) f))) := by
  obtain ⟨ha1, ha2⟩ := ha
  intro k
  induction k with
  | zero =>
    intro i hi
    have hin : i = n := by omega
    subst hin
    have e9 : (w.set 10 (cI i (fill i (fun j => if g j = a then -1 else -2) f)))[9]? = some oWalk := by rw [List.getElem?_set_ne (by decide)]; exact h9
    have e10 : (w.set 10 (cI i (fill i (fun j => if g j = a then -1 else -2) f)))[10]? = some (cI i (fill i (fun j => if g j = a then -1 else -2) f)) := List.getElem?_set_self hw
    refine m_iload_n 3 dX6_admitArea_2 rfl rfl ?_
    refine m_aload_n 4 dX6_admitArea_3 rfl rfl ?_
    refine m_getf 7 foX6_19 dX6_admitArea_4 rfl (by first | rfl | assumption) (by rfl) ?_
    refine i_len 8 dX6_admitArea_7 rfl (by first | rfl | assumption) ?_
    refine i_icmp_ge 11 42 ⟨by omega, by omega⟩ ⟨by omega, by omega⟩ dX6_admitArea_8 rfl (by decide) (fun _ => ?_) (fun h => absurd h (by omega))
    refine m_vret dX6_admitArea_42 rfl ⟨Nat.le_refl _, Nat.le_refl _⟩ ?_
    exact ⟨rfl, rfl⟩
  | succ k ih =>
    intro i hi
    obtain ⟨hg1, hg2⟩ := hg i (by omega)
    have hti : ((i : Int)).toNat = i := by omega
    have e9 : (w.set 10 (cI n (fill i (fun j => if g j = a then -1 else -2) f)))[9]? = some oWalk := by rw [List.getElem?_set_ne (by decide)]; exact h9
    have e10 : (w.set 10 (cI n (fill i (fun j => if g j = a then -1 else -2) f)))[10]? = some (cI n (fill i (fun j => if g j = a then -1 else -2) f)) := List.getElem?_set_self hw
    have e21 : (w.set 10 (cI n (fill i (fun j => if g j = a then -1 else -2) f)))[21]? = some (cI n g) := by rw [List.getElem?_set_ne (by decide)]; exact h21
    refine m_iload_n 3 dX6_admitArea_2 rfl rfl ?_
    refine m_aload_n 4 dX6_admitArea_3 rfl rfl ?_
    refine m_getf 7 foX6_19 dX6_admitArea_4 rfl (by first | rfl | assumption) (by rfl) ?_
    refine i_len 8 dX6_admitArea_7 rfl (by first | rfl | assumption) ?_
    refine i_icmp_ge 11 42 ⟨by omega, by omega⟩ ⟨by omega, by omega⟩ dX6_admitArea_8 rfl (by decide) (fun h => absurd h (by omega)) (fun _ => ?_)
    refine m_iload_n 12 dX6_admitArea_11 rfl rfl ?_
    refine m_aload_n 13 dX6_admitArea_12 rfl rfl ?_
    refine i_len 14 dX6_admitArea_13 rfl (by first | rfl | assumption) ?_
    refine i_icmp_ge 17 42 ⟨by omega, by omega⟩ ⟨by omega, by omega⟩ dX6_admitArea_14 rfl (by decide) (fun h => absurd h (by omega)) (fun _ => ?_)
    refine m_aload_n 18 dX6_admitArea_17 rfl rfl ?_
    refine m_getf 21 foX6_19 dX6_admitArea_18 rfl (by first | rfl | assumption) (by rfl) ?_
    refine m_iload_n 22 dX6_admitArea_21 rfl rfl ?_
    refine m_aload_n 23 dX6_admitArea_22 rfl rfl ?_
    refine m_iload_n 24 dX6_admitArea_23 rfl rfl ?_
    refine i_ald 25 dX6_admitArea_24 rfl (by first | rfl | assumption) ⟨by omega, by omega, by omega⟩ ?_
    refine m_iload_n 26 dX6_admitArea_25 rfl rfl ?_
    rw [hti]
    refine i_icmp_ne 29 33 ⟨by omega, by omega⟩ ⟨by omega, by omega⟩ dX6_admitArea_26 rfl (by decide) (fun q26 => ?_) (fun q26 => ?_)
    · refine i_bipush 35 (-2) dX6_admitArea_33 rfl (by decide) ?_
      refine i_ast 36 dX6_admitArea_35 rfl (by first | rfl | assumption) ⟨by omega, by omega, by omega⟩ ?_
      refine i_inc 39 dX6_admitArea_36 rfl rfl (by decide) ?_
      refine m_goto 2 dX6_admitArea_39 (by decide) ?_
      have e := ih (i + 1) (by omega)
      rw [← fill_s] at e
      rw [List.set_set, hti]
      first | (rw [if_pos q26] at e; exact e) | (rw [if_neg q26] at e; exact e)
    · refine i_const 30 dX6_admitArea_29 rfl ?_
      refine m_goto 35 dX6_admitArea_30 (by decide) ?_
      refine i_ast 36 dX6_admitArea_35 rfl (by first | rfl | assumption) ⟨by omega, by omega, by omega⟩ ?_
      refine i_inc 39 dX6_admitArea_36 rfl rfl (by decide) ?_
      refine m_goto 2 dX6_admitArea_39 (by decide) ?_
      have e := ih (i + 1) (by omega)
      rw [← fill_s] at e
      rw [List.set_set, hti]
      first | (rw [if_pos q26] at e; exact e) | (rw [if_neg q26] at e; exact e)
set_option maxHeartbeats 4000000 in
set_option maxRecDepth 100000 in
theorem c_X6_admitArea (hG : m_G G) (d : Nat) {n : Nat} {a : Int} {f g : Nat → Int} (hn : n < 100000) (ha : iR a) (hg : ∀ j, j < n → iR (g j)) (h9 : w[9]? = some oWalk) (h10 : w[10]? = some (cI n f)) (h21 : w[21]? = some (cI n g)) : m_Cv G MX6_admitArea (m_r d 0 0) [.ref 9, .ref 21, vI a] w none (w.set 10 (cI n (fill n (fun j => if g j = a then -1 else -2) f))) := by
  refine m_enter (L := [some (.ref 9), some (.ref 21), some (vI a), none]) (by decide) hG (m_c1 rfl) (Nat.le_of_ble_eq_true rfl) rfl ?_
  refine i_const 1 dX6_admitArea_0 rfl ?_
  refine m_istore_n 2 dX6_admitArea_1 rfl (by decide) ?_
  have e := l_X6_admitArea hG d (f := f) hn ha hg (List.getElem?_eq_some_iff.mp h10).1 h9 h21 n 0 (by omega)
  rw [fill_0] at e
  rw [show w.set 10 (cI n f) = w from set_get h10] at e
  exact e
set_option maxHeartbeats 4000000 in
set_option maxRecDepth 100000 in
theorem c_X6_refuse (hG : m_G G) (d : Nat) {n : Nat} {z : Int} {f : Nat → Int} (hn : n < 100000) (hz : 0 ≤ z ∧ z < n) (h9 : w[9]? = some oWalk) (h10 : w[10]? = some (cI n f)) : m_Cv G MX6_refuse (m_r d 0 0) [.ref 9, vI z] w none (w.set 10 (cI n (up f z.toNat (-2)))) := by
  refine m_enter (L := [some (.ref 9), some (vI z)]) (by decide) hG (m_c1 rfl) (Nat.le_of_ble_eq_true rfl) rfl ?_
  refine m_iload_n 1 dX6_refuse_0 rfl rfl ?_
  refine i_if_lt 4 21 ⟨by omega, by omega⟩ dX6_refuse_1 rfl (by decide) (fun h => absurd h (by omega)) (fun _ => ?_)
  refine m_iload_n 5 dX6_refuse_4 rfl rfl ?_
  refine m_aload_n 6 dX6_refuse_5 rfl rfl ?_
  refine m_getf 9 foX6_19 dX6_refuse_6 rfl (by first | rfl | assumption) (by rfl) ?_
  refine i_len 10 dX6_refuse_9 rfl (by first | rfl | assumption) ?_
  refine i_icmp_ge 13 21 ⟨by omega, by omega⟩ ⟨by omega, by omega⟩ dX6_refuse_10 rfl (by decide) (fun h => absurd h (by omega)) (fun _ => ?_)
  refine m_aload_n 14 dX6_refuse_13 rfl rfl ?_
  refine m_getf 17 foX6_19 dX6_refuse_14 rfl (by first | rfl | assumption) (by rfl) ?_
  refine m_iload_n 18 dX6_refuse_17 rfl rfl ?_
  refine i_bipush 20 (-2) dX6_refuse_18 rfl (by decide) ?_
  refine i_ast 21 dX6_refuse_20 rfl (by first | rfl | assumption) ⟨by omega, by omega, by omega⟩ ?_
  refine m_vret dX6_refuse_21 rfl ⟨Nat.le_refl _, Nat.le_refl _⟩ ?_
  exact ⟨rfl, rfl⟩
set_option maxHeartbeats 4000000 in
set_option maxRecDepth 100000 in
theorem c_X6_stepsTo (hG : m_G G) (d : Nat) {n : Nat} {z : Int} {f : Nat → Int} (hn : n < 100000) (hz : 0 ≤ z ∧ z < n) (h9 : w[9]? = some oWalk) (h10 : w[10]? = some (cI n f)) : m_Cv G MX6_stepsTo (m_r d 0 0) [.ref 9, vI z] w (some (vI (f z.toNat))) w := by
  refine m_enter (L := [some (.ref 9), some (vI z)]) (by decide) hG (m_c1 rfl) (Nat.le_of_ble_eq_true rfl) rfl ?_
  refine m_iload_n 1 dX6_stepsTo_0 rfl rfl ?_
  refine i_if_lt 4 22 ⟨by omega, by omega⟩ dX6_stepsTo_1 rfl (by decide) (fun h => absurd h (by omega)) (fun _ => ?_)
  refine m_iload_n 5 dX6_stepsTo_4 rfl rfl ?_
  refine m_aload_n 6 dX6_stepsTo_5 rfl rfl ?_
  refine m_getf 9 foX6_19 dX6_stepsTo_6 rfl (by first | rfl | assumption) (by rfl) ?_
  refine i_len 10 dX6_stepsTo_9 rfl (by first | rfl | assumption) ?_
  refine i_icmp_ge 13 22 ⟨by omega, by omega⟩ ⟨by omega, by omega⟩ dX6_stepsTo_10 rfl (by decide) (fun h => absurd h (by omega)) (fun _ => ?_)
  refine m_aload_n 14 dX6_stepsTo_13 rfl rfl ?_
  refine m_getf 17 foX6_19 dX6_stepsTo_14 rfl (by first | rfl | assumption) (by rfl) ?_
  refine m_iload_n 18 dX6_stepsTo_17 rfl rfl ?_
  refine i_ald 19 dX6_stepsTo_18 rfl (by first | rfl | assumption) ⟨by omega, by omega, by omega⟩ ?_
  refine m_goto 24 dX6_stepsTo_19 (by decide) ?_
  refine i_ret _ dX6_stepsTo_24 rfl ⟨Nat.le_refl _, Nat.le_refl _⟩ ?_ ⟨rfl, rfl⟩
  rfl
set_option maxHeartbeats 4000000 in
set_option maxRecDepth 100000 in
theorem c_X6_reachN (hG : m_G G) (d : Nat) {n : Nat} {z s : Int} {f : Nat → Int} (hn : n < 100000) (hz : -1 ≤ z ∧ z < n) (hf : 0 ≤ z → iR (f z.toNat) ∧ f z.toNat ≠ -1) (h9 : w[9]? = some oWalk) (h10 : w[10]? = some (cI n f)) : m_Cv G MX6_reach (m_r (d + 1) 0 0) [.ref 9, vI z, vI s] w none w := by
  refine m_enter (L := [some (.ref 9), some (vI z), some (vI s)]) (by decide) hG (m_c1 rfl) (Nat.le_of_ble_eq_true rfl) rfl ?_
  refine m_iload_n 1 dX6_reach_0 rfl rfl ?_
  refine i_if_lt 4 39 ⟨by omega, by omega⟩ dX6_reach_1 rfl (by decide) (fun q1 => ?_) (fun q1 => ?_)
  · refine m_vret dX6_reach_39 rfl ⟨Nat.le_refl _, Nat.le_refl _⟩ ?_
    exact ⟨rfl, rfl⟩
  · obtain ⟨⟨hf1, hf2⟩, hf3⟩ := hf q1
    refine m_iload_n 5 dX6_reach_4 rfl rfl ?_
    refine m_aload_n 6 dX6_reach_5 rfl rfl ?_
    refine m_getf 9 foX6_19 dX6_reach_6 rfl (by first | rfl | assumption) (by rfl) ?_
    refine i_len 10 dX6_reach_9 rfl (by first | rfl | assumption) ?_
    refine i_icmp_ge 13 39 ⟨by omega, by omega⟩ ⟨by omega, by omega⟩ dX6_reach_10 rfl (by decide) (fun h => absurd h (by omega)) (fun _ => ?_)
    refine m_aload_n 14 dX6_reach_13 rfl rfl ?_
    refine m_getf 17 foX6_19 dX6_reach_14 rfl (by first | rfl | assumption) (by rfl) ?_
    refine m_iload_n 18 dX6_reach_17 rfl rfl ?_
    refine i_ald 19 dX6_reach_18 rfl (by first | rfl | assumption) ⟨by omega, by omega, by omega⟩ ?_
    refine i_const 20 dX6_reach_19 rfl ?_
    refine i_icmp_ne 23 39 ⟨by omega, by omega⟩ ⟨by omega, by omega⟩ dX6_reach_20 rfl (by decide) (fun _ => ?_) (fun h => absurd h hf3)
    refine m_vret dX6_reach_39 rfl ⟨Nat.le_refl _, Nat.le_refl _⟩ ?_
    exact ⟨rfl, rfl⟩
set_option maxHeartbeats 4000000 in
set_option maxRecDepth 100000 in
theorem c_X6_reachY (hG : m_G G) (d : Nat) {n : Nat} {z s l : Int} {f g : Nat → Int} (hn : n < 100000) (hz : 0 ≤ z ∧ z < n) (hf : f z.toNat = -1) (hl : 0 ≤ l ∧ l < n) (hw : 12 < w.length) (h9 : w[9]? = some oWalk) : m_Cv G MX6_reach (m_r (d + 1) 0 0) [.ref 9, vI z, vI s] (wW w (cI n f) (oRow 12 l) (cI n g)) none (wW w (cI n (up f z.toNat s)) (oRow 12 (l + 1)) (cI n (up g l.toNat z))) := by
  have a9 : (wW w (cI n f) (oRow 12 l) (cI n g))[9]? = some oWalk := by rw [wW_n (by decide) (by decide) (by decide)]; exact h9
  have a10 : (wW w (cI n f) (oRow 12 l) (cI n g))[10]? = some (cI n f) := wW_a hw
  have b9 : (wW w (cI n (up f z.toNat s)) (oRow 12 l) (cI n g))[9]? = some oWalk := by rw [wW_n (by decide) (by decide) (by decide)]; exact h9
  have b11 : (wW w (cI n (up f z.toNat s)) (oRow 12 l) (cI n g))[11]? = some (oRow 12 l) := wW_b hw
  have b12 : (wW w (cI n (up f z.toNat s)) (oRow 12 l) (cI n g))[12]? = some (cI n g) := wW_c hw
  refine m_enter (L := [some (.ref 9), some (vI z), some (vI s)]) (by decide) hG (m_c1 rfl) (Nat.le_of_ble_eq_true rfl) rfl ?_
  refine m_iload_n 1 dX6_reach_0 rfl rfl ?_
  refine i_if_lt 4 39 ⟨by first | omega | (rw [hf]; omega), by first | omega | (rw [hf]; omega)⟩ dX6_reach_1 rfl (by decide) (fun h => absurd h (by omega)) (fun _ => ?_)
  refine m_iload_n 5 dX6_reach_4 rfl rfl ?_
  refine m_aload_n 6 dX6_reach_5 rfl rfl ?_
  refine m_getf 9 foX6_19 dX6_reach_6 rfl (by first | rfl | assumption) (by rfl) ?_
  refine i_len 10 dX6_reach_9 rfl (by first | rfl | assumption) ?_
  refine i_icmp_ge 13 39 ⟨by first | omega | (rw [hf]; omega), by first | omega | (rw [hf]; omega)⟩ ⟨by first | omega | (rw [hf]; omega), by first | omega | (rw [hf]; omega)⟩ dX6_reach_10 rfl (by decide) (fun h => absurd h (by omega)) (fun _ => ?_)
  refine m_aload_n 14 dX6_reach_13 rfl rfl ?_
  refine m_getf 17 foX6_19 dX6_reach_14 rfl (by first | rfl | assumption) (by rfl) ?_
  refine m_iload_n 18 dX6_reach_17 rfl rfl ?_
  refine i_ald 19 dX6_reach_18 rfl (by first | rfl | assumption) ⟨by omega, by omega, by omega⟩ ?_
  refine i_const 20 dX6_reach_19 rfl ?_
  refine i_icmp_ne 23 39 ⟨by first | omega | (rw [hf]; omega), by first | omega | (rw [hf]; omega)⟩ ⟨by first | omega | (rw [hf]; omega), by first | omega | (rw [hf]; omega)⟩ dX6_reach_20 rfl (by decide) (fun h => absurd h (by rw [hf]; decide)) (fun _ => ?_)
  refine m_aload_n 24 dX6_reach_23 rfl rfl ?_
  refine m_getf 27 foX6_19 dX6_reach_24 rfl (by first | rfl | assumption) (by rfl) ?_
  refine m_iload_n 28 dX6_reach_27 rfl rfl ?_
  refine m_iload_n 29 dX6_reach_28 rfl rfl ?_
  refine i_ast 30 dX6_reach_29 rfl (by first | rfl | assumption) ⟨by omega, by omega, by omega⟩ ?_
  rw [wW_10]
  refine m_aload_n 31 dX6_reach_30 rfl rfl ?_
  refine m_getf 34 foX6_28 dX6_reach_31 rfl (by first | rfl | assumption) (by rfl) ?_
  refine m_iload_n 35 dX6_reach_34 rfl rfl ?_
  refine m_cV (M' := MX3_put) 38 [_] kX6_62 imX3_put seX3_put clX3_put dX6_reach_35 rfl rfl rfl (by first | rfl | assumption) (m_rmI (by omega) (Nat.le_of_ble_eq_true rfl) (Nat.le_refl _) (Nat.le_refl _)) (c_X3_put (i := 10) (c := 11) hG d b11 b12 (by decide) hl (by omega)) ?_
  refine m_pop 39 dX6_reach_38 rfl rfl ?_
  refine m_vret dX6_reach_39 rfl ⟨Nat.le_refl _, Nat.le_refl _⟩ ?_
  exact ⟨rfl, by rw [wW_12, wW_11]⟩
end WK
