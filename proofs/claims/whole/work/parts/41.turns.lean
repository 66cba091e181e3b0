/-! class and model: turns that keep all -/
section AT
def itT (T : Int → Int) : Nat → Int → Int
  | 0, z => z
  | m + 1, z => itT T m (T z)
theorem allF_t {P : Int → Bool} : ∀ (k : Nat) (i : Int), allF P k i = true ↔ ∀ s, i ≤ s → s < i + k → P s = true
  | 0, i => ⟨fun _ s h1 h2 => by omega, fun _ => rfl⟩
  | k + 1, i => by
    show (P i && allF P k (i + 1)) = true ↔ _
    rw [Bool.and_eq_true, allF_t k (i + 1)]
    constructor
    · rintro ⟨h1, h2⟩ s q1 q2
      by_cases e : s = i
      · subst e; exact h1
      · exact h2 s (by omega) (by omega)
    · intro h
      exact ⟨h i (by omega) (by omega), fun s q1 q2 => h s (by omega) (by omega)⟩
variable {k W H : Int} {n sl m : Nat} {bes mk : Nat → Int} {wal nb wl : Nat → Bool}
theorem co_z {W z : Int} : W * (z / W) + z % W = z := Int.mul_ediv_add_emod z W
theorem pos_xy (hF : fOK k W H n) {z : Int} (hz : 0 ≤ z ∧ z < n) : 0 ≤ z % W ∧ z % W < W ∧ 0 ≤ z / W ∧ z / W < H := by
  obtain ⟨hk0, hk4, hW1, hW2, hH1, hH2, hn, hg4⟩ := hF
  exact ⟨Int.emod_nonneg _ (by omega), Int.emod_lt_of_pos _ (by omega), Int.ediv_nonneg hz.1 (by omega), Int.ediv_lt_of_lt_mul (by omega) (by rw [Int.mul_comm, ← hn]; exact hz.2)⟩
/-- the new column and row, where there is no ring -/
def tX (W t x y : Int) : Int := if t % 2 = 1 then W - 1 - (if t < 4 then x else y) else (if t < 4 then x else y)
def tY (H t x y : Int) : Int := if 1 < t % 4 then H - 1 - (if t < 4 then y else x) else (if t < 4 then y else x)
theorem TM_n {t z : Int} (hk : k ≠ 3) : TM k W H t z = plA W H (tX W t (z % W) (z / W)) (tY H t (z % W) (z / W)) := by
  unfold TM trn
  rw [if_neg hk]
  rfl
theorem TM_3 {t z : Int} : TM 3 W H t z = plA W H (rgC W t (z % W)) (z / W) := by
  unfold TM trn
  rw [if_pos rfl]
theorem tXY_r {t x y : Int} (ht : 0 ≤ t ∧ t < 8) (hsq : 4 ≤ t → W = H) (h : 0 ≤ x ∧ x < W ∧ 0 ≤ y ∧ y < H) : 0 ≤ tX W t x y ∧ tX W t x y < W ∧ 0 ≤ tY H t x y ∧ tY H t x y < H := by
  unfold tX tY
  by_cases h4 : t < 4
  · rw [if_pos h4, if_pos h4]
    refine ⟨?_, ?_, ?_, ?_⟩ <;> split <;> omega
  · have := hsq (by omega)
    rw [if_neg h4, if_neg h4]
    refine ⟨?_, ?_, ?_, ?_⟩ <;> split <;> omega
theorem TM_nc {t z : Int} (hk : k ≠ 3) (ht : 0 ≤ t ∧ t < 8) (hsq : 4 ≤ t → W = H) (h : 0 ≤ z % W ∧ z % W < W ∧ 0 ≤ z / W ∧ z / W < H) : TM k W H t z % W = tX W t (z % W) (z / W) ∧ TM k W H t z / W = tY H t (z % W) (z / W) := by
  have hr := tXY_r ht hsq h
  rw [TM_n hk, plA_in hr]
  exact co_x ⟨hr.1, hr.2.1⟩
theorem TM_ord (hF : fOK k W H n) {t : Int} (ht : 0 ≤ t ∧ t < tuN k W H) : ∃ m : Nat, ∀ z : Int, 0 ≤ z → z < n → itT (TM k W H t) m (TM k W H t z) = z := by
  have hFF := hF
  have hc := fun (z : Int) (h0 : 0 ≤ z) (h1 : z < n) => pos_xy hFF (z := z) ⟨h0, h1⟩
  have hTr := fun (z : Int) (h0 : 0 ≤ z) (h1 : z < n) => TM_r hFF ht (p := z) ⟨h0, h1⟩
  obtain ⟨hk0, hk4, hW1, hW2, hH1, hH2, hn, hg4⟩ := hF
  have htu := tuR (k := k) (W := W) (H := H) (t := t) ⟨by omega, by omega, by omega, by omega⟩ ht
  by_cases hk3 : k = 3
  · subst hk3
    have ht2 := htu.2.1 rfl
    have hg : ∀ x, 0 ≤ x → x < W → 0 ≤ rgC W t x ∧ rgC W t x < W := by
      intro x h0 h1
      unfold rgC
      split <;> split <;> omega
    have hcT : ∀ z : Int, 0 ≤ z → z < n → TM 3 W H t z % W = rgC W t (z % W) ∧ TM 3 W H t z / W = z / W := by
      intro z h0 h1
      have c := hc z h0 h1
      have g := hg _ c.1 c.2.1
      rw [TM_3, plA_in ⟨g.1, g.2, c.2.2.1, c.2.2.2⟩]
      exact co_x g
    by_cases h2 : t % 2 = 0
    · -- a rotation
      have hrg : ∀ x, 0 ≤ x → x < W → rgC W t x = (x + t / 2) % W := by
        intro x h0 h1
        unfold rgC
        rw [if_pos h2]
        split
        · exact (Int.emod_eq_of_lt (by omega) (by omega)).symm
        · rw [show x + t / 2 = x + t / 2 - W + W by omega, Int.add_emod_right, Int.add_sub_cancel]
          exact (Int.emod_eq_of_lt (by omega) (by omega)).symm
      have hit : ∀ (m : Nat) (z : Int), 0 ≤ z → z < n → (0 ≤ itT (TM 3 W H t) m z ∧ itT (TM 3 W H t) m z < n) ∧ itT (TM 3 W H t) m z % W = (z % W + m * (t / 2)) % W ∧ itT (TM 3 W H t) m z / W = z / W := by
        intro m
        induction m with
        | zero =>
          intro z h0 h1
          refine ⟨⟨h0, h1⟩, ?_, rfl⟩
          show z % W = (z % W + ((0 : Nat) : Int) * (t / 2)) % W
          rw [show ((0 : Nat) : Int) * (t / 2) = 0 by omega, Int.add_zero, Int.emod_emod_of_dvd _ (Int.dvd_refl W)]
        | succ m ih =>
          intro z h0 h1
          have c := hc z h0 h1
          have r := hTr z h0 h1
          obtain ⟨i1, i2, i3⟩ := ih (TM 3 W H t z) r.1 r.2
          have ct := hcT z h0 h1
          refine ⟨i1, ?_, i3.trans ct.2⟩
          show itT (TM 3 W H t) m (TM 3 W H t z) % W = _
          rw [i2, ct.1, hrg _ c.1 c.2.1, Int.emod_add_emod]
          congr 1
          rw [Int.natCast_add, Int.add_mul]
          omega
      refine ⟨(W - 1).toNat, fun z h0 h1 => ?_⟩
      have c := hc z h0 h1
      have r := hTr z h0 h1
      obtain ⟨i1, i2, i3⟩ := hit (W - 1).toNat (TM 3 W H t z) r.1 r.2
      have ct := hcT z h0 h1
      have c2 := hc _ i1.1 i1.2
      rw [ct.1, hrg _ c.1 c.2.1, Int.emod_add_emod, Int.toNat_of_nonneg (by omega), show z % W + t / 2 + (W - 1) * (t / 2) = z % W + W * (t / 2) by rw [Int.sub_mul]; omega, Int.add_mul_emod_self_left, Int.emod_emod_of_dvd _ (Int.dvd_refl W)] at i2
      have e := co_z (W := W) (z := itT (TM 3 W H t) (W - 1).toNat (TM 3 W H t z))
      rw [i2, i3, ct.2] at e
      rw [← e]
      exact co_z
    · -- a mirror image
      refine ⟨1, fun z h0 h1 => ?_⟩
      have c := hc z h0 h1
      have ct := hcT z h0 h1
      show TM 3 W H t (TM 3 W H t z) = z
      rw [TM_3, ct.1, ct.2]
      have e : rgC W t (rgC W t (z % W)) = z % W := by
        unfold rgC
        rw [if_neg h2, if_neg h2]
        by_cases e1 : t / 2 - z % W < 0
        · rw [if_pos e1]
          split <;> omega
        · rw [if_neg e1]
          split <;> omega
      rw [plA_at e rfl c]
      exact co_z
  · have ht8 := htu.2.2 hk3
    have hsq : 4 ≤ t → W = H := by
      intro h4
      have h := ht.2
      unfold tuN at h
      by_cases e4 : k = 4
      · rw [if_pos e4] at h; omega
      · rw [if_neg e4, if_neg hk3] at h
        by_cases e : W = H
        · exact e
        · rw [if_neg e] at h; omega
    have hcT := fun (z : Int) (h0 : 0 ≤ z) (h1 : z < n) => TM_nc (k := k) (t := t) hk3 ⟨ht.1, ht8⟩ hsq (hc z h0 h1)
    by_cases h4 : t < 4
    · refine ⟨1, fun z h0 h1 => ?_⟩
      have c := hc z h0 h1
      have ct := hcT z h0 h1
      show TM k W H t (TM k W H t z) = z
      rw [TM_n hk3, ct.1, ct.2]
      have e1 : tX W t (tX W t (z % W) (z / W)) (tY H t (z % W) (z / W)) = z % W := by
        unfold tX
        rw [if_pos h4, if_pos h4]
        split <;> omega
      have e2 : tY H t (tX W t (z % W) (z / W)) (tY H t (z % W) (z / W)) = z / W := by
        unfold tY
        rw [if_pos h4, if_pos h4]
        split <;> omega
      rw [plA_at e1 e2 c]
      exact co_z
    · have hWH := hsq (by omega)
      refine ⟨3, fun z h0 h1 => ?_⟩
      have c := hc z h0 h1
      have r1 := hTr z h0 h1
      have r2 := hTr _ r1.1 r1.2
      have r3 := hTr _ r2.1 r2.2
      have ct1 := hcT z h0 h1
      have ct2 := hcT _ r1.1 r1.2
      have ct3 := hcT _ r2.1 r2.2
      show TM k W H t (TM k W H t (TM k W H t (TM k W H t z))) = z
      rw [TM_n hk3, ct3.1, ct3.2, ct2.1, ct2.2, ct1.1, ct1.2]
      have hX : ∀ x y, tX W t x y = if t % 2 = 1 then W - 1 - y else y := fun x y => by unfold tX; rw [if_neg h4]
      have hY : ∀ x y, tY H t x y = if 1 < t % 4 then H - 1 - x else x := fun x y => by unfold tY; rw [if_neg h4]
      have e1 : tX W t (tX W t (tX W t (tX W t (z % W) (z / W)) (tY H t (z % W) (z / W))) (tY H t (tX W t (z % W) (z / W)) (tY H t (z % W) (z / W)))) (tY H t (tX W t (tX W t (z % W) (z / W)) (tY H t (z % W) (z / W))) (tY H t (tX W t (z % W) (z / W)) (tY H t (z % W) (z / W)))) = z % W := by
        simp only [hX, hY]
        by_cases p1 : t % 2 = 1
        · by_cases p2 : 1 < t % 4
          · simp only [if_pos p1, if_pos p2]; omega
          · simp only [if_pos p1, if_neg p2]; omega
        · by_cases p2 : 1 < t % 4
          · simp only [if_neg p1, if_pos p2]; omega
          · simp only [if_neg p1, if_neg p2]
      have e2 : tY H t (tX W t (tX W t (tX W t (z % W) (z / W)) (tY H t (z % W) (z / W))) (tY H t (tX W t (z % W) (z / W)) (tY H t (z % W) (z / W)))) (tY H t (tX W t (tX W t (z % W) (z / W)) (tY H t (z % W) (z / W))) (tY H t (tX W t (z % W) (z / W)) (tY H t (z % W) (z / W)))) = z / W := by
        simp only [hX, hY]
        by_cases p1 : t % 2 = 1
        · by_cases p2 : 1 < t % 4
          · simp only [if_pos p1, if_pos p2]; omega
          · simp only [if_pos p1, if_neg p2]; omega
        · by_cases p2 : 1 < t % 4
          · simp only [if_neg p1, if_pos p2]; omega
          · simp only [if_neg p1, if_neg p2]
      rw [plA_at e1 e2 c]
      exact co_z
theorem kept_iff (h : LK k W H n sl bes wal nb wl) (hb : ∀ (p : Nat) (s : Int), p < n → 0 ≤ s → s < sl → -1 ≤ bAt sl bes p s ∧ bAt sl bes p s < n) {T : Int → Int} (hT : ∀ z : Int, 0 ≤ z → z < n → 0 ≤ T z ∧ T z < n) {m : Nat} (ho : ∀ z : Int, 0 ≤ z → z < n → itT T m (T z) = z) : allF (kaP sl bes mk wal T) n 0 = allF (kOut n nb wl mk T) n 0 := by
  have h' := h
  obtain ⟨g1, g2, g3, g4, g5, g6, g7, g8⟩ := h
  have hTn : ∀ p : Nat, p < n → ∃ q : Nat, T p = q ∧ q < n := by
    intro p hp
    have := hT p (by omega) (by omega)
    exact ⟨(T p).toNat, (Int.toNat_of_nonneg this.1).symm, by omega⟩
  have hit : ∀ (j : Nat) (z : Int), 0 ≤ z → z < n → 0 ≤ itT T j z ∧ itT T j z < n := by
    intro j
    induction j with
    | zero => exact fun z h0 h1 => ⟨h0, h1⟩
    | succ j ih => exact fun z h0 h1 => ih (T z) (hT z h0 h1).1 (hT z h0 h1).2
  rw [Bool.eq_iff_iff, allF_t, allF_t]
  constructor
  · intro hcl
    have hcl2 : ∀ p : Nat, p < n → mk p = mk (T p).toNat ∧ ∀ s : Int, 0 ≤ s → s < sl → bAt sl bes p s = -1 ∨ (sOf sl bes (T p) (T (bAt sl bes p s)) ≠ -1 ∧ wAt sl wal p s = wAt sl wal (T p) (sOf sl bes (T p) (T (bAt sl bes p s)))) := by
      intro p hp
      have := hcl p (by omega) (by omega)
      unfold kaP at this
      rw [Bool.and_eq_true, beq_iff_eq, Int.toNat_natCast, allF_t] at this
      refine ⟨this.1, fun s h0 h1 => ?_⟩
      have := this.2 s h0 (by omega)
      unfold kbP at this
      rw [Bool.or_eq_true, Bool.and_eq_true, beq_iff_eq, bne_iff_ne, beq_iff_eq] at this
      exact this
    have hedge : ∀ p q : Nat, p < n → q < n → nb (256 * p + q) = true → ∀ p' q' : Nat, T p = p' → T q = q' → p' < n → q' < n → nb (256 * p' + q') = true ∧ wl (256 * p + q) = wl (256 * p' + q') := by
      intro p q hp hq hn p' q' hp' hq' hpn hqn
      obtain ⟨s, s0, s1, s2⟩ := (g1 p q hp hq).mp hn
      rcases (hcl2 p hp).2 s s0 s1 with z | ⟨z1, z2⟩
      · omega
      · rw [s2, hp', hq'] at z1 z2
        refine ⟨?_, ?_⟩
        · cases e : nb (256 * p' + q') with
          | true => rfl
          | false => exact absurd ((LK_slot h' hpn hqn).mpr e) z1
        · rw [← g4 p q s hp hq s0 s1 s2, z2]
          exact LK_wat h' hpn hqn z1
    have hiter : ∀ (j p q : Nat), p < n → q < n → nb (256 * p + q) = true → ∀ p' q' : Nat, itT T j p = p' → itT T j q = q' → p' < n → q' < n → nb (256 * p' + q') = true := by
      intro j
      induction j with
      | zero =>
        intro p q hp hq hn p' q' e1 e2 _ _
        have e1 : (p : Int) = p' := e1
        have e2 : (q : Int) = q' := e2
        rw [show p' = p by omega, show q' = q by omega]; exact hn
      | succ j ih =>
        intro p q hp hq hn p' q' e1 e2 hp' hq'
        obtain ⟨a, ea, ha⟩ := hTn p hp
        obtain ⟨b, eb, hb'⟩ := hTn q hq
        have e1 : itT T j (T p) = p' := e1
        have e2 : itT T j (T q) = q' := e2
        rw [ea] at e1
        rw [eb] at e2
        exact ih a b ha hb' (hedge p q hp hq hn a b ea eb ha hb').1 p' q' e1 e2 hp' hq'
    intro z h0 h1
    obtain ⟨p, rfl⟩ := Int.eq_ofNat_of_zero_le h0
    have hp : p < n := by omega
    unfold kOut
    rw [Bool.and_eq_true, beq_iff_eq, Int.toNat_natCast, allF_t]
    refine ⟨(hcl2 p hp).1, fun y y0 y1 => ?_⟩
    obtain ⟨q, rfl⟩ := Int.eq_ofNat_of_zero_le y0
    have hq : q < n := by omega
    obtain ⟨a, ea, ha⟩ := hTn p hp
    obtain ⟨b, eb, hb'⟩ := hTn q hq
    unfold kIn
    rw [ea, eb, mA_n, mA_n, mA_n, mA_n, Bool.and_eq_true, beq_iff_eq, beq_iff_eq]
    have op := ho p (by omega) (by omega)
    have oq := ho q (by omega) (by omega)
    rw [ea] at op
    rw [eb] at oq
    have hback : nb (256 * a + b) = true → nb (256 * p + q) = true := fun e => hiter m a b ha hb' e p q op oq hp hq
    cases e : nb (256 * p + q) with
    | true =>
      obtain ⟨w1, w2⟩ := hedge p q hp hq e a b ea eb ha hb'
      exact ⟨w1.symm, w2⟩
    | false =>
      have e2 : nb (256 * a + b) = false := by
        cases e3 : nb (256 * a + b) with
        | false => rfl
        | true => rw [hback e3] at e; cases e
      have f1 : wl (256 * p + q) = false := by
        cases e3 : wl (256 * p + q) with
        | false => rfl
        | true => rw [g5 p q hp hq e3] at e; cases e
      have f2 : wl (256 * a + b) = false := by
        cases e3 : wl (256 * a + b) with
        | false => rfl
        | true => rw [g5 a b ha hb' e3] at e2; cases e2
      exact ⟨e2.symm, by rw [f1, f2]⟩
  · intro hm z h0 h1
    obtain ⟨p, rfl⟩ := Int.eq_ofNat_of_zero_le h0
    have hp : p < n := by omega
    have := hm p (by omega) (by omega)
    unfold kOut at this
    rw [Bool.and_eq_true, beq_iff_eq, Int.toNat_natCast, allF_t] at this
    unfold kaP
    rw [Bool.and_eq_true, beq_iff_eq, Int.toNat_natCast, allF_t]
    refine ⟨this.1, fun s s0 s1 => ?_⟩
    unfold kbP
    rw [Bool.or_eq_true, Bool.and_eq_true, beq_iff_eq, bne_iff_ne, beq_iff_eq]
    by_cases e : bAt sl bes p s = -1
    · exact Or.inl e
    · have hr := hb p s hp s0 (by omega)
      obtain ⟨q, hq⟩ := Int.eq_ofNat_of_zero_le (show 0 ≤ bAt sl bes p s by omega)
      have hqn : q < n := by omega
      have hk := this.2 q (by omega) (by omega)
      obtain ⟨a, ea, ha⟩ := hTn p hp
      obtain ⟨b, eb, hb'⟩ := hTn q hqn
      unfold kIn at hk
      rw [ea, eb, mA_n, mA_n, mA_n, mA_n, Bool.and_eq_true, beq_iff_eq, beq_iff_eq] at hk
      rw [hq, ea, eb]
      have hn : nb (256 * p + q) = true := (g1 p q hp hqn).mpr ⟨s, s0, by omega, hq⟩
      have hs : sOf sl bes a b ≠ -1 := fun z => by rw [(LK_slot h' ha hb').mp z, hn] at hk; cases hk.1
      refine Or.inr ⟨hs, ?_⟩
      rw [LK_wat h' ha hb' hs, g4 p q s hp hqn s0 (by omega) hq]
      exact hk.2
theorem kaP_congr {T T' : Int → Int} (h : ∀ z : Int, 0 ≤ z → z < n → T z = T' z) (hb : ∀ (p : Nat) (s : Int), p < n → 0 ≤ s → s < sl → -1 ≤ bAt sl bes p s ∧ bAt sl bes p s < n) : allF (kaP sl bes mk wal T) n 0 = allF (kaP sl bes mk wal T') n 0 := by
  rw [Bool.eq_iff_iff, allF_t, allF_t]
  have key : ∀ z : Int, 0 ≤ z → z < 0 + n → kaP sl bes mk wal T z = kaP sl bes mk wal T' z := by
    intro z h0 h1
    obtain ⟨p, rfl⟩ := Int.eq_ofNat_of_zero_le h0
    unfold kaP
    rw [h p h0 (by omega)]
    congr 1
    rw [Bool.eq_iff_iff, allF_t, allF_t]
    have k2 : ∀ s : Int, 0 ≤ s → s < 0 + sl → kbP sl bes wal T p (T' p) s = kbP sl bes wal T' p (T' p) s := by
      intro s s0 s1
      have hr := hb p s (by omega) s0 (by omega)
      unfold kbP
      by_cases e : bAt sl bes p s = -1
      · rw [beq_iff_eq.mpr e, Bool.true_or, Bool.true_or]
      · rw [h _ (by omega) hr.2]
    constructor
    · intro q s s0 s1; rw [← k2 s s0 s1]; exact q s s0 s1
    · intro q s s0 s1; rw [k2 s s0 s1]; exact q s s0 s1
  constructor
  · intro q s s0 s1; rw [← key s s0 s1]; exact q s s0 s1
  · intro q s s0 s1; rw [key s s0 s1]; exact q s s0 s1
end AT
