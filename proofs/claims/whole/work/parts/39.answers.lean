/-! class and model: the same answers -/
section AN
theorem cntF_last (P : Int → Bool) : ∀ (k : Nat) (i : Int), cntF P (k + 1) i = cntF P k i + (if P (i + k) then 1 else 0)
  | 0, i => by
    show (if P i then 1 else 0) + (0 : Int) = 0 + (if P (i + ((0 : Nat) : Int)) then 1 else 0)
    rw [show i + ((0 : Nat) : Int) = i by omega]
    omega
  | k + 1, i => by
    have e := cntF_last P k (i + 1)
    show (if P i then 1 else 0) + cntF P (k + 1) (i + 1) = ((if P i then 1 else 0) + cntF P k (i + 1)) + _
    rw [e, show i + 1 + (k : Int) = i + ((k + 1 : Nat) : Int) by omega]
    omega
theorem cntF_cN (P : Int → Bool) (i : Int) : ∀ k : Nat, cntF P k i = ((cN (fun j => P (i + (j : Int))) k : Nat) : Int)
  | 0 => rfl
  | k + 1 => by
    have e : cN (fun j => P (i + (j : Int))) (k + 1) = cN (fun j => P (i + (j : Int))) k + if P (i + (k : Int)) = true then 1 else 0 := rfl
    rw [cntF_last, cntF_cN P i k, e]
    by_cases h : P (i + (k : Int)) = true
    · rw [if_pos h, if_pos h]; rfl
    · rw [if_neg h, if_neg h]; rfl
theorem cntF_congr {P P' : Int → Bool} : ∀ (k : Nat) (i : Int), (∀ s, i ≤ s → s < i + k → P s = P' s) → cntF P k i = cntF P' k i
  | 0, _, _ => rfl
  | k + 1, i, h => by
    unfold cntF
    rw [h i (by omega) (by omega), cntF_congr k (i + 1) (fun s h1 h2 => h s (by omega) (by omega))]
theorem cntF_add (P : Int → Bool) : ∀ (a b : Nat) (i : Int), cntF P (a + b) i = cntF P a i + cntF P b (i + a)
  | 0, b, i => by rw [Nat.zero_add, show i + ((0 : Nat) : Int) = i by omega]; unfold cntF; cases b <;> simp [cntF]
  | a + 1, b, i => by
    rw [show a + 1 + b = (a + b) + 1 by omega]
    show (if P i then 1 else 0) + cntF P (a + b) (i + 1) = ((if P i then 1 else 0) + cntF P a (i + 1)) + _
    rw [cntF_add P a b (i + 1), show i + 1 + (a : Int) = i + ((a + 1 : Nat) : Int) by omega]
    omega
theorem cntF_no {P : Int → Bool} : ∀ (k : Nat) (i : Int), (∀ s, i ≤ s → s < i + k → P s = false) → cntF P k i = 0
  | 0, _, _ => rfl
  | k + 1, i, h => by
    unfold cntF
    rw [h i (by omega) (by omega), cntF_no k (i + 1) (fun s h1 h2 => h s (by omega) (by omega))]
    rfl
theorem cnt_img {f : Nat → Int} {n : Nat} : ∀ (sl : Nat) (P : Nat → Bool), (∀ s, s < sl → -1 ≤ f s ∧ f s < n) → (∀ s s', s < sl → s' < sl → f s ≠ -1 → f s = f s' → s = s') → (∀ q, q < n → (P q = true ↔ ∃ s, s < sl ∧ f s = q)) → cN P n = cN (fun s => f s != -1) sl
  | 0, P, _, _, h => by
    have e : ∀ q, q < n → P q = false := fun q hq => by
      cases hh : P q with
      | false => rfl
      | true => obtain ⟨s, hs, -⟩ := (h q hq).mp hh; omega
    rw [cN_eq (P := fun _ => false) n e, cN_0 (fun _ => rfl)]
    rfl
  | sl + 1, P, hr, hi, h => by
    have hr' : ∀ s, s < sl → -1 ≤ f s ∧ f s < n := fun s hs => hr s (by omega)
    have hi' : ∀ s s', s < sl → s' < sl → f s ≠ -1 → f s = f s' → s = s' := fun s s' h1 h2 => hi s s' (by omega) (by omega)
    have ec : cN (fun s => f s != -1) (sl + 1) = cN (fun s => f s != -1) sl + if (f sl != -1) = true then 1 else 0 := rfl
    rw [ec]
    by_cases e : f sl = -1
    · rw [if_neg (by simp [e]), Nat.add_zero]
      refine cnt_img sl P hr' hi' (fun q hq => ?_)
      rw [h q hq]
      constructor
      · rintro ⟨s, h1, h2⟩
        by_cases es : s = sl
        · subst es; omega
        · exact ⟨s, by omega, h2⟩
      · rintro ⟨s, h1, h2⟩; exact ⟨s, by omega, h2⟩
    · rw [if_pos (by simp [e])]
      have hz := hr sl (by omega)
      have ez : ((f sl).toNat : Int) = f sl := Int.toNat_of_nonneg (by omega)
      have ih := cnt_img sl (fun q => P q && decide (q ≠ (f sl).toNat)) hr' hi' (fun q hq => ?_)
      · rw [← ih]
        refine cN_up (z := (f sl).toNat) (by simp) ((h _ (by omega)).mpr ⟨sl, by omega, ez.symm⟩) (fun q hq => by simp [hq]) n (by omega)
      · rw [Bool.and_eq_true, decide_eq_true_eq, h q hq]
        constructor
        · rintro ⟨⟨s, h1, h2⟩, h3⟩
          by_cases es : s = sl
          · subst es; exact absurd (by omega) h3
          · exact ⟨s, by omega, h2⟩
        · rintro ⟨s, h1, h2⟩
          refine ⟨⟨s, by omega, h2⟩, fun e3 => ?_⟩
          have := hi s sl (by omega) (by omega) (by omega) (by omega)
          omega
variable {k W H : Int} {n sl m : Nat} {bes : Nat → Int} {wal nb wl : Nat → Bool}
/-- what of the slots stands with P is what of the places stands with P -/
theorem LK_count (h : LK k W H n sl bes wal nb wl) (hb : ∀ (p : Nat) (s : Int), p < n → 0 ≤ s → s < sl → -1 ≤ bAt sl bes p s ∧ bAt sl bes p s < n) {p : Nat} (hp : p < n) (Pc : Int → Bool) (Pm : Int → Bool)
    (hc : ∀ s, 0 ≤ s → s < sl → bAt sl bes p s = -1 → Pc s = false) (hm : ∀ (s : Int) (q : Nat), 0 ≤ s → s < sl → q < n → bAt sl bes p s = q → Pc s = Pm q) (hq : ∀ q : Nat, q < n → Pm q = true → nb (256 * p + q) = true) : cntF Pc sl 0 = cntF Pm n 0 := by
  obtain ⟨g1, g2, g3, g4, g5, g6, g7, g8⟩ := h
  rw [cntF_cN, cntF_cN]
  congr 1
  have key := cnt_img (f := fun s => if Pc (s : Int) then bAt sl bes p (s : Int) else -1) (n := n) sl (fun q => Pm (0 + (q : Int))) (fun s hs => ?_) (fun s s' hs hs' hne e => ?_) (fun q hq' => ?_)
  · rw [key]
    refine cN_eq sl (fun s hs => ?_)
    show Pc (0 + (s : Int)) = ((if Pc (s : Int) then bAt sl bes p (s : Int) else -1) != -1)
    rw [Int.zero_add]
    have hr := hb p s hp (by omega) (by omega)
    cases e : Pc (s : Int) with
    | false => rfl
    | true =>
      have : bAt sl bes p s ≠ -1 := fun z => by rw [hc s (by omega) (by omega) z] at e; cases e
      simp [this]
  · have := hb p s hp (by omega) (by omega)
    show -1 ≤ (if Pc (s : Int) then bAt sl bes p (s : Int) else -1) ∧ (if Pc (s : Int) then bAt sl bes p (s : Int) else -1) < n
    split <;> omega
  · have hne : (if Pc (s : Int) then bAt sl bes p (s : Int) else -1) ≠ -1 := hne
    have e : (if Pc (s : Int) then bAt sl bes p (s : Int) else -1) = (if Pc (s' : Int) then bAt sl bes p (s' : Int) else -1) := e
    by_cases c1 : Pc (s : Int) = true
    · rw [if_pos c1] at hne e
      by_cases c2 : Pc (s' : Int) = true
      · rw [if_pos c2] at e
        have := g2 p s s' hp (by omega) (by omega) (by omega) (by omega) hne e
        omega
      · rw [if_neg c2] at e; exact absurd e hne
    · rw [if_neg c1] at hne; exact absurd rfl hne
  · show Pm (0 + (q : Int)) = true ↔ ∃ s, s < sl ∧ (if Pc (s : Int) then bAt sl bes p (s : Int) else -1) = q
    rw [Int.zero_add]
    constructor
    · intro e
      obtain ⟨s, s0, s1, s2⟩ := (g1 p q hp hq').mp (hq q hq' e)
      refine ⟨s.toNat, by omega, ?_⟩
      rw [Int.toNat_of_nonneg s0, hm s q s0 s1 hq' s2, if_pos e]
      exact s2
    · rintro ⟨s, s1, s2⟩
      by_cases c1 : Pc (s : Int) = true
      · rw [if_pos c1] at s2
        rw [← hm s q (by omega) (by omega) hq' s2]; exact c1
      · rw [if_neg c1] at s2; omega
theorem LK_degree (h : LK k W H n sl bes wal nb wl) (hb : ∀ (p : Nat) (s : Int), p < n → 0 ≤ s → s < sl → -1 ≤ bAt sl bes p s ∧ bAt sl bes p s < n) {p : Nat} (hp : p < n) (nx : Bool) :
    cntF (fun s => (if nx then oAt sl bes wal p s else bAt sl bes p s) != -1) sl 0 = cntF (fun q => if nx then nxM nb wl p q else mA nb p q) n 0 := by
  have h' := h
  obtain ⟨g1, g2, g3, g4, g5, g6, g7, g8⟩ := h
  refine LK_count h' hb hp _ _ (fun s h0 h1 e => ?_) (fun s q h0 h1 hq e => ?_) (fun q hq e => ?_)
  · show ((if nx then oAt sl bes wal p s else bAt sl bes p s) != -1) = false
    unfold oAt
    cases nx <;> simp [e]
  · show ((if nx then oAt sl bes wal p s else bAt sl bes p s) != -1) = (if nx then nxM nb wl p q else mA nb p q)
    have hn : nb (256 * p + q) = true := (g1 p q hp hq).mpr ⟨s, h0, h1, e⟩
    have hw := g4 p q s hp hq h0 h1 e
    have hq1 : (q : Int) ≠ -1 := by omega
    unfold oAt nxM
    rw [mA_n, mA_n, hn, ← hw, e]
    cases nx with
    | false => simp [hq1]
    | true =>
      cases wAt sl wal p s with
      | false => simp [hq1]
      | true => rfl
  · have e : (if nx then nxM nb wl p q else mA nb p q) = true := e
    cases nx with
    | false => rw [← mA_n nb p q]; exact e
    | true =>
      have e : nxM nb wl p q = true := e
      unfold nxM at e
      rw [mA_n, Bool.and_eq_true] at e
      exact e.1
theorem nthF_m1 {g : Int → Int} {c : Int} : ∀ (j : Nat) (i f : Int), (∀ s, i ≤ s → s < i + j → g s = -1) → nthF g c j i f = -1
  | 0, _, _, _ => rfl
  | j + 1, i, f, h => by
    unfold nthF
    rw [if_pos (h i (by omega) (by omega))]
    exact nthF_m1 j (i + 1) f (fun s h1 h2 => h s (by omega) (by omega))
theorem nthF_pad {g g' : Int → Int} {c : Int} : ∀ (a b : Nat) (i f : Int), (∀ s, i ≤ s → s < i + a → g s = g' s) → (∀ s, i + a ≤ s → s < i + a + b → g' s = -1) → nthF g c a i f = nthF g' c (a + b) i f
  | 0, b, i, f, _, h => by
    rw [Nat.zero_add, nthF_m1 b i f (fun s h1 h2 => h s (by omega) (by omega))]
    rfl
  | a + 1, b, i, f, h1, h2 => by
    rw [show a + 1 + b = (a + b) + 1 by omega]
    have ih := fun f => nthF_pad (g := g) (g' := g') (c := c) a b (i + 1) f (fun s q1 q2 => h1 s (by omega) (by omega)) (fun s q1 q2 => h2 s (by omega) (by omega))
    unfold nthF
    rw [h1 i (by omega) (by omega), ih, ih]
theorem LK_neighbour (h : LK k W H n sl bes wal nb wl) (hF : fOK k W H n) (hsl : sl = slN k n) {p : Nat} (hp : p < n) (c : Int) : nthF (bAt sl bes p) c sl 0 0 = nthF (gN k W H n nb p) c 256 0 0 := by
  obtain ⟨g1, g2, g3, g4, g5, g6, g7, g8⟩ := h
  have hnb := hF.n
  obtain ⟨hk0, hk4, hW1, hW2, hH1, hH2, hn, hg4⟩ := hF
  have hs256 : sl ≤ 256 := by
    by_cases e : k = 4
    · rw [hsl, e]; show n ≤ 256; omega
    · have := slN_6 (n := n) e; omega
  rw [show 256 = sl + (256 - sl) by omega]
  refine nthF_pad sl (256 - sl) 0 0 (fun s h0 h1 => ?_) (fun s h0 h1 => ?_)
  · unfold gN
    by_cases e : k = 4
    · rw [if_pos e]
      have esl : sl = n := by rw [hsl, e]; rfl
      obtain ⟨q, rfl⟩ := Int.eq_ofNat_of_zero_le h0
      rw [mA_n]
      rcases g7 e p q hp h0 (by omega) with z | z
      · rw [z, if_neg]
        rintro ⟨h3, h4⟩
        obtain ⟨s, s0, s1, s2⟩ := (g1 p q hp (by omega)).mp h4
        rcases g7 e p s hp s0 s1 with y | y
        · omega
        · have : s = q := by omega
          rw [this, z] at s2; omega
      · rw [z, if_pos ⟨by omega, (g1 p q hp (by omega)).mpr ⟨q, h0, by omega, z⟩⟩]
    · have := slN_6 (n := n) e
      rw [if_neg e, if_pos (by omega)]
      exact g6 e p s hp h0 (by omega)
  · unfold gN
    by_cases e : k = 4
    · have esl : sl = n := by rw [hsl, e]; rfl
      rw [if_pos e, if_neg (fun z => by omega)]
    · rw [if_neg e]
      by_cases h6 : s < 6
      · rw [if_pos h6]
        cases Int.decEq (stp k W H ((p : Int) % W) ((p : Int) / W) s) (-1) with
        | isTrue z => exact z
        | isFalse z =>
          have := stp_sl (n := n) ⟨hk0, hk4⟩ ⟨by omega, h6⟩ z
          omega
      · rw [if_neg h6]
theorem sumF_congr {g g' : Int → Int} : ∀ (k : Nat) (i : Int), (∀ s, i ≤ s → s < i + k → g s = g' s) → sumF g k i = sumF g' k i
  | 0, _, _ => rfl
  | k + 1, i, h => by
    unfold sumF
    rw [h i (by omega) (by omega), sumF_congr k (i + 1) (fun s h1 h2 => h s (by omega) (by omega))]
theorem LK_pairs (h : LK k W H n sl bes wal nb wl) (hb : ∀ (p : Nat) (s : Int), p < n → 0 ≤ s → s < sl → -1 ≤ bAt sl bes p s ∧ bAt sl bes p s < n) (wd : Bool) :
    sumF (fun p => cntF (prP sl bes wal wd p) sl 0) n 0 = sumF (fun a => cntF (pM nb wl wd a) (n - 1 - a.toNat) (a + 1)) n 0 := by
  refine sumF_congr n 0 (fun z h0 h1 => ?_)
  obtain ⟨p, rfl⟩ := Int.eq_ofNat_of_zero_le h0
  have hp : p < n := by omega
  have h' := h
  obtain ⟨g1, g2, g3, g4, g5, g6, g7, g8⟩ := h
  show cntF (prP sl bes wal wd p) sl 0 = cntF (pM nb wl wd p) (n - 1 - ((p : Int)).toNat) ((p : Int) + 1)
  have e1 : cntF (fun q => decide ((p : Int) < q) && pM nb wl wd p q) n 0 = cntF (pM nb wl wd p) (n - 1 - ((p : Int)).toNat) ((p : Int) + 1) := by
    rw [Int.toNat_natCast, show n = (p + 1) + (n - 1 - p) by omega, cntF_add, cntF_no (p + 1) 0 (fun s q1 q2 => by rw [decide_eq_false (by omega)]; rfl), Int.zero_add, show (0 : Int) + ((p + 1 : Nat) : Int) = (p : Int) + 1 by omega, show p + 1 + (n - 1 - p) - 1 - p = n - 1 - p by omega]
    exact cntF_congr _ _ (fun s q1 q2 => by rw [decide_eq_true (by omega), Bool.true_and])
  rw [← e1]
  refine LK_count h' hb hp _ _ (fun s q0 q1 e => ?_) (fun s q q0 q1 hq e => ?_) (fun q hq e => ?_)
  · unfold prP
    rw [e, decide_eq_false (by omega), Bool.false_and]
  · unfold prP pM
    have hnn : nb (256 * p + q) = true := (g1 p q hp hq).mpr ⟨s, q0, q1, e⟩
    rw [mA_n, mA_n, hnn, e, g4 p q s hp hq q0 q1 e, Bool.true_and]
  · have e : (decide ((p : Int) < q) && pM nb wl wd p q) = true := e
    rw [Bool.and_eq_true] at e
    have e2 := e.2
    unfold pM at e2
    rw [Bool.and_eq_true, mA_n] at e2
    exact e2.1
end AN
