/-! class and model: pair, sight, ways, reading -/
section AO
theorem lbF_c {f : Int → Int} {b : Int} (hb : 0 ≤ b) : ∀ (k : Nat) (i l : Int), (l = -1 ∨ b < l) → (lbF f b k i l = -1 ∧ l = -1 ∧ ∀ s, i ≤ s → s < i + k → ¬ b < f s) ∨ (b < lbF f b k i l ∧ (lbF f b k i l = l ∨ ∃ s, i ≤ s ∧ s < i + k ∧ f s = lbF f b k i l) ∧ (l ≠ -1 → lbF f b k i l ≤ l) ∧ ∀ s, i ≤ s → s < i + k → b < f s → lbF f b k i l ≤ f s)
  | 0, i, l, h => by
    show (l = -1 ∧ l = -1 ∧ _) ∨ (b < l ∧ (l = l ∨ _) ∧ _ ∧ _)
    rcases h with h | h
    · exact Or.inl ⟨h, h, fun s h1 h2 => by omega⟩
    · exact Or.inr ⟨h, Or.inl rfl, fun _ => Int.le_refl l, fun s h1 h2 => by omega⟩
  | k + 1, i, l, h => by
    have e : lbF f b (k + 1) i l = lbF f b k (i + 1) (if b < f i ∧ (l = -1 ∨ f i < l) then f i else l) := rfl
    rw [e]
    by_cases c : b < f i ∧ (l = -1 ∨ f i < l)
    · rw [if_pos c]
      rcases lbF_c hb k (i + 1) (f i) (Or.inr c.1) with ⟨-, h2, -⟩ | ⟨h1, h2, h3, h4⟩
      · omega
      · have h3 := h3 (by omega)
        refine Or.inr ⟨h1, ?_, fun hl => Int.le_trans h3 (c.2.elim (fun q => absurd q hl) (fun q => Int.le_of_lt q)), fun s q1 q2 q3 => ?_⟩
        · rcases h2 with h2 | ⟨s, q1, q2, q3⟩
          · exact Or.inr ⟨i, by omega, by omega, h2.symm⟩
          · exact Or.inr ⟨s, by omega, by omega, q3⟩
        · by_cases es : s = i
          · subst es; exact h3
          · exact h4 s (by omega) (by omega) q3
    · rw [if_neg c]
      rcases lbF_c hb k (i + 1) l h with ⟨h1, h2, h3⟩ | ⟨h1, h2, h3, h4⟩
      · refine Or.inl ⟨h1, h2, fun s q1 q2 => ?_⟩
        by_cases es : s = i
        · subst es; omega
        · exact h3 s (by omega) (by omega)
      · refine Or.inr ⟨h1, ?_, h3, fun s q1 q2 q3 => ?_⟩
        · rcases h2 with h2 | ⟨s, q1, q2, q3⟩
          · exact Or.inl h2
          · exact Or.inr ⟨s, by omega, by omega, q3⟩
        · by_cases es : s = i
          · subst es
            have := h3 (by omega)
            omega
          · exact h4 s (by omega) (by omega) q3
theorem fndF_first (P : Int → Bool) : ∀ (j : Nat) (i : Int), 0 ≤ i → fndF P j i ≠ -1 → ∀ s, i ≤ s → s < fndF P j i → P s = false
  | 0, i, _, h, s, _, _ => absurd rfl h
  | j + 1, i, hi, h, s, h1, h2 => by
    unfold fndF at h h2
    by_cases hp : P i = true
    · rw [if_pos hp] at h2; omega
    · rw [if_neg hp] at h h2
      by_cases e : s = i
      · subst e; simpa using hp
      · exact fndF_first P j (i + 1) (by omega) h s (by omega) h2
variable {k W H : Int} {n sl m : Nat} {bes : Nat → Int} {wal nb wl : Nat → Bool}
theorem LK_least (h : LK k W H n sl bes wal nb wl) (hb : ∀ (p : Nat) (s : Int), p < n → 0 ≤ s → s < sl → -1 ≤ bAt sl bes p s ∧ bAt sl bes p s < n) {p : Nat} (hp : p < n) {o : Int} (ho : 0 ≤ o ∧ o < n) : lbN sl bes p o = fndF (mA nb p) (n - 1 - o.toNat) (o + 1) := by
  obtain ⟨g1, -⟩ := h
  have hc := lbF_c (f := bAt sl bes p) (b := o) ho.1 sl 0 (-1) (Or.inl rfl)
  have hA : ∀ q : Nat, q < n → (mA nb p q = true ↔ ∃ s : Int, 0 ≤ s ∧ s < sl ∧ bAt sl bes p s = q) := fun q hq => by rw [mA_n]; exact g1 p q hp hq
  show lbF (bAt sl bes p) o sl 0 (-1) = _
  rcases hc with ⟨e, -, h3⟩ | ⟨h1, h2, -, h4⟩
  · rw [e]
    rcases fndF_r (mA nb p) (n - 1 - o.toNat) (o + 1) with q | ⟨q1, q2, q3⟩
    · exact q.symm
    · exfalso
      obtain ⟨z, hz⟩ := Int.eq_ofNat_of_zero_le (show 0 ≤ fndF (mA nb p) (n - 1 - o.toNat) (o + 1) by omega)
      rw [hz] at q1 q2 q3
      obtain ⟨s, s0, s1, s2⟩ := (hA z (by omega)).mp q3
      exact h3 s s0 (by omega) (by omega)
  · rcases h2 with h2 | ⟨s, s0, s1, s2⟩
    · omega
    · have hr := hb p s hp s0 (by omega)
      rw [s2] at hr
      obtain ⟨z, hz⟩ := Int.eq_ofNat_of_zero_le (show 0 ≤ lbF (bAt sl bes p) o sl 0 (-1) by omega)
      rw [hz] at hr h1 h4 s2 ⊢
      have hPz : mA nb p z = true := (hA z (by omega)).mpr ⟨s, s0, by omega, s2⟩
      rcases fndF_r (mA nb p) (n - 1 - o.toNat) (o + 1) with q | ⟨q1, q2, q3⟩
      · have := fndF_none (mA nb p) (n - 1 - o.toNat) (o + 1) (by omega) q z (by omega) (by omega)
        rw [hPz] at this; cases this
      · obtain ⟨y, hy⟩ := Int.eq_ofNat_of_zero_le (show 0 ≤ fndF (mA nb p) (n - 1 - o.toNat) (o + 1) by omega)
        rw [hy] at q1 q2 q3 ⊢
        obtain ⟨s', s0', s1', s2'⟩ := (hA y (by omega)).mp q3
        have := h4 s' s0' (by omega) (by omega)
        by_cases e : (z : Int) < y
        · have := fndF_first (mA nb p) (n - 1 - o.toNat) (o + 1) (by omega) (by omega) z (by omega) (by omega)
          rw [hPz] at this; cases this
        · omega
theorem prI_pm {P : Int → Bool} {lb : Int → Int} {c l : Int} {gr : Bool} {n : Nat} (hlb : ∀ o : Int, l < o → o < n → lb o = fndF P (n - 1 - o.toNat) (o + 1)) : ∀ (j fuel : Nat) (b f : Int), 0 ≤ l → l < b → b + j = n → cntF P j b ≤ fuel → prI lb c l gr fuel (fndF P j b) f = pmI P c l gr j b f
  | 0, fuel, b, f, _, _, _, _ => by
    show prI lb c l gr fuel (-1) f = .inr f
    cases fuel with
    | zero => rfl
    | succ u => unfold prI; rw [if_pos rfl]
  | j + 1, fuel, b, f, h0, hl, hb, hc => by
    have ec : cntF P (j + 1) b = (if P b then 1 else 0) + cntF P j (b + 1) := rfl
    have hge := cntF_le P j (b + 1)
    have ef : fndF P (j + 1) b = if P b then b else fndF P j (b + 1) := rfl
    have ep : pmI P c l gr (j + 1) b f = if P b then (if f = c then .inl (if gr then b else l) else pmI P c l gr j (b + 1) (f + 1)) else pmI P c l gr j (b + 1) f := rfl
    by_cases hP : P b = true
    · rw [if_pos hP] at ec ef ep
      rw [ef, ep]
      cases fuel with
      | zero => omega
      | succ u =>
        have er : prI lb c l gr (u + 1) b f = if b = -1 then .inr f else if f = c then .inl (if gr then b else l) else prI lb c l gr u (lb b) (f + 1) := rfl
        rw [er, if_neg (by omega), hlb b hl (by omega), show n - 1 - b.toNat = j by omega]
        by_cases hf : f = c
        · rw [if_pos hf, if_pos hf]
        · rw [if_neg hf, if_neg hf]
          exact prI_pm hlb j u (b + 1) (f + 1) h0 (by omega) (by omega) (by omega)
    · rw [if_neg hP] at ec ef ep
      rw [ef, ep]
      exact prI_pm hlb j fuel (b + 1) f h0 (by omega) (by omega) (by omega)
theorem LK_pair (h : LK k W H n sl bes wal nb wl) (hb : ∀ (p : Nat) (s : Int), p < n → 0 ≤ s → s < sl → -1 ≤ bAt sl bes p s ∧ bAt sl bes p s < n) (c : Int) (gr : Bool) : ∀ (j : Nat) (l f : Int), 0 ≤ l → l + j = n → prO sl bes c gr j l f = pmO nb n c gr j l f
  | 0, _, _, _, _ => rfl
  | j + 1, l, f, h0, hl => by
    obtain ⟨p, rfl⟩ := Int.eq_ofNat_of_zero_le h0
    have hp : p < n := by omega
    have e1 : prI (lbN sl bes p) c p gr sl (lbN sl bes p p) f = pmI (mA nb p) c p gr (n - 1 - ((p : Int)).toNat) ((p : Int) + 1) f := by
      rw [LK_least h hb hp ⟨by omega, by omega⟩]
      refine prI_pm (fun o ho ho2 => LK_least h hb hp ⟨by omega, ho2⟩) _ _ _ _ (by omega) (by omega) (by omega) ?_
      have hcnt : cntF (prP sl bes wal false p) sl 0 = cntF (pM nb wl false p) (n - 1 - ((p : Int)).toNat) ((p : Int) + 1) := by
        have h' := h
        obtain ⟨g1, g2, g3, g4, g5, g6, g7, g8⟩ := h
        have e1 : cntF (fun q => decide ((p : Int) < q) && pM nb wl false p q) n 0 = cntF (pM nb wl false p) (n - 1 - ((p : Int)).toNat) ((p : Int) + 1) := by
          rw [Int.toNat_natCast, show n = (p + 1) + (n - 1 - p) by omega, cntF_add, cntF_no (p + 1) 0 (fun s q1 q2 => by rw [decide_eq_false (by omega)]; rfl), Int.zero_add, show (0 : Int) + ((p + 1 : Nat) : Int) = (p : Int) + 1 by omega, show p + 1 + (n - 1 - p) - 1 - p = n - 1 - p by omega]
          exact cntF_congr _ _ (fun s q1 q2 => by rw [decide_eq_true (by omega), Bool.true_and])
        rw [← e1]
        refine LK_count h' hb hp _ _ (fun s q0 q1 e => ?_) (fun s q q0 q1 hq e => ?_) (fun q hq e => ?_)
        · unfold prP
          rw [e, decide_eq_false (by omega), Bool.false_and]
        · unfold prP pM
          have hnn : nb (256 * p + q) = true := (g1 p q hp hq).mpr ⟨s, q0, q1, e⟩
          rw [mA_n, mA_n, hnn, e, g4 p q s hp hq q0 q1 e, Bool.true_and]
        · have e : (decide ((p : Int) < q) && pM nb wl false p q) = true := e
          rw [Bool.and_eq_true] at e
          have e2 := e.2
          unfold pM at e2
          rw [Bool.and_eq_true, mA_n] at e2
          exact e2.1
      have hle := cntF_le (prP sl bes wal false p) sl 0
      rw [hcnt] at hle
      have : cntF (pM nb wl false p) (n - 1 - ((p : Int)).toNat) ((p : Int) + 1) = cntF (mA nb p) (n - 1 - ((p : Int)).toNat) ((p : Int) + 1) := cntF_congr _ _ (fun s _ _ => by unfold pM; simp)
      omega
    have eo : prO sl bes c gr (j + 1) p f = match prI (lbN sl bes p) c p gr sl (lbN sl bes p p) f with
      | .inl v => v
      | .inr f2 => prO sl bes c gr j ((p : Int) + 1) f2 := rfl
    have em : pmO nb n c gr (j + 1) p f = match pmI (mA nb p) c p gr (n - 1 - ((p : Int)).toNat) ((p : Int) + 1) f with
      | .inl v => v
      | .inr f2 => pmO nb n c gr j ((p : Int) + 1) f2 := rfl
    rw [eo, em, e1]
    cases pmI (mA nb p) c p gr (n - 1 - ((p : Int)).toNat) ((p : Int) + 1) f with
    | inl v => rfl
    | inr f2 => exact LK_pair h hb c gr j ((p : Int) + 1) f2 (by omega) (by omega)
theorem seF_congr {op op' : Int → Int} {p i : Int} {n : Nat} (h : ∀ z : Int, 0 ≤ z → z < n → op z = op' z) (hr : ∀ z : Int, 0 ≤ z → z < n → -1 ≤ op z ∧ op z < n) : ∀ (j : Nat) (q l : Int), -1 ≤ l ∧ l < n → seF op p i j q l = seF op' p i j q l
  | 0, _, _, _ => rfl
  | j + 1, q, l, hl => by
    have e : seF op p i (j + 1) q l = if l = -1 then -1 else if l = p then -1 else if q = i then l else seF op p i j (q + 1) (op l) := rfl
    have e' : seF op' p i (j + 1) q l = if l = -1 then -1 else if l = p then -1 else if q = i then l else seF op' p i j (q + 1) (op' l) := rfl
    rw [e, e']
    by_cases h1 : l = -1
    · rw [if_pos h1, if_pos h1]
    · rw [if_neg h1, if_neg h1, ← h l (by omega) hl.2, seF_congr h hr j (q + 1) (op l) (hr l (by omega) hl.2)]
theorem dirN_sl {k : Int} {n : Nat} (hk : 0 ≤ k ∧ k ≤ 4) {r : Int} (hr : 0 ≤ r ∧ r < dirN k) : k ≠ 4 ∧ r < slN k n := by
  have hk5 : k = 0 ∨ k = 1 ∨ k = 2 ∨ k = 3 ∨ k = 4 := by omega
  have e0 : slN 0 n = 4 := rfl
  have e1 : slN 1 n = 6 := rfl
  have e2 : slN 2 n = 3 := rfl
  have e3 : slN 3 n = 4 := rfl
  have d0 : dirN 0 = 4 := rfl
  have d1 : dirN 1 = 6 := rfl
  have d2 : dirN 2 = 2 := rfl
  have d3 : dirN 3 = 4 := rfl
  have d4 : dirN 4 = 0 := rfl
  rcases hk5 with rfl | rfl | rfl | rfl | rfl <;> omega
theorem LK_open (h : LK k W H n sl bes wal nb wl) (hF : fOK k W H n) (hsl : sl = slN k n) {r : Int} (hr : 0 ≤ r ∧ r < dirN k) {z : Int} (h0 : 0 ≤ z) (h1 : z < n) : oAt sl bes wal z r = opM k W H wl r z := by
  obtain ⟨g1, g2, g3, g4, g5, g6, g7, g8⟩ := h
  have hst := stp_r hF (z % W) (z / W) r
  obtain ⟨hk0, hk4, -⟩ := hF
  obtain ⟨hk, hrs⟩ := dirN_sl (n := n) ⟨hk0, hk4⟩ hr
  obtain ⟨p, rfl⟩ := Int.eq_ofNat_of_zero_le h0
  have hp : p < n := by omega
  have hbe := g6 hk p r hp hr.1 (by omega)
  unfold oAt opM
  rw [hbe]
  by_cases e : stp k W H ((p : Int) % W) ((p : Int) / W) r = -1
  · rw [if_pos e, e]; split <;> rfl
  · rw [if_neg e]
    obtain ⟨q, hq⟩ := Int.eq_ofNat_of_zero_le (show 0 ≤ stp k W H ((p : Int) % W) ((p : Int) / W) r by omega)
    have hw := g4 p q r hp (by omega) hr.1 (by omega) (hbe.trans hq)
    rw [hw, hq, mA_n]
theorem LK_seen (h : LK k W H n sl bes wal nb wl) (hF : fOK k W H n) (hsl : sl = slN k n) (hb : ∀ (p : Nat) (s : Int), p < n → 0 ≤ s → s < sl → -1 ≤ bAt sl bes p s ∧ bAt sl bes p s < n) {r p i : Int} (hr : 0 ≤ r ∧ r < dirN k) (hp : 0 ≤ p ∧ p < n) : seF (fun z => oAt sl bes wal z r) p i n 0 (oAt sl bes wal p r) = seF (opM k W H wl r) p i n 0 (opM k W H wl r p) := by
  have hkk := dirN_sl (n := n) ⟨hF.1, hF.2.1⟩ hr
  have hrg : ∀ z : Int, 0 ≤ z → z < n → -1 ≤ oAt sl bes wal z r ∧ oAt sl bes wal z r < n := by
    intro z h0 h1
    obtain ⟨q, rfl⟩ := Int.eq_ofNat_of_zero_le h0
    have := hb q r (by omega) hr.1 (by omega)
    unfold oAt
    split <;> omega
  rw [← LK_open h hF hsl hr hp.1 hp.2]
  exact seF_congr (fun z h0 h1 => LK_open h hF hsl hr h0 h1) hrg n 0 _ (hrg p hp.1 hp.2)
theorem LK_far (h : LK k W H n sl bes wal nb wl) (hn : n ≤ 256) {a b : Nat} (ha : a < n) (hb : b < n) {f2 f3 : Nat → Int} {ou : Nat → Bool} (h1 : bfs (nxC sl bes wal) n (fun _ => -1) f2 a) (h2 : shr (nxB nb wl) (admO n (fill 256 (fun _ => false) ou)) n f3 a) : f2 b = f3 b := by
  have hc := rcN_congr (nx := nxC sl bes wal) (nx' := nxB nb wl) (A := adm n (fun _ => -1)) (A' := admO n (fill 256 (fun _ => false) ou)) ha (fun q h => h.1) (fun q => ⟨fun z => ⟨z.1, by have := z.1; unfold fill; rw [if_pos (by omega)]⟩, fun z => ⟨z.1, rfl⟩⟩) (fun p q hp hq => LK_next h hp hq)
  rcases (h1 b hb).2 rfl with ⟨m, e1, e2, e3⟩ | ⟨e1, e2⟩
  · rcases h2 b hb with ⟨q1, q2, q3⟩ | ⟨q1, q2⟩
    · have r1 := q3 m ((hc m b).2.mp e2)
      have r2 := e3 _ ((hc _ b).2.mpr q2)
      omega
    · exact absurd ((hc m b).2.mp e2) (q2 m)
  · rcases h2 b hb with ⟨q1, q2, q3⟩ | ⟨q1, q2⟩
    · exact absurd ((hc _ b).2.mpr q2) (e2 _)
    · rw [e1, q1]
/-- what was read does not hang on what stood there -/
theorem tk_congr {n : Nat} {F D u v : Int} {m m' : Nat → Int} (hd : dOK n F D) (h : ∀ x : Nat, (x : Int) < F → m x = m' x) : (tk n F D m u v = none ∧ tk n F D m' u v = none) ∨ ∃ (F2 D2 : Int) (m2 m2' : Nat → Int), tk n F D m u v = some (F2, D2, m2) ∧ tk n F D m' u v = some (F2, D2, m2') ∧ ∀ x : Nat, (x : Int) < F2 → m2 x = m2' x := by
  obtain ⟨a1, a2, a3, a4, a5⟩ := hd
  unfold tk
  by_cases hu : isD u = true
  · rw [if_pos hu, if_pos hu]
    by_cases h0 : D = 0
    · rw [if_pos h0, if_pos h0]
      by_cases h1 : u = 48 ∨ (n : Int) ≤ F
      · rw [if_pos h1, if_pos h1]; exact Or.inl ⟨rfl, rfl⟩
      · rw [if_neg h1, if_neg h1]
        refine Or.inr ⟨_, _, _, _, rfl, rfl, fun x hx => ?_⟩
        unfold up
        by_cases e : x = F.toNat
        · rw [if_pos e, if_pos e]
        · rw [if_neg e, if_neg e]; exact h x (by omega)
    · rw [if_neg h0, if_neg h0]
      by_cases h1 : D = 1
      · rw [if_pos h1, if_pos h1]
        have := a5 (by omega)
        refine Or.inr ⟨_, _, _, _, rfl, rfl, fun x hx => ?_⟩
        unfold up
        rw [h (F - 1).toNat (by omega)]
        by_cases e : x = (F - 1).toNat
        · rw [if_pos e, if_pos e]
        · rw [if_neg e, if_neg e]; exact h x hx
      · rw [if_neg h1, if_neg h1]; exact Or.inl ⟨rfl, rfl⟩
  · rw [if_neg hu, if_neg hu]
    by_cases h1 : u = 32
    · rw [if_pos h1, if_pos h1]
      by_cases h2 : 0 < D ∧ isD v = true
      · rw [if_pos h2, if_pos h2]; exact Or.inr ⟨_, _, _, _, rfl, rfl, h⟩
      · rw [if_neg h2, if_neg h2]; exact Or.inl ⟨rfl, rfl⟩
    · rw [if_neg h1, if_neg h1]
      by_cases h2 : 96 < u ∧ u ≤ 122 ∧ u - 96 ≤ (n : Int) - F
      · rw [if_pos h2, if_pos h2]
        refine Or.inr ⟨_, _, _, _, rfl, rfl, fun x hx => ?_⟩
        unfold zer
        by_cases e : F.toNat ≤ x ∧ x < F.toNat + (u - 96).toNat
        · rw [if_pos e, if_pos e]
        · rw [if_neg e, if_neg e]; exact h x (by omega)
      · rw [if_neg h2, if_neg h2]; exact Or.inl ⟨rfl, rfl⟩
theorem pF_congr {n : Nat} {b : Nat → Int} {L : Nat} : ∀ (j i : Nat) (F D : Int) (m m' : Nat → Int), dOK n F D → (∀ x : Nat, (x : Int) < F → m x = m' x) → (pF n b L j i F D m).1 = (pF n b L j i F D m').1 ∧ ((pF n b L j i F D m).1 = -1 → ∀ x, x < n → (pF n b L j i F D m).2 x = (pF n b L j i F D m').2 x)
  | 0, i, F, D, m, m', hd, h => by
    refine ⟨rfl, fun e x hx => h x ?_⟩
    have e : (if F < n then (L : Int) else -1) = -1 := e
    by_cases hf : F < n
    · rw [if_pos hf] at e; omega
    · omega
  | j + 1, i, F, D, m, m', hd, h => by
    rcases tk_congr (u := b i) (v := nxb b L i) hd h with ⟨e1, e2⟩ | ⟨F2, D2, m2, m2', e1, e2, e3⟩
    · rw [pF_none e1, pF_none e2]
      exact ⟨rfl, fun e => by have e : (i : Int) = -1 := e; omega⟩
    · rw [pF_some e1, pF_some e2]
      exact pF_congr j (i + 1) F2 D2 m2 m2' (tk_ok hd e1) e3
theorem pF_r {n : Nat} {b : Nat → Int} {L : Nat} : ∀ (j i : Nat) (F D : Int) (m : Nat → Int), i + j = L → -1 ≤ (pF n b L j i F D m).1 ∧ (pF n b L j i F D m).1 ≤ L
  | 0, i, F, D, m, _ => by
    show -1 ≤ (if F < n then (L : Int) else -1) ∧ (if F < n then (L : Int) else -1) ≤ L
    split <;> omega
  | j + 1, i, F, D, m, h => by
    cases e : tk n F D m (b i) (nxb b L i) with
    | none => rw [pF_none e]; show -1 ≤ (i : Int) ∧ (i : Int) ≤ L; omega
    | some t =>
      obtain ⟨F2, D2, m2⟩ := t
      rw [pF_some e]
      exact pF_r j (i + 1) F2 D2 m2 (by omega)
def rdI (F D : Int) (m : Nat → Int) : Prop := (∀ x : Nat, (x : Int) < F → 0 ≤ m x ∧ m x ≤ 99) ∧ (D = 1 → m (F - 1).toNat ≤ 9)
theorem tk_rd {n : Nat} {F D u v F2 D2 : Int} {m m2 : Nat → Int} (hd : dOK n F D) (hI : rdI F D m) (h : tk n F D m u v = some (F2, D2, m2)) : rdI F2 D2 m2 := by
  obtain ⟨a1, a2, a3, a4, a5⟩ := hd
  obtain ⟨i1, i2⟩ := hI
  unfold tk at h
  by_cases hu : isD u = true
  · have hu' := isD_t.mp hu
    rw [if_pos hu] at h
    by_cases h0 : D = 0
    · rw [if_pos h0] at h
      by_cases h1 : u = 48 ∨ (n : Int) ≤ F
      · rw [if_pos h1] at h; cases h
      · rw [if_neg h1] at h
        simp only [Option.some.injEq, Prod.mk.injEq] at h
        obtain ⟨rfl, rfl, rfl⟩ := h
        refine ⟨fun x hx => ?_, fun _ => ?_⟩
        · unfold up
          by_cases e : x = F.toNat
          · rw [if_pos e]; omega
          · rw [if_neg e]; exact i1 x (by omega)
        · unfold up
          rw [if_pos (by omega)]; omega
    · rw [if_neg h0] at h
      by_cases h1 : D = 1
      · rw [if_pos h1] at h
        simp only [Option.some.injEq, Prod.mk.injEq] at h
        obtain ⟨rfl, rfl, rfl⟩ := h
        have h9 := i2 h1
        have := a5 (by omega)
        have h10 := i1 (F - 1).toNat (by omega)
        refine ⟨fun x hx => ?_, fun z => by omega⟩
        unfold up
        by_cases e : x = (F - 1).toNat
        · rw [if_pos e]; omega
        · rw [if_neg e]; exact i1 x hx
      · rw [if_neg h1] at h; cases h
  · rw [if_neg hu] at h
    by_cases h1 : u = 32
    · rw [if_pos h1] at h
      by_cases h2 : 0 < D ∧ isD v = true
      · rw [if_pos h2] at h
        simp only [Option.some.injEq, Prod.mk.injEq] at h
        obtain ⟨rfl, rfl, rfl⟩ := h
        exact ⟨i1, fun z => by omega⟩
      · rw [if_neg h2] at h; cases h
    · rw [if_neg h1] at h
      by_cases h2 : 96 < u ∧ u ≤ 122 ∧ u - 96 ≤ (n : Int) - F
      · rw [if_pos h2] at h
        simp only [Option.some.injEq, Prod.mk.injEq] at h
        obtain ⟨rfl, rfl, rfl⟩ := h
        refine ⟨fun x hx => ?_, fun z => by omega⟩
        unfold zer
        by_cases e : F.toNat ≤ x ∧ x < F.toNat + (u - 96).toNat
        · rw [if_pos e]; omega
        · rw [if_neg e]; exact i1 x (by omega)
      · rw [if_neg h2] at h; cases h
theorem pF_rd {n : Nat} {b : Nat → Int} {L : Nat} : ∀ (j i : Nat) (F D : Int) (m : Nat → Int), dOK n F D → rdI F D m → (pF n b L j i F D m).1 = -1 → ∀ x, x < n → 0 ≤ (pF n b L j i F D m).2 x ∧ (pF n b L j i F D m).2 x ≤ 99
  | 0, i, F, D, m, hd, hI, e, x, hx => by
    have e : (if F < n then (L : Int) else -1) = -1 := e
    refine hI.1 x ?_
    by_cases hf : F < n
    · rw [if_pos hf] at e; omega
    · omega
  | j + 1, i, F, D, m, hd, hI, e, x, hx => by
    cases h : tk n F D m (b i) (nxb b L i) with
    | none => rw [pF_none h] at e; have e : (i : Int) = -1 := e; omega
    | some t =>
      obtain ⟨F2, D2, m2⟩ := t
      rw [pF_some h] at e ⊢
      exact pF_rd j (i + 1) F2 D2 m2 (tk_ok hd h) (tk_rd hd hI h) e x hx
end AO
