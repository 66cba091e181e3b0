/-! class and model: one net -/
section LI
def LK (k W H : Int) (n sl : Nat) (bes : Nat → Int) (wal nb wl : Nat → Bool) : Prop :=
  (∀ a b : Nat, a < n → b < n → (nb (256 * a + b) = true ↔ ∃ s : Int, 0 ≤ s ∧ s < sl ∧ bAt sl bes a s = b)) ∧
  (∀ (a : Nat) (s s' : Int), a < n → 0 ≤ s → s < sl → 0 ≤ s' → s' < sl → bAt sl bes a s ≠ -1 → bAt sl bes a s = bAt sl bes a s' → s = s') ∧
  (∀ a b : Nat, a < n → b < n → nb (256 * a + b) = true → nb (256 * b + a) = true) ∧
  (∀ (a b : Nat) (s : Int), a < n → b < n → 0 ≤ s → s < sl → bAt sl bes a s = b → wAt sl wal a s = wl (256 * a + b)) ∧
  (∀ a b : Nat, a < n → b < n → wl (256 * a + b) = true → nb (256 * a + b) = true) ∧
  (k ≠ 4 → ∀ (p : Nat) (s : Int), p < n → 0 ≤ s → s < sl → bAt sl bes p s = stp k W H ((p : Int) % W) ((p : Int) / W) s) ∧
  (k = 4 → ∀ (p : Nat) (s : Int), p < n → 0 ≤ s → s < sl → bAt sl bes p s = -1 ∨ bAt sl bes p s = s) ∧
  (∀ (a : Nat) (s : Int), a < n → 0 ≤ s → s < sl → bAt sl bes a s = -1 → wAt sl wal a s = false)
theorem mA_n (f : Nat → Bool) (a b : Nat) : mA f (a : Int) (b : Int) = f (256 * a + b) := by
  show f (256 * (a : Int) + (b : Int)).toNat = _
  congr 1
theorem slN_6 {k : Int} {n : Nat} (h : k ≠ 4) : slN k n ≤ 6 := by
  unfold slN
  split
  · omega
  · split
    · omega
    · first | omega | (rw [if_neg h]; omega)
theorem stp_sl {k W H x y s : Int} {n : Nat} (hk : 0 ≤ k ∧ k ≤ 4) (hs : 0 ≤ s ∧ s < 6) (h : stp k W H x y s ≠ -1) : s < slN k n := by
  have hk5 : k = 0 ∨ k = 1 ∨ k = 2 ∨ k = 3 ∨ k = 4 := by omega
  have hs6 : s = 0 ∨ s = 1 ∨ s = 2 ∨ s = 3 ∨ s = 4 ∨ s = 5 := by omega
  have e0 : slN 0 n = 4 := rfl
  have e1 : slN 1 n = 6 := rfl
  have e2 : slN 2 n = 3 := rfl
  have e3 : slN 3 n = 4 := rfl
  rcases hk5 with rfl | rfl | rfl | rfl | rfl
  · rcases hs6 with rfl | rfl | rfl | rfl | rfl | rfl
    · omega
    · omega
    · omega
    · omega
    · exact absurd s0_4 h
    · exact absurd s0_5 h
  · rcases hs6 with rfl | rfl | rfl | rfl | rfl | rfl <;> omega
  · rcases hs6 with rfl | rfl | rfl | rfl | rfl | rfl
    · omega
    · omega
    · omega
    · exact absurd s2_3 h
    · exact absurd s2_4 h
    · exact absurd s2_5 h
  · rcases hs6 with rfl | rfl | rfl | rfl | rfl | rfl
    · omega
    · omega
    · omega
    · omega
    · exact absurd s3_4 h
    · exact absurd s3_5 h
  · exact absurd (s4_n s) h
theorem LK_0 {k W H : Int} {n sl : Nat} {bes : Nat → Int} {nb : Nat → Bool} (hF : fOK k W H n) (hsl : sl = slN k n) (hb : ∀ (p : Nat) (s : Int), p < n → 0 ≤ s → s < sl → bAt sl bes p s = stp k W H ((p : Int) % W) ((p : Int) / W) s) (hnb : nbI k W H n n 0 nb) : LK k W H n sl bes (fun _ => false) nb (fun _ => false) := by
  have hFF := hF
  obtain ⟨hk0, hk4, hW1, hW2, hH1, hH2, hn, hg4⟩ := hF
  have hc : ∀ q : Nat, q < n → 0 ≤ (q : Int) % W ∧ (q : Int) % W < W ∧ 0 ≤ (q : Int) / W ∧ (q : Int) / W < H := fun q h1 => ⟨Int.emod_nonneg _ (by omega), Int.emod_lt_of_pos _ (by omega), Int.ediv_nonneg (by omega) (by omega), Int.ediv_lt_of_lt_mul (by omega) (by rw [Int.mul_comm, ← hn]; omega)⟩
  have hA : ∀ a b : Nat, a < n → b < n → (nb (256 * a + b) = true ↔ ∃ d : Nat, d < 6 ∧ stS k W H a d = b) := by
    intro a b ha hb'
    rw [hnb a b ha hb']
    constructor
    · rintro ⟨p, d, h1, h2, ⟨rfl, h3⟩ | ⟨rfl, h3⟩⟩
      · exact ⟨d, h2, h3⟩
      · have h3' : stp k W H ((p : Int) % W) ((p : Int) / W) (d : Int) = a := h3
        obtain ⟨x', y', s', c, hs', e1, e2⟩ := stp_sym (k := k) (W := W) (H := H) (x := (p : Int) % W) (y := (p : Int) / W) (s := (d : Int)) ⟨hk0, hk4⟩ (hc p hb') ⟨by omega, by omega⟩ (by omega)
        rw [h3'] at e1
        have cx := co_x (W := W) (x := x') (y := y') ⟨c.1, c.2.1⟩
        rw [← e1] at cx
        refine ⟨s'.toNat, by omega, ?_⟩
        show stp k W H ((a : Int) % W) ((a : Int) / W) ((s'.toNat : Nat) : Int) = p
        rw [cx.1, cx.2, Int.toNat_of_nonneg hs'.1, e2]
        exact Int.mul_ediv_add_emod p W
    · rintro ⟨d, h1, h2⟩
      exact ⟨a, d, by omega, h1, Or.inl ⟨rfl, h2⟩⟩
  refine ⟨fun a b ha hb' => ?_, fun a s s' ha h0 h1 h0' h1' hne e => ?_, fun a b ha hb' h => ?_, fun _ _ _ _ _ _ _ _ => rfl, fun _ _ _ _ h => (by cases h), fun _ p s hp h0 h1 => hb p s hp h0 h1, fun h4 p s hp h0 h1 => Or.inl (by rw [hb p s hp h0 h1, h4]; exact s4_n s), fun _ _ _ _ _ _ => rfl⟩
  · rw [hA a b ha hb']
    constructor
    · rintro ⟨d, h1, h2⟩
      have h2' : stp k W H ((a : Int) % W) ((a : Int) / W) (d : Int) = b := h2
      have hds : (d : Int) < sl := by rw [hsl]; exact stp_sl (n := n) ⟨hk0, hk4⟩ ⟨by omega, by omega⟩ (by rw [h2']; omega)
      exact ⟨d, by omega, hds, by rw [hb a d ha (by omega) hds]; exact h2'⟩
    · rintro ⟨s, h0, h1, h2⟩
      rw [hb a s ha h0 h1] at h2
      by_cases h4 : k = 4
      · rw [h4, s4_n] at h2; omega
      · have := slN_6 (n := n) h4
        refine ⟨s.toNat, by omega, ?_⟩
        show stp k W H ((a : Int) % W) ((a : Int) / W) ((s.toNat : Nat) : Int) = b
        rw [Int.toNat_of_nonneg h0]; exact h2
  · rw [hb a s ha h0 h1] at hne e
    rw [hb a s' ha h0' h1'] at e
    by_cases h4 : k = 4
    · rw [h4, s4_n] at hne; exact absurd rfl hne
    · have := slN_6 (n := n) h4
      exact stp_uni ⟨hk0, hk4⟩ (hc a ha) ⟨h0, by omega⟩ ⟨h0', by omega⟩ hne e
  · rw [hnb a b ha hb'] at h
    rw [hnb b a hb' ha]
    obtain ⟨p, d, h1, h2, h3⟩ := h
    exact ⟨p, d, h1, h2, h3.symm⟩
variable {k W H : Int} {n sl m : Nat} {bes : Nat → Int} {wal nb wl : Nat → Bool}
theorem bx_eq {sl : Nat} {p a : Nat} {s b : Int} (h0 : 0 ≤ s) (h1 : s < sl) (h2 : 0 ≤ b) (h3 : b < sl) : ((p : Int) * sl + s).toNat = ((a : Int) * sl + b).toNat ↔ p = a ∧ s = b := by
  constructor
  · intro e
    have q1 : 0 ≤ (p : Int) * sl := Int.mul_nonneg (by omega) (by omega)
    have q2 : 0 ≤ (a : Int) * sl := Int.mul_nonneg (by omega) (by omega)
    have e' : (sl : Int) * p + s = (sl : Int) * a + b := by rw [Int.mul_comm (sl : Int) p, Int.mul_comm (sl : Int) a]; omega
    have c1 := co_x (W := (sl : Int)) (x := s) (y := (p : Int)) ⟨h0, h1⟩
    have c2 := co_x (W := (sl : Int)) (x := b) (y := (a : Int)) ⟨h2, h3⟩
    rw [e'] at c1
    have := c1.1.symm.trans c2.1
    have := c1.2.symm.trans c2.2
    omega
  · rintro ⟨rfl, rfl⟩; rfl
theorem bAt_up {sl : Nat} {f : Nat → Int} {p a : Nat} {s b z : Int} (h0 : 0 ≤ s) (h1 : s < sl) (h2 : 0 ≤ b) (h3 : b < sl) : bAt sl (up f ((a : Int) * sl + b).toNat z) p s = if p = a ∧ s = b then z else bAt sl f p s := by
  unfold bAt up
  by_cases e : p = a ∧ s = b
  · rw [if_pos e, if_pos ((bx_eq h0 h1 h2 h3).mpr e)]
  · rw [if_neg e, if_neg (fun h => e ((bx_eq h0 h1 h2 h3).mp h))]
theorem wAt_up {sl : Nat} {f : Nat → Bool} {p a : Nat} {s b : Int} {z : Bool} (h0 : 0 ≤ s) (h1 : s < sl) (h2 : 0 ≤ b) (h3 : b < sl) : wAt sl (up f ((a : Int) * sl + b).toNat z) p s = if p = a ∧ s = b then z else wAt sl f p s := by
  unfold wAt up
  by_cases e : p = a ∧ s = b
  · rw [if_pos e, if_pos ((bx_eq h0 h1 h2 h3).mpr e)]
  · rw [if_neg e, if_neg (fun h => e ((bx_eq h0 h1 h2 h3).mp h))]
theorem mx_up {α : Type} {f : Nat → α} {p q a b : Nat} {z : α} (hq : q < 256) (hb : b < 256) : up f (256 * a + b) z (256 * p + q) = if p = a ∧ q = b then z else f (256 * p + q) := by
  unfold up
  by_cases e : p = a ∧ q = b
  · obtain ⟨rfl, rfl⟩ := e; rw [if_pos rfl, if_pos ⟨rfl, rfl⟩]
  · rw [if_neg e, if_neg (by omega)]
/-- joining keeps the link -/
theorem LK_join (h : LK k W H n sl bes wal nb wl) (hn : n ≤ 256) (hk : k = 4) (hsl : sl = n) {a b : Nat} (ha : a < n) (hb : b < n) (hab : a ≠ b) (hno : nb (256 * a + b) = false) :
    LK k W H n sl (up (up bes ((a : Int) * sl + (b : Int)).toNat b) ((b : Int) * sl + (a : Int)).toNat a) wal (up (up nb (256 * a + b) true) (256 * b + a) true) wl := by
  obtain ⟨g1, g2, g3, g4, g5, g6, g7, g8⟩ := h
  have hno2 : nb (256 * b + a) = false := by
    cases e : nb (256 * b + a) with
    | false => rfl
    | true => rw [g3 b a hb ha e] at hno; cases hno
  have eb : ∀ (p : Nat) (s : Int), 0 ≤ s → s < sl → bAt sl (up (up bes ((a : Int) * sl + (b : Int)).toNat b) ((b : Int) * sl + (a : Int)).toNat a) p s = if p = b ∧ s = a then (a : Int) else if p = a ∧ s = b then (b : Int) else bAt sl bes p s := by
    intro p s h0 h1
    rw [bAt_up h0 h1 (by omega) (by omega), bAt_up h0 h1 (by omega) (by omega)]
  have en : ∀ p q : Nat, q < n → up (up nb (256 * a + b) true) (256 * b + a) true (256 * p + q) = if p = b ∧ q = a then true else if p = a ∧ q = b then true else nb (256 * p + q) := by
    intro p q hq
    rw [mx_up (by omega) (by omega), mx_up (by omega) (by omega)]
  have hwf : ∀ x y : Nat, x < n → y < n → nb (256 * x + y) = false → wl (256 * x + y) = false := by
    intro x y hx hy e
    cases e2 : wl (256 * x + y) with
    | false => rfl
    | true => rw [g5 x y hx hy e2] at e; cases e
  have hm1 : ∀ x y : Nat, x < n → y < n → nb (256 * x + y) = false → bAt sl bes x y = -1 := by
    intro x y hx hy e
    rcases g7 hk x y hx (by omega) (by omega) with q | q
    · exact q
    · rw [(g1 x y hx hy).mpr ⟨y, by omega, by omega, q⟩] at e; cases e
  refine ⟨fun x y hx hy => ?_, fun x s s' hx h0 h1 h0' h1' hne e => ?_, fun x y hx hy e => ?_, fun x y s hx hy h0 h1 e => ?_, fun x y hx hy e => ?_, fun h4 => absurd hk h4, fun _ p s hp h0 h1 => ?_, fun x s hx h0 h1 e => ?_⟩
  · rw [en x y hy]
    constructor
    · intro e
      refine ⟨y, by omega, by omega, ?_⟩
      rw [eb x y (by omega) (by omega)]
      by_cases e1 : x = b ∧ y = a
      · rw [if_pos ⟨e1.1, by omega⟩]; omega
      · rw [if_neg e1] at e
        rw [if_neg (fun z => e1 ⟨z.1, by omega⟩)]
        by_cases e2 : x = a ∧ y = b
        · rw [if_pos ⟨e2.1, by omega⟩]; omega
        · rw [if_neg e2] at e
          rw [if_neg (fun z => e2 ⟨z.1, by omega⟩)]
          obtain ⟨s, s0, s1, s2⟩ := (g1 x y hx hy).mp e
          rcases g7 hk x s hx s0 s1 with q | q
          · omega
          · rw [show (y : Int) = s by omega]; exact q
    · rintro ⟨s, s0, s1, s2⟩
      rw [eb x s s0 s1] at s2
      by_cases e1 : x = b ∧ y = a
      · rw [if_pos e1]
      · rw [if_neg e1]
        by_cases e2 : x = a ∧ y = b
        · rw [if_pos e2]
        · rw [if_neg e2]
          by_cases e3 : x = b ∧ s = a
          · rw [if_pos e3] at s2; exact absurd ⟨e3.1, by omega⟩ e1
          · rw [if_neg e3] at s2
            by_cases e4 : x = a ∧ s = b
            · rw [if_pos e4] at s2; exact absurd ⟨e4.1, by omega⟩ e2
            · rw [if_neg e4] at s2
              exact (g1 x y hx hy).mpr ⟨s, s0, s1, s2⟩
  · have key : ∀ u : Int, 0 ≤ u → u < sl → bAt sl (up (up bes ((a : Int) * sl + (b : Int)).toNat b) ((b : Int) * sl + (a : Int)).toNat a) x u = -1 ∨ bAt sl (up (up bes ((a : Int) * sl + (b : Int)).toNat b) ((b : Int) * sl + (a : Int)).toNat a) x u = u := by
      intro u u0 u1
      rw [eb x u u0 u1]
      split
      · next q => exact Or.inr q.2.symm
      · split
        · next q => exact Or.inr q.2.symm
        · exact g7 hk x u hx u0 u1
    rcases key s h0 h1 with q | q
    · exact absurd q hne
    · rcases key s' h0' h1' with q' | q'
      · rw [e, q'] at hne; exact absurd rfl hne
      · omega
  · rw [en x y hy] at e
    rw [en y x hx]
    by_cases e1 : y = b ∧ x = a
    · rw [if_pos e1]
    · rw [if_neg e1]
      by_cases e2 : y = a ∧ x = b
      · rw [if_pos e2]
      · rw [if_neg e2]
        rw [if_neg (fun z => e2 ⟨z.2, z.1⟩), if_neg (fun z => e1 ⟨z.2, z.1⟩)] at e
        exact g3 x y hx hy e
  · rw [eb x s h0 h1] at e
    by_cases e1 : x = b ∧ s = a
    · rw [if_pos e1] at e
      have hy' : y = a := by omega
      have hs : wAt sl wal x s = false := by
        refine g8 x s hx h0 h1 ?_
        rw [e1.1, e1.2]; exact hm1 b a hb ha hno2
      rw [hs, e1.1, hy']
      exact (hwf b a hb ha hno2).symm
    · rw [if_neg e1] at e
      by_cases e2 : x = a ∧ s = b
      · rw [if_pos e2] at e
        have hy' : y = b := by omega
        have hs : wAt sl wal x s = false := by
          refine g8 x s hx h0 h1 ?_
          rw [e2.1, e2.2]; exact hm1 a b ha hb hno
        rw [hs, e2.1, hy']
        exact (hwf a b ha hb hno).symm
      · rw [if_neg e2] at e
        exact g4 x y s hx hy h0 h1 e
  · rw [en x y hy]
    split
    · rfl
    · split
      · rfl
      · exact g5 x y hx hy e
  · rw [eb p s h0 h1]
    split
    · next q => exact Or.inr q.2.symm
    · split
      · next q => exact Or.inr q.2.symm
      · exact g7 hk p s hp h0 h1
  · rw [eb x s h0 h1] at e
    by_cases e1 : x = b ∧ s = a
    · rw [if_pos e1] at e; omega
    · rw [if_neg e1] at e
      by_cases e2 : x = a ∧ s = b
      · rw [if_pos e2] at e; omega
      · rw [if_neg e2] at e
        exact g8 x s hx h0 h1 e
/-- a wall keeps the link -/
theorem LK_wall (h : LK k W H n sl bes wal nb wl) (hn : n ≤ 256) {a b : Nat} (ha : a < n) (hb : b < n) {sa sb : Int} (ha0 : 0 ≤ sa) (ha1 : sa < sl) (hb0 : 0 ≤ sb) (hb1 : sb < sl) (hab : bAt sl bes a sa = b) (hba : bAt sl bes b sb = a) (on : Bool) :
    LK k W H n sl bes (up (up wal ((a : Int) * sl + sa).toNat on) ((b : Int) * sl + sb).toNat on) nb (up (up wl (256 * a + b) on) (256 * b + a) on) := by
  obtain ⟨g1, g2, g3, g4, g5, g6, g7, g8⟩ := h
  have ew : ∀ (p : Nat) (s : Int), 0 ≤ s → s < sl → wAt sl (up (up wal ((a : Int) * sl + sa).toNat on) ((b : Int) * sl + sb).toNat on) p s = if p = b ∧ s = sb then on else if p = a ∧ s = sa then on else wAt sl wal p s := by
    intro p s h0 h1
    rw [wAt_up h0 h1 hb0 hb1, wAt_up h0 h1 ha0 ha1]
  have en : ∀ p q : Nat, q < n → up (up wl (256 * a + b) on) (256 * b + a) on (256 * p + q) = if p = b ∧ q = a then on else if p = a ∧ q = b then on else wl (256 * p + q) := by
    intro p q hq
    rw [mx_up (by omega) (by omega), mx_up (by omega) (by omega)]
  have nab : nb (256 * a + b) = true := (g1 a b ha hb).mpr ⟨sa, ha0, ha1, hab⟩
  have nba : nb (256 * b + a) = true := (g1 b a hb ha).mpr ⟨sb, hb0, hb1, hba⟩
  refine ⟨g1, g2, g3, fun x y s hx hy h0 h1 e => ?_, fun x y hx hy e => ?_, g6, g7, fun x s hx h0 h1 e => ?_⟩
  · have f1 : (x = b ∧ s = sb) ↔ (x = b ∧ y = a) := by
      constructor
      · rintro ⟨rfl, rfl⟩; rw [hba] at e; exact ⟨rfl, by omega⟩
      · rintro ⟨rfl, rfl⟩; exact ⟨rfl, g2 x s sb hx h0 h1 hb0 hb1 (by omega) (e.trans hba.symm)⟩
    have f2 : (x = a ∧ s = sa) ↔ (x = a ∧ y = b) := by
      constructor
      · rintro ⟨rfl, rfl⟩; rw [hab] at e; exact ⟨rfl, by omega⟩
      · rintro ⟨rfl, rfl⟩; exact ⟨rfl, g2 x s sa hx h0 h1 ha0 ha1 (by omega) (e.trans hab.symm)⟩
    rw [ew x s h0 h1, en x y hy, g4 x y s hx hy h0 h1 e]
    simp only [f1, f2]
  · rw [en x y hy] at e
    by_cases e1 : x = b ∧ y = a
    · rw [e1.1, e1.2]; exact nba
    · rw [if_neg e1] at e
      by_cases e2 : x = a ∧ y = b
      · rw [e2.1, e2.2]; exact nab
      · rw [if_neg e2] at e
        exact g5 x y hx hy e
  · rw [ew x s h0 h1]
    by_cases e1 : x = b ∧ s = sb
    · rw [e1.1, e1.2, hba] at e; omega
    · rw [if_neg e1]
      by_cases e2 : x = a ∧ s = sa
      · rw [e2.1, e2.2, hab] at e; omega
      · rw [if_neg e2]
        exact g8 x s hx h0 h1 e
theorem LK_next (h : LK k W H n sl bes wal nb wl) {p q : Nat} (hp : p < n) (hq : q < n) : nxC sl bes wal p q ↔ nxB nb wl p q := by
  obtain ⟨g1, g2, g3, g4, g5, g6, g7, g8⟩ := h
  have e : nxB nb wl p q ↔ nb (256 * p + q) = true ∧ wl (256 * p + q) = false := by
    show nxM nb wl p q = true ↔ _
    unfold nxM
    rw [mA_n, mA_n, Bool.and_eq_true, Bool.not_eq_true']
  rw [e]
  constructor
  · rintro ⟨s, h0, h1, h2⟩
    unfold oAt at h2
    by_cases hw : wAt sl wal p s = true
    · rw [if_pos hw] at h2; omega
    · rw [if_neg hw] at h2
      refine ⟨(g1 p q hp hq).mpr ⟨s, h0, h1, h2⟩, ?_⟩
      rw [← g4 p q s hp hq h0 h1 h2]
      simpa using hw
  · rintro ⟨h1, h2⟩
    obtain ⟨s, s0, s1, s2⟩ := (g1 p q hp hq).mp h1
    refine ⟨s, s0, s1, ?_⟩
    unfold oAt
    rw [if_neg (by rw [g4 p q s hp hq s0 s1 s2, h2]; decide)]
    exact s2
theorem fndF_none (P : Int → Bool) : ∀ (j : Nat) (i : Int), 0 ≤ i → fndF P j i = -1 → ∀ s, i ≤ s → s < i + j → P s = false
  | 0, i, _, _, s, h1, h2 => by omega
  | j + 1, i, hi, h, s, h1, h2 => by
    unfold fndF at h
    by_cases hp : P i = true
    · rw [if_pos hp] at h; omega
    · rw [if_neg hp] at h
      by_cases e : s = i
      · rw [e]; simpa using hp
      · exact fndF_none P j (i + 1) (by omega) h s (by omega) (by omega)
theorem LK_slot (h : LK k W H n sl bes wal nb wl) {a b : Nat} (ha : a < n) (hb : b < n) : sOf sl bes a b = -1 ↔ nb (256 * a + b) = false := by
  obtain ⟨g1, -⟩ := h
  constructor
  · intro e
    cases hh : nb (256 * a + b) with
    | false => rfl
    | true =>
      obtain ⟨s, s0, s1, s2⟩ := (g1 a b ha hb).mp hh
      unfold sOf at e
      rw [if_neg (by omega)] at e
      have := fndF_none _ sl 0 (by omega) e s s0 (by omega)
      simp [s2] at this
  · intro e
    rcases sOf_r sl bes a b with h1 | ⟨h1, h2, h3⟩
    · exact h1
    · rw [(g1 a b ha hb).mpr ⟨_, h1, h2, h3⟩] at e; cases e
theorem LK_wat (h : LK k W H n sl bes wal nb wl) {a b : Nat} (ha : a < n) (hb : b < n) (hs : sOf sl bes a b ≠ -1) : wAt sl wal a (sOf sl bes a b) = wl (256 * a + b) := by
  obtain ⟨g1, g2, g3, g4, -⟩ := h
  rcases sOf_r sl bes a b with h1 | ⟨h1, h2, h3⟩
  · exact absurd h1 hs
  · exact g4 a b _ ha hb h1 h2 h3
end LI
