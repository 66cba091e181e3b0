/-! what holds between two calls; each call keeps it -/
section IV
variable {G : mG} {w : List mC} {sc : mC}
def OKs (k W H : Int) (n sl : Nat) (bes : Nat → Int) (wal : Nat → Bool) (nb wl : Nat → Bool) (L : Nat) (ip mk ar : Nat → Int) : Prop :=
  LK k W H n sl bes wal nb wl ∧ (∀ j, j < n → 0 ≤ mk j ∧ mk j ≤ 99) ∧ (∀ j, j < 256 → 0 ≤ ar j ∧ ar j ≤ 256) ∧ (∀ i, i < L → 0 ≤ ip i ∧ ip i ≤ 255) ∧ L ≤ 1200
def INVt (sc : mC) (t : Int) (P : (Nat → Int64) → Prop) (w : List mC) : Prop := ∃ (k W H : Int) (n sl m : Nat) (col row bes : Nat → Int) (wal nb wl : Nat → Bool) (L : Nat) (ip mk ar : Nat → Int) (o : Nat → Int64), ST sc w k W H n sl m col row bes wal L ip mk ar t nb wl L ip mk ar o ∧ OKs k W H n sl bes wal nb wl L ip mk ar ∧ P o
def INV (sc : mC) (w : List mC) : Prop := ∃ t : Int, INVt sc t (fun _ => True) w
theorem INVt.inv {t : Int} {P : (Nat → Int64) → Prop} (h : INVt sc t P w) : INV sc w := by
  obtain ⟨k, W, H, n, sl, m, col, row, bes, wal, nb, wl, L, ip, mk, ar, o, h1, h2, -⟩ := h
  exact ⟨t, k, W, H, n, sl, m, col, row, bes, wal, nb, wl, L, ip, mk, ar, o, h1, h2, trivial⟩
theorem INVt.thrown {t : Int} {P : (Nat → Int64) → Prop} (hG : m_G G) (d : Nat) (h : INVt sc t P w) : m_Cv G MX8_thrown (m_r d 0 0) [.ref 22] w (some (vI t)) w := by
  obtain ⟨k, W, H, n, sl, m, col, row, bes, wal, nb, wl, L, ip, mk, ar, o, h1, h2, -⟩ := h
  exact ST_thrown hG d h1
theorem ST_22 {k W H : Int} {n sl m : Nat} {col row : Nat → Int} {bes : Nat → Int} {wal : Nat → Bool} {cL : Nat} {cip cmk car : Nat → Int} {t : Int} {nb wl : Nat → Bool} {mL : Nat} {mip mmk mar : Nat → Int} {o : Nat → Int64} (h : ST sc w k W H n sl m col row bes wal cL cip cmk car t nb wl mL mip mmk mar o) : w[0]? = some sc ∧ ∃ fs : List Value, w[22]? = some (mO 8 fs) := by
  obtain ⟨_, h0, _, ⟨pl, so, bt, rc, ou, fd, m22, -⟩, _⟩ := h
  exact ⟨h0, _, m22⟩
theorem INVt.c22 {t : Int} {P : (Nat → Int64) → Prop} (h : INVt sc t P w) : ∃ fs : List Value, w[22]? = some (mO 8 fs) := by
  obtain ⟨k, W, H, n, sl, m, col, row, bes, wal, nb, wl, L, ip, mk, ar, o, h1, -⟩ := h
  exact (ST_22 h1).2
theorem INVt.c31 {t : Int} {P : (Nat → Int64) → Prop} (h : INVt sc t P w) : ∃ o : Nat → Int64, w[31]? = some (mJ 1 o) ∧ P o := by
  obtain ⟨k, W, H, n, sl, m, col, row, bes, wal, nb, wl, L, ip, mk, ar, o, h1, h2, h3⟩ := h
  exact ⟨o, h1.2.2.2.2, h3⟩
theorem INV.c0 (h : INV sc w) : w[0]? = some sc := by
  obtain ⟨t, k, W, H, n, sl, m, col, row, bes, wal, nb, wl, L, ip, mk, ar, o, h1, -⟩ := h
  exact h1.2.1
theorem INV.c1 (h : INV sc w) : w[1]? = some oGrid := by
  obtain ⟨t, k, W, H, n, sl, m, col, row, bes, wal, nb, wl, L, ip, mk, ar, o, h1, -⟩ := h
  exact h1.2.2.1.1.1
/-- a call of the class behind its wrapper, then of the model: both throw, or both answer the same -/
def stepW {α : Type} (G : mG) (M M8 : mM) (av am : List Value) (sc : mC) (w : List mC) (rv : α → Value) (ov : α → Int64) : Prop :=
  ∃ kr : Int, (kr = 0 ∨ kr = 1) ∧ ∃ A : List mC → Prop, m_Ct G M (m_r 9 1 6) av w (fun r x => r = some (some (vI kr)) ∧ A x) ∧ ∀ x, A x → x[0]? = some sc ∧ (∃ fs : List Value, x[22]? = some (mO 8 fs)) ∧ m_Ct G M8 (m_r 8 0 0) am x (fun r y => ∃ v : α, r = some (some (rv v)) ∧ INVt sc kr (fun o => kr = 0 → o 0 = ov v) y)
/-- a call of the class, then of the model: both answer the same -/
def stepD {α : Type} (G : mG) (M M8 : mM) (av am : List Value) (sc : mC) (w : List mC) (rv : α → Value) : Prop :=
  ∃ A : α → List mC → Prop, m_Ct G M (m_r 9 0 0) av w (fun r x => ∃ v : α, r = some (some (rv v)) ∧ A v x) ∧ ∀ v x, A v x → x[0]? = some sc ∧ (∃ fs : List Value, x[22]? = some (mO 8 fs)) ∧ m_Ct G M8 (m_r 8 0 0) am x (fun r y => r = some (some (rv v)) ∧ INV sc y)
variable {k W H : Int} {n sl m : Nat} {col row : Nat → Int} {bes : Nat → Int} {wal : Nat → Bool} {cL : Nat} {cip cmk car : Nat → Int} {t : Int} {nb wl : Nat → Bool} {mL : Nat} {mip mmk mar : Nat → Int} {o : Nat → Int64}
theorem ST_bes (h : ST sc w k W H n sl m col row bes wal cL cip cmk car t nb wl mL mip mmk mar o) : ∀ (p : Nat) (s : Int), p < n → 0 ≤ s → s < sl → -1 ≤ bAt sl bes p s ∧ bAt sl bes p s < n :=
  fun p s hp h0 h1 => h.2.2.1.1.bes (p := (p : Int)) ⟨by omega, by omega⟩ s h0 h1
theorem ST_F (h : ST sc w k W H n sl m col row bes wal cL cip cmk car t nb wl mL mip mmk mar o) : fOK k W H n := h.2.2.1.1.2.2.2.2.2.2.2.2.1
theorem ST_sl (h : ST sc w k W H n sl m col row bes wal cL cip cmk car t nb wl mL mip mmk mar o) : sl = slN k n := h.2.2.1.1.2.2.2.2.2.2.2.2.2.2.1
theorem ST_n (h : ST sc w k W H n sl m col row bes wal cL cip cmk car t nb wl mL mip mmk mar o) : n ≤ 256 := (ST_F h).n.2
theorem ST_xy (h : ST sc w k W H n sl m col row bes wal cL cip cmk car t nb wl mL mip mmk mar o) : ∀ j : Nat, j < n → col j = (j : Int) % W ∧ row j = (j : Int) / W := h.2.2.1.1.2.2.2.2.2.2.2.2.2.2.2.1
theorem stW_1 {α : Type} {rv : α → Value} {ov : α → Int64} {M M8 : mM} {av am : List Value} {x0 : α}
    (hO : OKs k W H n sl bes wal nb wl mL mip mmk mar)
    (h1 : m_Ct G M (m_r 9 1 6) av w (fun r x => r = some (some (vI 1)) ∧ ST sc x k W H n sl m col row bes wal mL mip mmk mar t nb wl mL mip mmk mar o))
    (h2 : ∀ x, ST sc x k W H n sl m col row bes wal mL mip mmk mar t nb wl mL mip mmk mar o → m_Ct G M8 (m_r 8 0 0) am x (fun r y => r = some (some (rv x0)) ∧ ST sc y k W H n sl m col row bes wal mL mip mmk mar 1 nb wl mL mip mmk mar o)) : stepW G M M8 av am sc w rv ov :=
  ⟨1, Or.inr rfl, _, h1, fun x hx => ⟨(ST_22 hx).1, (ST_22 hx).2, (h2 x hx).post (fun _ _ h => ⟨x0, h.1, _, _, _, _, _, _, _, _, _, _, _, _, _, _, _, _, _, h.2, hO, fun e => by cases e⟩)⟩⟩
theorem stW_0 {α : Type} {rv : α → Value} {ov : α → Int64} {M M8 : mM} {av am : List Value} {x0 : α} {bes' : Nat → Int} {wal' nb' wl' : Nat → Bool} {mk' ar' : Nat → Int}
    (hO : OKs k W H n sl bes' wal' nb' wl' mL mip mk' ar')
    (h1 : m_Ct G M (m_r 9 1 6) av w (fun r x => r = some (some (vI 0)) ∧ ∃ o' : Nat → Int64, o' 0 = ov x0 ∧ ST sc x k W H n sl m col row bes' wal' mL mip mk' ar' t nb wl mL mip mmk mar o'))
    (h2 : ∀ x o', ST sc x k W H n sl m col row bes' wal' mL mip mk' ar' t nb wl mL mip mmk mar o' → m_Ct G M8 (m_r 8 0 0) am x (fun r y => r = some (some (rv x0)) ∧ ST sc y k W H n sl m col row bes' wal' mL mip mk' ar' 0 nb' wl' mL mip mk' ar' o')) : stepW G M M8 av am sc w rv ov :=
  ⟨0, Or.inl rfl, _, h1, fun x hx => by
    obtain ⟨o', ho, hx⟩ := hx
    exact ⟨(ST_22 hx).1, (ST_22 hx).2, (h2 x o' hx).post (fun _ _ h => ⟨x0, h.1, _, _, _, _, _, _, _, _, _, _, _, _, _, _, _, _, _, h.2, hO, fun _ => ho⟩)⟩⟩
theorem stD {α : Type} {rv : α → Value} {M M8 : mM} {av am : List Value} {x0 : α} {L' : Nat} {ip' mk' : Nat → Int}
    (hO : OKs k W H n sl bes wal nb wl L' ip' mk' mar)
    (h1 : m_Ct G M (m_r 9 0 0) av w (fun r x => r = some (some (rv x0)) ∧ ST sc x k W H n sl m col row bes wal L' ip' mk' mar t nb wl mL mip mmk mar o))
    (h2 : ∀ x, ST sc x k W H n sl m col row bes wal L' ip' mk' mar t nb wl mL mip mmk mar o → m_Ct G M8 (m_r 8 0 0) am x (fun r y => r = some (some (rv x0)) ∧ ST sc y k W H n sl m col row bes wal L' ip' mk' mar 0 nb wl L' ip' mk' mar o)) : stepD G M M8 av am sc w rv :=
  ⟨fun v x => v = x0 ∧ ST sc x k W H n sl m col row bes wal L' ip' mk' mar t nb wl mL mip mmk mar o, h1.post (fun _ _ h => ⟨x0, h.1, rfl, h.2⟩), fun v x hx => by
    obtain ⟨e, hx⟩ := hx
    cases e
    exact ⟨(ST_22 hx).1, (ST_22 hx).2, (h2 x hx).post (fun _ _ h => ⟨h.1, _, _, _, _, _, _, _, _, _, _, _, _, _, _, _, _, _, _, h.2, hO, trivial⟩)⟩⟩
theorem i_join (hG : m_G G) (hI : INV sc w) {a b : Int} (ha : iR a) (hb : iR b) : stepW G ML_join MX8_join [.ref 1, vI a, vI b, .ref 31] [.ref 22, vI a, vI b] sc w vB (fun v : Bool => if v then 1 else 0) := by
  obtain ⟨t, k, W, H, n, sl, m, col, row, bes, wal, nb, wl, L, ip, mk, ar, o, hS, hO, -⟩ := hI
  by_cases h : 0 ≤ a ∧ a < n
  · by_cases h' : 0 ≤ b ∧ b < n
    · obtain ⟨a, rfl⟩ := Int.eq_ofNat_of_zero_le h.1
      obtain ⟨b, rfl⟩ := Int.eq_ofNat_of_zero_le h'.1
      have hs := LK_slot hO.1 (a := a) (b := b) (by omega) (by omega)
      by_cases hc : k = 4 ∧ (a : Int) ≠ b ∧ nb (256 * a + b) = false
      · have hsl : sl = n := by rw [ST_sl hS, hc.1]; rfl
        have e1 : (256 * (a : Int) + (b : Int)).toNat = 256 * a + b := by omega
        have e2 : (256 * (b : Int) + (a : Int)).toNat = 256 * b + a := by omega
        have hl := LK_join hO.1 (ST_n hS) hc.1 hsl (a := a) (b := b) (by omega) (by omega) (by omega) hc.2.2
        refine stW_0 (x0 := true) ⟨hl, hO.2⟩ (W7_joinY hG 5 hS h h' hc.1 hc.2.1 (hs.mpr hc.2.2)) (fun x o' hx => ?_)
        have q := S8_joinY hG 5 hx h h' hc.1 hc.2.1 (by rw [mA_n]; exact hc.2.2)
        rw [e1, e2] at q
        exact q
      · have hno : k ≠ 4 ∨ (a : Int) = b ∨ nb (256 * a + b) = true := by
          by_cases q1 : k = 4
          · by_cases q2 : (a : Int) = b
            · exact Or.inr (Or.inl q2)
            · refine Or.inr (Or.inr ?_)
              cases q3 : nb (256 * a + b) with
              | true => rfl
              | false => exact absurd ⟨q1, q2, q3⟩ hc
          · exact Or.inl q1
        refine stW_0 (x0 := false) hO (W7_joinN hG 5 hS h h' ?_) (fun x o' hx => S8_joinN hG 5 hx h h' (by rw [mA_n]; exact hno))
        refine hno.imp id (Or.imp id (fun q e => ?_))
        rw [hs.mp e] at q
        cases q
    · exact stW_1 (x0 := false) hO (W7_joinX2 hG 0 hS h h' hb) (fun x hx => S8_joinX2 hG 5 hx h h' hb)
  · exact stW_1 (x0 := false) hO (W7_joinX hG 0 hS h ha) (fun x hx => S8_joinX hG 5 hx h ha)
theorem i_wall (hG : m_G G) (hI : INV sc w) {a b : Int} {on : Bool} (ha : iR a) (hb : iR b) : stepW G ML_wall MX8_wall [.ref 1, vI a, vI b, vB on, .ref 31] [.ref 22, vI a, vI b, vB on] sc w vB (fun v : Bool => if v then 1 else 0) := by
  obtain ⟨t, k, W, H, n, sl, m, col, row, bes, wal, nb, wl, L, ip, mk, ar, o, hS, hO, -⟩ := hI
  by_cases h : 0 ≤ a ∧ a < n
  · by_cases h' : 0 ≤ b ∧ b < n
    · obtain ⟨a, rfl⟩ := Int.eq_ofNat_of_zero_le h.1
      obtain ⟨b, rfl⟩ := Int.eq_ofNat_of_zero_le h'.1
      have hs := LK_slot hO.1 (a := a) (b := b) (by omega) (by omega)
      have hs2 := LK_slot hO.1 (a := b) (b := a) (by omega) (by omega)
      have hw := LK_wat hO.1 (a := a) (b := b) (by omega) (by omega)
      by_cases hc : nb (256 * a + b) = true ∧ wl (256 * a + b) ≠ on
      · have e1 : (256 * (a : Int) + (b : Int)).toNat = 256 * a + b := by omega
        have e2 : (256 * (b : Int) + (a : Int)).toNat = 256 * b + a := by omega
        have hc2 : nb (256 * b + a) = true := hO.1.2.2.1 a b (by omega) (by omega) hc.1
        have n1 : sOf sl bes a b ≠ -1 := fun e => by rw [hs.mp e] at hc; exact absurd hc.1 (by decide)
        have n2 : sOf sl bes b a ≠ -1 := fun e => by rw [hs2.mp e] at hc2; exact absurd hc2 (by decide)
        obtain ⟨a0, a1, a2⟩ := (sOf_r sl bes a b).resolve_left n1
        obtain ⟨b0, b1, b2⟩ := (sOf_r sl bes b a).resolve_left n2
        have hl := LK_wall hO.1 (ST_n hS) (a := a) (b := b) (by omega) (by omega) a0 a1 b0 b1 a2 b2 on
        refine stW_0 (x0 := true) ⟨hl, hO.2⟩ (W7_wallY hG 5 hS h h' ⟨a0, a1⟩ ⟨b0, b1⟩ (by rw [hw n1]; exact hc.2)) (fun x o' hx => ?_)
        have q := S8_wallY (on := on) hG 5 hx h h' (by rw [mA_n]; exact hc.1) (by rw [mA_n]; exact hc.2)
        rw [e1, e2] at q
        exact q
      · have hno : nb (256 * a + b) = false ∨ wl (256 * a + b) = on := by
          cases q3 : nb (256 * a + b) with
          | false => exact Or.inl rfl
          | true =>
            by_cases q : wl (256 * a + b) = on
            · exact Or.inr q
            · exact absurd ⟨q3, q⟩ hc
        refine stW_0 (x0 := false) hO (W7_wallN hG 5 hS h h' ?_) (fun x o' hx => S8_wallN hG 5 hx h h' (by rw [mA_n, mA_n]; exact hno))
        by_cases q : sOf sl bes a b = -1
        · exact Or.inl q
        · right
          rw [hw q]
          refine hno.resolve_left (fun e => q (hs.mpr e))
    · exact stW_1 (x0 := false) hO (W7_wallX2 hG 0 hS h h' hb) (fun x hx => S8_wallX2 hG 5 hx h h' hb)
  · exact stW_1 (x0 := false) hO (W7_wallX hG 0 hS h ha) (fun x hx => S8_wallX hG 5 hx h ha)
theorem i_degree (hG : m_G G) (hI : INV sc w) {p : Int} {nx : Bool} (hp : iR p) : stepW G ML_degree MX8_degree [.ref 1, vI p, vB nx, .ref 31] [.ref 22, vI p, vB nx] sc w vI (fun v : Int => (iI v).toInt64) := by
  obtain ⟨t, k, W, H, n, sl, m, col, row, bes, wal, nb, wl, L, ip, mk, ar, o, hS, hO, -⟩ := hI
  by_cases h : 0 ≤ p ∧ p < n
  · obtain ⟨p, rfl⟩ := Int.eq_ofNat_of_zero_le h.1
    have e := LK_degree hO.1 (ST_bes hS) (p := p) (by omega) nx
    have q := W7_degree (nx := nx) hG 5 hS h
    rw [e] at q
    exact stW_0 hO q (fun x o' hx => S8_degree hG 5 hx h)
  · exact stW_1 hO (W7_degreeX hG 0 hS h hp) (fun x hx => S8_degreeX hG 5 hx h hp)
theorem i_neighbour (hG : m_G G) (hI : INV sc w) {p c : Int} (hp : iR p) (hc : iR c) : stepW G ML_neighbour MX8_neighbour [.ref 1, vI p, vI c, .ref 31] [.ref 22, vI p, vI c] sc w vI (fun v : Int => (iI v).toInt64) := by
  obtain ⟨t, k, W, H, n, sl, m, col, row, bes, wal, nb, wl, L, ip, mk, ar, o, hS, hO, -⟩ := hI
  by_cases h : 0 ≤ p ∧ p < n
  · obtain ⟨p, rfl⟩ := Int.eq_ofNat_of_zero_le h.1
    have e := LK_neighbour hO.1 (ST_F hS) (ST_sl hS) (p := p) (by omega) c
    have q := W7_neighbour hG 5 hS h hc
    rw [e] at q
    exact stW_0 hO q (fun x o' hx => S8_neighbour hG 5 hx h hc)
  · exact stW_1 hO (W7_neighbourX hG 0 hS h hp) (fun x hx => S8_neighbourX hG 5 hx h hp)
theorem seF_neg {op : Int → Int} {p i : Int} (hi : i < 0) : ∀ (j : Nat) (q l : Int), 0 ≤ q → seF op p i j q l = -1
  | 0, _, _, _ => rfl
  | j + 1, q, l, hq => by
    unfold seF
    split
    · rfl
    · split
      · rfl
      · rw [if_neg (by omega)]
        exact seF_neg hi j (q + 1) _ (by omega)
theorem inB_tt {a b : Int} : inB a b = true ↔ 0 ≤ a ∧ a < b := by
  unfold inB
  simp
theorem i_seen (hG : m_G G) (hI : INV sc w) {p r i : Int} (hp : iR p) (hr : iR r) (hi : iR i) : stepW G ML_seen MX8_seen [.ref 1, vI p, vI r, vI i, .ref 31] [.ref 22, vI p, vI r, vI i] sc w vI (fun v : Int => (iI v).toInt64) := by
  obtain ⟨t, k, W, H, n, sl, m, col, row, bes, wal, nb, wl, L, ip, mk, ar, o, hS, hO, -⟩ := hI
  by_cases h : 0 ≤ p ∧ p < n
  · have q := W7_seen hG 5 hS h hr hi
    by_cases hc : 0 ≤ r ∧ r < dirN k
    · rw [if_pos (inB_tt.mpr hc)] at q
      by_cases h0 : 0 ≤ i
      · rw [LK_seen hO.1 (ST_F hS) (ST_sl hS) (ST_bes hS) hc h] at q
        exact stW_0 hO q (fun x o' hx => S8_seenY hG 5 hx h hc ⟨h0, hi.2⟩)
      · rw [seF_neg (by omega) n 0 _ (by omega)] at q
        exact stW_0 hO q (fun x o' hx => S8_seenN hG 5 hx h hr hi (fun e => h0 e.2.2))
    · rw [if_neg (fun e => hc (inB_tt.mp e))] at q
      exact stW_0 hO q (fun x o' hx => S8_seenN hG 5 hx h hr hi (fun e => hc ⟨e.1, e.2.1⟩))
  · exact stW_1 hO (W7_seenX hG 0 hS h hp) (fun x hx => S8_seenX hG 5 hx h hp)
theorem i_area (hG : m_G G) (hI : INV sc w) {p a : Int} (hp : iR p) (ha : iR a) : stepW G ML_area MX8_area [.ref 1, vI p, vI a, .ref 31] [.ref 22, vI p, vI a] sc w vB (fun v : Bool => if v then 1 else 0) := by
  obtain ⟨t, k, W, H, n, sl, m, col, row, bes, wal, nb, wl, L, ip, mk, ar, o, hS, hO, -⟩ := hI
  by_cases h : 0 ≤ p ∧ p < n
  · by_cases hc : 0 ≤ a ∧ a < n
    · have hn := ST_n hS
      refine stW_0 (x0 := true) ⟨hO.1, hO.2.1, fun j hj => ?_, hO.2.2.2⟩ (W7_areaY hG 5 hS h hc) (fun x o' hx => S8_areaY hG 5 hx h hc)
      unfold up
      split
      · omega
      · exact hO.2.2.1 j hj
    · exact stW_0 (x0 := false) hO (W7_areaN hG 5 hS h hc ha) (fun x o' hx => S8_areaN hG 5 hx h hc ha)
  · exact stW_1 (x0 := false) hO (W7_areaX hG 0 hS h hp) (fun x hx => S8_areaX hG 5 hx h hp)
theorem i_mark (hG : m_G G) (hI : INV sc w) {p a : Int} (hp : iR p) (ha : iR a) : stepW G ML_mark MX8_mark [.ref 1, vI p, vI a, .ref 31] [.ref 22, vI p, vI a] sc w vB (fun v : Bool => if v then 1 else 0) := by
  obtain ⟨t, k, W, H, n, sl, m, col, row, bes, wal, nb, wl, L, ip, mk, ar, o, hS, hO, -⟩ := hI
  by_cases h : 0 ≤ p ∧ p < n
  · by_cases hc : 0 ≤ a ∧ a ≤ 99
    · refine stW_0 (x0 := true) ⟨hO.1, fun j hj => ?_, hO.2.2⟩ (W7_markY hG 5 hS h hc) (fun x o' hx => S8_markY hG 5 hx h hc)
      unfold up
      split
      · exact hc
      · exact hO.2.1 j hj
    · exact stW_0 (x0 := false) hO (W7_markN hG 5 hS h hc ha) (fun x o' hx => S8_markN hG 5 hx h hc ha)
  · exact stW_1 (x0 := false) hO (W7_markX hG 0 hS h hp) (fun x hx => S8_markX hG 5 hx h hp)
theorem i_image (hG : m_G G) (hI : INV sc w) {a p : Int} (ha : iR a) (hp : iR p) : stepW G ML_image MX8_image [.ref 1, vI a, vI p, .ref 31] [.ref 22, vI a, vI p] sc w vI (fun v : Int => (iI v).toInt64) := by
  obtain ⟨t, k, W, H, n, sl, m, col, row, bes, wal, nb, wl, L, ip, mk, ar, o, hS, hO, -⟩ := hI
  by_cases h : 0 ≤ p ∧ p < n
  · obtain ⟨p, rfl⟩ := Int.eq_ofNat_of_zero_le h.1
    have q := W7_image hG 5 hS h ha
    have e := ST_xy hS p (by omega)
    rw [show ((p : Int)).toNat = p from Int.toNat_natCast p, e.1, e.2] at q
    exact stW_0 hO q (fun x o' hx => S8_image hG 5 hx h ha)
  · exact stW_1 hO (W7_imageX hG 0 hS h hp) (fun x hx => S8_imageX hG 5 hx h hp)
theorem i_far (hG : m_G G) (hI : INV sc w) {a b : Int} (ha : iR a) (hb : iR b) : stepW G ML_far MX8_far [.ref 1, vI a, vI b, .ref 31] [.ref 22, vI a, vI b] sc w vI (fun v : Int => (iI v).toInt64) := by
  obtain ⟨t, k, W, H, n, sl, m, col, row, bes, wal, nb, wl, L, ip, mk, ar, o, hS, hO, -⟩ := hI
  by_cases h : 0 ≤ a ∧ a < n
  · by_cases h' : 0 ≤ b ∧ b < n
    · obtain ⟨a, rfl⟩ := Int.eq_ofNat_of_zero_le h.1
      obtain ⟨b, rfl⟩ := Int.eq_ofNat_of_zero_le h'.1
      refine ⟨0, Or.inl rfl, _, W7_far hG 3 hS h h', fun x hx => ?_⟩
      obtain ⟨o', ⟨f2, hf, ho⟩, hx⟩ := hx
      refine ⟨(ST_22 hx).1, (ST_22 hx).2, (S8_far hG 5 hx h h').post (fun r y hy => ?_)⟩
      obtain ⟨⟨f3, ou, h3, hr⟩, hy⟩ := hy
      have e := LK_far hO.1 (ST_n hS) (a := a) (b := b) (by omega) (by omega) hf h3
      refine ⟨_, hr, _, _, _, _, _, _, _, _, _, _, _, _, _, _, _, _, _, hy, hO, fun _ => ?_⟩
      rw [ho, show ((b : Int)).toNat = b from Int.toNat_natCast b, e]
    · exact stW_1 hO (W7_farX2 hG 0 hS h h' hb) (fun x hx => S8_farX2 hG 5 hx h h' hb)
  · exact stW_1 hO (W7_farX hG 0 hS h ha) (fun x hx => S8_farX hG 5 hx h ha)
theorem i_without (hG : m_G G) (hI : INV sc w) {p : Int} (hp : iR p) : stepW G ML_without MX8_without [.ref 1, vI p, .ref 31] [.ref 22, vI p] sc w vI (fun v : Int => (iI v).toInt64) := by
  obtain ⟨t, k, W, H, n, sl, m, col, row, bes, wal, nb, wl, L, ip, mk, ar, o, hS, hO, -⟩ := hI
  by_cases h : 0 ≤ p ∧ p < n
  · refine ⟨0, Or.inl rfl, _, W7_without hG 3 hS h, fun x hx => ?_⟩
    obtain ⟨o', ⟨c, ho, hc⟩, hx⟩ := hx
    refine ⟨(ST_22 hx).1, (ST_22 hx).2, (S8_without hG 5 hx h).post (fun r y hy => ?_)⟩
    obtain ⟨⟨c', hr, hc'⟩, hy⟩ := hy
    have e := cpR_unique (fun p q h1 h2 => LK_next hO.1 h1 h2) n 0 _ _ c c' (by omega) (fun _ _ => Iff.rfl) hc hc'
    exact ⟨_, hr, _, _, _, _, _, _, _, _, _, _, _, _, _, _, _, _, _, hy, hO, fun _ => by rw [ho, e]⟩
  · exact stW_1 hO (W7_withoutX hG 0 hS h hp) (fun x hx => S8_withoutX hG 5 hx h hp)
theorem i_places (hG : m_G G) (hI : INV sc w) : stepD G MX7_places MX8_places [.ref 1] [.ref 22] sc w vI := by
  obtain ⟨t, k, W, H, n, sl, m, col, row, bes, wal, nb, wl, L, ip, mk, ar, o, hS, hO, -⟩ := hI
  exact stD hO (S7_places hG 9 hS) (fun x hx => S8_places hG 7 hx)
theorem i_pairs (hG : m_G G) (hI : INV sc w) {wd : Bool} : stepD G MX7_pairs MX8_pairs [.ref 1, vB wd] [.ref 22, vB wd] sc w vI := by
  obtain ⟨t, k, W, H, n, sl, m, col, row, bes, wal, nb, wl, L, ip, mk, ar, o, hS, hO, -⟩ := hI
  have q := S7_pairs (wd := wd) hG 7 hS
  rw [LK_pairs hO.1 (ST_bes hS) wd] at q
  exact stD hO q (fun x hx => S8_pairs hG 5 hx)
theorem i_pair (hG : m_G G) (hI : INV sc w) {c : Int} {gr : Bool} (hc : iR c) : stepD G MX7_pair MX8_pair [.ref 1, vI c, vB gr] [.ref 22, vI c, vB gr] sc w vI := by
  obtain ⟨t, k, W, H, n, sl, m, col, row, bes, wal, nb, wl, L, ip, mk, ar, o, hS, hO, -⟩ := hI
  have q := S7_pair (gr := gr) hG 6 hS hc
  rw [LK_pair hO.1 (ST_bes hS) c gr n 0 0 (by omega) (by omega)] at q
  exact stD hO q (fun x hx => S8_pair hG 5 hx hc)
theorem i_parts (hG : m_G G) (hI : INV sc w) {a : Int} (ha : iR a) : stepD G MX7_parts MX8_parts [.ref 1, vI a] [.ref 22, vI a] sc w vI := by
  obtain ⟨t, k, W, H, n, sl, m, col, row, bes, wal, nb, wl, L, ip, mk, ar, o, hS, hO, -⟩ := hI
  have hn := ST_n hS
  have hA : ∀ j, j < 256 → iR (ar j) := fun j hj => by
    have := hO.2.2.1 j hj
    constructor <;> omega
  have hm : m_Ct G MX7_parts (m_r 9 0 0) [.ref 1, vI a] w (fun r x => (∃ c : Int, r = some (some (vI c)) ∧ cpR (nxC sl bes wal) n n 0 (fun q => poF ar a q = false) c) ∧ ST sc x k W H n sl m col row bes wal L ip mk ar t nb wl L ip mk ar o) := by
    by_cases h : a < 0
    · refine (S7_partsA hG 4 hS h ha).post (fun r x hx => ?_)
      obtain ⟨⟨c, hr, hc⟩, hx⟩ := hx
      refine ⟨⟨c, hr, cpR_ext (fun q _ => ?_) n 0 c (by omega) hc⟩, hx⟩
      unfold poF
      rw [decide_eq_false (by omega)]
      simp
    · refine (S7_partsB hG 4 hS (by omega) ha (fun j hj => hA j (by omega))).post (fun r x hx => ?_)
      obtain ⟨⟨c, hr, hc⟩, hx⟩ := hx
      refine ⟨⟨c, hr, cpR_ext (fun q _ => ?_) n 0 c (by omega) hc⟩, hx⟩
      unfold poF
      rw [decide_eq_true (by omega)]
      simp
  refine ⟨fun c x => cpR (nxC sl bes wal) n n 0 (fun q => poF ar a q = false) c ∧ ST sc x k W H n sl m col row bes wal L ip mk ar t nb wl L ip mk ar o, hm.post (fun r x hx => ?_), fun c x hx => ?_⟩
  · obtain ⟨⟨c, hr, hc⟩, hx⟩ := hx
    exact ⟨c, hr, hc, hx⟩
  · obtain ⟨hc, hx⟩ := hx
    refine ⟨(ST_22 hx).1, (ST_22 hx).2, (S8_parts hG 5 hx ha hA).post (fun r y hy => ?_)⟩
    obtain ⟨⟨c', hr, hc'⟩, hy⟩ := hy
    have e := cpR_unique (fun p q h1 h2 => LK_next hO.1 h1 h2) n 0 _ _ c c' (by omega) (fun _ _ => Iff.rfl) hc hc'
    rw [← e] at hr
    exact ⟨hr, _, _, _, _, _, _, _, _, _, _, _, _, _, _, _, _, _, _, hy, hO, trivial⟩
theorem i_size (hG : m_G G) (hI : INV sc w) {a : Int} (ha : iR a) : stepD G MX7_size MX8_size [.ref 1, vI a] [.ref 22, vI a] sc w vI := by
  obtain ⟨t, k, W, H, n, sl, m, col, row, bes, wal, nb, wl, L, ip, mk, ar, o, hS, hO, -⟩ := hI
  have hn := ST_n hS
  have hA : ∀ j, j < n → iR (ar j) := fun j hj => by
    have := hO.2.2.1 j (by omega)
    constructor <;> omega
  exact stD hO (S7_size hG 9 hS ha hA) (fun x hx => S8_size hG 5 hx ha hA)
theorem i_mkR (hO : OKs k W H n sl bes wal nb wl mL mip mmk mar) : ∀ j, j < n → iR (mmk j) := fun j hj => by
  have := hO.2.1 j hj
  constructor <;> omega
theorem i_kept (hS : ST sc w k W H n sl m col row bes wal mL mip mmk mar t nb wl mL mip mmk mar o) (hO : OKs k W H n sl bes wal nb wl mL mip mmk mar) {a : Int} (ha : 0 ≤ a ∧ a < tuN k W H) : allF (kaP sl bes mmk wal (tMap k W H a col row)) n 0 = allF (kOut n nb wl mmk (TM k W H a)) n 0 := by
  rw [kaP_congr (T' := TM k W H a) (fun z h0 h1 => ?_) (ST_bes hS)]
  · obtain ⟨e, he⟩ := TM_ord (ST_F hS) ha
    exact kept_iff hO.1 (ST_bes hS) (fun z h0 h1 => TM_r (ST_F hS) ha ⟨h0, h1⟩) he
  · obtain ⟨z, rfl⟩ := Int.eq_ofNat_of_zero_le h0
    have e := ST_xy hS z (by omega)
    unfold tMap TM
    rw [show ((z : Int)).toNat = z from Int.toNat_natCast z, e.1, e.2]
theorem i_keeps (hG : m_G G) (hI : INV sc w) {a : Int} (ha : iR a) : stepD G MX7_keeps MX8_keeps [.ref 1, vI a] [.ref 22, vI a] sc w vB := by
  obtain ⟨t, k, W, H, n, sl, m, col, row, bes, wal, nb, wl, L, ip, mk, ar, o, hS, hO, -⟩ := hI
  have hA := i_mkR hO
  have q := S7_keeps hG 4 hS ha hA
  have e : (inB a (tuN k W H) && allF (kaP sl bes mk wal (tMap k W H a col row)) n 0) = (inB a (tuN k W H) && allF (kOut n nb wl mk (TM k W H a)) n 0) := by
    cases e : inB a (tuN k W H) with
    | false => rfl
    | true => rw [i_kept hS hO (inB_tt.mp e)]
  rw [e] at q
  exact stD hO q (fun x hx => S8_keeps hG 5 hx ha hA)
theorem i_keeping (hG : m_G G) (hI : INV sc w) : stepD G MX7_keeping MX8_keeping [.ref 1] [.ref 22] sc w vI := by
  obtain ⟨t, k, W, H, n, sl, m, col, row, bes, wal, nb, wl, L, ip, mk, ar, o, hS, hO, -⟩ := hI
  have hA := i_mkR hO
  have q := S7_keeping hG 4 hS hA
  rw [cntF_congr (P' := fun t => allF (kOut n nb wl mk (TM k W H t)) n 0) (tuN k W H).toNat 0 (fun s h0 h1 => i_kept hS hO ⟨h0, by omega⟩)] at q
  exact stD hO q (fun x hx => S8_keeping hG 5 hx hA)
theorem i_text (hG : m_G G) (hI : INV sc w) {i : Int} (hi : iR i) : stepD G MX7_text MX8_text [.ref 1, vI i] [.ref 22, vI i] sc w vI := by
  obtain ⟨t, k, W, H, n, sl, m, col, row, bes, wal, nb, wl, L, ip, mk, ar, o, hS, hO, -⟩ := hI
  exact stD hO (S7_text hG 6 hS hi hO.2.1) (fun x hx => S8_text hG 6 hx hi hO.2.1)
theorem i_unit (hG : m_G G) (hI : INV sc w) {u : Int} (hu : iR u) : stepD G MX7_unit MX8_unit [.ref 1, vI u] [.ref 22, vI u] sc w vB := by
  obtain ⟨t, k, W, H, n, sl, m, col, row, bes, wal, nb, wl, L, ip, mk, ar, o, hS, hO, -⟩ := hI
  have hL := hO.2.2.2.2
  by_cases h : 0 ≤ u ∧ u ≤ 255 ∧ (L : Int) < 1200
  · refine stD (x0 := true) ⟨hO.1, hO.2.1, hO.2.2.1, fun i hi => ?_, by omega⟩ (S7_unitY hG 8 hS ⟨h.1, h.2.1⟩ (by omega)) (fun x hx => S8_unitY hG 8 hx ⟨h.1, h.2.1⟩ (by omega))
    unfold up
    split
    · exact ⟨h.1, h.2.1⟩
    · exact hO.2.2.2.1 i (by omega)
  · exact stD (x0 := false) hO (S7_unitN hG 8 hS hu hL h) (fun x hx => S8_unitN hG 8 hx hu hL h)
theorem i_read (hG : m_G G) (hI : INV sc w) : stepD G MX7_read MX8_read [.ref 1] [.ref 22] sc w vI := by
  obtain ⟨t, k, W, H, n, sl, m, col, row, bes, wal, nb, wl, L, ip, mk, ar, o, hS, hO, -⟩ := hI
  have hL := hO.2.2.2.2
  have hb := hO.2.2.2.1
  have h00 : dOK n 0 0 := ⟨by omega, by omega, by omega, by omega, by omega⟩
  refine ⟨fun v x => ∃ dm : Nat → Int, ((pF n ip L L 0 0 0 dm).1 = -1 ∧ v = (n : Int) ∧ ST sc x k W H n sl m col row bes wal 0 ip (fill n (pF n ip L L 0 0 0 dm).2 mk) ar t nb wl L ip mk ar o) ∨ ((pF n ip L L 0 0 0 dm).1 ≠ -1 ∧ v = -1 - (pF n ip L L 0 0 0 dm).1 ∧ ST sc x k W H n sl m col row bes wal 0 ip mk ar t nb wl L ip mk ar o), (S7_read hG 6 hS hL hb).post (fun r x hx => ?_), fun v x hx => ?_⟩
  · obtain ⟨dm, h | h⟩ := hx
    · exact ⟨_, h.2.1, dm, Or.inl ⟨h.1, rfl, h.2.2⟩⟩
    · exact ⟨_, h.2.1, dm, Or.inr ⟨h.1, rfl, h.2.2⟩⟩
  · obtain ⟨dm, h | h⟩ := hx
    · obtain ⟨h1, hv, hx⟩ := h
      refine ⟨(ST_22 hx).1, (ST_22 hx).2, (S8_read hG 6 hx hL hb).post (fun r y hy => ?_)⟩
      obtain ⟨fd, hy⟩ := hy
      obtain ⟨c1, c2⟩ := pF_congr (n := n) (b := ip) (L := L) L 0 0 0 dm fd h00 (fun x hx => by omega)
      rcases hy with ⟨g1, hr, hy⟩ | ⟨g1, hr, hy⟩
      · have ef : fill n (pF n ip L L 0 0 0 fd).2 mk = fill n (pF n ip L L 0 0 0 dm).2 mk := by
          funext j
          unfold fill
          split
          · rename_i hj
            exact (c2 h1 j hj).symm
          · rfl
        rw [ef] at hy
        rw [hv]
        refine ⟨hr, _, _, _, _, _, _, _, _, _, _, _, _, _, _, _, _, _, _, hy, ⟨hO.1, fun j hj => ?_, hO.2.2.1, fun i hi => by omega, by omega⟩, trivial⟩
        have := pF_rd (n := n) (b := ip) (L := L) L 0 0 0 dm h00 ⟨fun x hx => by omega, fun e => by omega⟩ h1 j hj
        unfold fill
        rw [if_pos hj]
        exact this
      · exact absurd (c1.symm.trans h1) g1
    · obtain ⟨h1, hv, hx⟩ := h
      refine ⟨(ST_22 hx).1, (ST_22 hx).2, (S8_read hG 6 hx hL hb).post (fun r y hy => ?_)⟩
      obtain ⟨fd, hy⟩ := hy
      obtain ⟨c1, c2⟩ := pF_congr (n := n) (b := ip) (L := L) L 0 0 0 dm fd h00 (fun x hx => by omega)
      rcases hy with ⟨g1, hr, hy⟩ | ⟨g1, hr, hy⟩
      · exact absurd (c1.trans g1) h1
      · rw [hv, c1]
        exact ⟨hr, _, _, _, _, _, _, _, _, _, _, _, _, _, _, _, _, _, _, hy, ⟨hO.1, hO.2.1, hO.2.2.1, fun i hi => by omega, by omega⟩, trivial⟩
end IV
