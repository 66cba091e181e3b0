/-! how many parts -/
section PT
variable {G : mG} {w : List mC}
def cpR (nx : Nat → Nat → Prop) (n : Nat) : Nat → Nat → (Nat → Prop) → Int → Prop
  | 0, _, _, c => c = 0
  | k + 1, p, A, c => (A p → ∃ (A' : Nat → Prop) (c' : Int), (∀ q, q < n → (A' q ↔ A q ∧ ∀ k, ¬ rcN nx (fun q => q < n ∧ A q) p k q)) ∧ cpR nx n k (p + 1) A' c' ∧ c = c' + 1) ∧ (¬ A p → cpR nx n k (p + 1) A c)
theorem rcN_congr {nx nx' : Nat → Nat → Prop} {A A' : Nat → Prop} {n s : Nat} (hs : s < n) (hA : ∀ q, A q → q < n) (hAA : ∀ q, A q ↔ A' q) (hx : ∀ p q, p < n → q < n → (nx p q ↔ nx' p q)) : ∀ (m q : Nat), (rcN nx A s m q → q < n) ∧ (rcN nx A s m q ↔ rcN nx' A' s m q) := by
  intro m
  induction m with
  | zero => intro q; exact ⟨fun h => by have : q = s := h; omega, Iff.rfl⟩
  | succ m ih =>
    intro q
    refine ⟨fun ⟨p, _, _, ha⟩ => hA q ha, ⟨fun ⟨p, hp, hn, ha⟩ => ?_, fun ⟨p, hp, hn, ha⟩ => ?_⟩⟩
    · exact ⟨p, (ih p).2.mp hp, (hx p q ((ih p).1 hp) (hA q ha)).mp hn, (hAA q).mp ha⟩
    · have hp' := (ih p).2.mpr hp
      have ha' := (hAA q).mpr ha
      exact ⟨p, hp', (hx p q ((ih p).1 hp') (hA q ha')).mpr hn, ha'⟩
theorem cpR_unique {nx nx' : Nat → Nat → Prop} {n : Nat} (hx : ∀ p q, p < n → q < n → (nx p q ↔ nx' p q)) : ∀ (k p : Nat) (A A' : Nat → Prop) (c c' : Int), p + k = n → (∀ q, q < n → (A q ↔ A' q)) → cpR nx n k p A c → cpR nx' n k p A' c' → c = c' := by
  intro k
  induction k with
  | zero =>
    intro p A A' c c' _ _ h1 h2
    have e1 : c = 0 := h1
    have e2 : c' = 0 := h2
    omega
  | succ k ih =>
    intro p A A' c c' hpk hAA h1 h2
    have hpn : p < n := by omega
    by_cases hp : A p
    · obtain ⟨B, b, hB, hb, rfl⟩ := h1.1 hp
      obtain ⟨B', b', hB', hb', rfl⟩ := h2.1 ((hAA p hpn).mp hp)
      have e := ih (p + 1) B B' b b' (by omega) (fun q hq => ?_) hb hb'
      · rw [e]
      · rw [hB q hq, hB' q hq, hAA q hq]
        have cg := rcN_congr (nx := nx) (nx' := nx') (A := fun q => q < n ∧ A q) (A' := fun q => q < n ∧ A' q) hpn (fun q h => h.1) (fun q => ⟨fun h => ⟨h.1, (hAA q h.1).mp h.2⟩, fun h => ⟨h.1, (hAA q h.1).mpr h.2⟩⟩) hx
        constructor
        · exact fun h => ⟨h.1, fun m hm => h.2 m ((cg m q).2.mpr hm)⟩
        · exact fun h => ⟨h.1, fun m hm => h.2 m ((cg m q).2.mp hm)⟩
    · exact ih (p + 1) A A' c c' (by omega) hAA (h1.2 hp) (h2.2 (fun h => hp ((hAA p hpn).mpr h)))
theorem bfs_free {nx : Nat → Nat → Prop} {n s : Nat} {f f' : Nat → Int} (h : bfs nx n f f' s) : ∀ q, q < n → (f' q = -1 ↔ f q = -1 ∧ ∀ k, ¬ rcN nx (fun q => q < n ∧ f q = -1) s k q) := by
  intro q hq
  obtain ⟨h1, h2⟩ := h q hq
  constructor
  · intro hf
    by_cases h0 : f q = -1
    · rcases h2 h0 with ⟨m, m1, -, -⟩ | ⟨-, m2⟩
      · omega
      · exact ⟨h0, m2⟩
    · rw [h1 h0] at hf; exact absurd hf h0
  · rintro ⟨h0, hk⟩
    rcases h2 h0 with ⟨m, -, m2, -⟩ | ⟨m1, -⟩
    · exact absurd m2 (hk m)
    · exact m1
theorem bfs_from {nx : Nat → Nat → Prop} {n s : Nat} {f f2 f' : Nat → Int} (h : bfs nx n f f' s) (he : ∀ q, q < n → f q = f2 q) : bfs nx n f2 f' s := by
  have e : adm n f = adm n f2 := by
    funext q
    exact propext ⟨fun h => ⟨h.1, by rw [← he q h.1]; exact h.2⟩, fun h => ⟨h.1, by rw [he q h.1]; exact h.2⟩⟩
  intro q hq
  have := h q hq
  rw [e, he q hq] at this
  exact this
theorem cpR_ext {nx : Nat → Nat → Prop} {n : Nat} {A A' : Nat → Prop} (h : ∀ q, q < n → (A q ↔ A' q)) : ∀ (k p : Nat) (c : Int), p + k = n → cpR nx n k p A c → cpR nx n k p A' c
  | 0, _, _, _, hc => hc
  | k + 1, p, c, hpk, hc => by
    have e : (fun q => q < n ∧ A q) = (fun q => q < n ∧ A' q) := by
      funext q
      exact propext ⟨fun x => ⟨x.1, (h q x.1).mp x.2⟩, fun x => ⟨x.1, (h q x.1).mpr x.2⟩⟩
    refine ⟨fun hp => ?_, fun hp => cpR_ext h k (p + 1) c (by omega) (hc.2 (fun hq => hp ((h p (by omega)).mp hq)))⟩
    obtain ⟨B, b, hB, hb, rfl⟩ := hc.1 ((h p (by omega)).mpr hp)
    exact ⟨B, b, fun q hq => by rw [hB q hq, h q hq, e], hb, rfl⟩
theorem cpR_le {nx : Nat → Nat → Prop} {n : Nat} : ∀ (k p : Nat) (A : Nat → Prop) (c : Int), cpR nx n k p A c → 0 ≤ c ∧ c ≤ k
  | 0, _, _, c, h => by have : c = 0 := h; omega
  | k + 1, p, A, c, h => by
    by_cases hp : A p
    · obtain ⟨B, b, -, hb, rfl⟩ := h.1 hp
      have := cpR_le k (p + 1) B b hb
      omega
    · have := cpR_le k (p + 1) A c (h.2 hp)
      omega

theorem wW_wW (w : List mC) (a b c a' b' c' : mC) : wW (wW w a b c) a' b' c' = wW w a' b' c' := by
  show (((wW w a b c).set 10 a').set 11 b').set 12 c' = _
  rw [wW_10, wW_11, wW_12]
set_option maxHeartbeats 4000000 in
set_option maxRecDepth 100000 in
theorem l_X6_countParts (hG : m_G G) (d : Nat) {k W H : Int} {n sl m : Nat} {col row bes : Nat → Int} {wal : Nat → Bool} (hX : cX w k W H n sl m col row bes wal) (h9 : w[9]? = some oWalk) (hw : 12 < w.length) {Q : Option (Option Value) → List mC → Prop} :
    ∀ (j p : Nat) (fd l : Int) (f g : Nat → Int), p + j = n → (∀ q, q < n → -2 ≤ f q ∧ f q ≤ n) → (∀ (c l : Int) (f2 g : Nat → Int), cpR (nxC sl bes wal) n j p (fun q => f q = -1) c → Q (some (some (vI (fd + c)))) (wW w (cI n f2) (oRow 12 l) (cI n g))) → m_J G MX6_countParts (m_r (d + 4) 0 0) Q 0 0 4 [some (.ref 9), some (vI fd), some (vI p)] [] (wW w (cI n f) (oRow 12 l) (cI n g)) := by
  have hXX := hX
  obtain ⟨h1, h2, h3, h4, h5, h6, h7, h8, hF, hN, hsl, hcr, hbs⟩ := hX
  have hFF := hF
  have hNN := hN
  have hnb := hF.n
  obtain ⟨hk0, hk4, hW1, hW2, hH1, hH2, hn, hg4⟩ := hF
  obtain ⟨hn1, hn2, hl1, hl2, hm, hm2⟩ := hN
  intro j
  induction j with
  | zero =>
    intro p fd l f g hpj hr kk
    have k0 := kk 0 l f g rfl
    rw [Int.add_zero] at k0
    have b9 : (wW w (cI n f) (oRow 12 l) (cI n g))[9]? = some oWalk := by rw [wW_n (by decide) (by decide) (by decide)]; exact h9
    have b10 : (wW w (cI n f) (oRow 12 l) (cI n g))[10]? = some (cI n f) := wW_a hw
    have b11 : (wW w (cI n f) (oRow 12 l) (cI n g))[11]? = some (oRow 12 l) := wW_b hw
    have b12 : (wW w (cI n f) (oRow 12 l) (cI n g))[12]? = some (cI n g) := wW_c hw
    have bX := hXX.wW (cI n f) (oRow 12 l) (cI n g)
    have bw : 12 < (wW w (cI n f) (oRow 12 l) (cI n g)).length := by unfold wW; simp; exact hw
    refine m_iload_n 5 dX6_countParts_4 rfl rfl ?_
    refine m_aload_n 6 dX6_countParts_5 rfl rfl ?_
    refine m_getf 9 foX6_19 dX6_countParts_6 rfl (by first | rfl | assumption) (by rfl) ?_
    refine i_len 10 dX6_countParts_9 rfl (by first | rfl | assumption) ?_
    refine i_icmp_ge 13 37 ⟨by omega, by omega⟩ ⟨by omega, by omega⟩ dX6_countParts_10 rfl (by decide) (fun _ => ?_) (fun h => absurd h (by omega))
    refine m_iload_n 38 dX6_countParts_37 rfl rfl ?_
    refine i_ret _ dX6_countParts_38 rfl ⟨Nat.le_refl _, Nat.le_refl _⟩ ?_ k0
    rfl
  | succ j ih =>
    intro p fd l f g hpj hr kk
    have e0 : ((p : Int)).toNat = p := Int.toNat_natCast p
    have hrp := hr p (by omega)
    have b9 : (wW w (cI n f) (oRow 12 l) (cI n g))[9]? = some oWalk := by rw [wW_n (by decide) (by decide) (by decide)]; exact h9
    have b10 : (wW w (cI n f) (oRow 12 l) (cI n g))[10]? = some (cI n f) := wW_a hw
    have b11 : (wW w (cI n f) (oRow 12 l) (cI n g))[11]? = some (oRow 12 l) := wW_b hw
    have b12 : (wW w (cI n f) (oRow 12 l) (cI n g))[12]? = some (cI n g) := wW_c hw
    have bX := hXX.wW (cI n f) (oRow 12 l) (cI n g)
    have bw : 12 < (wW w (cI n f) (oRow 12 l) (cI n g)).length := by unfold wW; simp; exact hw
    refine m_iload_n 5 dX6_countParts_4 rfl rfl ?_
    refine m_aload_n 6 dX6_countParts_5 rfl rfl ?_
    refine m_getf 9 foX6_19 dX6_countParts_6 rfl (by first | rfl | assumption) (by rfl) ?_
    refine i_len 10 dX6_countParts_9 rfl (by first | rfl | assumption) ?_
    refine i_icmp_ge 13 37 ⟨by omega, by omega⟩ ⟨by omega, by omega⟩ dX6_countParts_10 rfl (by decide) (fun h => absurd h (by omega)) (fun _ => ?_)
    refine m_aload_n 14 dX6_countParts_13 rfl rfl ?_
    refine m_getf 17 foX6_19 dX6_countParts_14 rfl (by first | rfl | assumption) (by rfl) ?_
    refine m_iload_n 18 dX6_countParts_17 rfl rfl ?_
    refine i_ald 19 dX6_countParts_18 rfl (by first | rfl | assumption) ⟨by omega, by omega, by omega⟩ ?_
    rw [e0]
    refine i_const 20 dX6_countParts_19 rfl ?_
    refine i_icmp_ne 23 31 ⟨by omega, by omega⟩ ⟨by omega, by omega⟩ dX6_countParts_20 rfl (by decide) (fun q20 => ?_) (fun q20 => ?_)
    · refine i_inc 34 dX6_countParts_31 rfl rfl (by decide) ?_
      refine m_goto 4 dX6_countParts_34 (by decide) ?_
      refine ih (p + 1) _ _ _ _ (by omega) hr (fun c l2 f2 g2 hc => kk c l2 f2 g2 ?_)
      exact ⟨fun hp => absurd hp q20, fun _ => hc⟩
    · refine i_inc 26 dX6_countParts_23 rfl rfl (by decide) ?_
      refine m_aload_n 27 dX6_countParts_26 rfl rfl ?_
      refine m_iload_n 28 dX6_countParts_27 rfl rfl ?_
      refine m_cVr (M' := MX6_spreadFrom) 31 [_] kX6_32 imX6_spreadFrom seX6_spreadFrom clX6_spreadFrom dX6_countParts_28 rfl rfl rfl (by first | rfl | assumption) (m_rmI (by omega) (Nat.le_of_ble_eq_true rfl) (Nat.le_refl _) (Nat.le_refl _)) (c_X6_spreadFrom hG d bX (s := p) (by omega) b9 bw b10 b11 b12 q20 hr) (fun w2 h => by cases h.1) (fun v w2 h => ?_)
      obtain ⟨hv, L2, f2, g2, hbf, hr2, rfl⟩ := h
      cases hv
      rw [wW_wW]
      refine i_inc 34 dX6_countParts_31 rfl rfl (by decide) ?_
      refine m_goto 4 dX6_countParts_34 (by decide) ?_
      refine ih (p + 1) _ _ _ _ (by omega) hr2 (fun c l2 f3 g3 hc => ?_)
      have e5 := kk (c + 1) l2 f3 g3 ⟨fun _ => ⟨_, c, bfs_free hbf, hc, rfl⟩, fun hp => absurd q20 hp⟩
      rw [show fd + 1 + c = fd + (c + 1) by omega]
      exact e5
set_option maxHeartbeats 4000000 in
set_option maxRecDepth 100000 in
theorem c_X6_countParts (hG : m_G G) (d : Nat) {k W H : Int} {n sl m : Nat} {col row bes : Nat → Int} {wal : Nat → Bool} (hX : cX w k W H n sl m col row bes wal) (h9 : w[9]? = some oWalk) (hw : 12 < w.length) {l : Int} {f g : Nat → Int} (h10 : w[10]? = some (cI n f)) (h11 : w[11]? = some (oRow 12 l)) (h12 : w[12]? = some (cI n g)) (hr : ∀ q, q < n → -2 ≤ f q ∧ f q ≤ n) : m_Ct G MX6_countParts (m_r (d + 4) 0 0) [.ref 9] w (fun r x => ∃ (c l : Int) (f2 g2 : Nat → Int), r = some (some (vI c)) ∧ cpR (nxC sl bes wal) n n 0 (fun q => f q = -1) c ∧ x = wW w (cI n f2) (oRow 12 l) (cI n g2)) := by
  have e0 : w = (wW w (cI n f) (oRow 12 l) (cI n g)) := by unfold wW; rw [set_get h10, set_get h11, set_get h12]
  refine m_enter (L := [some (.ref 9), none, none]) (by decide) hG (m_c1 rfl) (Nat.le_of_ble_eq_true rfl) rfl ?_
  refine i_const 1 dX6_countParts_0 rfl ?_
  refine m_istore_n 2 dX6_countParts_1 rfl (by decide) ?_
  refine i_const 3 dX6_countParts_2 rfl ?_
  refine m_istore_n 4 dX6_countParts_3 rfl (by decide) ?_
  have e := l_X6_countParts hG d hX h9 hw (Q := fun r x => ∃ (c l : Int) (f2 g2 : Nat → Int), r = some (some (vI c)) ∧ cpR (nxC sl bes wal) n n 0 (fun q => f q = -1) c ∧ x = wW w (cI n f2) (oRow 12 l) (cI n g2)) n 0 0 l f g (by omega) hr (fun c l2 f2 g2 hc => ⟨c, l2, f2, g2, by rw [Int.zero_add], hc, rfl⟩)
  rw [← e0] at e
  exact e
theorem wW_set10 (w : List mC) (a0 a b c : mC) : wW (w.set 10 a0) a b c = wW w a b c := by
  unfold wW
  rw [List.set_set]
set_option maxHeartbeats 4000000 in
set_option maxRecDepth 100000 in
theorem c_X7_far (hG : m_G G) (d : Nat) {k W H : Int} {n sl m : Nat} {col row bes : Nat → Int} {wal : Nat → Bool} (hX : cX w k W H n sl m col row bes wal) (h9 : w[9]? = some oWalk) (hw : 12 < w.length) {l : Int} {f g : Nat → Int} (h10 : w[10]? = some (cI n f)) (h11 : w[11]? = some (oRow 12 l)) (h12 : w[12]? = some (cI n g)) {a b : Int} (ha : 0 ≤ a ∧ a < n) (hb : 0 ≤ b ∧ b < n) : m_Ct G MX7_far (m_r (d + 5) 0 0) [.ref 1, vI a, vI b] w (fun r x => ∃ (l : Int) (f2 g2 : Nat → Int), bfs (nxC sl bes wal) n (fun _ => -1) f2 a.toNat ∧ r = some (some (vI (f2 b.toNat))) ∧ (-2 ≤ f2 b.toNat ∧ f2 b.toNat ≤ n) ∧ x = wW w (cI n f2) (oRow 12 l) (cI n g2)) := by
  have hXX := hX
  obtain ⟨h1, h2, h3, h4, h5, h6, h7, h8, hF, hN, hsl, hcr, hbs⟩ := hX
  have hFF := hF
  have hNN := hN
  have hnb := hF.n
  obtain ⟨hk0, hk4, hW1, hW2, hH1, hH2, hn, hg4⟩ := hF
  obtain ⟨hn1, hn2, hl1, hl2, hm, hm2⟩ := hN
  have s1 : (w.set 10 (cI n (fill n (fun _ => -1) f)))[1]? = some oGrid := by rw [List.getElem?_set_ne (by decide)]; exact h1
  have s9 : (w.set 10 (cI n (fill n (fun _ => -1) f)))[9]? = some oWalk := by rw [List.getElem?_set_ne (by decide)]; exact h9
  have s10 : (w.set 10 (cI n (fill n (fun _ => -1) f)))[10]? = some (cI n (fill n (fun _ => -1) f)) := List.getElem?_set_self (by omega)
  have s11 : (w.set 10 (cI n (fill n (fun _ => -1) f)))[11]? = some (oRow 12 l) := by rw [List.getElem?_set_ne (by decide)]; exact h11
  have s12 : (w.set 10 (cI n (fill n (fun _ => -1) f)))[12]? = some (cI n g) := by rw [List.getElem?_set_ne (by decide)]; exact h12
  have sX : cX (w.set 10 (cI n (fill n (fun _ => -1) f))) k W H n sl m col row bes wal := hXX.keep fun i hi => List.getElem?_set_ne (by omega)
  have sw : 12 < (w.set 10 (cI n (fill n (fun _ => -1) f))).length := by simpa using hw
  have sf : ∀ q, q < n → fill n (fun _ => -1) f q = -1 := fun q hq => by unfold fill; rw [if_pos hq]
  have e0 : ((a.toNat : Nat) : Int) = a := Int.toNat_of_nonneg ha.1
  refine m_enter (L := [some (.ref 1), some (vI a), some (vI b)]) (by decide) hG (m_c1 rfl) (Nat.le_of_ble_eq_true rfl) rfl ?_
  refine m_aload_n 1 dX7_far_0 rfl rfl ?_
  refine m_iload_n 2 dX7_far_1 rfl rfl ?_
  refine m_cV (M' := MX7_demandPlace) 5 [_] kX7_77 imX7_demandPlace seX7_demandPlace clX7_demandPlace dX7_far_2 rfl rfl rfl (by first | rfl | assumption) (m_rmI (by omega) (Nat.le_of_ble_eq_true rfl) (Nat.le_refl _) (Nat.le_refl _)) (c_X7_demandPlace hG (d + 3) hXX ⟨by omega, by omega⟩) ?_
  refine m_aload_n 6 dX7_far_5 rfl rfl ?_
  refine m_iload_n 7 dX7_far_6 rfl rfl ?_
  refine m_cV (M' := MX7_demandPlace) 10 [_] kX7_77 imX7_demandPlace seX7_demandPlace clX7_demandPlace dX7_far_7 rfl rfl rfl (by first | rfl | assumption) (m_rmI (by omega) (Nat.le_of_ble_eq_true rfl) (Nat.le_refl _) (Nat.le_refl _)) (c_X7_demandPlace hG (d + 3) hXX ⟨by omega, by omega⟩) ?_
  refine m_aload_n 11 dX7_far_10 rfl rfl ?_
  refine m_getf 14 foX7_39 dX7_far_11 rfl (by first | rfl | assumption) (by rfl) ?_
  refine m_cV (M' := MX6_admitAll) 17 [] kX7_115 imX6_admitAll seX6_admitAll clX6_admitAll dX7_far_14 rfl rfl rfl (by first | rfl | assumption) (m_rmI (by omega) (Nat.le_of_ble_eq_true rfl) (Nat.le_refl _) (Nat.le_refl _)) (c_X6_admitAll hG (d + 4) (by omega) h9 h10) ?_
  refine m_aload_n 18 dX7_far_17 rfl rfl ?_
  refine m_getf 21 foX7_39 dX7_far_18 rfl (by first | rfl | assumption) (by rfl) ?_
  refine m_iload_n 22 dX7_far_21 rfl rfl ?_
  have hM := c_X6_spreadFrom hG d sX (s := a.toNat) (by omega) s9 sw s10 s11 s12 (sf _ (by omega)) (fun q hq => by rw [sf q hq]; omega)
  rw [e0] at hM
  refine m_cVr (M' := MX6_spreadFrom) 25 [_] kX7_118 imX6_spreadFrom seX6_spreadFrom clX6_spreadFrom dX7_far_22 rfl rfl rfl (by first | rfl | assumption) (m_rmI (by omega) (Nat.le_of_ble_eq_true rfl) (Nat.le_refl _) (Nat.le_refl _)) hM (fun w2 h => by cases h.1) (fun v w2 h => ?_)
  obtain ⟨hv, L2, f2, g2, hbf, hr2, rfl⟩ := h
  cases hv
  rw [wW_set10]
  have t1 : (wW w (cI n f2) (oRow 12 (L2 : Int)) (cI n g2))[1]? = some oGrid := by rw [wW_n (by decide) (by decide) (by decide)]; exact h1
  have t9 : (wW w (cI n f2) (oRow 12 (L2 : Int)) (cI n g2))[9]? = some oWalk := by rw [wW_n (by decide) (by decide) (by decide)]; exact h9
  have t10 : (wW w (cI n f2) (oRow 12 (L2 : Int)) (cI n g2))[10]? = some (cI n f2) := wW_a hw
  refine m_aload_n 26 dX7_far_25 rfl rfl ?_
  refine m_getf 29 foX7_39 dX7_far_26 rfl (by first | rfl | assumption) (by rfl) ?_
  refine m_iload_n 30 dX7_far_29 rfl rfl ?_
  refine m_cV (M' := MX6_stepsTo) 33 [_] kX7_121 imX6_stepsTo seX6_stepsTo clX6_stepsTo dX7_far_30 rfl rfl rfl (by first | rfl | assumption) (m_rmI (by omega) (Nat.le_of_ble_eq_true rfl) (Nat.le_refl _) (Nat.le_refl _)) (c_X6_stepsTo hG (d + 4) (by omega) hb t9 t10) ?_
  refine i_ret _ dX7_far_33 rfl ⟨Nat.le_refl _, Nat.le_refl _⟩ ?_ ⟨L2, f2, g2, bfs_from hbf sf, rfl, hr2 _ (by omega), rfl⟩
  rfl
set_option maxHeartbeats 4000000 in
set_option maxRecDepth 100000 in
theorem c_X7_partsA (hG : m_G G) (d : Nat) {k W H : Int} {n sl m : Nat} {col row bes : Nat → Int} {wal : Nat → Bool} (hX : cX w k W H n sl m col row bes wal) (h9 : w[9]? = some oWalk) (hw : 12 < w.length) {l : Int} {f g : Nat → Int} (h10 : w[10]? = some (cI n f)) (h11 : w[11]? = some (oRow 12 l)) (h12 : w[12]? = some (cI n g)) {a : Int} (ha : a < 0) (hra : iR a) : m_Ct G MX7_parts (m_r (d + 5) 0 0) [.ref 1, vI a] w (fun r x => ∃ (c l : Int) (f2 g2 : Nat → Int), r = some (some (vI c)) ∧ cpR (nxC sl bes wal) n n 0 (fun _ => True) c ∧ x = wW w (cI n f2) (oRow 12 l) (cI n g2)) := by
  have hXX := hX
  obtain ⟨h1, h2, h3, h4, h5, h6, h7, h8, hF, hN, hsl, hcr, hbs⟩ := hX
  have hFF := hF
  have hNN := hN
  have hnb := hF.n
  obtain ⟨hk0, hk4, hW1, hW2, hH1, hH2, hn, hg4⟩ := hF
  obtain ⟨hn1, hn2, hl1, hl2, hm, hm2⟩ := hN
  have s1 : (w.set 10 (cI n (fill n (fun _ => -1) f)))[1]? = some oGrid := by rw [List.getElem?_set_ne (by decide)]; exact h1
  have s9 : (w.set 10 (cI n (fill n (fun _ => -1) f)))[9]? = some oWalk := by rw [List.getElem?_set_ne (by decide)]; exact h9
  have s10 : (w.set 10 (cI n (fill n (fun _ => -1) f)))[10]? = some (cI n (fill n (fun _ => -1) f)) := List.getElem?_set_self (by omega)
  have s11 : (w.set 10 (cI n (fill n (fun _ => -1) f)))[11]? = some (oRow 12 l) := by rw [List.getElem?_set_ne (by decide)]; exact h11
  have s12 : (w.set 10 (cI n (fill n (fun _ => -1) f)))[12]? = some (cI n g) := by rw [List.getElem?_set_ne (by decide)]; exact h12
  have sX : cX (w.set 10 (cI n (fill n (fun _ => -1) f))) k W H n sl m col row bes wal := hXX.keep fun i hi => List.getElem?_set_ne (by omega)
  have sw : 12 < (w.set 10 (cI n (fill n (fun _ => -1) f))).length := by simpa using hw
  have sf : ∀ q, q < n → fill n (fun _ => -1) f q = -1 := fun q hq => by unfold fill; rw [if_pos hq]
  obtain ⟨hr1, hr2⟩ := hra
  refine m_enter (L := [some (.ref 1), some (vI a)]) (by decide) hG (m_c1 rfl) (Nat.le_of_ble_eq_true rfl) rfl ?_
  refine m_iload_n 1 dX7_parts_0 rfl rfl ?_
  refine i_if_ge 4 14 ⟨by omega, by omega⟩ dX7_parts_1 rfl (by decide) (fun h => absurd h (by omega)) (fun _ => ?_)
  refine m_aload_n 5 dX7_parts_4 rfl rfl ?_
  refine m_getf 8 foX7_39 dX7_parts_5 rfl (by first | rfl | assumption) (by rfl) ?_
  refine m_cV (M' := MX6_admitAll) 11 [] kX7_115 imX6_admitAll seX6_admitAll clX6_admitAll dX7_parts_8 rfl rfl rfl (by first | rfl | assumption) (m_rmI (by omega) (Nat.le_of_ble_eq_true rfl) (Nat.le_refl _) (Nat.le_refl _)) (c_X6_admitAll hG (d + 4) (by omega) h9 h10) ?_
  refine m_goto 26 dX7_parts_11 (by decide) ?_
  refine m_aload_n 27 dX7_parts_26 rfl rfl ?_
  refine m_getf 30 foX7_39 dX7_parts_27 rfl (by first | rfl | assumption) (by rfl) ?_
  refine m_cVr (M' := MX6_countParts) 33 [] kX7_129 imX6_countParts seX6_countParts clX6_countParts dX7_parts_30 rfl rfl rfl (by first | rfl | assumption) (m_rmI (by omega) (Nat.le_of_ble_eq_true rfl) (Nat.le_refl _) (Nat.le_refl _)) (c_X6_countParts hG d sX s9 sw s10 s11 s12 (fun q hq => by rw [sf q hq]; omega)) (fun w2 h => by obtain ⟨c, l, f2, g2, h, -⟩ := h; cases h) (fun v w2 h => ?_)
  obtain ⟨c, l2, f2, g2, hv, hc, rfl⟩ := h
  cases hv
  rw [wW_set10]
  refine i_ret _ dX7_parts_33 rfl ⟨Nat.le_refl _, Nat.le_refl _⟩ ?_ ⟨c, l2, f2, g2, rfl, cpR_ext (fun q hq => ⟨fun _ => trivial, fun _ => sf q hq⟩) n 0 c (by omega) hc, rfl⟩
  rfl
set_option maxHeartbeats 4000000 in
set_option maxRecDepth 100000 in
theorem c_X7_partsB (hG : m_G G) (d : Nat) {k W H : Int} {n sl m : Nat} {col row bes : Nat → Int} {wal : Nat → Bool} (hX : cX w k W H n sl m col row bes wal) (h9 : w[9]? = some oWalk) (hw : 12 < w.length) {l : Int} {f g : Nat → Int} (h10 : w[10]? = some (cI n f)) (h11 : w[11]? = some (oRow 12 l)) (h12 : w[12]? = some (cI n g)) {a : Int} {ar : Nat → Int} (h21 : w[21]? = some (cI n ar)) (hA : ∀ j, j < n → iR (ar j)) (ha : 0 ≤ a) (hra : iR a) : m_Ct G MX7_parts (m_r (d + 5) 0 0) [.ref 1, vI a] w (fun r x => ∃ (c l : Int) (f2 g2 : Nat → Int), r = some (some (vI c)) ∧ cpR (nxC sl bes wal) n n 0 (fun q => ar q = a) c ∧ x = wW w (cI n f2) (oRow 12 l) (cI n g2)) := by
  have hXX := hX
  obtain ⟨h1, h2, h3, h4, h5, h6, h7, h8, hF, hN, hsl, hcr, hbs⟩ := hX
  have hFF := hF
  have hNN := hN
  have hnb := hF.n
  obtain ⟨hk0, hk4, hW1, hW2, hH1, hH2, hn, hg4⟩ := hF
  obtain ⟨hn1, hn2, hl1, hl2, hm, hm2⟩ := hN
  have s1 : (w.set 10 (cI n (fill n (fun j => if ar j = a then -1 else -2) f)))[1]? = some oGrid := by rw [List.getElem?_set_ne (by decide)]; exact h1
  have s9 : (w.set 10 (cI n (fill n (fun j => if ar j = a then -1 else -2) f)))[9]? = some oWalk := by rw [List.getElem?_set_ne (by decide)]; exact h9
  have s10 : (w.set 10 (cI n (fill n (fun j => if ar j = a then -1 else -2) f)))[10]? = some (cI n (fill n (fun j => if ar j = a then -1 else -2) f)) := List.getElem?_set_self (by omega)
  have s11 : (w.set 10 (cI n (fill n (fun j => if ar j = a then -1 else -2) f)))[11]? = some (oRow 12 l) := by rw [List.getElem?_set_ne (by decide)]; exact h11
  have s12 : (w.set 10 (cI n (fill n (fun j => if ar j = a then -1 else -2) f)))[12]? = some (cI n g) := by rw [List.getElem?_set_ne (by decide)]; exact h12
  have sX : cX (w.set 10 (cI n (fill n (fun j => if ar j = a then -1 else -2) f))) k W H n sl m col row bes wal := hXX.keep fun i hi => List.getElem?_set_ne (by omega)
  have sw : 12 < (w.set 10 (cI n (fill n (fun j => if ar j = a then -1 else -2) f))).length := by simpa using hw
  have sf : ∀ q, q < n → fill n (fun j => if ar j = a then -1 else -2) f q = if ar q = a then -1 else -2 := fun q hq => by unfold fill; rw [if_pos hq]
  have hraa := hra
  obtain ⟨hr1, hr2⟩ := hra
  refine m_enter (L := [some (.ref 1), some (vI a)]) (by decide) hG (m_c1 rfl) (Nat.le_of_ble_eq_true rfl) rfl ?_
  refine m_iload_n 1 dX7_parts_0 rfl rfl ?_
  refine i_if_ge 4 14 ⟨by omega, by omega⟩ dX7_parts_1 rfl (by decide) (fun _ => ?_) (fun h => absurd h (by omega))
  refine m_aload_n 15 dX7_parts_14 rfl rfl ?_
  refine m_getf 18 foX7_39 dX7_parts_15 rfl (by first | rfl | assumption) (by rfl) ?_
  refine m_aload_n 19 dX7_parts_18 rfl rfl ?_
  refine m_getf 22 foX7_74 dX7_parts_19 rfl (by first | rfl | assumption) (by rfl) ?_
  refine m_iload_n 23 dX7_parts_22 rfl rfl ?_
  refine m_cV (M' := MX6_admitArea) 26 [_, _] kX7_125 imX6_admitArea seX6_admitArea clX6_admitArea dX7_parts_23 rfl rfl rfl (by first | rfl | assumption) (m_rmI (by omega) (Nat.le_of_ble_eq_true rfl) (Nat.le_refl _) (Nat.le_refl _)) (c_X6_admitArea hG (d + 4) (by omega) hraa hA h9 h10 h21) ?_
  refine m_aload_n 27 dX7_parts_26 rfl rfl ?_
  refine m_getf 30 foX7_39 dX7_parts_27 rfl (by first | rfl | assumption) (by rfl) ?_
  refine m_cVr (M' := MX6_countParts) 33 [] kX7_129 imX6_countParts seX6_countParts clX6_countParts dX7_parts_30 rfl rfl rfl (by first | rfl | assumption) (m_rmI (by omega) (Nat.le_of_ble_eq_true rfl) (Nat.le_refl _) (Nat.le_refl _)) (c_X6_countParts hG d sX s9 sw s10 s11 s12 (fun q hq => by rw [sf q hq]; split <;> omega)) (fun w2 h => by obtain ⟨c, l, f2, g2, h, -⟩ := h; cases h) (fun v w2 h => ?_)
  obtain ⟨c, l2, f2, g2, hv, hc, rfl⟩ := h
  cases hv
  rw [wW_set10]
  refine i_ret _ dX7_parts_33 rfl ⟨Nat.le_refl _, Nat.le_refl _⟩ ?_ ⟨c, l2, f2, g2, rfl, cpR_ext (fun q hq => by rw [sf q hq]; split <;> simp_all) n 0 c (by omega) hc, rfl⟩
  rfl
set_option maxHeartbeats 4000000 in
set_option maxRecDepth 100000 in
theorem c_X7_without (hG : m_G G) (d : Nat) {k W H : Int} {n sl m : Nat} {col row bes : Nat → Int} {wal : Nat → Bool} (hX : cX w k W H n sl m col row bes wal) (h9 : w[9]? = some oWalk) (hw : 12 < w.length) {l : Int} {f g : Nat → Int} (h10 : w[10]? = some (cI n f)) (h11 : w[11]? = some (oRow 12 l)) (h12 : w[12]? = some (cI n g)) {a : Int} (ha : 0 ≤ a ∧ a < n) : m_Ct G MX7_without (m_r (d + 5) 0 0) [.ref 1, vI a] w (fun r x => ∃ (c l : Int) (f2 g2 : Nat → Int), r = some (some (vI c)) ∧ cpR (nxC sl bes wal) n n 0 (fun q => q ≠ a.toNat) c ∧ x = wW w (cI n f2) (oRow 12 l) (cI n g2)) := by
  have hXX := hX
  obtain ⟨h1, h2, h3, h4, h5, h6, h7, h8, hF, hN, hsl, hcr, hbs⟩ := hX
  have hFF := hF
  have hNN := hN
  have hnb := hF.n
  obtain ⟨hk0, hk4, hW1, hW2, hH1, hH2, hn, hg4⟩ := hF
  obtain ⟨hn1, hn2, hl1, hl2, hm, hm2⟩ := hN
  have s1 : (w.set 10 (cI n (fill n (fun _ => -1) f)))[1]? = some oGrid := by rw [List.getElem?_set_ne (by decide)]; exact h1
  have s9 : (w.set 10 (cI n (fill n (fun _ => -1) f)))[9]? = some oWalk := by rw [List.getElem?_set_ne (by decide)]; exact h9
  have s10 : (w.set 10 (cI n (fill n (fun _ => -1) f)))[10]? = some (cI n (fill n (fun _ => -1) f)) := List.getElem?_set_self (by omega)
  have s11 : (w.set 10 (cI n (fill n (fun _ => -1) f)))[11]? = some (oRow 12 l) := by rw [List.getElem?_set_ne (by decide)]; exact h11
  have s12 : (w.set 10 (cI n (fill n (fun _ => -1) f)))[12]? = some (cI n g) := by rw [List.getElem?_set_ne (by decide)]; exact h12
  have sX : cX (w.set 10 (cI n (fill n (fun _ => -1) f))) k W H n sl m col row bes wal := hXX.keep fun i hi => List.getElem?_set_ne (by omega)
  have sw : 12 < (w.set 10 (cI n (fill n (fun _ => -1) f))).length := by simpa using hw
  have sf : ∀ q, q < n → fill n (fun _ => -1) f q = -1 := fun q hq => by unfold fill; rw [if_pos hq]
  have u1 : (w.set 10 (cI n (up (fill n (fun _ => -1) f) a.toNat (-2))))[1]? = some oGrid := by rw [List.getElem?_set_ne (by decide)]; exact h1
  have u9 : (w.set 10 (cI n (up (fill n (fun _ => -1) f) a.toNat (-2))))[9]? = some oWalk := by rw [List.getElem?_set_ne (by decide)]; exact h9
  have u10 : (w.set 10 (cI n (up (fill n (fun _ => -1) f) a.toNat (-2))))[10]? = some (cI n (up (fill n (fun _ => -1) f) a.toNat (-2))) := List.getElem?_set_self (by omega)
  have u11 : (w.set 10 (cI n (up (fill n (fun _ => -1) f) a.toNat (-2))))[11]? = some (oRow 12 l) := by rw [List.getElem?_set_ne (by decide)]; exact h11
  have u12 : (w.set 10 (cI n (up (fill n (fun _ => -1) f) a.toNat (-2))))[12]? = some (cI n g) := by rw [List.getElem?_set_ne (by decide)]; exact h12
  have uX : cX (w.set 10 (cI n (up (fill n (fun _ => -1) f) a.toNat (-2)))) k W H n sl m col row bes wal := hXX.keep fun i hi => List.getElem?_set_ne (by omega)
  have uw : 12 < (w.set 10 (cI n (up (fill n (fun _ => -1) f) a.toNat (-2)))).length := by simpa using hw
  have uf : ∀ q, q < n → up (fill n (fun _ => -1) f) a.toNat (-2) q = if q = a.toNat then -2 else -1 := fun q hq => by
    unfold up
    rw [sf q hq]
  refine m_enter (L := [some (.ref 1), some (vI a)]) (by decide) hG (m_c1 rfl) (Nat.le_of_ble_eq_true rfl) rfl ?_
  refine m_aload_n 1 dX7_without_0 rfl rfl ?_
  refine m_iload_n 2 dX7_without_1 rfl rfl ?_
  refine m_cV (M' := MX7_demandPlace) 5 [_] kX7_77 imX7_demandPlace seX7_demandPlace clX7_demandPlace dX7_without_2 rfl rfl rfl (by first | rfl | assumption) (m_rmI (by omega) (Nat.le_of_ble_eq_true rfl) (Nat.le_refl _) (Nat.le_refl _)) (c_X7_demandPlace hG (d + 3) hXX ⟨by omega, by omega⟩) ?_
  refine m_aload_n 6 dX7_without_5 rfl rfl ?_
  refine m_getf 9 foX7_39 dX7_without_6 rfl (by first | rfl | assumption) (by rfl) ?_
  refine m_cV (M' := MX6_admitAll) 12 [] kX7_115 imX6_admitAll seX6_admitAll clX6_admitAll dX7_without_9 rfl rfl rfl (by first | rfl | assumption) (m_rmI (by omega) (Nat.le_of_ble_eq_true rfl) (Nat.le_refl _) (Nat.le_refl _)) (c_X6_admitAll hG (d + 4) (by omega) h9 h10) ?_
  refine m_aload_n 13 dX7_without_12 rfl rfl ?_
  refine m_getf 16 foX7_39 dX7_without_13 rfl (by first | rfl | assumption) (by rfl) ?_
  refine m_iload_n 17 dX7_without_16 rfl rfl ?_
  refine m_cV (M' := MX6_refuse) 20 [_] kX7_132 imX6_refuse seX6_refuse clX6_refuse dX7_without_17 rfl rfl rfl (by first | rfl | assumption) (m_rmI (by omega) (Nat.le_of_ble_eq_true rfl) (Nat.le_refl _) (Nat.le_refl _)) (c_X6_refuse hG (d + 4) (by omega) ha s9 s10) ?_
  rw [List.set_set]
  refine m_aload_n 21 dX7_without_20 rfl rfl ?_
  refine m_getf 24 foX7_39 dX7_without_21 rfl (by first | rfl | assumption) (by rfl) ?_
  refine m_cVr (M' := MX6_countParts) 27 [] kX7_129 imX6_countParts seX6_countParts clX6_countParts dX7_without_24 rfl rfl rfl (by first | rfl | assumption) (m_rmI (by omega) (Nat.le_of_ble_eq_true rfl) (Nat.le_refl _) (Nat.le_refl _)) (c_X6_countParts hG d uX u9 uw u10 u11 u12 (fun q hq => by rw [uf q hq]; split <;> omega)) (fun w2 h => by obtain ⟨c, l, f2, g2, h, -⟩ := h; cases h) (fun v w2 h => ?_)
  obtain ⟨c, l2, f2, g2, hv, hc, rfl⟩ := h
  cases hv
  rw [wW_set10]
  refine i_ret _ dX7_without_27 rfl ⟨Nat.le_refl _, Nat.le_refl _⟩ ?_ ⟨c, l2, f2, g2, rfl, cpR_ext (fun q hq => by rw [uf q hq]; split <;> simp_all) n 0 c (by omega) hc, rfl⟩
  rfl
end PT
