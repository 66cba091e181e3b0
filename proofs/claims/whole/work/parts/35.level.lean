/-! the model: the search by levels -/
section MU
variable {G : mG} {w : List mC}
def shr (nx : Nat → Nat → Prop) (A : Nat → Prop) (n : Nat) (f : Nat → Int) (s : Nat) : Prop :=
  ∀ q, q < n → (0 ≤ f q ∧ rcN nx A s (f q).toNat q ∧ ∀ k, rcN nx A s k q → (f q).toNat ≤ k) ∨ (f q = -1 ∧ ∀ k, ¬ rcN nx A s k q)
def vis (n : Nat) (f : Nat → Int) : Nat := cN (fun q => f q != -1) n
def mIv (nx : Nat → Nat → Prop) (A : Nat → Prop) (n s : Nat) (l : Int) (p q : Nat) (f : Nat → Int) (mo : Bool) (v0 : Nat) : Prop :=
  (∀ x, x < n → f x = -1 ∨ (0 ≤ f x ∧ f x ≤ l + 1 ∧ rcN nx A s (f x).toNat x)) ∧
  (∀ (m : Nat) x, (m : Int) ≤ l → rcN nx A s m x → x < n → 0 ≤ f x ∧ f x ≤ m) ∧
  (∀ p' x, p' < p → f p' = l → x < n → nx p' x → A x → 0 ≤ f x) ∧
  (f p = l → ∀ x, x < q → nx p x → A x → 0 ≤ f x) ∧
  (mo = true → v0 < vis n f) ∧ (mo = false → ∀ x, x < n → f x ≤ l) ∧ v0 ≤ vis n f
theorem mIv_skip {nx : Nat → Nat → Prop} {A : Nat → Prop} {n s : Nat} {l : Int} {p q : Nat} {f : Nat → Int} {mo : Bool} {v0 : Nat} (h : mIv nx A n s l p q f mo v0) (hq : nx p q → A q → 0 ≤ f q) : mIv nx A n s l p (q + 1) f mo v0 := by
  obtain ⟨h1, h2, h3, h4, h5, h6, h7⟩ := h
  refine ⟨h1, h2, h3, fun hp x hx => ?_, h5, h6, h7⟩
  by_cases e : x = q
  · subst e; exact hq
  · exact h4 hp x (by omega)
theorem mIv_next {nx : Nat → Nat → Prop} {A : Nat → Prop} {n s : Nat} {l : Int} {p : Nat} {f : Nat → Int} {mo : Bool} {v0 : Nat} {q : Nat} (h : mIv nx A n s l p q f mo v0) (hq : f p = l → q = n) : mIv nx A n s l (p + 1) 0 f mo v0 := by
  obtain ⟨h1, h2, h3, h4, h5, h6, h7⟩ := h
  refine ⟨h1, h2, fun p' x hp' hf hx => ?_, fun _ x hx => absurd hx (Nat.not_lt_zero x), h5, h6, h7⟩
  by_cases e : p' = p
  · subst e; exact h4 hf x (by rw [hq hf]; exact hx)
  · exact h3 p' x (by omega) hf hx
theorem mIv_set {nx : Nat → Nat → Prop} {A : Nat → Prop} {n s : Nat} {l : Int} {p q : Nat} {f : Nat → Int} {mo : Bool} {v0 : Nat} (h : mIv nx A n s l p q f mo v0) (hl : 0 ≤ l) (hp : p < n) (hq : q < n) (hf : f p = l) (hn : nx p q) (hA : A q) (hfq : f q < 0) : mIv nx A n s l p (q + 1) (up f q (l + 1)) true v0 ∧ up f q (l + 1) p = l := by
  obtain ⟨h1, h2, h3, h4, h5, h6, h7⟩ := h
  have hq1 : f q = -1 := by rcases h1 q hq with h | h <;> omega
  have hpq : p ≠ q := by intro e; subst e; omega
  have eu : ∀ x, x ≠ q → up f q (l + 1) x = f x := fun x hx => by unfold up; rw [if_neg hx]
  have es : up f q (l + 1) q = l + 1 := by unfold up; rw [if_pos rfl]
  have hrp : rcN nx A s l.toNat p := by
    rcases h1 p hp with h | ⟨-, -, h⟩
    · omega
    · rw [hf] at h; exact h
  have hv : vis n (up f q (l + 1)) = vis n f + 1 := cN_up (z := q) (by simp [hq1]) (by rw [es]; simp; omega) (fun x hx => by rw [eu x hx]) n hq
  refine ⟨⟨fun x hx => ?_, fun m x hm hr hx => ?_, fun p' x hp' hf' hx hn' hA' => ?_, fun _ x hx hn' hA' => ?_, fun _ => by omega, fun h => (by cases h), by omega⟩, by rw [eu p hpq]; exact hf⟩
  · by_cases e : x = q
    · subst e
      rw [es]
      refine Or.inr ⟨by omega, by omega, ?_⟩
      rw [show (l + 1).toNat = l.toNat + 1 by omega]
      exact ⟨p, hrp, hn, hA⟩
    · rw [eu x e]; exact h1 x hx
  · by_cases e : x = q
    · subst e
      have := h2 m x hm hr hx
      omega
    · rw [eu x e]; exact h2 m x hm hr hx
  · have hpe : p' ≠ q := by intro e; subst e; rw [es] at hf'; omega
    rw [eu p' hpe] at hf'
    by_cases e : x = q
    · subst e; rw [es]; omega
    · rw [eu x e]; exact h3 p' x hp' hf' hx hn' hA'
  · by_cases e : x = q
    · subst e; rw [es]; omega
    · rw [eu x e]; exact h4 hf x (by omega) hn' hA'
/-- a level is done -/
theorem mIv_level {nx : Nat → Nat → Prop} {A : Nat → Prop} {n s : Nat} {l : Int} {f : Nat → Int} {mo : Bool} {v0 : Nat} (hl : 0 ≤ l) (hs : s < n) (hA : ∀ q, A q → q < n) (h : mIv nx A n s l n 0 f mo v0) : (∀ (m : Nat) x, (m : Int) ≤ l + 1 → rcN nx A s m x → x < n → 0 ≤ f x ∧ f x ≤ m) := by
  obtain ⟨h1, h2, h3, h4, h5, h6, h7⟩ := h
  intro m x hm hr hx
  by_cases hml : (m : Int) ≤ l
  · exact h2 m x hml hr hx
  · cases m with
    | zero => omega
    | succ m =>
      obtain ⟨p, hp, hn, ha⟩ := hr
      have hpn : p < n := by
        cases m with
        | zero => have : p = s := hp; omega
        | succ m => obtain ⟨_, _, _, h⟩ := hp; exact hA p h
      have hfp := h2 m p (by omega) hp hpn
      rcases h1 x hx with hx1 | ⟨hx0, hx1, -⟩
      · exfalso
        by_cases hfl : f p = l
        · have := h3 p x hpn hfl hx hn ha
          omega
        · rcases h1 p hpn with hp1 | ⟨-, -, hpr⟩
          · omega
          · have := h2 ((f p).toNat + 1) x (by omega) ⟨p, hpr, hn, ha⟩ hx
            omega
      · exact ⟨hx0, by omega⟩
theorem mIv_more {nx : Nat → Nat → Prop} {A : Nat → Prop} {n s : Nat} {l : Int} {f : Nat → Int} {mo : Bool} {v0 : Nat} (hl : 0 ≤ l) (hs : s < n) (hA : ∀ q, A q → q < n) (h : mIv nx A n s l n 0 f mo v0) : mIv nx A n s (l + 1) 0 0 f false (vis n f) := by
  have hh := mIv_level hl hs hA h
  obtain ⟨h1, h2, h3, h4, h5, h6, h7⟩ := h
  refine ⟨fun x hx => ?_, hh, fun p' x hp' => absurd hp' (Nat.not_lt_zero p'), fun _ x hx => absurd hx (Nat.not_lt_zero x), fun h => (by cases h), fun _ x hx => ?_, Nat.le_refl _⟩
  · rcases h1 x hx with h | ⟨a, b, c⟩
    · exact Or.inl h
    · exact Or.inr ⟨a, by omega, c⟩
  · rcases h1 x hx with h | ⟨a, b, c⟩ <;> omega
theorem mIv_end {nx : Nat → Nat → Prop} {A : Nat → Prop} {n s : Nat} {l : Int} {f : Nat → Int} {v0 : Nat} (hl : 0 ≤ l) (hs : s < n) (hA : ∀ q, A q → q < n) (h : mIv nx A n s l n 0 f false v0) : shr nx A n f s := by
  have hh := mIv_level hl hs hA h
  obtain ⟨h1, h2, h3, h4, h5, h6, h7⟩ := h
  have hall : ∀ (k : Nat) x, rcN nx A s k x → x < n → 0 ≤ f x := by
    intro k
    induction k with
    | zero => exact fun x hr hx => (h2 0 x (by omega) hr hx).1
    | succ k ih =>
      intro x hr hx
      obtain ⟨p, hp, hn, ha⟩ := hr
      have hpn : p < n := by
        cases k with
        | zero => have : p = s := hp; omega
        | succ k => obtain ⟨_, _, _, h⟩ := hp; exact hA p h
      have hp0 := ih p hp hpn
      have hpl := h6 rfl p hpn
      rcases h1 p hpn with hp1 | ⟨-, -, hpr⟩
      · omega
      · exact (hh ((f p).toNat + 1) x (by omega) ⟨p, hpr, hn, ha⟩ hx).1
  intro q hq
  rcases h1 q hq with h | ⟨h0, hl1, hr⟩
  · exact Or.inr ⟨h, fun k hk => by have := hall k q hk hq; omega⟩
  · refine Or.inl ⟨h0, hr, fun k hk => ?_⟩
    by_cases hkl : (k : Int) ≤ l + 1
    · have := hh k q hkl hk hq; omega
    · omega
theorem mIv_start {nx : Nat → Nat → Prop} {A : Nat → Prop} {n s : Nat} {f : Nat → Int} (hs : s < n) (hf : ∀ q, q < n → f q = if q = s then 0 else -1) : mIv nx A n s 0 0 0 f false (vis n f) ∧ 1 ≤ vis n f := by
  refine ⟨⟨fun x hx => ?_, fun m x hm hr hx => ?_, fun p' x hp' => absurd hp' (Nat.not_lt_zero p'), fun _ x hx => absurd hx (Nat.not_lt_zero x), fun h => (by cases h), fun _ x hx => ?_, Nat.le_refl _⟩, ?_⟩
  · rw [hf x hx]
    by_cases e : x = s
    · rw [if_pos e]; exact Or.inr ⟨by omega, by omega, e⟩
    · rw [if_neg e]; exact Or.inl rfl
  · have : m = 0 := by omega
    subst this
    have e : x = s := hr
    rw [hf x hx, if_pos e]
    omega
  · rw [hf x hx]; split <;> omega
  · unfold vis
    have : cN (fun q => f q != -1) n = cN (fun _ => false) n + 1 := by
      rw [cN_eq (P := fun q => decide (q = s)) n (fun q hq => by rw [hf q hq]; by_cases e : q = s <;> simp [e])]
      exact cN_up (z := s) rfl (by simp) (fun q hq => by simp [hq]) n hs
    omega
def nxB (nb wl : Nat → Bool) (a b : Nat) : Prop := nxM nb wl (a : Int) (b : Int) = true
def admO (n : Nat) (ou : Nat → Bool) : Nat → Prop := fun q => q < n ∧ ou q = false
theorem vis_le (n : Nat) (f : Nat → Int) : vis n f ≤ n := cN_le _ n

theorem mIv_b {nx : Nat → Nat → Prop} {A : Nat → Prop} {n s : Nat} {l : Int} {p q : Nat} {f : Nat → Int} {mo : Bool} {v0 : Nat} (h : mIv nx A n s l p q f mo v0) {x : Nat} (hx : x < n) : -1 ≤ f x ∧ f x ≤ max (-1) (l + 1) := by
  rcases h.1 x hx with e | ⟨a, b, -⟩ <;> omega
set_option maxHeartbeats 4000000 in
set_option maxRecDepth 100000 in
theorem l_X8_spreadI (hG : m_G G) (d : Nat) {k W H : Int} {n : Nat} (hF : fOK k W H n) {t sz pl so bt : Int} {nb wl ou : Nat → Bool} {ar mk ip fd : Nat → Int} (hw : 30 < w.length) {s p v0 : Nat} {l : Int} {Q : Option (Option Value) → List mC → Prop} (hl : 0 ≤ l ∧ l ≤ 256) (hp : p < n) :
    ∀ (j q : Nat) (f : Nat → Int) (mo : Bool), q + j = n → mIv (nxB nb wl) (admO n ou) n s l p q f mo v0 → f p = l → (∀ (f2 : Nat → Int) (mo2 : Bool) (x5 : Option Value), mIv (nxB nb wl) (admO n ou) n s l p n f2 mo2 v0 → m_J G MX8_spread (m_r (d + 1) 0 0) Q 0 0 131 [some (.ref 22), some (vI (s : Int)), some (vB mo2), some (vI l), some (vI (p : Int)), x5] [] (mw w t k W H sz pl so bt nb wl ar mk f2 ou ip fd)) → m_J G MX8_spread (m_r (d + 1) 0 0) Q 0 0 70 [some (.ref 22), some (vI (s : Int)), some (vB mo), some (vI l), some (vI (p : Int)), some (vI (q : Int))] [] (mw w t k W H sz pl so bt nb wl ar mk f ou ip fd) := by
  have hFF := hF
  have hnb := hF.n
  obtain ⟨hk0, hk4, hW1, hW2, hH1, hH2, hn, hg4⟩ := hF
  intro j
  induction j with
  | zero =>
    intro q f mo hq hI hfp kk
    have hqn : q = n := by omega
    subst hqn
    refine m_iload 72 dX8_spread_70 rfl rfl ?_
    refine m_aload_n 73 dX8_spread_72 rfl rfl ?_
    refine m_cV (M' := MX8_all) 76 [] kX8_50 imX8_all seX8_all clX8_all dX8_spread_73 rfl rfl rfl (mw_22 hw) (m_rmI (by omega) (Nat.le_of_ble_eq_true rfl) (Nat.le_refl _) (Nat.le_refl _)) (c_X8_all hG (d) hFF hw) ?_
    refine i_icmp_ge 79 131 ⟨by omega, by omega⟩ ⟨by omega, by omega⟩ dX8_spread_76 rfl (by decide) (fun _ => ?_) (fun h => absurd h (by omega))
    exact kk f mo _ hI
  | succ j ih =>
    intro q f mo hq hI hfp kk
    have hfq := mIv_b hI (x := q) (by omega)
    have etq : ((q : Int)).toNat = q := Int.toNat_natCast q
    refine m_iload 72 dX8_spread_70 rfl rfl ?_
    refine m_aload_n 73 dX8_spread_72 rfl rfl ?_
    refine m_cV (M' := MX8_all) 76 [] kX8_50 imX8_all seX8_all clX8_all dX8_spread_73 rfl rfl rfl (mw_22 hw) (m_rmI (by omega) (Nat.le_of_ble_eq_true rfl) (Nat.le_refl _) (Nat.le_refl _)) (c_X8_all hG (d) hFF hw) ?_
    refine i_icmp_ge 79 131 ⟨by omega, by omega⟩ ⟨by omega, by omega⟩ dX8_spread_76 rfl (by decide) (fun h => absurd h (by omega)) (fun _ => ?_)
    refine m_aload_n 80 dX8_spread_79 rfl rfl ?_
    refine m_iload 82 dX8_spread_80 rfl rfl ?_
    refine m_iload 84 dX8_spread_82 rfl rfl ?_
    refine m_cV (M' := MX8_isNext) 87 [_, _] kX8_78 imX8_isNext seX8_isNext clX8_isNext dX8_spread_84 rfl rfl rfl (mw_22 hw) (m_rmI (by omega) (Nat.le_of_ble_eq_true rfl) (Nat.le_refl _) (Nat.le_refl _)) (c_X8_isNext hG d hFF hw (a := (p : Int)) (b := (q : Int)) ⟨by omega, by omega⟩ ⟨by omega, by omega⟩) ?_
    refine b_if_eq 90 125 dX8_spread_87 rfl (by decide) (fun q87 => ?_) (fun q87 => ?_)
    · refine i_inc 128 dX8_spread_125 rfl rfl (by decide) ?_
      refine m_goto 70 dX8_spread_128 (by decide) ?_
      exact ih (q + 1) f mo (by omega) (mIv_skip hI (fun hn _ => by have hn : nxM nb wl (p : Int) (q : Int) = true := hn; rw [q87] at hn; cases hn)) hfp kk
    · refine m_aload_n 91 dX8_spread_90 rfl rfl ?_
      refine m_getf 94 foX8_27 dX8_spread_91 rfl (mw_22 hw) (by rfl) ?_
      refine m_iload 96 dX8_spread_94 rfl rfl ?_
      refine i_zald 97 dX8_spread_96 rfl (mw_28 hw) ⟨by omega, by omega, by omega⟩ ?_
      rw [etq]
      refine b_if_ne 100 125 dX8_spread_97 rfl (by decide) (fun q97 => ?_) (fun q97 => ?_)
      · refine i_inc 128 dX8_spread_125 rfl rfl (by decide) ?_
        refine m_goto 70 dX8_spread_128 (by decide) ?_
        exact ih (q + 1) f mo (by omega) (mIv_skip hI (fun _ ha => by have ha := ha.2; rw [q97] at ha; cases ha)) hfp kk
      · refine m_aload_n 101 dX8_spread_100 rfl rfl ?_
        refine m_getf 104 foX8_24 dX8_spread_101 rfl (mw_22 hw) (by rfl) ?_
        refine m_iload 106 dX8_spread_104 rfl rfl ?_
        refine i_ald 107 dX8_spread_106 rfl (mw_27 hw) ⟨by omega, by omega, by omega⟩ ?_
        rw [etq]
        refine i_if_lt 110 113 ⟨by omega, by omega⟩ dX8_spread_107 rfl (by decide) (fun q107 => ?_) (fun q107 => ?_)
        · obtain ⟨hs1, hs2⟩ := mIv_set hI hl.1 hp (by omega) hfp (show nxB nb wl p q from q87) ⟨by omega, q97⟩ (by omega)
          refine m_aload_n 114 dX8_spread_113 rfl rfl ?_
          refine m_getf 117 foX8_24 dX8_spread_114 rfl (mw_22 hw) (by rfl) ?_
          refine m_iload 119 dX8_spread_117 rfl rfl ?_
          refine m_iload_n 120 dX8_spread_119 rfl rfl ?_
          refine i_const 121 dX8_spread_120 rfl ?_
          refine i_add 122 dX8_spread_121 rfl ?_
          refine i_ast 123 dX8_spread_122 rfl (mw_27 hw) ⟨by omega, by omega, by omega⟩ ?_
          rw [mw_s27]
          refine i_const 124 dX8_spread_123 rfl ?_
          refine m_istore_n 125 dX8_spread_124 rfl (by decide) ?_
          refine i_inc 128 dX8_spread_125 rfl rfl (by decide) ?_
          refine m_goto 70 dX8_spread_128 (by decide) ?_
          rw [etq]
          exact ih (q + 1) (up f q (l + 1)) true (by omega) hs1 hs2 kk
        · refine m_goto 125 dX8_spread_110 (by decide) ?_
          refine i_inc 128 dX8_spread_125 rfl rfl (by decide) ?_
          refine m_goto 70 dX8_spread_128 (by decide) ?_
          exact ih (q + 1) f mo (by omega) (mIv_skip hI (fun _ _ => by omega)) hfp kk
set_option maxHeartbeats 4000000 in
set_option maxRecDepth 100000 in
theorem l_X8_spreadO (hG : m_G G) (d : Nat) {k W H : Int} {n : Nat} (hF : fOK k W H n) {t sz pl so bt : Int} {nb wl ou : Nat → Bool} {ar mk ip fd : Nat → Int} (hw : 30 < w.length) {s v0 : Nat} {l : Int} {Q : Option (Option Value) → List mC → Prop} (hl : 0 ≤ l ∧ l ≤ 256) :
    ∀ (j p : Nat) (f : Nat → Int) (mo : Bool) (x5 : Option Value), p + j = n → mIv (nxB nb wl) (admO n ou) n s l p 0 f mo v0 → (∀ (f2 : Nat → Int) (mo2 : Bool) (x4 x5 : Option Value), mIv (nxB nb wl) (admO n ou) n s l n 0 f2 mo2 v0 → m_J G MX8_spread (m_r (d + 1) 0 0) Q 0 0 137 [some (.ref 22), some (vI (s : Int)), some (vB mo2), some (vI l), x4, x5] [] (mw w t k W H sz pl so bt nb wl ar mk f2 ou ip fd)) → m_J G MX8_spread (m_r (d + 1) 0 0) Q 0 0 44 [some (.ref 22), some (vI (s : Int)), some (vB mo), some (vI l), some (vI (p : Int)), x5] [] (mw w t k W H sz pl so bt nb wl ar mk f ou ip fd) := by
  have hFF := hF
  have hnb := hF.n
  obtain ⟨hk0, hk4, hW1, hW2, hH1, hH2, hn, hg4⟩ := hF
  intro j
  induction j with
  | zero =>
    intro p f mo x5 hp hI kk
    have hpn : p = n := by omega
    subst hpn
    refine m_iload 46 dX8_spread_44 rfl rfl ?_
    refine m_aload_n 47 dX8_spread_46 rfl rfl ?_
    refine m_cV (M' := MX8_all) 50 [] kX8_50 imX8_all seX8_all clX8_all dX8_spread_47 rfl rfl rfl (mw_22 hw) (m_rmI (by omega) (Nat.le_of_ble_eq_true rfl) (Nat.le_refl _) (Nat.le_refl _)) (c_X8_all hG (d) hFF hw) ?_
    refine i_icmp_ge 53 137 ⟨by omega, by omega⟩ ⟨by omega, by omega⟩ dX8_spread_50 rfl (by decide) (fun _ => ?_) (fun h => absurd h (by omega))
    exact kk f mo _ _ hI
  | succ j ih =>
    intro p f mo x5 hp hI kk
    have hfq := mIv_b hI (x := p) (by omega)
    have etp : ((p : Int)).toNat = p := Int.toNat_natCast p
    refine m_iload 46 dX8_spread_44 rfl rfl ?_
    refine m_aload_n 47 dX8_spread_46 rfl rfl ?_
    refine m_cV (M' := MX8_all) 50 [] kX8_50 imX8_all seX8_all clX8_all dX8_spread_47 rfl rfl rfl (mw_22 hw) (m_rmI (by omega) (Nat.le_of_ble_eq_true rfl) (Nat.le_refl _) (Nat.le_refl _)) (c_X8_all hG (d) hFF hw) ?_
    refine i_icmp_ge 53 137 ⟨by omega, by omega⟩ ⟨by omega, by omega⟩ dX8_spread_50 rfl (by decide) (fun h => absurd h (by omega)) (fun _ => ?_)
    refine m_aload_n 54 dX8_spread_53 rfl rfl ?_
    refine m_getf 57 foX8_24 dX8_spread_54 rfl (mw_22 hw) (by rfl) ?_
    refine m_iload 59 dX8_spread_57 rfl rfl ?_
    refine i_ald 60 dX8_spread_59 rfl (mw_27 hw) ⟨by omega, by omega, by omega⟩ ?_
    rw [etp]
    refine m_iload_n 61 dX8_spread_60 rfl rfl ?_
    refine i_icmp_eq 64 67 ⟨by omega, by omega⟩ ⟨by omega, by omega⟩ dX8_spread_61 rfl (by decide) (fun q61 => ?_) (fun q61 => ?_)
    · refine i_const 68 dX8_spread_67 rfl ?_
      refine m_istore 70 dX8_spread_68 rfl (by decide) ?_
      refine l_X8_spreadI hG d hFF hw hl (by omega) n 0 f mo (by omega) hI q61 (fun f2 mo2 y5 hI2 => ?_)
      refine i_inc 134 dX8_spread_131 rfl rfl (by decide) ?_
      refine m_goto 44 dX8_spread_134 (by decide) ?_
      exact ih (p + 1) f2 mo2 _ (by omega) (mIv_next hI2 (fun _ => rfl)) kk
    · refine m_goto 131 dX8_spread_64 (by decide) ?_
      refine i_inc 134 dX8_spread_131 rfl rfl (by decide) ?_
      refine m_goto 44 dX8_spread_134 (by decide) ?_
      exact ih (p + 1) f mo _ (by omega) (mIv_next hI (fun h => absurd h q61)) kk
set_option maxHeartbeats 4000000 in
set_option maxRecDepth 100000 in
theorem l_X8_spreadL (hG : m_G G) (d : Nat) {k W H : Int} {n : Nat} (hF : fOK k W H n) {t sz pl so bt : Int} {nb wl ou : Nat → Bool} {ar mk ip fd : Nat → Int} (hw : 30 < w.length) {s : Nat} (hs : s < n) {Q : Option (Option Value) → List mC → Prop} (kk : ∀ f2 : Nat → Int, shr (nxB nb wl) (admO n ou) n f2 s → (∀ x, x < n → -1 ≤ f2 x ∧ f2 x ≤ 300) → Q (some none) (mw w t k W H sz pl so bt nb wl ar mk f2 ou ip fd)) :
    ∀ (j : Nat) (l : Int) (f : Nat → Int) (x4 x5 : Option Value), 0 ≤ l → l + j = n → n < vis n f + j → mIv (nxB nb wl) (admO n ou) n s l 0 0 f false (vis n f) → m_J G MX8_spread (m_r (d + 1) 0 0) Q 0 0 35 [some (.ref 22), some (vI (s : Int)), some (vB true), some (vI l), x4, x5] [] (mw w t k W H sz pl so bt nb wl ar mk f ou ip fd) := by
  have hFF := hF
  have hnb := hF.n
  obtain ⟨hk0, hk4, hW1, hW2, hH1, hH2, hn, hg4⟩ := hF
  intro j
  induction j with
  | zero =>
    intro l f x4 x5 hl hlj hv hI
    have := vis_le n f
    omega
  | succ j ih =>
    intro l f x4 x5 hl hlj hv hI
    refine m_iload_n 36 dX8_spread_35 rfl rfl ?_
    refine b_if_eq 39 143 dX8_spread_36 rfl (by decide) (fun h => absurd h (by decide)) (fun _ => ?_)
    refine i_const 40 dX8_spread_39 rfl ?_
    refine m_istore_n 41 dX8_spread_40 rfl (by decide) ?_
    refine i_const 42 dX8_spread_41 rfl ?_
    refine m_istore 44 dX8_spread_42 rfl (by decide) ?_
    refine l_X8_spreadO hG d hFF hw ⟨by omega, by omega⟩ n 0 f false _ (by omega) hI (fun f2 mo2 y4 y5 hI2 => ?_)
    cases mo2 with
    | true =>
      have hm := mIv_more hl hs (fun q h => h.1) hI2
      have hv2 := hI2.2.2.2.2.1 rfl
      refine i_inc 140 dX8_spread_137 rfl rfl (by decide) ?_
      refine m_goto 35 dX8_spread_140 (by decide) ?_
      exact ih (l + 1) f2 _ _ (by omega) (by omega) (by omega) hm
    | false =>
      have hm := mIv_end hl hs (fun q h => h.1) hI2
      have hbd : ∀ x, x < n → -1 ≤ f2 x ∧ f2 x ≤ 300 := fun x hx => by have := mIv_b hI2 hx; omega
      refine i_inc 140 dX8_spread_137 rfl rfl (by decide) ?_
      refine m_goto 35 dX8_spread_140 (by decide) ?_
      refine m_iload_n 36 dX8_spread_35 rfl rfl ?_
      refine b_if_eq 39 143 dX8_spread_36 rfl (by decide) (fun _ => ?_) (fun h => absurd h (by decide))
      refine m_vret dX8_spread_143 rfl ⟨Nat.le_refl _, Nat.le_refl _⟩ ?_
      exact kk f2 hm hbd
set_option maxHeartbeats 4000000 in
set_option maxRecDepth 100000 in
theorem l_X8_spreadF (hG : m_G G) (d : Nat) {k W H : Int} {n : Nat} (hF : fOK k W H n) {t sz pl so bt : Int} {nb wl ou : Nat → Bool} {ar mk rc ip fd : Nat → Int} (hw : 30 < w.length) {s : Nat} (hs : s < n) {Q : Option (Option Value) → List mC → Prop} {x3 x4 x5 : Option Value} (kk : ∀ x2, m_J G MX8_spread (m_r (d + 1) 0 0) Q 0 0 31 [some (.ref 22), some (vI (s : Int)), x2, x3, x4, x5] [] (mw w t k W H sz pl so bt nb wl ar mk (fill 256 (fun x => if x = s then 0 else -1) rc) ou ip fd)) :
    ∀ (j i : Nat), i + j = 256 → m_J G MX8_spread (m_r (d + 1) 0 0) Q 0 0 2 [some (.ref 22), some (vI (s : Int)), some (vI (i : Int)), x3, x4, x5] [] (mw w t k W H sz pl so bt nb wl ar mk (fill i (fun x => if x = s then 0 else -1) rc) ou ip fd) := by
  have hFF := hF
  have hnb := hF.n
  obtain ⟨hk0, hk4, hW1, hW2, hH1, hH2, hn, hg4⟩ := hF
  intro j
  induction j with
  | zero =>
    intro i hi
    have hi : i = 256 := by omega
    subst hi
    refine m_iload_n 3 dX8_spread_2 rfl rfl ?_
    refine i_sipush 6 256 dX8_spread_3 rfl (by decide) ?_
    refine i_icmp_ge 9 31 ⟨by omega, by omega⟩ ⟨by omega, by omega⟩ dX8_spread_6 rfl (by decide) (fun _ => ?_) (fun h => absurd h (by omega))
    exact kk _
  | succ j ih =>
    intro i hi
    have eti : ((i : Int)).toNat = i := Int.toNat_natCast i
    have ef := fill_s i (fun x => if x = s then (0 : Int) else -1) rc
    refine m_iload_n 3 dX8_spread_2 rfl rfl ?_
    refine i_sipush 6 256 dX8_spread_3 rfl (by decide) ?_
    refine i_icmp_ge 9 31 ⟨by omega, by omega⟩ ⟨by omega, by omega⟩ dX8_spread_6 rfl (by decide) (fun h => absurd h (by omega)) (fun _ => ?_)
    refine m_aload_n 10 dX8_spread_9 rfl rfl ?_
    refine m_getf 13 foX8_24 dX8_spread_10 rfl (mw_22 hw) (by rfl) ?_
    refine m_iload_n 14 dX8_spread_13 rfl rfl ?_
    refine m_iload_n 15 dX8_spread_14 rfl rfl ?_
    refine m_iload_n 16 dX8_spread_15 rfl rfl ?_
    refine i_icmp_ne 19 23 ⟨by omega, by omega⟩ ⟨by omega, by omega⟩ dX8_spread_16 rfl (by decide) (fun q16 => ?_) (fun q16 => ?_)
    · refine i_const 24 dX8_spread_23 rfl ?_
      refine i_ast 25 dX8_spread_24 rfl (mw_27 hw) ⟨by omega, by omega, by omega⟩ ?_
      rw [mw_s27]
      refine i_inc 28 dX8_spread_25 rfl rfl (by decide) ?_
      refine m_goto 2 dX8_spread_28 (by decide) ?_
      rw [eti]
      first
        | (rw [if_pos (show i = s by omega)] at ef; rw [ef]; exact ih (i + 1) (by omega))
        | (rw [if_neg (show ¬ i = s by omega)] at ef; rw [ef]; exact ih (i + 1) (by omega))
    · refine i_const 20 dX8_spread_19 rfl ?_
      refine m_goto 24 dX8_spread_20 (by decide) ?_
      refine i_ast 25 dX8_spread_24 rfl (mw_27 hw) ⟨by omega, by omega, by omega⟩ ?_
      rw [mw_s27]
      refine i_inc 28 dX8_spread_25 rfl rfl (by decide) ?_
      refine m_goto 2 dX8_spread_28 (by decide) ?_
      rw [eti]
      first
        | (rw [if_pos (show i = s by omega)] at ef; rw [ef]; exact ih (i + 1) (by omega))
        | (rw [if_neg (show ¬ i = s by omega)] at ef; rw [ef]; exact ih (i + 1) (by omega))
set_option maxHeartbeats 4000000 in
set_option maxRecDepth 100000 in
theorem c_X8_spread (hG : m_G G) (d : Nat) {k W H : Int} {n : Nat} (hF : fOK k W H n) {t sz pl so bt : Int} {nb wl ou : Nat → Bool} {ar mk rc ip fd : Nat → Int} (hw : 30 < w.length) {s : Nat} (hs : s < n) : m_Ct G MX8_spread (m_r (d + 1) 0 0) [.ref 22, vI (s : Int)] (mw w t k W H sz pl so bt nb wl ar mk rc ou ip fd) (fun r x => r = some none ∧ ∃ f2 : Nat → Int, shr (nxB nb wl) (admO n ou) n f2 s ∧ (∀ x, x < n → -1 ≤ f2 x ∧ f2 x ≤ 300) ∧ x = (mw w t k W H sz pl so bt nb wl ar mk f2 ou ip fd)) := by
  have hFF := hF
  have hnb := hF.n
  obtain ⟨hk0, hk4, hW1, hW2, hH1, hH2, hn, hg4⟩ := hF
  refine m_enter (L := [some (.ref 22), some (vI (s : Int)), none, none, none, none]) (by decide) hG (m_c1 rfl) (Nat.le_of_ble_eq_true rfl) rfl ?_
  refine i_const 1 dX8_spread_0 rfl ?_
  refine m_istore_n 2 dX8_spread_1 rfl (by decide) ?_
  have e := l_X8_spreadF hG d hFF hw (t := t) (sz := sz) (pl := pl) (so := so) (bt := bt) (nb := nb) (wl := wl) (ou := ou) (ar := ar) (mk := mk) (rc := rc) (ip := ip) (fd := fd) hs (Q := (fun r x => r = some none ∧ ∃ f2 : Nat → Int, shr (nxB nb wl) (admO n ou) n f2 s ∧ (∀ x, x < n → -1 ≤ f2 x ∧ f2 x ≤ 300) ∧ x = (mw w t k W H sz pl so bt nb wl ar mk f2 ou ip fd))) (x3 := none) (x4 := none) (x5 := none) (fun x2 => ?_) 256 0 (by omega)
  · rw [fill_0] at e
    exact e
  · obtain ⟨hst, hv1⟩ := mIv_start (nx := nxB nb wl) (A := admO n ou) (f := fill 256 (fun x => if x = s then 0 else -1) rc) hs (fun q hq => by unfold fill; rw [if_pos (by omega)])
    refine i_const 32 dX8_spread_31 rfl ?_
    refine m_istore_n 33 dX8_spread_32 rfl (by decide) ?_
    refine i_const 34 dX8_spread_33 rfl ?_
    refine m_istore_n 35 dX8_spread_34 rfl (by decide) ?_
    exact l_X8_spreadL hG d hFF hw hs (fun f2 h1 h2 => ⟨rfl, f2, h1, h2, rfl⟩) n 0 _ _ _ (by omega) (by omega) (by omega) hst
theorem fill_i {α : Type} (i : Nat) (g f : Nat → α) : fill i g f i = f i := by unfold fill; rw [if_neg (by omega)]
set_option maxHeartbeats 4000000 in
set_option maxRecDepth 100000 in
theorem l_X8_countI (hG : m_G G) (d : Nat) {k W H : Int} {n : Nat} (hF : fOK k W H n) {t sz pl so bt : Int} {nb wl ou : Nat → Bool} {ar mk rc ip fd : Nat → Int} (hw : 30 < w.length) {p c : Int} {Q : Option (Option Value) → List mC → Prop} (hr : ∀ x, x < n → -1 ≤ rc x ∧ rc x ≤ 300) (kk : ∀ x3, m_J G MX8_count (m_r (d + 2) 0 0) Q 0 0 77 [some (.ref 22), some (vI c), some (vI p), x3] [] (mw w t k W H sz pl so bt nb wl ar mk rc (fill n (fun x => ou x || decide (0 ≤ rc x)) ou) ip fd)) :
    ∀ (j q : Nat), q + j = n → m_J G MX8_count (m_r (d + 2) 0 0) Q 0 0 34 [some (.ref 22), some (vI c), some (vI p), some (vI (q : Int))] [] (mw w t k W H sz pl so bt nb wl ar mk rc (fill q (fun x => ou x || decide (0 ≤ rc x)) ou) ip fd) := by
  have hFF := hF
  have hnb := hF.n
  obtain ⟨hk0, hk4, hW1, hW2, hH1, hH2, hn, hg4⟩ := hF
  intro j
  induction j with
  | zero =>
    intro q hq
    have hqn : q = n := by omega
    subst hqn
    refine m_iload_n 35 dX8_count_34 rfl rfl ?_
    refine m_aload_n 36 dX8_count_35 rfl rfl ?_
    refine m_cV (M' := MX8_all) 39 [] kX8_50 imX8_all seX8_all clX8_all dX8_count_36 rfl rfl rfl (mw_22 hw) (m_rmI (by omega) (Nat.le_of_ble_eq_true rfl) (Nat.le_refl _) (Nat.le_refl _)) (c_X8_all hG (d + 1) hFF hw) ?_
    refine i_icmp_ge 42 77 ⟨by omega, by omega⟩ ⟨by omega, by omega⟩ dX8_count_39 rfl (by decide) (fun _ => ?_) (fun h => absurd h (by omega))
    exact kk _
  | succ j ih =>
    intro q hq
    have hrq := hr q (by omega)
    have etq : ((q : Int)).toNat = q := Int.toNat_natCast q
    have ef := fill_s q (fun x => ou x || decide (0 ≤ rc x)) ou
    refine m_iload_n 35 dX8_count_34 rfl rfl ?_
    refine m_aload_n 36 dX8_count_35 rfl rfl ?_
    refine m_cV (M' := MX8_all) 39 [] kX8_50 imX8_all seX8_all clX8_all dX8_count_36 rfl rfl rfl (mw_22 hw) (m_rmI (by omega) (Nat.le_of_ble_eq_true rfl) (Nat.le_refl _) (Nat.le_refl _)) (c_X8_all hG (d + 1) hFF hw) ?_
    refine i_icmp_ge 42 77 ⟨by omega, by omega⟩ ⟨by omega, by omega⟩ dX8_count_39 rfl (by decide) (fun h => absurd h (by omega)) (fun _ => ?_)
    refine m_aload_n 43 dX8_count_42 rfl rfl ?_
    refine m_getf 46 foX8_27 dX8_count_43 rfl (mw_22 hw) (by rfl) ?_
    refine m_iload_n 47 dX8_count_46 rfl rfl ?_
    refine m_aload_n 48 dX8_count_47 rfl rfl ?_
    refine m_getf 51 foX8_27 dX8_count_48 rfl (mw_22 hw) (by rfl) ?_
    refine m_iload_n 52 dX8_count_51 rfl rfl ?_
    refine i_zald 53 dX8_count_52 rfl (mw_28 hw) ⟨by omega, by omega, by omega⟩ ?_
    rw [etq, fill_i]
    refine b_if_ne 56 65 dX8_count_53 rfl (by decide) (fun q53 => ?_) (fun q53 => ?_)
    · refine i_const 66 dX8_count_65 rfl ?_
      refine m_goto 70 dX8_count_66 (by decide) ?_
      refine i_asB true rfl ?_
      refine i_zast 71 dX8_count_70 rfl (mw_28 hw) ⟨by omega, by omega, by omega⟩ ?_
      rw [mw_s28]
      refine i_inc 74 dX8_count_71 rfl rfl (by decide) ?_
      refine m_goto 34 dX8_count_74 (by decide) ?_
      rw [etq]
      first
        | (rw [q53, Bool.true_or] at ef; rw [ef]; exact ih (q + 1) (by omega))
        | (rw [q53, Bool.false_or, decide_eq_true (show 0 ≤ rc q by omega)] at ef; rw [ef]; exact ih (q + 1) (by omega))
        | (rw [q53, Bool.false_or, decide_eq_false (show ¬ 0 ≤ rc q by omega)] at ef; rw [ef]; exact ih (q + 1) (by omega))
    · refine m_aload_n 57 dX8_count_56 rfl rfl ?_
      refine m_getf 60 foX8_24 dX8_count_57 rfl (mw_22 hw) (by rfl) ?_
      refine m_iload_n 61 dX8_count_60 rfl rfl ?_
      refine i_ald 62 dX8_count_61 rfl (mw_27 hw) ⟨by omega, by omega, by omega⟩ ?_
      rw [etq]
      refine i_if_lt 65 69 ⟨by omega, by omega⟩ dX8_count_62 rfl (by decide) (fun q62 => ?_) (fun q62 => ?_)
      · refine i_const 70 dX8_count_69 rfl ?_
        refine i_asB false rfl ?_
        refine i_zast 71 dX8_count_70 rfl (mw_28 hw) ⟨by omega, by omega, by omega⟩ ?_
        rw [mw_s28]
        refine i_inc 74 dX8_count_71 rfl rfl (by decide) ?_
        refine m_goto 34 dX8_count_74 (by decide) ?_
        rw [etq]
        first
          | (rw [q53, Bool.true_or] at ef; rw [ef]; exact ih (q + 1) (by omega))
          | (rw [q53, Bool.false_or, decide_eq_true (show 0 ≤ rc q by omega)] at ef; rw [ef]; exact ih (q + 1) (by omega))
          | (rw [q53, Bool.false_or, decide_eq_false (show ¬ 0 ≤ rc q by omega)] at ef; rw [ef]; exact ih (q + 1) (by omega))
      · refine i_const 66 dX8_count_65 rfl ?_
        refine m_goto 70 dX8_count_66 (by decide) ?_
        refine i_asB true rfl ?_
        refine i_zast 71 dX8_count_70 rfl (mw_28 hw) ⟨by omega, by omega, by omega⟩ ?_
        rw [mw_s28]
        refine i_inc 74 dX8_count_71 rfl rfl (by decide) ?_
        refine m_goto 34 dX8_count_74 (by decide) ?_
        rw [etq]
        first
          | (rw [q53, Bool.true_or] at ef; rw [ef]; exact ih (q + 1) (by omega))
          | (rw [q53, Bool.false_or, decide_eq_true (show 0 ≤ rc q by omega)] at ef; rw [ef]; exact ih (q + 1) (by omega))
          | (rw [q53, Bool.false_or, decide_eq_false (show ¬ 0 ≤ rc q by omega)] at ef; rw [ef]; exact ih (q + 1) (by omega))
set_option maxHeartbeats 4000000 in
set_option maxRecDepth 100000 in
theorem l_X8_count (hG : m_G G) (d : Nat) {k W H : Int} {n : Nat} (hF : fOK k W H n) {t sz pl so bt : Int} {nb wl : Nat → Bool} {ar mk ip fd : Nat → Int} (hw : 30 < w.length) {Q : Option (Option Value) → List mC → Prop} :
    ∀ (j p : Nat) (cnt : Int) (rc : Nat → Int) (ou : Nat → Bool) (x3 : Option Value), p + j = n → (∀ (c : Int) (rc2 : Nat → Int) (ou2 : Nat → Bool), cpR (nxB nb wl) n j p (fun q => ou q = false) c → Q (some (some (vI (cnt + c)))) (mw w t k W H sz pl so bt nb wl ar mk rc2 ou2 ip fd)) → m_J G MX8_count (m_r (d + 2) 0 0) Q 0 0 4 [some (.ref 22), some (vI cnt), some (vI (p : Int)), x3] [] (mw w t k W H sz pl so bt nb wl ar mk rc ou ip fd) := by
  have hFF := hF
  have hnb := hF.n
  obtain ⟨hk0, hk4, hW1, hW2, hH1, hH2, hn, hg4⟩ := hF
  intro j
  induction j with
  | zero =>
    intro p cnt rc ou x3 hp kk
    have k0 := kk 0 rc ou rfl
    rw [Int.add_zero] at k0
    refine m_iload_n 5 dX8_count_4 rfl rfl ?_
    refine m_aload_n 6 dX8_count_5 rfl rfl ?_
    refine m_cV (M' := MX8_all) 9 [] kX8_50 imX8_all seX8_all clX8_all dX8_count_6 rfl rfl rfl (mw_22 hw) (m_rmI (by omega) (Nat.le_of_ble_eq_true rfl) (Nat.le_refl _) (Nat.le_refl _)) (c_X8_all hG (d + 1) hFF hw) ?_
    refine i_icmp_ge 12 83 ⟨by omega, by omega⟩ ⟨by omega, by omega⟩ dX8_count_9 rfl (by decide) (fun _ => ?_) (fun h => absurd h (by omega))
    refine m_iload_n 84 dX8_count_83 rfl rfl ?_
    refine i_ret _ dX8_count_84 rfl ⟨Nat.le_refl _, Nat.le_refl _⟩ ?_ k0
    rfl
  | succ j ih =>
    intro p cnt rc ou x3 hp kk
    have etp : ((p : Int)).toNat = p := Int.toNat_natCast p
    refine m_iload_n 5 dX8_count_4 rfl rfl ?_
    refine m_aload_n 6 dX8_count_5 rfl rfl ?_
    refine m_cV (M' := MX8_all) 9 [] kX8_50 imX8_all seX8_all clX8_all dX8_count_6 rfl rfl rfl (mw_22 hw) (m_rmI (by omega) (Nat.le_of_ble_eq_true rfl) (Nat.le_refl _) (Nat.le_refl _)) (c_X8_all hG (d + 1) hFF hw) ?_
    refine i_icmp_ge 12 83 ⟨by omega, by omega⟩ ⟨by omega, by omega⟩ dX8_count_9 rfl (by decide) (fun h => absurd h (by omega)) (fun _ => ?_)
    refine m_aload_n 13 dX8_count_12 rfl rfl ?_
    refine m_getf 16 foX8_27 dX8_count_13 rfl (mw_22 hw) (by rfl) ?_
    refine m_iload_n 17 dX8_count_16 rfl rfl ?_
    refine i_zald 18 dX8_count_17 rfl (mw_28 hw) ⟨by omega, by omega, by omega⟩ ?_
    rw [etp]
    refine b_if_eq 21 24 dX8_count_18 rfl (by decide) (fun q18 => ?_) (fun q18 => ?_)
    · refine i_inc 27 dX8_count_24 rfl rfl (by decide) ?_
      refine m_aload_n 28 dX8_count_27 rfl rfl ?_
      refine m_iload_n 29 dX8_count_28 rfl rfl ?_
      refine m_cVr (M' := MX8_spread) 32 [_] kX8_88 imX8_spread seX8_spread clX8_spread dX8_count_29 rfl rfl rfl (mw_22 hw) (m_rmI (by omega) (Nat.le_of_ble_eq_true rfl) (Nat.le_refl _) (Nat.le_refl _)) (c_X8_spread hG d hFF hw (s := p) (by omega)) (fun w2 h => by cases h.1) (fun v w2 h => ?_)
      obtain ⟨hv, f2, hs, hb, rfl⟩ := h
      cases hv
      refine i_const 33 dX8_count_32 rfl ?_
      refine m_istore_n 34 dX8_count_33 rfl (by decide) ?_
      have eI := l_X8_countI hG d hFF hw (t := t) (sz := sz) (pl := pl) (so := so) (bt := bt) (nb := nb) (wl := wl) (ou := ou) (ar := ar) (mk := mk) (rc := f2) (ip := ip) (fd := fd) (p := (p : Int)) (c := cnt + 1) (Q := Q) hb (fun y3 => ?_) n 0 (by omega)
      · rw [fill_0] at eI
        exact eI
      · refine i_inc 80 dX8_count_77 rfl rfl (by decide) ?_
        refine m_goto 4 dX8_count_80 (by decide) ?_
        refine ih (p + 1) (cnt + 1) f2 _ _ (by omega) (fun c rc2 ou2 hc => ?_)
        rw [show cnt + 1 + c = cnt + (c + 1) by omega]
        refine kk (c + 1) rc2 ou2 ⟨fun _ => ⟨_, c, fun q hq => ?_, hc, rfl⟩, fun h => absurd q18 h⟩
        unfold fill
        rw [if_pos hq, Bool.or_eq_false_iff, decide_eq_false_iff_not]
        rcases hs q hq with ⟨g1, g2, -⟩ | ⟨g1, g2⟩
        · exact ⟨fun h => absurd g1 h.2, fun h => absurd g2 (h.2 _)⟩
        · exact ⟨fun h => ⟨h.1, g2⟩, fun h => ⟨h.1, by omega⟩⟩
    · refine m_goto 77 dX8_count_21 (by decide) ?_
      refine i_inc 80 dX8_count_77 rfl rfl (by decide) ?_
      refine m_goto 4 dX8_count_80 (by decide) ?_
      refine ih (p + 1) cnt rc ou _ (by omega) (fun c rc2 ou2 hc => kk c rc2 ou2 ⟨fun h => ?_, fun _ => hc⟩)
      have h : ou p = false := h
      rw [q18] at h
      cases h
set_option maxHeartbeats 4000000 in
set_option maxRecDepth 100000 in
theorem c_X8_count (hG : m_G G) (d : Nat) {k W H : Int} {n : Nat} (hF : fOK k W H n) {t sz pl so bt : Int} {nb wl ou : Nat → Bool} {ar mk rc ip fd : Nat → Int} (hw : 30 < w.length) : m_Ct G MX8_count (m_r (d + 2) 0 0) [.ref 22] (mw w t k W H sz pl so bt nb wl ar mk rc ou ip fd) (fun r x => ∃ (c : Int) (rc2 : Nat → Int) (ou2 : Nat → Bool), r = some (some (vI c)) ∧ cpR (nxB nb wl) n n 0 (fun q => ou q = false) c ∧ x = (mw w t k W H sz pl so bt nb wl ar mk rc2 ou2 ip fd)) := by
  have hFF := hF
  have hnb := hF.n
  obtain ⟨hk0, hk4, hW1, hW2, hH1, hH2, hn, hg4⟩ := hF
  refine m_enter (L := [some (.ref 22), none, none, none]) (by decide) hG (m_c1 rfl) (Nat.le_of_ble_eq_true rfl) rfl ?_
  refine i_const 1 dX8_count_0 rfl ?_
  refine m_istore_n 2 dX8_count_1 rfl (by decide) ?_
  refine i_const 3 dX8_count_2 rfl ?_
  refine m_istore_n 4 dX8_count_3 rfl (by decide) ?_
  exact l_X8_count hG d hFF hw n 0 0 rc ou _ (by omega) (fun c rc2 ou2 hc => ⟨c, rc2, ou2, by rw [Int.zero_add], hc, rfl⟩)
set_option maxHeartbeats 4000000 in
set_option maxRecDepth 100000 in
theorem c_X8_farX (hG : m_G G) (d : Nat) {k W H : Int} {n : Nat} (hF : fOK k W H n) {t sz pl so bt : Int} {nb wl ou : Nat → Bool} {ar mk rc ip fd : Nat → Int} (hw : 30 < w.length) {a b : Int}  (ha : ¬ (0 ≤ a ∧ a < n)) (hr : iR a) : m_Cv G MX8_far (m_r (d + 3) 0 0) [.ref 22, vI a, vI b] (mw w t k W H sz pl so bt nb wl ar mk rc ou ip fd) (some (vI 0)) (mw w 1 k W H sz pl so bt nb wl ar mk rc ou ip fd) := by
  have hFF := hF
  have hnb := hF.n
  obtain ⟨hk0, hk4, hW1, hW2, hH1, hH2, hn, hg4⟩ := hF
  refine m_enter (L := [some (.ref 22), some (vI a), some (vI b)]) (by decide) hG (m_c1 rfl) (Nat.le_of_ble_eq_true rfl) rfl ?_
  refine m_aload_n 1 dX8_far_0 rfl rfl ?_
  refine m_aload_n 2 dX8_far_1 rfl rfl ?_
  refine m_iload_n 3 dX8_far_2 rfl rfl ?_
  refine m_cV (M' := MX8_isPlace) 6 [_] kX8_70 imX8_isPlace seX8_isPlace clX8_isPlace dX8_far_3 rfl rfl rfl (mw_22 hw) (m_rmI (by omega) (Nat.le_of_ble_eq_true rfl) (Nat.le_refl _) (Nat.le_refl _)) (c_X8_isPlace hG d hFF hw hr) ?_
  refine b_if_eq 9 17 dX8_far_6 rfl (by decide) (fun _ => ?_) (fun h => absurd h (by rw [inB_0 ha]; decide))
  refine i_const 18 dX8_far_17 rfl ?_
  refine m_goto 22 dX8_far_18 (by decide) ?_
  refine i_asB true rfl ?_
  refine m_cV (M' := MX8_fails) 25 [_] kX8_74 imX8_fails seX8_fails clX8_fails dX8_far_22 rfl rfl rfl (mw_22 hw) (m_rmI (by omega) (Nat.le_of_ble_eq_true rfl) (Nat.le_refl _) (Nat.le_refl _)) (c_X8_fails hG d hFF hw) ?_
  refine b_if_eq 28 30 dX8_far_25 rfl (by decide) (fun h => absurd h (by decide)) (fun _ => ?_)
  refine i_const 29 dX8_far_28 rfl ?_
  refine i_ret _ dX8_far_29 rfl ⟨Nat.le_refl _, Nat.le_refl _⟩ ?_ ⟨rfl, rfl⟩
  rfl
set_option maxHeartbeats 4000000 in
set_option maxRecDepth 100000 in
theorem c_X8_farX2 (hG : m_G G) (d : Nat) {k W H : Int} {n : Nat} (hF : fOK k W H n) {t sz pl so bt : Int} {nb wl ou : Nat → Bool} {ar mk rc ip fd : Nat → Int} (hw : 30 < w.length) {a b : Int}  (ha : 0 ≤ a ∧ a < n) (hb : ¬ (0 ≤ b ∧ b < n)) (hr : iR b) : m_Cv G MX8_far (m_r (d + 3) 0 0) [.ref 22, vI a, vI b] (mw w t k W H sz pl so bt nb wl ar mk rc ou ip fd) (some (vI 0)) (mw w 1 k W H sz pl so bt nb wl ar mk rc ou ip fd) := by
  have hFF := hF
  have hnb := hF.n
  obtain ⟨hk0, hk4, hW1, hW2, hH1, hH2, hn, hg4⟩ := hF
  refine m_enter (L := [some (.ref 22), some (vI a), some (vI b)]) (by decide) hG (m_c1 rfl) (Nat.le_of_ble_eq_true rfl) rfl ?_
  refine m_aload_n 1 dX8_far_0 rfl rfl ?_
  refine m_aload_n 2 dX8_far_1 rfl rfl ?_
  refine m_iload_n 3 dX8_far_2 rfl rfl ?_
  refine m_cV (M' := MX8_isPlace) 6 [_] kX8_70 imX8_isPlace seX8_isPlace clX8_isPlace dX8_far_3 rfl rfl rfl (mw_22 hw) (m_rmI (by omega) (Nat.le_of_ble_eq_true rfl) (Nat.le_refl _) (Nat.le_refl _)) (c_X8_isPlace hG d hFF hw ⟨by omega, by omega⟩) ?_
  refine b_if_eq 9 17 dX8_far_6 rfl (by decide) (fun h => absurd h (by rw [inB_1 ha]; decide)) (fun _ => ?_)
  refine m_aload_n 10 dX8_far_9 rfl rfl ?_
  refine m_iload_n 11 dX8_far_10 rfl rfl ?_
  refine m_cV (M' := MX8_isPlace) 14 [_] kX8_70 imX8_isPlace seX8_isPlace clX8_isPlace dX8_far_11 rfl rfl rfl (mw_22 hw) (m_rmI (by omega) (Nat.le_of_ble_eq_true rfl) (Nat.le_refl _) (Nat.le_refl _)) (c_X8_isPlace hG d hFF hw hr) ?_
  refine b_if_ne 17 21 dX8_far_14 rfl (by decide) (fun h => absurd h (by rw [inB_0 hb]; decide)) (fun _ => ?_)
  refine i_const 18 dX8_far_17 rfl ?_
  refine m_goto 22 dX8_far_18 (by decide) ?_
  refine i_asB true rfl ?_
  refine m_cV (M' := MX8_fails) 25 [_] kX8_74 imX8_fails seX8_fails clX8_fails dX8_far_22 rfl rfl rfl (mw_22 hw) (m_rmI (by omega) (Nat.le_of_ble_eq_true rfl) (Nat.le_refl _) (Nat.le_refl _)) (c_X8_fails hG d hFF hw) ?_
  refine b_if_eq 28 30 dX8_far_25 rfl (by decide) (fun h => absurd h (by decide)) (fun _ => ?_)
  refine i_const 29 dX8_far_28 rfl ?_
  refine i_ret _ dX8_far_29 rfl ⟨Nat.le_refl _, Nat.le_refl _⟩ ?_ ⟨rfl, rfl⟩
  rfl
set_option maxHeartbeats 4000000 in
set_option maxRecDepth 100000 in
theorem c_X8_far (hG : m_G G) (d : Nat) {k W H : Int} {n : Nat} (hF : fOK k W H n) {t sz pl so bt : Int} {nb wl ou : Nat → Bool} {ar mk rc ip fd : Nat → Int} (hw : 30 < w.length) {a b : Int} (ha : 0 ≤ a ∧ a < n) (hb : 0 ≤ b ∧ b < n) : m_Ct G MX8_far (m_r (d + 3) 0 0) [.ref 22, vI a, vI b] (mw w t k W H sz pl so bt nb wl ar mk rc ou ip fd) (fun r x => ∃ f2 : Nat → Int, shr (nxB nb wl) (admO n (fill 256 (fun _ => false) ou)) n f2 a.toNat ∧ r = some (some (vI (f2 b.toNat))) ∧ x = (mw w 0 k W H sz pl so bt nb wl ar mk f2 (fill 256 (fun _ => false) ou) ip fd)) := by
  have hFF := hF
  have hnb := hF.n
  obtain ⟨hk0, hk4, hW1, hW2, hH1, hH2, hn, hg4⟩ := hF
  have ea : ((a.toNat : Nat) : Int) = a := Int.toNat_of_nonneg ha.1
  refine m_enter (L := [some (.ref 22), some (vI a), some (vI b)]) (by decide) hG (m_c1 rfl) (Nat.le_of_ble_eq_true rfl) rfl ?_
  refine m_aload_n 1 dX8_far_0 rfl rfl ?_
  refine m_aload_n 2 dX8_far_1 rfl rfl ?_
  refine m_iload_n 3 dX8_far_2 rfl rfl ?_
  refine m_cV (M' := MX8_isPlace) 6 [_] kX8_70 imX8_isPlace seX8_isPlace clX8_isPlace dX8_far_3 rfl rfl rfl (mw_22 hw) (m_rmI (by omega) (Nat.le_of_ble_eq_true rfl) (Nat.le_refl _) (Nat.le_refl _)) (c_X8_isPlace hG d hFF hw ⟨by omega, by omega⟩) ?_
  refine b_if_eq 9 17 dX8_far_6 rfl (by decide) (fun h => absurd h (by rw [inB_1 ha]; decide)) (fun _ => ?_)
  refine m_aload_n 10 dX8_far_9 rfl rfl ?_
  refine m_iload_n 11 dX8_far_10 rfl rfl ?_
  refine m_cV (M' := MX8_isPlace) 14 [_] kX8_70 imX8_isPlace seX8_isPlace clX8_isPlace dX8_far_11 rfl rfl rfl (mw_22 hw) (m_rmI (by omega) (Nat.le_of_ble_eq_true rfl) (Nat.le_refl _) (Nat.le_refl _)) (c_X8_isPlace hG d hFF hw ⟨by omega, by omega⟩) ?_
  refine b_if_ne 17 21 dX8_far_14 rfl (by decide) (fun _ => ?_) (fun h => absurd h (by rw [inB_1 hb]; decide))
  refine i_const 22 dX8_far_21 rfl ?_
  refine i_asB false rfl ?_
  refine m_cV (M' := MX8_fails) 25 [_] kX8_74 imX8_fails seX8_fails clX8_fails dX8_far_22 rfl rfl rfl (mw_22 hw) (m_rmI (by omega) (Nat.le_of_ble_eq_true rfl) (Nat.le_refl _) (Nat.le_refl _)) (c_X8_fails hG d hFF hw) ?_
  refine b_if_eq 28 30 dX8_far_25 rfl (by decide) (fun _ => ?_) (fun h => absurd h (by decide))
  refine m_aload_n 31 dX8_far_30 rfl rfl ?_
  refine m_cV (M' := MX8_noneOut) 34 [] kX8_85 imX8_noneOut seX8_noneOut clX8_noneOut dX8_far_31 rfl rfl rfl (mw_22 hw) (m_rmI (by omega) (Nat.le_of_ble_eq_true rfl) (Nat.le_refl _) (Nat.le_refl _)) (c_X8_noneOut hG (d + 2) hFF hw) ?_
  refine m_aload_n 35 dX8_far_34 rfl rfl ?_
  refine m_iload_n 36 dX8_far_35 rfl rfl ?_
  have hM := c_X8_spread hG (d + 1) hFF hw (t := 0) (sz := sz) (pl := pl) (so := so) (bt := bt) (nb := nb) (wl := wl) (ou := fill 256 (fun _ => false) ou) (ar := ar) (mk := mk) (rc := rc) (ip := ip) (fd := fd) (s := a.toNat) (by omega)
  rw [ea] at hM
  refine m_cVr (M' := MX8_spread) 39 [_] kX8_88 imX8_spread seX8_spread clX8_spread dX8_far_36 rfl rfl rfl (mw_22 hw) (m_rmI (by omega) (Nat.le_of_ble_eq_true rfl) (Nat.le_refl _) (Nat.le_refl _)) hM (fun w2 h => by cases h.1) (fun v w2 h => ?_)
  obtain ⟨hv, f2, hs, hb2, rfl⟩ := h
  cases hv
  refine m_aload_n 40 dX8_far_39 rfl rfl ?_
  refine m_getf 43 foX8_24 dX8_far_40 rfl (mw_22 hw) (by rfl) ?_
  refine m_iload_n 44 dX8_far_43 rfl rfl ?_
  refine i_ald 45 dX8_far_44 rfl (mw_27 hw) ⟨by omega, by omega, by omega⟩ ?_
  refine i_ret _ dX8_far_45 rfl ⟨Nat.le_refl _, Nat.le_refl _⟩ ?_ ⟨f2, hs, rfl, rfl⟩
  rfl
def poF (ar : Nat → Int) (a : Int) (x : Nat) : Bool := decide (0 ≤ a) && (ar x != a)
set_option maxHeartbeats 4000000 in
set_option maxRecDepth 100000 in
theorem l_X8_parts (hG : m_G G) (d : Nat) {k W H : Int} {n : Nat} (hF : fOK k W H n) {t sz pl so bt : Int} {nb wl ou : Nat → Bool} {ar mk rc ip fd : Nat → Int} (hw : 30 < w.length) {a : Int} {Q : Option (Option Value) → List mC → Prop} (ha : iR a) (hA : ∀ j, j < 256 → iR (ar j)) (kk : ∀ x2, m_J G MX8_parts (m_r (d + 3) 0 0) Q 0 0 45 [some (.ref 22), some (vI a), x2] [] (mw w t k W H sz pl so bt nb wl ar mk rc (fill 256 (poF ar a) ou) ip fd)) :
    ∀ (j i : Nat), i + j = 256 → m_J G MX8_parts (m_r (d + 3) 0 0) Q 0 0 7 [some (.ref 22), some (vI a), some (vI (i : Int))] [] (mw w t k W H sz pl so bt nb wl ar mk rc (fill i (poF ar a) ou) ip fd) := by
  have hFF := hF
  have hnb := hF.n
  obtain ⟨hk0, hk4, hW1, hW2, hH1, hH2, hn, hg4⟩ := hF
  obtain ⟨ha1, ha2⟩ := ha
  intro j
  induction j with
  | zero =>
    intro i hi
    have hi : i = 256 := by omega
    subst hi
    refine m_iload_n 8 dX8_parts_7 rfl rfl ?_
    refine i_sipush 11 256 dX8_parts_8 rfl (by decide) ?_
    refine i_icmp_ge 14 45 ⟨by omega, by omega⟩ ⟨by omega, by omega⟩ dX8_parts_11 rfl (by decide) (fun _ => ?_) (fun h => absurd h (by omega))
    exact kk _
  | succ j ih =>
    intro i hi
    obtain ⟨hA1, hA2⟩ := hA i (by omega)
    have eti : ((i : Int)).toNat = i := Int.toNat_natCast i
    have ef := fill_s i (poF ar a) ou
    refine m_iload_n 8 dX8_parts_7 rfl rfl ?_
    refine i_sipush 11 256 dX8_parts_8 rfl (by decide) ?_
    refine i_icmp_ge 14 45 ⟨by omega, by omega⟩ ⟨by omega, by omega⟩ dX8_parts_11 rfl (by decide) (fun h => absurd h (by omega)) (fun _ => ?_)
    refine m_aload_n 15 dX8_parts_14 rfl rfl ?_
    refine m_getf 18 foX8_27 dX8_parts_15 rfl (mw_22 hw) (by rfl) ?_
    refine m_iload_n 19 dX8_parts_18 rfl rfl ?_
    refine m_iload_n 20 dX8_parts_19 rfl rfl ?_
    refine i_if_lt 23 37 ⟨by omega, by omega⟩ dX8_parts_20 rfl (by decide) (fun q20 => ?_) (fun q20 => ?_)
    · refine i_const 38 dX8_parts_37 rfl ?_
      refine i_asB false rfl ?_
      refine i_zast 39 dX8_parts_38 rfl (mw_28 hw) ⟨by omega, by omega, by omega⟩ ?_
      rw [mw_s28]
      refine i_inc 42 dX8_parts_39 rfl rfl (by decide) ?_
      refine m_goto 7 dX8_parts_42 (by decide) ?_
      rw [eti]
      first
        | (have hv : poF ar a i = false := by (unfold poF; rw [decide_eq_false (show ¬ 0 ≤ a by omega), Bool.false_and])
           rw [hv] at ef; rw [ef]; exact ih (i + 1) (by omega))
        | (have hv : poF ar a i = false := by (unfold poF; rw [bne_eq_false_iff_eq.mpr q30, Bool.and_false])
           rw [hv] at ef; rw [ef]; exact ih (i + 1) (by omega))
        | (have hv : poF ar a i = true := by (unfold poF; rw [decide_eq_true (show 0 ≤ a by omega), Bool.true_and, bne_iff_ne.mpr q30])
           rw [hv] at ef; rw [ef]; exact ih (i + 1) (by omega))
    · refine m_aload_n 24 dX8_parts_23 rfl rfl ?_
      refine m_getf 27 foX8_17 dX8_parts_24 rfl (mw_22 hw) (by rfl) ?_
      refine m_iload_n 28 dX8_parts_27 rfl rfl ?_
      refine i_ald 29 dX8_parts_28 rfl (mw_25 hw) ⟨by omega, by omega, by omega⟩ ?_
      rw [eti]
      refine m_iload_n 30 dX8_parts_29 rfl rfl ?_
      refine i_icmp_eq 33 37 ⟨by omega, by omega⟩ ⟨by omega, by omega⟩ dX8_parts_30 rfl (by decide) (fun q30 => ?_) (fun q30 => ?_)
      · refine i_const 38 dX8_parts_37 rfl ?_
        refine i_asB false rfl ?_
        refine i_zast 39 dX8_parts_38 rfl (mw_28 hw) ⟨by omega, by omega, by omega⟩ ?_
        rw [mw_s28]
        refine i_inc 42 dX8_parts_39 rfl rfl (by decide) ?_
        refine m_goto 7 dX8_parts_42 (by decide) ?_
        rw [eti]
        first
          | (have hv : poF ar a i = false := by (unfold poF; rw [decide_eq_false (show ¬ 0 ≤ a by omega), Bool.false_and])
             rw [hv] at ef; rw [ef]; exact ih (i + 1) (by omega))
          | (have hv : poF ar a i = false := by (unfold poF; rw [bne_eq_false_iff_eq.mpr q30, Bool.and_false])
             rw [hv] at ef; rw [ef]; exact ih (i + 1) (by omega))
          | (have hv : poF ar a i = true := by (unfold poF; rw [decide_eq_true (show 0 ≤ a by omega), Bool.true_and, bne_iff_ne.mpr q30])
             rw [hv] at ef; rw [ef]; exact ih (i + 1) (by omega))
      · refine i_const 34 dX8_parts_33 rfl ?_
        refine m_goto 38 dX8_parts_34 (by decide) ?_
        refine i_asB true rfl ?_
        refine i_zast 39 dX8_parts_38 rfl (mw_28 hw) ⟨by omega, by omega, by omega⟩ ?_
        rw [mw_s28]
        refine i_inc 42 dX8_parts_39 rfl rfl (by decide) ?_
        refine m_goto 7 dX8_parts_42 (by decide) ?_
        rw [eti]
        first
          | (have hv : poF ar a i = false := by (unfold poF; rw [decide_eq_false (show ¬ 0 ≤ a by omega), Bool.false_and])
             rw [hv] at ef; rw [ef]; exact ih (i + 1) (by omega))
          | (have hv : poF ar a i = false := by (unfold poF; rw [bne_eq_false_iff_eq.mpr q30, Bool.and_false])
             rw [hv] at ef; rw [ef]; exact ih (i + 1) (by omega))
          | (have hv : poF ar a i = true := by (unfold poF; rw [decide_eq_true (show 0 ≤ a by omega), Bool.true_and, bne_iff_ne.mpr q30])
             rw [hv] at ef; rw [ef]; exact ih (i + 1) (by omega))
set_option maxHeartbeats 4000000 in
set_option maxRecDepth 100000 in
theorem c_X8_parts (hG : m_G G) (d : Nat) {k W H : Int} {n : Nat} (hF : fOK k W H n) {t sz pl so bt : Int} {nb wl ou : Nat → Bool} {ar mk rc ip fd : Nat → Int} (hw : 30 < w.length) {a : Int} (ha : iR a) (hA : ∀ j, j < 256 → iR (ar j)) : m_Ct G MX8_parts (m_r (d + 3) 0 0) [.ref 22, vI a] (mw w t k W H sz pl so bt nb wl ar mk rc ou ip fd) (fun r x => ∃ (c : Int) (rc2 : Nat → Int) (ou2 : Nat → Bool), r = some (some (vI c)) ∧ cpR (nxB nb wl) n n 0 (fun q => poF ar a q = false) c ∧ x = (mw w 0 k W H sz pl so bt nb wl ar mk rc2 ou2 ip fd)) := by
  have hFF := hF
  have hnb := hF.n
  obtain ⟨hk0, hk4, hW1, hW2, hH1, hH2, hn, hg4⟩ := hF
  refine m_enter (L := [some (.ref 22), some (vI a), none]) (by decide) hG (m_c1 rfl) (Nat.le_of_ble_eq_true rfl) rfl ?_
  refine m_aload_n 1 dX8_parts_0 rfl rfl ?_
  refine i_const 2 dX8_parts_1 rfl ?_
  refine p8_0 (M := MX8_parts) 5 rfl dX8_parts_2 rfl hw ?_
  refine i_const 6 dX8_parts_5 rfl ?_
  refine m_istore_n 7 dX8_parts_6 rfl (by decide) ?_
  have e := l_X8_parts hG d hFF hw (t := 0) (sz := sz) (pl := pl) (so := so) (bt := bt) (nb := nb) (wl := wl) (ou := ou) (ar := ar) (mk := mk) (rc := rc) (ip := ip) (fd := fd) (Q := (fun r x => ∃ (c : Int) (rc2 : Nat → Int) (ou2 : Nat → Bool), r = some (some (vI c)) ∧ cpR (nxB nb wl) n n 0 (fun q => poF ar a q = false) c ∧ x = (mw w 0 k W H sz pl so bt nb wl ar mk rc2 ou2 ip fd))) ha hA (fun x2 => ?_) 256 0 (by omega)
  · rw [fill_0] at e
    exact e
  · refine m_aload_n 46 dX8_parts_45 rfl rfl ?_
    refine m_cVr (M' := MX8_count) 49 [] kX8_92 imX8_count seX8_count clX8_count dX8_parts_46 rfl rfl rfl (mw_22 hw) (m_rmI (by omega) (Nat.le_of_ble_eq_true rfl) (Nat.le_refl _) (Nat.le_refl _)) (c_X8_count hG d hFF hw) (fun w2 h => by obtain ⟨c, l, f2, h, -⟩ := h; cases h) (fun v w2 h => ?_)
    obtain ⟨c, rc2, ou2, hv, hc, rfl⟩ := h
    cases hv
    refine i_ret _ dX8_parts_49 rfl ⟨Nat.le_refl _, Nat.le_refl _⟩ ?_ ⟨c, rc2, ou2, rfl, cpR_ext (fun q hq => by unfold fill; rw [if_pos (by omega)]) n 0 c (by omega) hc, rfl⟩
    rfl
set_option maxHeartbeats 4000000 in
set_option maxRecDepth 100000 in
theorem c_X8_withoutX (hG : m_G G) (d : Nat) {k W H : Int} {n : Nat} (hF : fOK k W H n) {t sz pl so bt : Int} {nb wl ou : Nat → Bool} {ar mk rc ip fd : Nat → Int} (hw : 30 < w.length) {p : Int}  (hp : ¬ (0 ≤ p ∧ p < n)) (hr : iR p) : m_Cv G MX8_without (m_r (d + 3) 0 0) [.ref 22, vI p] (mw w t k W H sz pl so bt nb wl ar mk rc ou ip fd) (some (vI 0)) (mw w 1 k W H sz pl so bt nb wl ar mk rc ou ip fd) := by
  have hFF := hF
  have hnb := hF.n
  obtain ⟨hk0, hk4, hW1, hW2, hH1, hH2, hn, hg4⟩ := hF
  refine m_enter (L := [some (.ref 22), some (vI p)]) (by decide) hG (m_c1 rfl) (Nat.le_of_ble_eq_true rfl) rfl ?_
  refine m_aload_n 1 dX8_without_0 rfl rfl ?_
  refine m_aload_n 2 dX8_without_1 rfl rfl ?_
  refine m_iload_n 3 dX8_without_2 rfl rfl ?_
  refine m_cV (M' := MX8_isPlace) 6 [_] kX8_70 imX8_isPlace seX8_isPlace clX8_isPlace dX8_without_3 rfl rfl rfl (mw_22 hw) (m_rmI (by omega) (Nat.le_of_ble_eq_true rfl) (Nat.le_refl _) (Nat.le_refl _)) (c_X8_isPlace hG d hFF hw hr) ?_
  refine b_if_ne 9 13 dX8_without_6 rfl (by decide) (fun h => absurd h (by rw [inB_0 hp]; decide)) (fun _ => ?_)
  refine i_const 10 dX8_without_9 rfl ?_
  refine m_goto 14 dX8_without_10 (by decide) ?_
  refine i_asB true rfl ?_
  refine m_cV (M' := MX8_fails) 17 [_] kX8_74 imX8_fails seX8_fails clX8_fails dX8_without_14 rfl rfl rfl (mw_22 hw) (m_rmI (by omega) (Nat.le_of_ble_eq_true rfl) (Nat.le_refl _) (Nat.le_refl _)) (c_X8_fails hG d hFF hw) ?_
  refine b_if_eq 20 22 dX8_without_17 rfl (by decide) (fun h => absurd h (by decide)) (fun _ => ?_)
  refine i_const 21 dX8_without_20 rfl ?_
  refine i_ret _ dX8_without_21 rfl ⟨Nat.le_refl _, Nat.le_refl _⟩ ?_ ⟨rfl, rfl⟩
  rfl
set_option maxHeartbeats 4000000 in
set_option maxRecDepth 100000 in
theorem c_X8_without (hG : m_G G) (d : Nat) {k W H : Int} {n : Nat} (hF : fOK k W H n) {t sz pl so bt : Int} {nb wl ou : Nat → Bool} {ar mk rc ip fd : Nat → Int} (hw : 30 < w.length) {p : Int} (hp : 0 ≤ p ∧ p < n) : m_Ct G MX8_without (m_r (d + 3) 0 0) [.ref 22, vI p] (mw w t k W H sz pl so bt nb wl ar mk rc ou ip fd) (fun r x => ∃ (c : Int) (rc2 : Nat → Int) (ou2 : Nat → Bool), r = some (some (vI c)) ∧ cpR (nxB nb wl) n n 0 (fun q => q ≠ p.toNat) c ∧ x = (mw w 0 k W H sz pl so bt nb wl ar mk rc2 ou2 ip fd)) := by
  have hFF := hF
  have hnb := hF.n
  obtain ⟨hk0, hk4, hW1, hW2, hH1, hH2, hn, hg4⟩ := hF
  refine m_enter (L := [some (.ref 22), some (vI p)]) (by decide) hG (m_c1 rfl) (Nat.le_of_ble_eq_true rfl) rfl ?_
  refine m_aload_n 1 dX8_without_0 rfl rfl ?_
  refine m_aload_n 2 dX8_without_1 rfl rfl ?_
  refine m_iload_n 3 dX8_without_2 rfl rfl ?_
  refine m_cV (M' := MX8_isPlace) 6 [_] kX8_70 imX8_isPlace seX8_isPlace clX8_isPlace dX8_without_3 rfl rfl rfl (mw_22 hw) (m_rmI (by omega) (Nat.le_of_ble_eq_true rfl) (Nat.le_refl _) (Nat.le_refl _)) (c_X8_isPlace hG d hFF hw ⟨by omega, by omega⟩) ?_
  refine b_if_ne 9 13 dX8_without_6 rfl (by decide) (fun _ => ?_) (fun h => absurd h (by rw [inB_1 hp]; decide))
  refine i_const 14 dX8_without_13 rfl ?_
  refine i_asB false rfl ?_
  refine m_cV (M' := MX8_fails) 17 [_] kX8_74 imX8_fails seX8_fails clX8_fails dX8_without_14 rfl rfl rfl (mw_22 hw) (m_rmI (by omega) (Nat.le_of_ble_eq_true rfl) (Nat.le_refl _) (Nat.le_refl _)) (c_X8_fails hG d hFF hw) ?_
  refine b_if_eq 20 22 dX8_without_17 rfl (by decide) (fun _ => ?_) (fun h => absurd h (by decide))
  refine m_aload_n 23 dX8_without_22 rfl rfl ?_
  refine m_cV (M' := MX8_noneOut) 26 [] kX8_85 imX8_noneOut seX8_noneOut clX8_noneOut dX8_without_23 rfl rfl rfl (mw_22 hw) (m_rmI (by omega) (Nat.le_of_ble_eq_true rfl) (Nat.le_refl _) (Nat.le_refl _)) (c_X8_noneOut hG (d + 2) hFF hw) ?_
  refine m_aload_n 27 dX8_without_26 rfl rfl ?_
  refine m_getf 30 foX8_27 dX8_without_27 rfl (mw_22 hw) (by rfl) ?_
  refine m_iload_n 31 dX8_without_30 rfl rfl ?_
  refine i_const 32 dX8_without_31 rfl ?_
  refine i_asB true rfl ?_
  refine i_zast 33 dX8_without_32 rfl (mw_28 hw) ⟨by omega, by omega, by omega⟩ ?_
  rw [mw_s28]
  refine m_aload_n 34 dX8_without_33 rfl rfl ?_
  refine m_cVr (M' := MX8_count) 37 [] kX8_92 imX8_count seX8_count clX8_count dX8_without_34 rfl rfl rfl (mw_22 hw) (m_rmI (by omega) (Nat.le_of_ble_eq_true rfl) (Nat.le_refl _) (Nat.le_refl _)) (c_X8_count hG d hFF hw) (fun w2 h => by obtain ⟨c, l, f2, h, -⟩ := h; cases h) (fun v w2 h => ?_)
  obtain ⟨c, rc2, ou2, hv, hc, rfl⟩ := h
  cases hv
  refine i_ret _ dX8_without_37 rfl ⟨Nat.le_refl _, Nat.le_refl _⟩ ?_ ⟨c, rc2, ou2, rfl, cpR_ext (fun q hq => by unfold up fill; by_cases e : q = p.toNat <;> simp [e]; omega) n 0 c (by omega) hc, rfl⟩
  rfl
end MU
