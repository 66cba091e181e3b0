/-! the model's constructor -/
section MV
variable {G : mG} {w : List mC}
def stS (k W H : Int) (p d : Nat) : Int := stp k W H ((p : Int) % W) ((p : Int) / W) (d : Int)
def nbI (k W H : Int) (n p d : Nat) (nb : Nat → Bool) : Prop := ∀ a b : Nat, a < n → b < n → (nb (256 * a + b) = true ↔ ∃ p' d' : Nat, (p' < p ∨ p' = p ∧ d' < d) ∧ d' < 6 ∧ ((p' = a ∧ stS k W H p' d' = b) ∨ (p' = b ∧ stS k W H p' d' = a)))
theorem nbI_0 (k W H : Int) (n : Nat) : nbI k W H n 0 0 (fun _ => false) := fun a b _ _ => ⟨fun h => (by cases h), fun ⟨p, d, h, _⟩ => by omega⟩
theorem nbI_row {k W H : Int} {n p : Nat} {nb : Nat → Bool} (h : nbI k W H n p 6 nb) : nbI k W H n (p + 1) 0 nb := by
  intro a b ha hb
  rw [h a b ha hb]
  constructor
  · rintro ⟨p', d', h1, h2, h3⟩; exact ⟨p', d', by omega, h2, h3⟩
  · rintro ⟨p', d', h1, h2, h3⟩; exact ⟨p', d', by omega, h2, h3⟩
theorem nbI_no {k W H : Int} {n p d : Nat} {nb : Nat → Bool} (h : nbI k W H n p d nb) (hs : stS k W H p d < 0) : nbI k W H n p (d + 1) nb := by
  intro a b ha hb
  rw [h a b ha hb]
  constructor
  · rintro ⟨p', d', h1, h2, h3⟩; exact ⟨p', d', by omega, h2, h3⟩
  · rintro ⟨p', d', h1, h2, h3⟩
    refine ⟨p', d', ?_, h2, h3⟩
    by_cases e : p' = p ∧ d' = d
    · obtain ⟨rfl, rfl⟩ := e
      rcases h3 with h3 | h3 <;> omega
    · omega
theorem nbI_yes {k W H : Int} {n p d q : Nat} {nb : Nat → Bool} (h : nbI k W H n p d nb) (hd : d < 6) (hn : n ≤ 256) (hp : p < n) (hq : q < n) (hs : stS k W H p d = q) : nbI k W H n p (d + 1) (up (up nb (256 * p + q) true) (256 * q + p) true) := by
  intro a b ha hb
  have hab := h a b ha hb
  unfold up
  by_cases e1 : 256 * a + b = 256 * q + p
  · rw [if_pos e1]
    refine ⟨fun _ => ⟨p, d, Or.inr ⟨rfl, by omega⟩, hd, Or.inr ⟨by omega, by omega⟩⟩, fun _ => rfl⟩
  · rw [if_neg e1]
    by_cases e2 : 256 * a + b = 256 * p + q
    · rw [if_pos e2]
      refine ⟨fun _ => ⟨p, d, Or.inr ⟨rfl, by omega⟩, hd, Or.inl ⟨by omega, by omega⟩⟩, fun _ => rfl⟩
    · rw [if_neg e2, hab]
      constructor
      · rintro ⟨p', d', h1, h2, h3⟩; exact ⟨p', d', by omega, h2, h3⟩
      · rintro ⟨p', d', h1, h2, h3⟩
        refine ⟨p', d', ?_, h2, h3⟩
        by_cases e : p' = p ∧ d' = d
        · obtain ⟨rfl, rfl⟩ := e
          rcases h3 with h3 | h3 <;> omega
        · omega

set_option maxHeartbeats 4000000 in
set_option maxRecDepth 100000 in
theorem l_X8_initI (hG : m_G G) (d : Nat) {k W H : Int} {n : Nat} (hF : fOK k W H n) {t sz pl so bt a b c : Int} {wl ou : Nat → Bool} {ar mk rc ip fd : Nat → Int} (hw : 30 < w.length) {p nc ns : Nat} {Q : Option (Option Value) → List mC → Prop} (hp : p < n) (hnn : nc ≤ 8 ∧ ns ≤ 133552) :
    ∀ (j s : Nat) (nb : Nat → Bool) (x6 : Option Value), s + j = 6 → nbI k W H n p s nb → (∀ nb2 x6, nbI k W H n p 6 nb2 → m_J G MX8_init (m_r (d + 4) 8 133552) Q nc ns 194 [some (.ref 22), some (vI a), some (vI b), some (vI c), some (vI (p : Int)), some (vI 6), x6] [] (mw w t k W H sz pl so bt nb2 wl ar mk rc ou ip fd)) → m_J G MX8_init (m_r (d + 4) 8 133552) Q nc ns 133 [some (.ref 22), some (vI a), some (vI b), some (vI c), some (vI (p : Int)), some (vI (s : Int)), x6] [] (mw w t k W H sz pl so bt nb wl ar mk rc ou ip fd) := by
  have hFF := hF
  have hnb := hF.n
  obtain ⟨hk0, hk4, hW1, hW2, hH1, hH2, hn, hg4⟩ := hF
  intro j
  induction j with
  | zero =>
    intro s nb x6 hs hI kk
    have hs6 : s = 6 := by omega
    subst hs6
    refine m_iload 135 dX8_init_133 rfl rfl ?_
    refine i_bipush 137 6 dX8_init_135 rfl (by decide) ?_
    refine i_icmp_ge 140 194 ⟨by omega, by omega⟩ ⟨by omega, by omega⟩ dX8_init_137 rfl (by decide) (fun _ => ?_) (fun h => absurd h (by omega))
    exact kk nb _ hI
  | succ j ih =>
    intro s nb x6 hs hI kk
    have hst := stp_r hFF ((p : Int) % W) ((p : Int) / W) (s : Int)
    have ee : stS k W H p s = stp k W H ((p : Int) % W) ((p : Int) / W) (s : Int) := rfl
    refine m_iload 135 dX8_init_133 rfl rfl ?_
    refine i_bipush 137 6 dX8_init_135 rfl (by decide) ?_
    refine i_icmp_ge 140 194 ⟨by omega, by omega⟩ ⟨by omega, by omega⟩ dX8_init_137 rfl (by decide) (fun h => absurd h (by omega)) (fun _ => ?_)
    refine m_aload_n 141 dX8_init_140 rfl rfl ?_
    refine m_iload 143 dX8_init_141 rfl rfl ?_
    refine m_iload 145 dX8_init_143 rfl rfl ?_
    refine m_cV (M' := MX8_step) 148 [_, _] kX8_54 imX8_step seX8_step clX8_step dX8_init_145 rfl rfl rfl (mw_22 hw) (m_rmI (by omega) (Nat.le_of_ble_eq_true rfl) (by first | omega | (simp only [m_r]; omega)) (by first | omega | (simp only [m_r]; omega))) (c_X8_step hG d hFF hw (p := (p : Int)) (s := (s : Int)) ⟨by omega, by omega⟩ ⟨by omega, by omega⟩) ?_
    refine m_istore 150 dX8_init_148 rfl (by decide) ?_
    refine m_iload 152 dX8_init_150 rfl rfl ?_
    refine i_if_ge 155 158 ⟨by omega, by omega⟩ dX8_init_152 rfl (by decide) (fun q152 => ?_) (fun q152 => ?_)
    · obtain ⟨q, hq⟩ := Int.eq_ofNat_of_zero_le q152
      rw [hq]
      rw [hq] at hst ee
      have e1 : (256 * (p : Int) + (q : Int)).toNat = 256 * p + q := by omega
      have e2 : (256 * (q : Int) + (p : Int)).toNat = 256 * q + p := by omega
      refine m_aload_n 159 dX8_init_158 rfl rfl ?_
      refine m_getf 162 foX8_8 dX8_init_159 rfl (mw_22 hw) (by rfl) ?_
      refine i_sipush 165 256 dX8_init_162 rfl (by decide) ?_
      refine m_iload 167 dX8_init_165 rfl rfl ?_
      refine i_mul 168 dX8_init_167 rfl ?_
      refine m_iload 170 dX8_init_168 rfl rfl ?_
      refine i_add 171 dX8_init_170 rfl ?_
      refine i_const 172 dX8_init_171 rfl ?_
      refine i_asB true rfl ?_
      refine i_zast 173 dX8_init_172 rfl (mw_23 hw) ⟨by omega, by omega, by omega⟩ ?_
      rw [mw_s23]
      rw [e1]
      refine m_aload_n 174 dX8_init_173 rfl rfl ?_
      refine m_getf 177 foX8_8 dX8_init_174 rfl (mw_22 hw) (by rfl) ?_
      refine i_sipush 180 256 dX8_init_177 rfl (by decide) ?_
      refine m_iload 182 dX8_init_180 rfl rfl ?_
      refine i_mul 183 dX8_init_182 rfl ?_
      refine m_iload 185 dX8_init_183 rfl rfl ?_
      refine i_add 186 dX8_init_185 rfl ?_
      refine i_const 187 dX8_init_186 rfl ?_
      refine i_asB true rfl ?_
      refine i_zast 188 dX8_init_187 rfl (mw_23 hw) ⟨by omega, by omega, by omega⟩ ?_
      rw [mw_s23]
      rw [e2]
      refine i_inc 191 dX8_init_188 rfl rfl (by decide) ?_
      refine m_goto 133 dX8_init_191 (by decide) ?_
      exact ih (s + 1) _ _ (by omega) (nbI_yes hI (by omega) hnb.2 hp (by omega) ee) kk
    · refine m_goto 188 dX8_init_155 (by decide) ?_
      refine i_inc 191 dX8_init_188 rfl rfl (by decide) ?_
      refine m_goto 133 dX8_init_191 (by decide) ?_
      exact ih (s + 1) nb _ (by omega) (nbI_no hI (by omega)) kk
set_option maxHeartbeats 4000000 in
set_option maxRecDepth 100000 in
theorem l_X8_initO (hG : m_G G) (d : Nat) {k W H : Int} {n : Nat} (hF : fOK k W H n) {t sz pl so bt a b c : Int} {wl ou : Nat → Bool} {ar mk rc ip fd : Nat → Int} (hw : 30 < w.length) {nc ns : Nat} {Q : Option (Option Value) → List mC → Prop} (hnn : nc ≤ 8 ∧ ns ≤ 133552) (kk : ∀ nb2, nbI k W H n n 0 nb2 → Q (some none) (mw w t k W H sz pl so bt nb2 wl ar mk rc ou ip fd)) :
    ∀ (j p : Nat) (nb : Nat → Bool) (x5 x6 : Option Value), p + j = n → nbI k W H n p 0 nb → m_J G MX8_init (m_r (d + 4) 8 133552) Q nc ns 121 [some (.ref 22), some (vI a), some (vI b), some (vI c), some (vI (p : Int)), x5, x6] [] (mw w t k W H sz pl so bt nb wl ar mk rc ou ip fd) := by
  have hFF := hF
  have hnb := hF.n
  obtain ⟨hk0, hk4, hW1, hW2, hH1, hH2, hn, hg4⟩ := hF
  intro j
  induction j with
  | zero =>
    intro p nb x5 x6 hp hI
    have hpn : p = n := by omega
    subst hpn
    refine m_iload 123 dX8_init_121 rfl rfl ?_
    refine m_aload_n 124 dX8_init_123 rfl rfl ?_
    refine m_cV (M' := MX8_all) 127 [] kX8_50 imX8_all seX8_all clX8_all dX8_init_124 rfl rfl rfl (mw_22 hw) (m_rmI (by omega) (Nat.le_of_ble_eq_true rfl) (by first | omega | (simp only [m_r]; omega)) (by first | omega | (simp only [m_r]; omega))) (c_X8_all hG d hFF hw) ?_
    refine i_icmp_ge 130 200 ⟨by omega, by omega⟩ ⟨by omega, by omega⟩ dX8_init_127 rfl (by decide) (fun _ => ?_) (fun h => absurd h (by omega))
    refine m_vret dX8_init_200 rfl (by constructor <;> (simp only [m_r]; omega)) ?_
    exact kk nb hI
  | succ j ih =>
    intro p nb x5 x6 hp hI
    refine m_iload 123 dX8_init_121 rfl rfl ?_
    refine m_aload_n 124 dX8_init_123 rfl rfl ?_
    refine m_cV (M' := MX8_all) 127 [] kX8_50 imX8_all seX8_all clX8_all dX8_init_124 rfl rfl rfl (mw_22 hw) (m_rmI (by omega) (Nat.le_of_ble_eq_true rfl) (by first | omega | (simp only [m_r]; omega)) (by first | omega | (simp only [m_r]; omega))) (c_X8_all hG d hFF hw) ?_
    refine i_icmp_ge 130 200 ⟨by omega, by omega⟩ ⟨by omega, by omega⟩ dX8_init_127 rfl (by decide) (fun h => absurd h (by omega)) (fun _ => ?_)
    refine i_const 131 dX8_init_130 rfl ?_
    refine m_istore 133 dX8_init_131 rfl (by decide) ?_
    refine l_X8_initI hG d hFF hw (p := p) (by omega) hnn 6 0 nb _ (by omega) hI (fun nb2 y6 hI2 => ?_)
    refine i_inc 197 dX8_init_194 rfl rfl (by decide) ?_
    refine m_goto 121 dX8_init_197 (by decide) ?_
    exact ih (p + 1) nb2 _ _ (by omega) (nbI_row hI2)
set_option maxHeartbeats 4000000 in
set_option maxRecDepth 100000 in
theorem c_X8_initN (hG : m_G G) (d : Nat) {k W H a b c : Int} {n : Nat} (hF : fOK k W H n) (hra : iR a) (hrb : iR b) (hrc : iR c) (hk : k = wtn a 0 4) (hWe : W = wtn b 1 16) {c0 c1 c2 c3 c4 c5 c6 c7 c8 c9 c10 c11 c12 c13 c14 c15 c16 c17 c18 c19 c20 c21 : mC} (hHe : H = wtn c 1 16) (hk4 : k ≠ 4) : m_Ct G MX8_init (m_r (d + 4) 8 133552) [.ref 22, vI a, vI b, vI c] [c0, c1, c2, c3, c4, c5, c6, c7, c8, c9, c10, c11, c12, c13, c14, c15, c16, c17, c18, c19, c20, c21, mO 8 dvX8] (fun r x => r = some none ∧ ∃ nb : Nat → Bool, nbI k W H n n 0 nb ∧ x = [c0, c1, c2, c3, c4, c5, c6, c7, c8, c9, c10, c11, c12, c13, c14, c15, c16, c17, c18, c19, c20, c21, oMod 0 k W H 0 0 0 0, cZ 65536 nb, cZ 65536 (fun _ => false), cI 256 (fun _ => 0), cI 256 (fun _ => 0), cI 256 (fun _ => 0), cZ 256 (fun _ => false), cI 1200 (fun _ => 0), cI 256 (fun _ => 0)]) := by
  have hFF := hF
  have hnb := hF.n
  obtain ⟨hk0, hk4, hW1, hW2, hH1, hH2, hn, hg4⟩ := hF
  have hG8 : ∀ {w : List mC}, m_Cv G MX8_held (m_r (d + 3) 0 0) [vI a, vI 0, vI 4] w (some (vI k)) w := by rw [hk]; exact c_X8_held hG (d + 3) hra ⟨by decide, by decide⟩ ⟨by decide, by decide⟩ (by decide)
  have hG19 : ∀ {w : List mC}, m_Cv G MX8_held (m_r (d + 3) 0 0) [vI b, vI 1, vI 16] w (some (vI W)) w := by rw [hWe]; exact c_X8_held hG (d + 3) hrb ⟨by decide, by decide⟩ ⟨by decide, by decide⟩ (by decide)
  have hG42 : ∀ {w : List mC}, m_Cv G MX8_held (m_r (d + 3) 0 0) [vI c, vI 1, vI 16] w (some (vI H)) w := by rw [hHe]; exact c_X8_held hG (d + 3) hrc ⟨by decide, by decide⟩ ⟨by decide, by decide⟩ (by decide)
  refine m_enter (L := [some (.ref 22), some (vI a), some (vI b), some (vI c), none, none, none]) (by decide) hG (m_c1 rfl) (Nat.le_of_ble_eq_true rfl) rfl ?_
  refine m_aload_n 1 dX8_init_0 rfl rfl ?_
  refine m_objInit 4 kX8_1 oi1 oi2 dX8_init_1 rfl (by constructor <;> (simp only [m_r, List.map, Value.category, List.sum_cons, List.sum_nil]; omega)) ?_
  refine m_aload_n 5 dX8_init_4 rfl rfl ?_
  refine m_ldc 7 kc65536 dX8_init_5 rfl ?_
  refine i_asI 65536 rfl ?_
  refine i_newZ 9 65536 dX8_init_7 rfl rfl (by omega) (by constructor <;> (simp only [m_r]; omega)) ?_
  show m_J _ _ _ _ _ _ _ _ (.ref 23 :: _) [c0, c1, c2, c3, c4, c5, c6, c7, c8, c9, c10, c11, c12, c13, c14, c15, c16, c17, c18, c19, c20, c21, mO 8 [vI 0, vI 0, vI 0, vI 0, .null, .null, .null, .null, .null, .null, vI 0, .null, .null, vI 0, vI 0, vI 0], cZ 65536 (fun _ => false)]
  refine m_putf 12 tyX8 rfl tyX8_ok nmX8 (Or.inr ⟨rfl, rfl, rfl⟩) foX8_8 dX8_init_9 rfl (by first | rfl | assumption) (Nat.le_of_ble_eq_true rfl) (Or.inr (Or.inr (Or.inl ⟨⟨_, rfl⟩, _, rfl⟩))) ?_
  show m_J _ _ _ _ _ _ _ _ _ [c0, c1, c2, c3, c4, c5, c6, c7, c8, c9, c10, c11, c12, c13, c14, c15, c16, c17, c18, c19, c20, c21, mO 8 [vI 0, vI 0, vI 0, vI 0, .ref 23, .null, .null, .null, .null, .null, vI 0, .null, .null, vI 0, vI 0, vI 0], cZ 65536 (fun _ => false)]
  refine m_aload_n 13 dX8_init_12 rfl rfl ?_
  refine m_ldc 15 kc65536 dX8_init_13 rfl ?_
  refine i_asI 65536 rfl ?_
  refine i_newZ 17 65536 dX8_init_15 rfl rfl (by omega) (by constructor <;> (simp only [m_r]; omega)) ?_
  show m_J _ _ _ _ _ _ _ _ (.ref 24 :: _) [c0, c1, c2, c3, c4, c5, c6, c7, c8, c9, c10, c11, c12, c13, c14, c15, c16, c17, c18, c19, c20, c21, mO 8 [vI 0, vI 0, vI 0, vI 0, .ref 23, .null, .null, .null, .null, .null, vI 0, .null, .null, vI 0, vI 0, vI 0], cZ 65536 (fun _ => false), cZ 65536 (fun _ => false)]
  refine m_putf 20 tyX8 rfl tyX8_ok nmX8 (Or.inr ⟨rfl, rfl, rfl⟩) foX8_14 dX8_init_17 rfl (by first | rfl | assumption) (Nat.le_of_ble_eq_true rfl) (Or.inr (Or.inr (Or.inl ⟨⟨_, rfl⟩, _, rfl⟩))) ?_
  show m_J _ _ _ _ _ _ _ _ _ [c0, c1, c2, c3, c4, c5, c6, c7, c8, c9, c10, c11, c12, c13, c14, c15, c16, c17, c18, c19, c20, c21, mO 8 [vI 0, vI 0, vI 0, vI 0, .ref 23, .ref 24, .null, .null, .null, .null, vI 0, .null, .null, vI 0, vI 0, vI 0], cZ 65536 (fun _ => false), cZ 65536 (fun _ => false)]
  refine m_aload_n 21 dX8_init_20 rfl rfl ?_
  refine i_sipush 24 256 dX8_init_21 rfl (by decide) ?_
  refine i_newI 26 256 dX8_init_24 rfl rfl (by omega) (by constructor <;> (simp only [m_r]; omega)) ?_
  show m_J _ _ _ _ _ _ _ _ (.ref 25 :: _) [c0, c1, c2, c3, c4, c5, c6, c7, c8, c9, c10, c11, c12, c13, c14, c15, c16, c17, c18, c19, c20, c21, mO 8 [vI 0, vI 0, vI 0, vI 0, .ref 23, .ref 24, .null, .null, .null, .null, vI 0, .null, .null, vI 0, vI 0, vI 0], cZ 65536 (fun _ => false), cZ 65536 (fun _ => false), cI 256 (fun _ => 0)]
  refine m_putf 29 tyX8 rfl tyX8_ok nmX8 (Or.inr ⟨rfl, rfl, rfl⟩) foX8_17 dX8_init_26 rfl (by first | rfl | assumption) (Nat.le_of_ble_eq_true rfl) (Or.inr (Or.inr (Or.inl ⟨⟨_, rfl⟩, _, rfl⟩))) ?_
  show m_J _ _ _ _ _ _ _ _ _ [c0, c1, c2, c3, c4, c5, c6, c7, c8, c9, c10, c11, c12, c13, c14, c15, c16, c17, c18, c19, c20, c21, mO 8 [vI 0, vI 0, vI 0, vI 0, .ref 23, .ref 24, .ref 25, .null, .null, .null, vI 0, .null, .null, vI 0, vI 0, vI 0], cZ 65536 (fun _ => false), cZ 65536 (fun _ => false), cI 256 (fun _ => 0)]
  refine m_aload_n 30 dX8_init_29 rfl rfl ?_
  refine i_sipush 33 256 dX8_init_30 rfl (by decide) ?_
  refine i_newI 35 256 dX8_init_33 rfl rfl (by omega) (by constructor <;> (simp only [m_r]; omega)) ?_
  show m_J _ _ _ _ _ _ _ _ (.ref 26 :: _) [c0, c1, c2, c3, c4, c5, c6, c7, c8, c9, c10, c11, c12, c13, c14, c15, c16, c17, c18, c19, c20, c21, mO 8 [vI 0, vI 0, vI 0, vI 0, .ref 23, .ref 24, .ref 25, .null, .null, .null, vI 0, .null, .null, vI 0, vI 0, vI 0], cZ 65536 (fun _ => false), cZ 65536 (fun _ => false), cI 256 (fun _ => 0), cI 256 (fun _ => 0)]
  refine m_putf 38 tyX8 rfl tyX8_ok nmX8 (Or.inr ⟨rfl, rfl, rfl⟩) foX8_21 dX8_init_35 rfl (by first | rfl | assumption) (Nat.le_of_ble_eq_true rfl) (Or.inr (Or.inr (Or.inl ⟨⟨_, rfl⟩, _, rfl⟩))) ?_
  show m_J _ _ _ _ _ _ _ _ _ [c0, c1, c2, c3, c4, c5, c6, c7, c8, c9, c10, c11, c12, c13, c14, c15, c16, c17, c18, c19, c20, c21, mO 8 [vI 0, vI 0, vI 0, vI 0, .ref 23, .ref 24, .ref 25, .ref 26, .null, .null, vI 0, .null, .null, vI 0, vI 0, vI 0], cZ 65536 (fun _ => false), cZ 65536 (fun _ => false), cI 256 (fun _ => 0), cI 256 (fun _ => 0)]
  refine m_aload_n 39 dX8_init_38 rfl rfl ?_
  refine i_sipush 42 256 dX8_init_39 rfl (by decide) ?_
  refine i_newI 44 256 dX8_init_42 rfl rfl (by omega) (by constructor <;> (simp only [m_r]; omega)) ?_
  show m_J _ _ _ _ _ _ _ _ (.ref 27 :: _) [c0, c1, c2, c3, c4, c5, c6, c7, c8, c9, c10, c11, c12, c13, c14, c15, c16, c17, c18, c19, c20, c21, mO 8 [vI 0, vI 0, vI 0, vI 0, .ref 23, .ref 24, .ref 25, .ref 26, .null, .null, vI 0, .null, .null, vI 0, vI 0, vI 0], cZ 65536 (fun _ => false), cZ 65536 (fun _ => false), cI 256 (fun _ => 0), cI 256 (fun _ => 0), cI 256 (fun _ => 0)]
  refine m_putf 47 tyX8 rfl tyX8_ok nmX8 (Or.inr ⟨rfl, rfl, rfl⟩) foX8_24 dX8_init_44 rfl (by first | rfl | assumption) (Nat.le_of_ble_eq_true rfl) (Or.inr (Or.inr (Or.inl ⟨⟨_, rfl⟩, _, rfl⟩))) ?_
  show m_J _ _ _ _ _ _ _ _ _ [c0, c1, c2, c3, c4, c5, c6, c7, c8, c9, c10, c11, c12, c13, c14, c15, c16, c17, c18, c19, c20, c21, mO 8 [vI 0, vI 0, vI 0, vI 0, .ref 23, .ref 24, .ref 25, .ref 26, .ref 27, .null, vI 0, .null, .null, vI 0, vI 0, vI 0], cZ 65536 (fun _ => false), cZ 65536 (fun _ => false), cI 256 (fun _ => 0), cI 256 (fun _ => 0), cI 256 (fun _ => 0)]
  refine m_aload_n 48 dX8_init_47 rfl rfl ?_
  refine i_sipush 51 256 dX8_init_48 rfl (by decide) ?_
  refine i_newZ 53 256 dX8_init_51 rfl rfl (by omega) (by constructor <;> (simp only [m_r]; omega)) ?_
  show m_J _ _ _ _ _ _ _ _ (.ref 28 :: _) [c0, c1, c2, c3, c4, c5, c6, c7, c8, c9, c10, c11, c12, c13, c14, c15, c16, c17, c18, c19, c20, c21, mO 8 [vI 0, vI 0, vI 0, vI 0, .ref 23, .ref 24, .ref 25, .ref 26, .ref 27, .null, vI 0, .null, .null, vI 0, vI 0, vI 0], cZ 65536 (fun _ => false), cZ 65536 (fun _ => false), cI 256 (fun _ => 0), cI 256 (fun _ => 0), cI 256 (fun _ => 0), cZ 256 (fun _ => false)]
  refine m_putf 56 tyX8 rfl tyX8_ok nmX8 (Or.inr ⟨rfl, rfl, rfl⟩) foX8_27 dX8_init_53 rfl (by first | rfl | assumption) (Nat.le_of_ble_eq_true rfl) (Or.inr (Or.inr (Or.inl ⟨⟨_, rfl⟩, _, rfl⟩))) ?_
  show m_J _ _ _ _ _ _ _ _ _ [c0, c1, c2, c3, c4, c5, c6, c7, c8, c9, c10, c11, c12, c13, c14, c15, c16, c17, c18, c19, c20, c21, mO 8 [vI 0, vI 0, vI 0, vI 0, .ref 23, .ref 24, .ref 25, .ref 26, .ref 27, .ref 28, vI 0, .null, .null, vI 0, vI 0, vI 0], cZ 65536 (fun _ => false), cZ 65536 (fun _ => false), cI 256 (fun _ => 0), cI 256 (fun _ => 0), cI 256 (fun _ => 0), cZ 256 (fun _ => false)]
  refine m_aload_n 57 dX8_init_56 rfl rfl ?_
  refine i_sipush 60 1200 dX8_init_57 rfl (by decide) ?_
  refine i_newI 62 1200 dX8_init_60 rfl rfl (by omega) (by constructor <;> (simp only [m_r]; omega)) ?_
  show m_J _ _ _ _ _ _ _ _ (.ref 29 :: _) [c0, c1, c2, c3, c4, c5, c6, c7, c8, c9, c10, c11, c12, c13, c14, c15, c16, c17, c18, c19, c20, c21, mO 8 [vI 0, vI 0, vI 0, vI 0, .ref 23, .ref 24, .ref 25, .ref 26, .ref 27, .ref 28, vI 0, .null, .null, vI 0, vI 0, vI 0], cZ 65536 (fun _ => false), cZ 65536 (fun _ => false), cI 256 (fun _ => 0), cI 256 (fun _ => 0), cI 256 (fun _ => 0), cZ 256 (fun _ => false), cI 1200 (fun _ => 0)]
  refine m_putf 65 tyX8 rfl tyX8_ok nmX8 (Or.inr ⟨rfl, rfl, rfl⟩) foX8_30 dX8_init_62 rfl (by first | rfl | assumption) (Nat.le_of_ble_eq_true rfl) (Or.inr (Or.inr (Or.inl ⟨⟨_, rfl⟩, _, rfl⟩))) ?_
  show m_J _ _ _ _ _ _ _ _ _ [c0, c1, c2, c3, c4, c5, c6, c7, c8, c9, c10, c11, c12, c13, c14, c15, c16, c17, c18, c19, c20, c21, mO 8 [vI 0, vI 0, vI 0, vI 0, .ref 23, .ref 24, .ref 25, .ref 26, .ref 27, .ref 28, vI 0, .ref 29, .null, vI 0, vI 0, vI 0], cZ 65536 (fun _ => false), cZ 65536 (fun _ => false), cI 256 (fun _ => 0), cI 256 (fun _ => 0), cI 256 (fun _ => 0), cZ 256 (fun _ => false), cI 1200 (fun _ => 0)]
  refine m_aload_n 66 dX8_init_65 rfl rfl ?_
  refine i_sipush 69 256 dX8_init_66 rfl (by decide) ?_
  refine i_newI 71 256 dX8_init_69 rfl rfl (by omega) (by constructor <;> (simp only [m_r]; omega)) ?_
  show m_J _ _ _ _ _ _ _ _ (.ref 30 :: _) [c0, c1, c2, c3, c4, c5, c6, c7, c8, c9, c10, c11, c12, c13, c14, c15, c16, c17, c18, c19, c20, c21, mO 8 [vI 0, vI 0, vI 0, vI 0, .ref 23, .ref 24, .ref 25, .ref 26, .ref 27, .ref 28, vI 0, .ref 29, .null, vI 0, vI 0, vI 0], cZ 65536 (fun _ => false), cZ 65536 (fun _ => false), cI 256 (fun _ => 0), cI 256 (fun _ => 0), cI 256 (fun _ => 0), cZ 256 (fun _ => false), cI 1200 (fun _ => 0), cI 256 (fun _ => 0)]
  refine m_putf 74 tyX8 rfl tyX8_ok nmX8 (Or.inr ⟨rfl, rfl, rfl⟩) foX8_33 dX8_init_71 rfl (by first | rfl | assumption) (Nat.le_of_ble_eq_true rfl) (Or.inr (Or.inr (Or.inl ⟨⟨_, rfl⟩, _, rfl⟩))) ?_
  show m_J _ _ _ _ _ _ _ _ _ [c0, c1, c2, c3, c4, c5, c6, c7, c8, c9, c10, c11, c12, c13, c14, c15, c16, c17, c18, c19, c20, c21, mO 8 [vI 0, vI 0, vI 0, vI 0, .ref 23, .ref 24, .ref 25, .ref 26, .ref 27, .ref 28, vI 0, .ref 29, .ref 30, vI 0, vI 0, vI 0], cZ 65536 (fun _ => false), cZ 65536 (fun _ => false), cI 256 (fun _ => 0), cI 256 (fun _ => 0), cI 256 (fun _ => 0), cZ 256 (fun _ => false), cI 1200 (fun _ => 0), cI 256 (fun _ => 0)]
  refine m_aload_n 75 dX8_init_74 rfl rfl ?_
  refine m_iload_n 76 dX8_init_75 rfl rfl ?_
  refine i_const 77 dX8_init_76 rfl ?_
  refine i_const 78 dX8_init_77 rfl ?_
  refine m_cS (M' := MX8_held) 81 [_, _, _] kX8_36 stX8_held clX8_held dX8_init_78 rfl rfl (m_rmI (by omega) (Nat.le_of_ble_eq_true rfl) (by first | omega | (simp only [m_r]; omega)) (by first | omega | (simp only [m_r]; omega))) (hG8) ?_
  refine m_putf 84 tyX8 rfl tyX8_ok nmX8 (Or.inl rfl) foX8_40 dX8_init_81 rfl (by first | rfl | assumption) (Nat.le_of_ble_eq_true rfl) (Or.inl ⟨rfl, _, rfl⟩) ?_
  show m_J _ _ _ _ _ _ _ _ _ [c0, c1, c2, c3, c4, c5, c6, c7, c8, c9, c10, c11, c12, c13, c14, c15, c16, c17, c18, c19, c20, c21, mO 8 [vI 0, vI k, vI 0, vI 0, .ref 23, .ref 24, .ref 25, .ref 26, .ref 27, .ref 28, vI 0, .ref 29, .ref 30, vI 0, vI 0, vI 0], cZ 65536 (fun _ => false), cZ 65536 (fun _ => false), cI 256 (fun _ => 0), cI 256 (fun _ => 0), cI 256 (fun _ => 0), cZ 256 (fun _ => false), cI 1200 (fun _ => 0), cI 256 (fun _ => 0)]
  refine m_aload_n 85 dX8_init_84 rfl rfl ?_
  refine m_iload_n 86 dX8_init_85 rfl rfl ?_
  refine i_const 87 dX8_init_86 rfl ?_
  refine i_bipush 89 16 dX8_init_87 rfl (by decide) ?_
  refine m_cS (M' := MX8_held) 92 [_, _, _] kX8_36 stX8_held clX8_held dX8_init_89 rfl rfl (m_rmI (by omega) (Nat.le_of_ble_eq_true rfl) (by first | omega | (simp only [m_r]; omega)) (by first | omega | (simp only [m_r]; omega))) (hG19) ?_
  refine m_putf 95 tyX8 rfl tyX8_ok nmX8 (Or.inl rfl) foX8_44 dX8_init_92 rfl (by first | rfl | assumption) (Nat.le_of_ble_eq_true rfl) (Or.inl ⟨rfl, _, rfl⟩) ?_
  show m_J _ _ _ _ _ _ _ _ _ [c0, c1, c2, c3, c4, c5, c6, c7, c8, c9, c10, c11, c12, c13, c14, c15, c16, c17, c18, c19, c20, c21, mO 8 [vI 0, vI k, vI W, vI 0, .ref 23, .ref 24, .ref 25, .ref 26, .ref 27, .ref 28, vI 0, .ref 29, .ref 30, vI 0, vI 0, vI 0], cZ 65536 (fun _ => false), cZ 65536 (fun _ => false), cI 256 (fun _ => 0), cI 256 (fun _ => 0), cI 256 (fun _ => 0), cZ 256 (fun _ => false), cI 1200 (fun _ => 0), cI 256 (fun _ => 0)]
  refine m_aload_n 96 dX8_init_95 rfl rfl ?_
  refine m_aload_n 97 dX8_init_96 rfl rfl ?_
  refine m_getf 100 foX8_40 dX8_init_97 rfl (by first | rfl | assumption) (by rfl) ?_
  refine i_const 101 dX8_init_100 rfl ?_
  refine i_icmp_ne 104 108 ⟨by omega, by omega⟩ ⟨by omega, by omega⟩ dX8_init_101 rfl (by decide) (fun _ => ?_) (fun h => absurd h (by omega))
  refine m_iload_n 109 dX8_init_108 rfl rfl ?_
  refine i_const 110 dX8_init_109 rfl ?_
  refine i_bipush 112 16 dX8_init_110 rfl (by decide) ?_
  refine m_cS (M' := MX8_held) 115 [_, _, _] kX8_36 stX8_held clX8_held dX8_init_112 rfl rfl (m_rmI (by omega) (Nat.le_of_ble_eq_true rfl) (by first | omega | (simp only [m_r]; omega)) (by first | omega | (simp only [m_r]; omega))) (hG42) ?_
  refine m_putf 118 tyX8 rfl tyX8_ok nmX8 (Or.inl rfl) foX8_47 dX8_init_115 rfl (by first | rfl | assumption) (Nat.le_of_ble_eq_true rfl) (Or.inl ⟨rfl, _, rfl⟩) ?_
  show m_J _ _ _ _ _ _ _ _ _ [c0, c1, c2, c3, c4, c5, c6, c7, c8, c9, c10, c11, c12, c13, c14, c15, c16, c17, c18, c19, c20, c21, mO 8 [vI 0, vI k, vI W, vI H, .ref 23, .ref 24, .ref 25, .ref 26, .ref 27, .ref 28, vI 0, .ref 29, .ref 30, vI 0, vI 0, vI 0], cZ 65536 (fun _ => false), cZ 65536 (fun _ => false), cI 256 (fun _ => 0), cI 256 (fun _ => 0), cI 256 (fun _ => 0), cZ 256 (fun _ => false), cI 1200 (fun _ => 0), cI 256 (fun _ => 0)]
  refine i_const 119 dX8_init_118 rfl ?_
  refine m_istore 121 dX8_init_119 rfl (by decide) ?_
  show m_J _ _ _ _ _ _ _ _ _ (mw [c0, c1, c2, c3, c4, c5, c6, c7, c8, c9, c10, c11, c12, c13, c14, c15, c16, c17, c18, c19, c20, c21, mO 8 [vI 0, vI k, vI W, vI H, .ref 23, .ref 24, .ref 25, .ref 26, .ref 27, .ref 28, vI 0, .ref 29, .ref 30, vI 0, vI 0, vI 0], cZ 65536 (fun _ => false), cZ 65536 (fun _ => false), cI 256 (fun _ => 0), cI 256 (fun _ => 0), cI 256 (fun _ => 0), cZ 256 (fun _ => false), cI 1200 (fun _ => 0), cI 256 (fun _ => 0)] 0 k W H 0 0 0 0 (fun _ => false) (fun _ => false) (fun _ => 0) (fun _ => 0) (fun _ => 0) (fun _ => false) (fun _ => 0) (fun _ => 0))
  exact l_X8_initO hG d hFF (Nat.le_of_ble_eq_true rfl) ⟨Nat.le_of_ble_eq_true rfl, Nat.le_of_ble_eq_true rfl⟩ (fun nb2 h => ⟨rfl, nb2, h, rfl⟩) n 0 _ _ _ (by omega) (nbI_0 k W H n)
set_option maxHeartbeats 4000000 in
set_option maxRecDepth 100000 in
theorem c_X8_initG (hG : m_G G) (d : Nat) {k W H a b c : Int} {n : Nat} (hF : fOK k W H n) (hra : iR a) (hrb : iR b) (hrc : iR c) (hk : k = wtn a 0 4) (hWe : W = wtn b 1 16) {c0 c1 c2 c3 c4 c5 c6 c7 c8 c9 c10 c11 c12 c13 c14 c15 c16 c17 c18 c19 c20 c21 : mC} (hHe : H = 1) (hk4x : k = 4) : m_Ct G MX8_init (m_r (d + 4) 8 133552) [.ref 22, vI a, vI b, vI c] [c0, c1, c2, c3, c4, c5, c6, c7, c8, c9, c10, c11, c12, c13, c14, c15, c16, c17, c18, c19, c20, c21, mO 8 dvX8] (fun r x => r = some none ∧ ∃ nb : Nat → Bool, nbI k W H n n 0 nb ∧ x = [c0, c1, c2, c3, c4, c5, c6, c7, c8, c9, c10, c11, c12, c13, c14, c15, c16, c17, c18, c19, c20, c21, oMod 0 k W H 0 0 0 0, cZ 65536 nb, cZ 65536 (fun _ => false), cI 256 (fun _ => 0), cI 256 (fun _ => 0), cI 256 (fun _ => 0), cZ 256 (fun _ => false), cI 1200 (fun _ => 0), cI 256 (fun _ => 0)]) := by
  have hFF := hF
  have hnb := hF.n
  obtain ⟨hk0, hk4, hW1, hW2, hH1, hH2, hn, hg4⟩ := hF
  have hH1 : (1 : Int) = H := by omega
  have hG8 : ∀ {w : List mC}, m_Cv G MX8_held (m_r (d + 3) 0 0) [vI a, vI 0, vI 4] w (some (vI k)) w := by rw [hk]; exact c_X8_held hG (d + 3) hra ⟨by decide, by decide⟩ ⟨by decide, by decide⟩ (by decide)
  have hG19 : ∀ {w : List mC}, m_Cv G MX8_held (m_r (d + 3) 0 0) [vI b, vI 1, vI 16] w (some (vI W)) w := by rw [hWe]; exact c_X8_held hG (d + 3) hrb ⟨by decide, by decide⟩ ⟨by decide, by decide⟩ (by decide)
  refine m_enter (L := [some (.ref 22), some (vI a), some (vI b), some (vI c), none, none, none]) (by decide) hG (m_c1 rfl) (Nat.le_of_ble_eq_true rfl) rfl ?_
  refine m_aload_n 1 dX8_init_0 rfl rfl ?_
  refine m_objInit 4 kX8_1 oi1 oi2 dX8_init_1 rfl (by constructor <;> (simp only [m_r, List.map, Value.category, List.sum_cons, List.sum_nil]; omega)) ?_
  refine m_aload_n 5 dX8_init_4 rfl rfl ?_
  refine m_ldc 7 kc65536 dX8_init_5 rfl ?_
  refine i_asI 65536 rfl ?_
  refine i_newZ 9 65536 dX8_init_7 rfl rfl (by omega) (by constructor <;> (simp only [m_r]; omega)) ?_
  show m_J _ _ _ _ _ _ _ _ (.ref 23 :: _) [c0, c1, c2, c3, c4, c5, c6, c7, c8, c9, c10, c11, c12, c13, c14, c15, c16, c17, c18, c19, c20, c21, mO 8 [vI 0, vI 0, vI 0, vI 0, .null, .null, .null, .null, .null, .null, vI 0, .null, .null, vI 0, vI 0, vI 0], cZ 65536 (fun _ => false)]
  refine m_putf 12 tyX8 rfl tyX8_ok nmX8 (Or.inr ⟨rfl, rfl, rfl⟩) foX8_8 dX8_init_9 rfl (by first | rfl | assumption) (Nat.le_of_ble_eq_true rfl) (Or.inr (Or.inr (Or.inl ⟨⟨_, rfl⟩, _, rfl⟩))) ?_
  show m_J _ _ _ _ _ _ _ _ _ [c0, c1, c2, c3, c4, c5, c6, c7, c8, c9, c10, c11, c12, c13, c14, c15, c16, c17, c18, c19, c20, c21, mO 8 [vI 0, vI 0, vI 0, vI 0, .ref 23, .null, .null, .null, .null, .null, vI 0, .null, .null, vI 0, vI 0, vI 0], cZ 65536 (fun _ => false)]
  refine m_aload_n 13 dX8_init_12 rfl rfl ?_
  refine m_ldc 15 kc65536 dX8_init_13 rfl ?_
  refine i_asI 65536 rfl ?_
  refine i_newZ 17 65536 dX8_init_15 rfl rfl (by omega) (by constructor <;> (simp only [m_r]; omega)) ?_
  show m_J _ _ _ _ _ _ _ _ (.ref 24 :: _) [c0, c1, c2, c3, c4, c5, c6, c7, c8, c9, c10, c11, c12, c13, c14, c15, c16, c17, c18, c19, c20, c21, mO 8 [vI 0, vI 0, vI 0, vI 0, .ref 23, .null, .null, .null, .null, .null, vI 0, .null, .null, vI 0, vI 0, vI 0], cZ 65536 (fun _ => false), cZ 65536 (fun _ => false)]
  refine m_putf 20 tyX8 rfl tyX8_ok nmX8 (Or.inr ⟨rfl, rfl, rfl⟩) foX8_14 dX8_init_17 rfl (by first | rfl | assumption) (Nat.le_of_ble_eq_true rfl) (Or.inr (Or.inr (Or.inl ⟨⟨_, rfl⟩, _, rfl⟩))) ?_
  show m_J _ _ _ _ _ _ _ _ _ [c0, c1, c2, c3, c4, c5, c6, c7, c8, c9, c10, c11, c12, c13, c14, c15, c16, c17, c18, c19, c20, c21, mO 8 [vI 0, vI 0, vI 0, vI 0, .ref 23, .ref 24, .null, .null, .null, .null, vI 0, .null, .null, vI 0, vI 0, vI 0], cZ 65536 (fun _ => false), cZ 65536 (fun _ => false)]
  refine m_aload_n 21 dX8_init_20 rfl rfl ?_
  refine i_sipush 24 256 dX8_init_21 rfl (by decide) ?_
  refine i_newI 26 256 dX8_init_24 rfl rfl (by omega) (by constructor <;> (simp only [m_r]; omega)) ?_
  show m_J _ _ _ _ _ _ _ _ (.ref 25 :: _) [c0, c1, c2, c3, c4, c5, c6, c7, c8, c9, c10, c11, c12, c13, c14, c15, c16, c17, c18, c19, c20, c21, mO 8 [vI 0, vI 0, vI 0, vI 0, .ref 23, .ref 24, .null, .null, .null, .null, vI 0, .null, .null, vI 0, vI 0, vI 0], cZ 65536 (fun _ => false), cZ 65536 (fun _ => false), cI 256 (fun _ => 0)]
  refine m_putf 29 tyX8 rfl tyX8_ok nmX8 (Or.inr ⟨rfl, rfl, rfl⟩) foX8_17 dX8_init_26 rfl (by first | rfl | assumption) (Nat.le_of_ble_eq_true rfl) (Or.inr (Or.inr (Or.inl ⟨⟨_, rfl⟩, _, rfl⟩))) ?_
  show m_J _ _ _ _ _ _ _ _ _ [c0, c1, c2, c3, c4, c5, c6, c7, c8, c9, c10, c11, c12, c13, c14, c15, c16, c17, c18, c19, c20, c21, mO 8 [vI 0, vI 0, vI 0, vI 0, .ref 23, .ref 24, .ref 25, .null, .null, .null, vI 0, .null, .null, vI 0, vI 0, vI 0], cZ 65536 (fun _ => false), cZ 65536 (fun _ => false), cI 256 (fun _ => 0)]
  refine m_aload_n 30 dX8_init_29 rfl rfl ?_
  refine i_sipush 33 256 dX8_init_30 rfl (by decide) ?_
  refine i_newI 35 256 dX8_init_33 rfl rfl (by omega) (by constructor <;> (simp only [m_r]; omega)) ?_
  show m_J _ _ _ _ _ _ _ _ (.ref 26 :: _) [c0, c1, c2, c3, c4, c5, c6, c7, c8, c9, c10, c11, c12, c13, c14, c15, c16, c17, c18, c19, c20, c21, mO 8 [vI 0, vI 0, vI 0, vI 0, .ref 23, .ref 24, .ref 25, .null, .null, .null, vI 0, .null, .null, vI 0, vI 0, vI 0], cZ 65536 (fun _ => false), cZ 65536 (fun _ => false), cI 256 (fun _ => 0), cI 256 (fun _ => 0)]
  refine m_putf 38 tyX8 rfl tyX8_ok nmX8 (Or.inr ⟨rfl, rfl, rfl⟩) foX8_21 dX8_init_35 rfl (by first | rfl | assumption) (Nat.le_of_ble_eq_true rfl) (Or.inr (Or.inr (Or.inl ⟨⟨_, rfl⟩, _, rfl⟩))) ?_
  show m_J _ _ _ _ _ _ _ _ _ [c0, c1, c2, c3, c4, c5, c6, c7, c8, c9, c10, c11, c12, c13, c14, c15, c16, c17, c18, c19, c20, c21, mO 8 [vI 0, vI 0, vI 0, vI 0, .ref 23, .ref 24, .ref 25, .ref 26, .null, .null, vI 0, .null, .null, vI 0, vI 0, vI 0], cZ 65536 (fun _ => false), cZ 65536 (fun _ => false), cI 256 (fun _ => 0), cI 256 (fun _ => 0)]
  refine m_aload_n 39 dX8_init_38 rfl rfl ?_
  refine i_sipush 42 256 dX8_init_39 rfl (by decide) ?_
  refine i_newI 44 256 dX8_init_42 rfl rfl (by omega) (by constructor <;> (simp only [m_r]; omega)) ?_
  show m_J _ _ _ _ _ _ _ _ (.ref 27 :: _) [c0, c1, c2, c3, c4, c5, c6, c7, c8, c9, c10, c11, c12, c13, c14, c15, c16, c17, c18, c19, c20, c21, mO 8 [vI 0, vI 0, vI 0, vI 0, .ref 23, .ref 24, .ref 25, .ref 26, .null, .null, vI 0, .null, .null, vI 0, vI 0, vI 0], cZ 65536 (fun _ => false), cZ 65536 (fun _ => false), cI 256 (fun _ => 0), cI 256 (fun _ => 0), cI 256 (fun _ => 0)]
  refine m_putf 47 tyX8 rfl tyX8_ok nmX8 (Or.inr ⟨rfl, rfl, rfl⟩) foX8_24 dX8_init_44 rfl (by first | rfl | assumption) (Nat.le_of_ble_eq_true rfl) (Or.inr (Or.inr (Or.inl ⟨⟨_, rfl⟩, _, rfl⟩))) ?_
  show m_J _ _ _ _ _ _ _ _ _ [c0, c1, c2, c3, c4, c5, c6, c7, c8, c9, c10, c11, c12, c13, c14, c15, c16, c17, c18, c19, c20, c21, mO 8 [vI 0, vI 0, vI 0, vI 0, .ref 23, .ref 24, .ref 25, .ref 26, .ref 27, .null, vI 0, .null, .null, vI 0, vI 0, vI 0], cZ 65536 (fun _ => false), cZ 65536 (fun _ => false), cI 256 (fun _ => 0), cI 256 (fun _ => 0), cI 256 (fun _ => 0)]
  refine m_aload_n 48 dX8_init_47 rfl rfl ?_
  refine i_sipush 51 256 dX8_init_48 rfl (by decide) ?_
  refine i_newZ 53 256 dX8_init_51 rfl rfl (by omega) (by constructor <;> (simp only [m_r]; omega)) ?_
  show m_J _ _ _ _ _ _ _ _ (.ref 28 :: _) [c0, c1, c2, c3, c4, c5, c6, c7, c8, c9, c10, c11, c12, c13, c14, c15, c16, c17, c18, c19, c20, c21, mO 8 [vI 0, vI 0, vI 0, vI 0, .ref 23, .ref 24, .ref 25, .ref 26, .ref 27, .null, vI 0, .null, .null, vI 0, vI 0, vI 0], cZ 65536 (fun _ => false), cZ 65536 (fun _ => false), cI 256 (fun _ => 0), cI 256 (fun _ => 0), cI 256 (fun _ => 0), cZ 256 (fun _ => false)]
  refine m_putf 56 tyX8 rfl tyX8_ok nmX8 (Or.inr ⟨rfl, rfl, rfl⟩) foX8_27 dX8_init_53 rfl (by first | rfl | assumption) (Nat.le_of_ble_eq_true rfl) (Or.inr (Or.inr (Or.inl ⟨⟨_, rfl⟩, _, rfl⟩))) ?_
  show m_J _ _ _ _ _ _ _ _ _ [c0, c1, c2, c3, c4, c5, c6, c7, c8, c9, c10, c11, c12, c13, c14, c15, c16, c17, c18, c19, c20, c21, mO 8 [vI 0, vI 0, vI 0, vI 0, .ref 23, .ref 24, .ref 25, .ref 26, .ref 27, .ref 28, vI 0, .null, .null, vI 0, vI 0, vI 0], cZ 65536 (fun _ => false), cZ 65536 (fun _ => false), cI 256 (fun _ => 0), cI 256 (fun _ => 0), cI 256 (fun _ => 0), cZ 256 (fun _ => false)]
  refine m_aload_n 57 dX8_init_56 rfl rfl ?_
  refine i_sipush 60 1200 dX8_init_57 rfl (by decide) ?_
  refine i_newI 62 1200 dX8_init_60 rfl rfl (by omega) (by constructor <;> (simp only [m_r]; omega)) ?_
  show m_J _ _ _ _ _ _ _ _ (.ref 29 :: _) [c0, c1, c2, c3, c4, c5, c6, c7, c8, c9, c10, c11, c12, c13, c14, c15, c16, c17, c18, c19, c20, c21, mO 8 [vI 0, vI 0, vI 0, vI 0, .ref 23, .ref 24, .ref 25, .ref 26, .ref 27, .ref 28, vI 0, .null, .null, vI 0, vI 0, vI 0], cZ 65536 (fun _ => false), cZ 65536 (fun _ => false), cI 256 (fun _ => 0), cI 256 (fun _ => 0), cI 256 (fun _ => 0), cZ 256 (fun _ => false), cI 1200 (fun _ => 0)]
  refine m_putf 65 tyX8 rfl tyX8_ok nmX8 (Or.inr ⟨rfl, rfl, rfl⟩) foX8_30 dX8_init_62 rfl (by first | rfl | assumption) (Nat.le_of_ble_eq_true rfl) (Or.inr (Or.inr (Or.inl ⟨⟨_, rfl⟩, _, rfl⟩))) ?_
  show m_J _ _ _ _ _ _ _ _ _ [c0, c1, c2, c3, c4, c5, c6, c7, c8, c9, c10, c11, c12, c13, c14, c15, c16, c17, c18, c19, c20, c21, mO 8 [vI 0, vI 0, vI 0, vI 0, .ref 23, .ref 24, .ref 25, .ref 26, .ref 27, .ref 28, vI 0, .ref 29, .null, vI 0, vI 0, vI 0], cZ 65536 (fun _ => false), cZ 65536 (fun _ => false), cI 256 (fun _ => 0), cI 256 (fun _ => 0), cI 256 (fun _ => 0), cZ 256 (fun _ => false), cI 1200 (fun _ => 0)]
  refine m_aload_n 66 dX8_init_65 rfl rfl ?_
  refine i_sipush 69 256 dX8_init_66 rfl (by decide) ?_
  refine i_newI 71 256 dX8_init_69 rfl rfl (by omega) (by constructor <;> (simp only [m_r]; omega)) ?_
  show m_J _ _ _ _ _ _ _ _ (.ref 30 :: _) [c0, c1, c2, c3, c4, c5, c6, c7, c8, c9, c10, c11, c12, c13, c14, c15, c16, c17, c18, c19, c20, c21, mO 8 [vI 0, vI 0, vI 0, vI 0, .ref 23, .ref 24, .ref 25, .ref 26, .ref 27, .ref 28, vI 0, .ref 29, .null, vI 0, vI 0, vI 0], cZ 65536 (fun _ => false), cZ 65536 (fun _ => false), cI 256 (fun _ => 0), cI 256 (fun _ => 0), cI 256 (fun _ => 0), cZ 256 (fun _ => false), cI 1200 (fun _ => 0), cI 256 (fun _ => 0)]
  refine m_putf 74 tyX8 rfl tyX8_ok nmX8 (Or.inr ⟨rfl, rfl, rfl⟩) foX8_33 dX8_init_71 rfl (by first | rfl | assumption) (Nat.le_of_ble_eq_true rfl) (Or.inr (Or.inr (Or.inl ⟨⟨_, rfl⟩, _, rfl⟩))) ?_
  show m_J _ _ _ _ _ _ _ _ _ [c0, c1, c2, c3, c4, c5, c6, c7, c8, c9, c10, c11, c12, c13, c14, c15, c16, c17, c18, c19, c20, c21, mO 8 [vI 0, vI 0, vI 0, vI 0, .ref 23, .ref 24, .ref 25, .ref 26, .ref 27, .ref 28, vI 0, .ref 29, .ref 30, vI 0, vI 0, vI 0], cZ 65536 (fun _ => false), cZ 65536 (fun _ => false), cI 256 (fun _ => 0), cI 256 (fun _ => 0), cI 256 (fun _ => 0), cZ 256 (fun _ => false), cI 1200 (fun _ => 0), cI 256 (fun _ => 0)]
  refine m_aload_n 75 dX8_init_74 rfl rfl ?_
  refine m_iload_n 76 dX8_init_75 rfl rfl ?_
  refine i_const 77 dX8_init_76 rfl ?_
  refine i_const 78 dX8_init_77 rfl ?_
  refine m_cS (M' := MX8_held) 81 [_, _, _] kX8_36 stX8_held clX8_held dX8_init_78 rfl rfl (m_rmI (by omega) (Nat.le_of_ble_eq_true rfl) (by first | omega | (simp only [m_r]; omega)) (by first | omega | (simp only [m_r]; omega))) (hG8) ?_
  refine m_putf 84 tyX8 rfl tyX8_ok nmX8 (Or.inl rfl) foX8_40 dX8_init_81 rfl (by first | rfl | assumption) (Nat.le_of_ble_eq_true rfl) (Or.inl ⟨rfl, _, rfl⟩) ?_
  show m_J _ _ _ _ _ _ _ _ _ [c0, c1, c2, c3, c4, c5, c6, c7, c8, c9, c10, c11, c12, c13, c14, c15, c16, c17, c18, c19, c20, c21, mO 8 [vI 0, vI k, vI 0, vI 0, .ref 23, .ref 24, .ref 25, .ref 26, .ref 27, .ref 28, vI 0, .ref 29, .ref 30, vI 0, vI 0, vI 0], cZ 65536 (fun _ => false), cZ 65536 (fun _ => false), cI 256 (fun _ => 0), cI 256 (fun _ => 0), cI 256 (fun _ => 0), cZ 256 (fun _ => false), cI 1200 (fun _ => 0), cI 256 (fun _ => 0)]
  refine m_aload_n 85 dX8_init_84 rfl rfl ?_
  refine m_iload_n 86 dX8_init_85 rfl rfl ?_
  refine i_const 87 dX8_init_86 rfl ?_
  refine i_bipush 89 16 dX8_init_87 rfl (by decide) ?_
  refine m_cS (M' := MX8_held) 92 [_, _, _] kX8_36 stX8_held clX8_held dX8_init_89 rfl rfl (m_rmI (by omega) (Nat.le_of_ble_eq_true rfl) (by first | omega | (simp only [m_r]; omega)) (by first | omega | (simp only [m_r]; omega))) (hG19) ?_
  refine m_putf 95 tyX8 rfl tyX8_ok nmX8 (Or.inl rfl) foX8_44 dX8_init_92 rfl (by first | rfl | assumption) (Nat.le_of_ble_eq_true rfl) (Or.inl ⟨rfl, _, rfl⟩) ?_
  show m_J _ _ _ _ _ _ _ _ _ [c0, c1, c2, c3, c4, c5, c6, c7, c8, c9, c10, c11, c12, c13, c14, c15, c16, c17, c18, c19, c20, c21, mO 8 [vI 0, vI k, vI W, vI 0, .ref 23, .ref 24, .ref 25, .ref 26, .ref 27, .ref 28, vI 0, .ref 29, .ref 30, vI 0, vI 0, vI 0], cZ 65536 (fun _ => false), cZ 65536 (fun _ => false), cI 256 (fun _ => 0), cI 256 (fun _ => 0), cI 256 (fun _ => 0), cZ 256 (fun _ => false), cI 1200 (fun _ => 0), cI 256 (fun _ => 0)]
  refine m_aload_n 96 dX8_init_95 rfl rfl ?_
  refine m_aload_n 97 dX8_init_96 rfl rfl ?_
  refine m_getf 100 foX8_40 dX8_init_97 rfl (by first | rfl | assumption) (by rfl) ?_
  refine i_const 101 dX8_init_100 rfl ?_
  refine i_icmp_ne 104 108 ⟨by omega, by omega⟩ ⟨by omega, by omega⟩ dX8_init_101 rfl (by decide) (fun h => absurd h (by omega)) (fun _ => ?_)
  refine i_const 105 dX8_init_104 rfl ?_
  refine m_goto 115 dX8_init_105 (by decide) ?_
  rw [hH1]
  refine m_putf 118 tyX8 rfl tyX8_ok nmX8 (Or.inl rfl) foX8_47 dX8_init_115 rfl (by first | rfl | assumption) (Nat.le_of_ble_eq_true rfl) (Or.inl ⟨rfl, _, rfl⟩) ?_
  show m_J _ _ _ _ _ _ _ _ _ [c0, c1, c2, c3, c4, c5, c6, c7, c8, c9, c10, c11, c12, c13, c14, c15, c16, c17, c18, c19, c20, c21, mO 8 [vI 0, vI k, vI W, vI H, .ref 23, .ref 24, .ref 25, .ref 26, .ref 27, .ref 28, vI 0, .ref 29, .ref 30, vI 0, vI 0, vI 0], cZ 65536 (fun _ => false), cZ 65536 (fun _ => false), cI 256 (fun _ => 0), cI 256 (fun _ => 0), cI 256 (fun _ => 0), cZ 256 (fun _ => false), cI 1200 (fun _ => 0), cI 256 (fun _ => 0)]
  refine i_const 119 dX8_init_118 rfl ?_
  refine m_istore 121 dX8_init_119 rfl (by decide) ?_
  show m_J _ _ _ _ _ _ _ _ _ (mw [c0, c1, c2, c3, c4, c5, c6, c7, c8, c9, c10, c11, c12, c13, c14, c15, c16, c17, c18, c19, c20, c21, mO 8 [vI 0, vI k, vI W, vI H, .ref 23, .ref 24, .ref 25, .ref 26, .ref 27, .ref 28, vI 0, .ref 29, .ref 30, vI 0, vI 0, vI 0], cZ 65536 (fun _ => false), cZ 65536 (fun _ => false), cI 256 (fun _ => 0), cI 256 (fun _ => 0), cI 256 (fun _ => 0), cZ 256 (fun _ => false), cI 1200 (fun _ => 0), cI 256 (fun _ => 0)] 0 k W H 0 0 0 0 (fun _ => false) (fun _ => false) (fun _ => 0) (fun _ => 0) (fun _ => 0) (fun _ => false) (fun _ => 0) (fun _ => 0))
  exact l_X8_initO hG d hFF (Nat.le_of_ble_eq_true rfl) ⟨Nat.le_of_ble_eq_true rfl, Nat.le_of_ble_eq_true rfl⟩ (fun nb2 h => ⟨rfl, nb2, h, rfl⟩) n 0 _ _ _ (by omega) (nbI_0 k W H n)
end MV
