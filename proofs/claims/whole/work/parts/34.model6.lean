/-! the model: read -/
section MT
variable {G : mG} {w : List mC}
def dgt (b : Nat → Int) (L : Nat) (i : Int) : Bool := inB i L && isD (b i.toNat)
def dgN (b : Nat → Int) (L : Nat) (i : Int) : Int := if dgt b L (i - 1) then (if dgt b L (i - 2) then 2 else 1) else 0
theorem dgt_nx {b : Nat → Int} {L i : Nat} : isD (nxb b L i) = dgt b L ((i : Int) + 1) := by
  unfold nxb dgt
  by_cases h : i + 1 < L
  · rw [if_pos h, inB_1 (by omega), Bool.true_and, show ((i : Int) + 1).toNat = i + 1 by omega]
  · rw [if_neg h, inB_0 (by omega), Bool.false_and]; rfl
theorem dgt_i {b : Nat → Int} {L i : Nat} (h : i < L) : dgt b L (i : Int) = isD (b i) := by
  unfold dgt
  rw [inB_1 (by omega), Bool.true_and, Int.toNat_natCast]
theorem dgN_0 {b : Nat → Int} {L : Nat} {i : Int} (h : dgt b L (i - 1) = false) : dgN b L i = 0 := by unfold dgN; rw [if_neg (by rw [h]; decide)]
theorem dgN_1 {b : Nat → Int} {L : Nat} {i : Int} (h : dgt b L (i - 1) = true) (h2 : dgt b L (i - 2) = false) : dgN b L i = 1 := by unfold dgN; rw [if_pos h, if_neg (by rw [h2]; decide)]
theorem dgN_2 {b : Nat → Int} {L : Nat} {i : Int} (h : dgt b L (i - 1) = true) (h2 : dgt b L (i - 2) = true) : dgN b L i = 2 := by unfold dgN; rw [if_pos h, if_pos h2]
theorem dgN_s0 {b : Nat → Int} {L i : Nat} (h : dgt b L (i : Int) = false) : dgN b L ((i + 1 : Nat) : Int) = 0 := dgN_0 (by rw [show ((i + 1 : Nat) : Int) - 1 = (i : Int) by omega]; exact h)
theorem dgN_s1 {b : Nat → Int} {L i : Nat} (h : dgt b L (i : Int) = true) (h2 : dgt b L ((i : Int) - 1) = false) : dgN b L ((i + 1 : Nat) : Int) = 1 := dgN_1 (by rw [show ((i + 1 : Nat) : Int) - 1 = (i : Int) by omega]; exact h) (by rw [show ((i + 1 : Nat) : Int) - 2 = (i : Int) - 1 by omega]; exact h2)
theorem dgN_s2 {b : Nat → Int} {L i : Nat} (h : dgt b L (i : Int) = true) (h2 : dgt b L ((i : Int) - 1) = true) : dgN b L ((i + 1 : Nat) : Int) = 2 := dgN_2 (by rw [show ((i + 1 : Nat) : Int) - 1 = (i : Int) by omega]; exact h) (by rw [show ((i + 1 : Nat) : Int) - 2 = (i : Int) - 1 by omega]; exact h2)
theorem pF_none {n : Nat} {b : Nat → Int} {L j i : Nat} {F D : Int} {m : Nat → Int} (h : tk n F D m (b i) (nxb b L i) = none) : pF n b L (j + 1) i F D m = ((i : Int), m) := by
  show (match tk n F D m (b i) (nxb b L i) with | none => ((i : Int), m) | some (F2, D2, m2) => pF n b L j (i + 1) F2 D2 m2) = _
  rw [h]
theorem pF_some {n : Nat} {b : Nat → Int} {L j i : Nat} {F D F2 D2 : Int} {m m2 : Nat → Int} (h : tk n F D m (b i) (nxb b L i) = some (F2, D2, m2)) : pF n b L (j + 1) i F D m = pF n b L j (i + 1) F2 D2 m2 := by
  show (match tk n F D m (b i) (nxb b L i) with | none => ((i : Int), m) | some (F2, D2, m2) => pF n b L j (i + 1) F2 D2 m2) = _
  rw [h]

set_option maxHeartbeats 4000000 in
set_option maxRecDepth 100000 in
theorem c_X8_isDigit (hG : m_G G) (d : Nat) {k W H : Int} {n : Nat} (hF : fOK k W H n) {t pl so bt : Int} {nb wl ou : Nat → Bool} {ar mk rc ip fd : Nat → Int} (hw : 30 < w.length) {L : Nat} (hL : L ≤ 1200) (hb : ∀ i, i < L → 0 ≤ ip i ∧ ip i ≤ 255) {z : Int} (hz : iR z) : m_Cv G MX8_isDigit (m_r d 0 0) [.ref 22, vI z] (mw w t k W H ((L : Int)) pl so bt nb wl ar mk rc ou ip fd) (some (vB (dgt ip L z))) (mw w t k W H ((L : Int)) pl so bt nb wl ar mk rc ou ip fd) := by
  obtain ⟨hz1, hz2⟩ := hz
  have hbz : 0 ≤ z → z < L → 0 ≤ ip z.toNat ∧ ip z.toNat ≤ 255 := fun h1 h2 => hb z.toNat (by omega)
  have en : ¬ (0 ≤ z ∧ z < L) → dgt ip L z = false := fun h => by unfold dgt; rw [inB_0 h]; rfl
  have ey : (0 ≤ z ∧ z < L) → dgt ip L z = isD (ip z.toNat) := fun h => by unfold dgt; rw [inB_1 h, Bool.true_and]
  refine m_enter (L := [some (.ref 22), some (vI z)]) (by decide) hG (m_c1 rfl) (Nat.le_of_ble_eq_true rfl) rfl ?_
  refine m_iload_n 1 dX8_isDigit_0 rfl rfl ?_
  refine i_if_lt 4 38 ⟨by omega, by omega⟩ dX8_isDigit_1 rfl (by decide) (fun q1 => ?_) (fun q1 => ?_)
  · refine i_const 39 dX8_isDigit_38 rfl ?_
    refine i_retB _ dX8_isDigit_39 rfl ⟨Nat.le_refl _, Nat.le_refl _⟩ ?_ ⟨rfl, rfl⟩
    refine i_eq0 ?_
    first
      | exact en (by omega)
      | (rw [ey (by omega)]; exact isD_0 (by omega))
  · refine m_iload_n 5 dX8_isDigit_4 rfl rfl ?_
    refine m_aload_n 6 dX8_isDigit_5 rfl rfl ?_
    refine m_getf 9 foX8_116 dX8_isDigit_6 rfl (mw_22 hw) (by rfl) ?_
    refine i_icmp_ge 12 38 ⟨by omega, by omega⟩ ⟨by omega, by omega⟩ dX8_isDigit_9 rfl (by decide) (fun q9 => ?_) (fun q9 => ?_)
    · refine i_const 39 dX8_isDigit_38 rfl ?_
      refine i_retB _ dX8_isDigit_39 rfl ⟨Nat.le_refl _, Nat.le_refl _⟩ ?_ ⟨rfl, rfl⟩
      refine i_eq0 ?_
      first
        | exact en (by omega)
        | (rw [ey (by omega)]; exact isD_0 (by omega))
    · refine m_aload_n 13 dX8_isDigit_12 rfl rfl ?_
      refine m_getf 16 foX8_30 dX8_isDigit_13 rfl (mw_22 hw) (by rfl) ?_
      refine m_iload_n 17 dX8_isDigit_16 rfl rfl ?_
      refine i_ald 18 dX8_isDigit_17 rfl (mw_29 hw) ⟨by omega, by omega, by omega⟩ ?_
      have hbz := hbz (by omega) (by omega)
      refine i_bipush 20 48 dX8_isDigit_18 rfl (by decide) ?_
      refine i_icmp_lt 23 38 ⟨by omega, by omega⟩ ⟨by omega, by omega⟩ dX8_isDigit_20 rfl (by decide) (fun q20 => ?_) (fun q20 => ?_)
      · refine i_const 39 dX8_isDigit_38 rfl ?_
        refine i_retB _ dX8_isDigit_39 rfl ⟨Nat.le_refl _, Nat.le_refl _⟩ ?_ ⟨rfl, rfl⟩
        refine i_eq0 ?_
        first
          | exact en (by omega)
          | (rw [ey (by omega)]; exact isD_0 (by omega))
      · refine m_aload_n 24 dX8_isDigit_23 rfl rfl ?_
        refine m_getf 27 foX8_30 dX8_isDigit_24 rfl (mw_22 hw) (by rfl) ?_
        refine m_iload_n 28 dX8_isDigit_27 rfl rfl ?_
        refine i_ald 29 dX8_isDigit_28 rfl (mw_29 hw) ⟨by omega, by omega, by omega⟩ ?_
        refine i_bipush 31 57 dX8_isDigit_29 rfl (by decide) ?_
        refine i_icmp_gt 34 38 ⟨by omega, by omega⟩ ⟨by omega, by omega⟩ dX8_isDigit_31 rfl (by decide) (fun q31 => ?_) (fun q31 => ?_)
        · refine i_const 39 dX8_isDigit_38 rfl ?_
          refine i_retB _ dX8_isDigit_39 rfl ⟨Nat.le_refl _, Nat.le_refl _⟩ ?_ ⟨rfl, rfl⟩
          refine i_eq0 ?_
          first
            | exact en (by omega)
            | (rw [ey (by omega)]; exact isD_0 (by omega))
        · refine i_const 35 dX8_isDigit_34 rfl ?_
          refine m_goto 39 dX8_isDigit_35 (by decide) ?_
          refine i_retB _ dX8_isDigit_39 rfl ⟨Nat.le_refl _, Nat.le_refl _⟩ ?_ ⟨rfl, rfl⟩
          refine i_eq1 ?_
          rw [ey (by omega)]
          exact isD_1 (by omega)
set_option maxHeartbeats 4000000 in
set_option maxRecDepth 100000 in
theorem l_X8_readX (hG : m_G G) (d : Nat) {k W H : Int} {n : Nat} (hF : fOK k W H n) {pl so bt : Int} {nb wl ou : Nat → Bool} {ar mk rc ip fd : Nat → Int} (hw : 30 < w.length) {L : Nat} (hL : L ≤ 1200) (hb : ∀ i, i < L → 0 ≤ ip i ∧ ip i ≤ 255) {Q : Option (Option Value) → List mC → Prop} {F : Int} {i : Nat} (hi : i < L) {x4 x5 x6 : Option Value} (kk : Q (some (some (vI (-1 - (i : Int))))) (mw w 0 k W H 0 pl so bt nb wl ar mk rc ou ip fd)) : m_J G MX8_read (m_r (d + 2) 0 0) Q 0 0 275 [some (.ref 22), some (vI F), some (vI (i : Int)), some (vI (i : Int)), x4, x5, x6] [] (mw w 0 k W H ((L : Int)) pl so bt nb wl ar mk rc ou ip fd) := by
  refine i_inc 278 dX8_read_275 rfl rfl (by decide) ?_
  refine m_goto 11 dX8_read_278 (by decide) ?_
  refine m_iload_n 12 dX8_read_11 rfl rfl ?_
  refine m_aload_n 13 dX8_read_12 rfl rfl ?_
  refine m_getf 16 foX8_116 dX8_read_13 rfl (mw_22 hw) (by rfl) ?_
  refine i_icmp_ge 19 281 ⟨by omega, by omega⟩ ⟨by omega, by omega⟩ dX8_read_16 rfl (by decide) (fun q16 => ?_) (fun q16 => ?_)
  · refine m_iload_n 282 dX8_read_281 rfl rfl ?_
    refine i_if_ge 285 298 ⟨by omega, by omega⟩ dX8_read_282 rfl (by decide) (fun _ => ?_) (fun h => absurd h (by omega))
    refine m_aload_n 299 dX8_read_298 rfl rfl ?_
    refine i_const 300 dX8_read_299 rfl ?_
    refine p8_10 (M := MX8_read) 303 rfl dX8_read_300 rfl hw ?_
    refine m_iload_n 304 dX8_read_303 rfl rfl ?_
    refine i_if_lt 307 311 ⟨by omega, by omega⟩ dX8_read_304 rfl (by decide) (fun h => absurd h (by omega)) (fun _ => ?_)
    refine i_const 308 dX8_read_307 rfl ?_
    refine m_iload_n 309 dX8_read_308 rfl rfl ?_
    refine i_sub 310 dX8_read_309 rfl ?_
    refine i_ret _ dX8_read_310 rfl ⟨Nat.le_refl _, Nat.le_refl _⟩ ?_ kk
    rfl
  · refine m_iload_n 20 dX8_read_19 rfl rfl ?_
    refine i_if_ge 23 281 ⟨by omega, by omega⟩ dX8_read_20 rfl (by decide) (fun _ => ?_) (fun h => absurd h (by omega))
    refine m_iload_n 282 dX8_read_281 rfl rfl ?_
    refine i_if_ge 285 298 ⟨by omega, by omega⟩ dX8_read_282 rfl (by decide) (fun _ => ?_) (fun h => absurd h (by omega))
    refine m_aload_n 299 dX8_read_298 rfl rfl ?_
    refine i_const 300 dX8_read_299 rfl ?_
    refine p8_10 (M := MX8_read) 303 rfl dX8_read_300 rfl hw ?_
    refine m_iload_n 304 dX8_read_303 rfl rfl ?_
    refine i_if_lt 307 311 ⟨by omega, by omega⟩ dX8_read_304 rfl (by decide) (fun h => absurd h (by omega)) (fun _ => ?_)
    refine i_const 308 dX8_read_307 rfl ?_
    refine m_iload_n 309 dX8_read_308 rfl rfl ?_
    refine i_sub 310 dX8_read_309 rfl ?_
    refine i_ret _ dX8_read_310 rfl ⟨Nat.le_refl _, Nat.le_refl _⟩ ?_ kk
    rfl
set_option maxHeartbeats 4000000 in
set_option maxRecDepth 100000 in
theorem l_X8_readZ (hG : m_G G) (d : Nat) {k W H : Int} {n : Nat} (hF : fOK k W H n) {pl so bt : Int} {nb wl ou : Nat → Bool} {ar mk rc ip fd : Nat → Int} (hw : 30 < w.length) {L : Nat} (hL : L ≤ 1200) (hb : ∀ i, i < L → 0 ≤ ip i ∧ ip i ≤ 255) {Q : Option (Option Value) → List mC → Prop} {F z : Int} {u : Nat} (hF0 : 0 ≤ F) (hu : F + u ≤ n) {x3 x4 : Option Value} (kk : ∀ x6, m_J G MX8_read (m_r (d + 2) 0 0) Q 0 0 230 [some (.ref 22), some (vI F), some (vI (-1)), x3, x4, some (vI (u : Int)), x6] [] (mw w 0 k W H ((L : Int)) pl so bt nb wl ar mk rc ou ip (zer fd F.toNat u))) :
    ∀ (j c : Nat), c + j = u → m_J G MX8_read (m_r (d + 2) 0 0) Q 0 0 203 [some (.ref 22), some (vI F), some (vI (-1)), x3, x4, some (vI (u : Int)), some (vI (c : Int))] [] (mw w 0 k W H ((L : Int)) pl so bt nb wl ar mk rc ou ip (zer fd F.toNat c)) := by
  have hFF := hF
  have hnb := hF.n
  obtain ⟨hk0, hk4, hW1, hW2, hH1, hH2, hn, hg4⟩ := hF
  intro j
  induction j with
  | zero =>
    intro c hc
    have hcu : c = u := by omega
    subst hcu
    refine m_iload 205 dX8_read_203 rfl rfl ?_
    refine m_iload 207 dX8_read_205 rfl rfl ?_
    refine i_icmp_ge 210 230 ⟨by omega, by omega⟩ ⟨by omega, by omega⟩ dX8_read_207 rfl (by decide) (fun _ => ?_) (fun h => absurd h (by omega))
    exact kk _
  | succ j ih =>
    intro c hc
    have e1 : (F + (c : Int)).toNat = F.toNat + c := by omega
    refine m_iload 205 dX8_read_203 rfl rfl ?_
    refine m_iload 207 dX8_read_205 rfl rfl ?_
    refine i_icmp_ge 210 230 ⟨by omega, by omega⟩ ⟨by omega, by omega⟩ dX8_read_207 rfl (by decide) (fun h => absurd h (by omega)) (fun _ => ?_)
    refine m_iload_n 211 dX8_read_210 rfl rfl ?_
    refine i_if_ge 214 230 ⟨by omega, by omega⟩ dX8_read_211 rfl (by decide) (fun h => absurd h (by decide)) (fun _ => ?_)
    refine m_aload_n 215 dX8_read_214 rfl rfl ?_
    refine m_getf 218 foX8_33 dX8_read_215 rfl (mw_22 hw) (by rfl) ?_
    refine m_iload_n 219 dX8_read_218 rfl rfl ?_
    refine m_iload 221 dX8_read_219 rfl rfl ?_
    refine i_add 222 dX8_read_221 rfl ?_
    refine i_const 223 dX8_read_222 rfl ?_
    refine i_ast 224 dX8_read_223 rfl (mw_30 hw) ⟨by omega, by omega, by omega⟩ ?_
    rw [mw_s30]
    refine i_inc 227 dX8_read_224 rfl rfl (by decide) ?_
    refine m_goto 203 dX8_read_227 (by decide) ?_
    rw [e1, zer_s]
    exact ih (c + 1) (by omega)
set_option maxHeartbeats 4000000 in
set_option maxRecDepth 100000 in
theorem l_X8_readC (hG : m_G G) (d : Nat) {k W H : Int} {n : Nat} (hF : fOK k W H n) {pl so bt : Int} {nb wl ou : Nat → Bool} {ar mk rc ip fd : Nat → Int} (hw : 30 < w.length) {L : Nat} (hL : L ≤ 1200) (hb : ∀ i, i < L → 0 ≤ ip i ∧ ip i ≤ 255) {Q : Option (Option Value) → List mC → Prop} {x4 x5 x6 : Option Value} (kk : Q (some (some (vI (n : Int)))) (mw w 0 k W H 0 pl so bt nb wl ar (fill n fd mk) rc ou ip fd)) :
    ∀ (j c : Nat), c + j = n → m_J G MX8_read (m_r (d + 2) 0 0) Q 0 0 313 [some (.ref 22), some (vI (n : Int)), some (vI (-1)), some (vI (c : Int)), x4, x5, x6] [] (mw w 0 k W H 0 pl so bt nb wl ar (fill c fd mk) rc ou ip fd) := by
  have hFF := hF
  have hnb := hF.n
  obtain ⟨hk0, hk4, hW1, hW2, hH1, hH2, hn, hg4⟩ := hF
  intro j
  induction j with
  | zero =>
    intro c hc
    have hcu : c = n := by omega
    subst hcu
    refine m_iload_n 314 dX8_read_313 rfl rfl ?_
    refine m_aload_n 315 dX8_read_314 rfl rfl ?_
    refine m_cV (M' := MX8_all) 318 [] kX8_50 imX8_all seX8_all clX8_all dX8_read_315 rfl rfl rfl (mw_22 hw) (m_rmI (by omega) (Nat.le_of_ble_eq_true rfl) (Nat.le_refl _) (Nat.le_refl _)) (c_X8_all hG (d + 1) hFF hw) ?_
    refine i_icmp_ge 321 339 ⟨by omega, by omega⟩ ⟨by omega, by omega⟩ dX8_read_318 rfl (by decide) (fun _ => ?_) (fun h => absurd h (by omega))
    refine m_iload_n 340 dX8_read_339 rfl rfl ?_
    refine i_ret _ dX8_read_340 rfl ⟨Nat.le_refl _, Nat.le_refl _⟩ ?_ kk
    rfl
  | succ j ih =>
    intro c hc
    refine m_iload_n 314 dX8_read_313 rfl rfl ?_
    refine m_aload_n 315 dX8_read_314 rfl rfl ?_
    refine m_cV (M' := MX8_all) 318 [] kX8_50 imX8_all seX8_all clX8_all dX8_read_315 rfl rfl rfl (mw_22 hw) (m_rmI (by omega) (Nat.le_of_ble_eq_true rfl) (Nat.le_refl _) (Nat.le_refl _)) (c_X8_all hG (d + 1) hFF hw) ?_
    refine i_icmp_ge 321 339 ⟨by omega, by omega⟩ ⟨by omega, by omega⟩ dX8_read_318 rfl (by decide) (fun h => absurd h (by omega)) (fun _ => ?_)
    refine m_aload_n 322 dX8_read_321 rfl rfl ?_
    refine m_getf 325 foX8_21 dX8_read_322 rfl (mw_22 hw) (by rfl) ?_
    refine m_iload_n 326 dX8_read_325 rfl rfl ?_
    refine m_aload_n 327 dX8_read_326 rfl rfl ?_
    refine m_getf 330 foX8_33 dX8_read_327 rfl (mw_22 hw) (by rfl) ?_
    refine m_iload_n 331 dX8_read_330 rfl rfl ?_
    refine i_ald 332 dX8_read_331 rfl (mw_30 hw) ⟨by omega, by omega, by omega⟩ ?_
    refine i_ast 333 dX8_read_332 rfl (mw_26 hw) ⟨by omega, by omega, by omega⟩ ?_
    rw [mw_s26]
    refine i_inc 336 dX8_read_333 rfl rfl (by decide) ?_
    refine m_goto 313 dX8_read_336 (by decide) ?_
    rw [Int.toNat_natCast, fill_s]
    exact ih (c + 1) (by omega)
theorem dgN_p {b : Nat → Int} {L : Nat} {i : Int} (h : dgt b L (i - 1) = true) : 0 < dgN b L i := by unfold dgN; rw [if_pos h]; split <;> omega
set_option maxHeartbeats 4000000 in
set_option maxRecDepth 100000 in
theorem l_X8_read (hG : m_G G) (d : Nat) {k W H : Int} {n : Nat} (hF : fOK k W H n) {pl so bt : Int} {nb wl ou : Nat → Bool} {ar mk rc ip : Nat → Int} (hw : 30 < w.length) {L : Nat} (hL : L ≤ 1200) (hb : ∀ i, i < L → 0 ≤ ip i ∧ ip i ≤ 255) {Q : Option (Option Value) → List mC → Prop} :
    ∀ (j i : Nat) (F : Int) (fd : Nat → Int) (x4 x5 x6 : Option Value), i + j = L → dOK n F (dgN ip L (i : Int)) → (∀ (r : Option (Option Value)) (x : List mC), (∃ (fd2 : Nat → Int), ((pF n ip L j i F (dgN ip L (i : Int)) fd).1 = -1 ∧ r = some (some (vI (n : Int))) ∧ x = (mw w 0 k W H 0 pl so bt nb wl ar (fill n (pF n ip L j i F (dgN ip L (i : Int)) fd).2 mk) rc ou ip ((pF n ip L j i F (dgN ip L (i : Int)) fd).2))) ∨ ((pF n ip L j i F (dgN ip L (i : Int)) fd).1 ≠ -1 ∧ r = some (some (vI (-1 - (pF n ip L j i F (dgN ip L (i : Int)) fd).1))) ∧ x = (mw w 0 k W H 0 pl so bt nb wl ar mk rc ou ip fd2))) → Q r x) → m_J G MX8_read (m_r (d + 2) 0 0) Q 0 0 11 [some (.ref 22), some (vI F), some (vI (-1)), some (vI (i : Int)), x4, x5, x6] [] (mw w 0 k W H ((L : Int)) pl so bt nb wl ar mk rc ou ip fd) := by
  have hFF := hF
  have hnb := hF.n
  obtain ⟨hk0, hk4, hW1, hW2, hH1, hH2, hn, hg4⟩ := hF
  intro j
  induction j with
  | zero =>
    intro i F fd x4 x5 x6 hij hd kk
    have ep : (pF n ip L 0 i F (dgN ip L (i : Int)) fd) = (if F < n then (L : Int) else -1, fd) := rfl
    rw [ep] at kk
    have hd1 := hd.1
    have hd2 := hd.2.1
    refine m_iload_n 12 dX8_read_11 rfl rfl ?_
    refine m_aload_n 13 dX8_read_12 rfl rfl ?_
    refine m_getf 16 foX8_116 dX8_read_13 rfl (mw_22 hw) (by rfl) ?_
    refine i_icmp_ge 19 281 ⟨by omega, by omega⟩ ⟨by omega, by omega⟩ dX8_read_16 rfl (by decide) (fun _ => ?_) (fun h => absurd h (by omega))
    refine m_iload_n 282 dX8_read_281 rfl rfl ?_
    refine i_if_ge 285 298 ⟨by omega, by omega⟩ dX8_read_282 rfl (by decide) (fun h => absurd h (by decide)) (fun _ => ?_)
    refine m_iload_n 286 dX8_read_285 rfl rfl ?_
    refine m_aload_n 287 dX8_read_286 rfl rfl ?_
    refine m_cV (M' := MX8_all) 290 [] kX8_50 imX8_all seX8_all clX8_all dX8_read_287 rfl rfl rfl (mw_22 hw) (m_rmI (by omega) (Nat.le_of_ble_eq_true rfl) (Nat.le_refl _) (Nat.le_refl _)) (c_X8_all hG (d + 1) hFF hw) ?_
    refine i_icmp_ge 293 298 ⟨by omega, by omega⟩ ⟨by omega, by omega⟩ dX8_read_290 rfl (by decide) (fun q290 => ?_) (fun q290 => ?_)
    · refine m_aload_n 299 dX8_read_298 rfl rfl ?_
      refine i_const 300 dX8_read_299 rfl ?_
      refine p8_10 (M := MX8_read) 303 rfl dX8_read_300 rfl hw ?_
      refine m_iload_n 304 dX8_read_303 rfl rfl ?_
      refine i_if_lt 307 311 ⟨by omega, by omega⟩ dX8_read_304 rfl (by decide) (fun _ => ?_) (fun h => absurd h (by decide))
      refine i_const 312 dX8_read_311 rfl ?_
      refine m_istore_n 313 dX8_read_312 rfl (by decide) ?_
      have hFn : F = (n : Int) := by omega
      subst hFn
      have ec := l_X8_readC hG d hFF hw hL hb (pl := pl) (so := so) (bt := bt) (nb := nb) (wl := wl) (ou := ou) (ar := ar) (mk := mk) (rc := rc) (fd := fd) (Q := Q) (x4 := x4) (x5 := x5) (x6 := x6) (kk _ _ ⟨fd, Or.inl ⟨by show (if (n : Int) < (n : Int) then (L : Int) else -1) = -1; rw [if_neg (by omega)], rfl, rfl⟩⟩) n 0 (by omega)
      rw [fill_0] at ec
      exact ec
    · refine m_aload_n 294 dX8_read_293 rfl rfl ?_
      refine m_getf 297 foX8_116 dX8_read_294 rfl (mw_22 hw) (by rfl) ?_
      refine m_istore_n 298 dX8_read_297 rfl (by decide) ?_
      refine m_aload_n 299 dX8_read_298 rfl rfl ?_
      refine i_const 300 dX8_read_299 rfl ?_
      refine p8_10 (M := MX8_read) 303 rfl dX8_read_300 rfl hw ?_
      refine m_iload_n 304 dX8_read_303 rfl rfl ?_
      refine i_if_lt 307 311 ⟨by omega, by omega⟩ dX8_read_304 rfl (by decide) (fun h => absurd h (by omega)) (fun _ => ?_)
      refine i_const 308 dX8_read_307 rfl ?_
      refine m_iload_n 309 dX8_read_308 rfl rfl ?_
      refine i_sub 310 dX8_read_309 rfl ?_
      refine i_ret _ dX8_read_310 rfl ⟨Nat.le_refl _, Nat.le_refl _⟩ ?_ (kk _ _ ⟨fd, Or.inr ⟨by show (if F < (n : Int) then (L : Int) else -1) ≠ -1; rw [if_pos (by omega)]; omega, by show _ = some (some (vI (-1 - (if F < (n : Int) then (L : Int) else -1)))); rw [if_pos (by omega)], rfl⟩⟩)
      rfl
  | succ j ih =>
    intro i F fd x4 x5 x6 hij hd kk
    have hbi := hb i (by omega)
    have hd1 := hd.1
    have hd2 := hd.2.1
    refine m_iload_n 12 dX8_read_11 rfl rfl ?_
    refine m_aload_n 13 dX8_read_12 rfl rfl ?_
    refine m_getf 16 foX8_116 dX8_read_13 rfl (mw_22 hw) (by rfl) ?_
    refine i_icmp_ge 19 281 ⟨by omega, by omega⟩ ⟨by omega, by omega⟩ dX8_read_16 rfl (by decide) (fun h => absurd h (by omega)) (fun _ => ?_)
    refine m_iload_n 20 dX8_read_19 rfl rfl ?_
    refine i_if_ge 23 281 ⟨by omega, by omega⟩ dX8_read_20 rfl (by decide) (fun h => absurd h (by decide)) (fun _ => ?_)
    refine m_aload_n 24 dX8_read_23 rfl rfl ?_
    refine m_getf 27 foX8_30 dX8_read_24 rfl (mw_22 hw) (by rfl) ?_
    refine m_iload_n 28 dX8_read_27 rfl rfl ?_
    refine i_ald 29 dX8_read_28 rfl (mw_29 hw) ⟨by omega, by omega, by omega⟩ ?_
    rw [Int.toNat_natCast]
    refine m_istore 31 dX8_read_29 rfl (by decide) ?_
    refine m_aload_n 32 dX8_read_31 rfl rfl ?_
    refine m_iload_n 33 dX8_read_32 rfl rfl ?_
    refine m_cV (M' := MX8_isDigit) 36 [_] kX8_119 imX8_isDigit seX8_isDigit clX8_isDigit dX8_read_33 rfl rfl rfl (mw_22 hw) (m_rmI (by omega) (Nat.le_of_ble_eq_true rfl) (Nat.le_refl _) (Nat.le_refl _)) (c_X8_isDigit hG (d + 1) hFF hw hL hb ⟨by omega, by omega⟩) ?_
    refine b_if_eq 39 164 dX8_read_36 rfl (by decide) (fun q36 => ?_) (fun q36 => ?_)
    · refine m_iload 166 dX8_read_164 rfl rfl ?_
      refine i_bipush 168 97 dX8_read_166 rfl (by decide) ?_
      refine i_icmp_lt 171 246 ⟨by omega, by omega⟩ ⟨by omega, by omega⟩ dX8_read_168 rfl (by decide) (fun q168 => ?_) (fun q168 => ?_)
      · refine m_iload 248 dX8_read_246 rfl rfl ?_
        refine i_bipush 250 32 dX8_read_248 rfl (by decide) ?_
        refine i_icmp_ne 253 273 ⟨by omega, by omega⟩ ⟨by omega, by omega⟩ dX8_read_250 rfl (by decide) (fun q250 => ?_) (fun q250 => ?_)
        · have hnd : isD (ip i) = false := by rw [← dgt_i (b := ip) (L := L) (i := i) (by omega)]; exact q36
          have et : tk n F (dgN ip L (i : Int)) fd (ip i) (nxb ip L i) = none := by
            unfold tk
            rw [if_neg (by rw [hnd]; decide), if_neg q250, if_neg (by omega)]
          have ep := pF_none (j := j) et
          refine m_iload_n 274 dX8_read_273 rfl rfl ?_
          refine m_istore_n 275 dX8_read_274 rfl (by decide) ?_
          refine l_X8_readX hG d hFF hw hL hb (by omega) (kk _ _ ⟨fd, Or.inr ?_⟩)
          rw [ep]
          exact ⟨by show (i : Int) ≠ -1; omega, rfl, rfl⟩
        · refine m_aload_n 254 dX8_read_253 rfl rfl ?_
          refine m_iload_n 255 dX8_read_254 rfl rfl ?_
          refine i_const 256 dX8_read_255 rfl ?_
          refine i_sub 257 dX8_read_256 rfl ?_
          refine m_cV (M' := MX8_isDigit) 260 [_] kX8_119 imX8_isDigit seX8_isDigit clX8_isDigit dX8_read_257 rfl rfl rfl (mw_22 hw) (m_rmI (by omega) (Nat.le_of_ble_eq_true rfl) (Nat.le_refl _) (Nat.le_refl _)) (c_X8_isDigit hG (d + 1) hFF hw hL hb ⟨by omega, by omega⟩) ?_
          refine b_if_eq 263 273 dX8_read_260 rfl (by decide) (fun q260 => ?_) (fun q260 => ?_)
          · have hnd : isD (ip i) = false := by rw [← dgt_i (b := ip) (L := L) (i := i) (by omega)]; exact q36
            have et : tk n F (dgN ip L (i : Int)) fd (ip i) (nxb ip L i) = none := by
              unfold tk
              rw [if_neg (by rw [hnd]; decide), if_pos q250, if_neg (fun h => by have h1 := h.1; rw [dgN_0 q260] at h1; omega)]
            have ep := pF_none (j := j) et
            refine m_iload_n 274 dX8_read_273 rfl rfl ?_
            refine m_istore_n 275 dX8_read_274 rfl (by decide) ?_
            refine l_X8_readX hG d hFF hw hL hb (by omega) (kk _ _ ⟨fd, Or.inr ?_⟩)
            rw [ep]
            exact ⟨by show (i : Int) ≠ -1; omega, rfl, rfl⟩
          · refine m_aload_n 264 dX8_read_263 rfl rfl ?_
            refine m_iload_n 265 dX8_read_264 rfl rfl ?_
            refine i_const 266 dX8_read_265 rfl ?_
            refine i_add 267 dX8_read_266 rfl ?_
            refine m_cV (M' := MX8_isDigit) 270 [_] kX8_119 imX8_isDigit seX8_isDigit clX8_isDigit dX8_read_267 rfl rfl rfl (mw_22 hw) (m_rmI (by omega) (Nat.le_of_ble_eq_true rfl) (Nat.le_refl _) (Nat.le_refl _)) (c_X8_isDigit hG (d + 1) hFF hw hL hb ⟨by omega, by omega⟩) ?_
            refine b_if_ne 273 275 dX8_read_270 rfl (by decide) (fun q270 => ?_) (fun q270 => ?_)
            · have hnd : isD (ip i) = false := by rw [← dgt_i (b := ip) (L := L) (i := i) (by omega)]; exact q36
              have et : tk n F (dgN ip L (i : Int)) fd (ip i) (nxb ip L i) = some (F, dgN ip L ((i + 1 : Nat) : Int), fd) := by
                unfold tk
                rw [dgN_s0 q36]
                rw [if_neg (by rw [hnd]; decide), if_pos q250, if_pos ⟨by have := dgN_p q260; omega, by rw [dgt_nx]; exact q270⟩]
              rw [pF_some et] at kk
              refine i_inc 278 dX8_read_275 rfl rfl (by decide) ?_
              refine m_goto 11 dX8_read_278 (by decide) ?_
              exact ih (i + 1) (F) (fd) _ _ _ (by omega) (tk_ok hd et) kk
            · have hnd : isD (ip i) = false := by rw [← dgt_i (b := ip) (L := L) (i := i) (by omega)]; exact q36
              have et : tk n F (dgN ip L (i : Int)) fd (ip i) (nxb ip L i) = none := by
                unfold tk
                rw [if_neg (by rw [hnd]; decide), if_pos q250, if_neg (fun h => by have h1 := h.2; rw [dgt_nx, q270] at h1; cases h1)]
              have ep := pF_none (j := j) et
              refine m_iload_n 274 dX8_read_273 rfl rfl ?_
              refine m_istore_n 275 dX8_read_274 rfl (by decide) ?_
              refine l_X8_readX hG d hFF hw hL hb (by omega) (kk _ _ ⟨fd, Or.inr ?_⟩)
              rw [ep]
              exact ⟨by show (i : Int) ≠ -1; omega, rfl, rfl⟩
      · refine m_iload 173 dX8_read_171 rfl rfl ?_
        refine i_bipush 175 122 dX8_read_173 rfl (by decide) ?_
        refine i_icmp_gt 178 246 ⟨by omega, by omega⟩ ⟨by omega, by omega⟩ dX8_read_175 rfl (by decide) (fun q175 => ?_) (fun q175 => ?_)
        · refine m_iload 248 dX8_read_246 rfl rfl ?_
          refine i_bipush 250 32 dX8_read_248 rfl (by decide) ?_
          refine i_icmp_ne 253 273 ⟨by omega, by omega⟩ ⟨by omega, by omega⟩ dX8_read_250 rfl (by decide) (fun q250 => ?_) (fun q250 => ?_)
          · have hnd : isD (ip i) = false := by rw [← dgt_i (b := ip) (L := L) (i := i) (by omega)]; exact q36
            have et : tk n F (dgN ip L (i : Int)) fd (ip i) (nxb ip L i) = none := by
              unfold tk
              rw [if_neg (by rw [hnd]; decide), if_neg q250, if_neg (by omega)]
            have ep := pF_none (j := j) et
            refine m_iload_n 274 dX8_read_273 rfl rfl ?_
            refine m_istore_n 275 dX8_read_274 rfl (by decide) ?_
            refine l_X8_readX hG d hFF hw hL hb (by omega) (kk _ _ ⟨fd, Or.inr ?_⟩)
            rw [ep]
            exact ⟨by show (i : Int) ≠ -1; omega, rfl, rfl⟩
          · refine m_aload_n 254 dX8_read_253 rfl rfl ?_
            refine m_iload_n 255 dX8_read_254 rfl rfl ?_
            refine i_const 256 dX8_read_255 rfl ?_
            refine i_sub 257 dX8_read_256 rfl ?_
            refine m_cV (M' := MX8_isDigit) 260 [_] kX8_119 imX8_isDigit seX8_isDigit clX8_isDigit dX8_read_257 rfl rfl rfl (mw_22 hw) (m_rmI (by omega) (Nat.le_of_ble_eq_true rfl) (Nat.le_refl _) (Nat.le_refl _)) (c_X8_isDigit hG (d + 1) hFF hw hL hb ⟨by omega, by omega⟩) ?_
            refine b_if_eq 263 273 dX8_read_260 rfl (by decide) (fun q260 => ?_) (fun q260 => ?_)
            · have hnd : isD (ip i) = false := by rw [← dgt_i (b := ip) (L := L) (i := i) (by omega)]; exact q36
              have et : tk n F (dgN ip L (i : Int)) fd (ip i) (nxb ip L i) = none := by
                unfold tk
                rw [if_neg (by rw [hnd]; decide), if_pos q250, if_neg (fun h => by have h1 := h.1; rw [dgN_0 q260] at h1; omega)]
              have ep := pF_none (j := j) et
              refine m_iload_n 274 dX8_read_273 rfl rfl ?_
              refine m_istore_n 275 dX8_read_274 rfl (by decide) ?_
              refine l_X8_readX hG d hFF hw hL hb (by omega) (kk _ _ ⟨fd, Or.inr ?_⟩)
              rw [ep]
              exact ⟨by show (i : Int) ≠ -1; omega, rfl, rfl⟩
            · refine m_aload_n 264 dX8_read_263 rfl rfl ?_
              refine m_iload_n 265 dX8_read_264 rfl rfl ?_
              refine i_const 266 dX8_read_265 rfl ?_
              refine i_add 267 dX8_read_266 rfl ?_
              refine m_cV (M' := MX8_isDigit) 270 [_] kX8_119 imX8_isDigit seX8_isDigit clX8_isDigit dX8_read_267 rfl rfl rfl (mw_22 hw) (m_rmI (by omega) (Nat.le_of_ble_eq_true rfl) (Nat.le_refl _) (Nat.le_refl _)) (c_X8_isDigit hG (d + 1) hFF hw hL hb ⟨by omega, by omega⟩) ?_
              refine b_if_ne 273 275 dX8_read_270 rfl (by decide) (fun q270 => ?_) (fun q270 => ?_)
              · have hnd : isD (ip i) = false := by rw [← dgt_i (b := ip) (L := L) (i := i) (by omega)]; exact q36
                have et : tk n F (dgN ip L (i : Int)) fd (ip i) (nxb ip L i) = some (F, dgN ip L ((i + 1 : Nat) : Int), fd) := by
                  unfold tk
                  rw [dgN_s0 q36]
                  rw [if_neg (by rw [hnd]; decide), if_pos q250, if_pos ⟨by have := dgN_p q260; omega, by rw [dgt_nx]; exact q270⟩]
                rw [pF_some et] at kk
                refine i_inc 278 dX8_read_275 rfl rfl (by decide) ?_
                refine m_goto 11 dX8_read_278 (by decide) ?_
                exact ih (i + 1) (F) (fd) _ _ _ (by omega) (tk_ok hd et) kk
              · have hnd : isD (ip i) = false := by rw [← dgt_i (b := ip) (L := L) (i := i) (by omega)]; exact q36
                have et : tk n F (dgN ip L (i : Int)) fd (ip i) (nxb ip L i) = none := by
                  unfold tk
                  rw [if_neg (by rw [hnd]; decide), if_pos q250, if_neg (fun h => by have h1 := h.2; rw [dgt_nx, q270] at h1; cases h1)]
                have ep := pF_none (j := j) et
                refine m_iload_n 274 dX8_read_273 rfl rfl ?_
                refine m_istore_n 275 dX8_read_274 rfl (by decide) ?_
                refine l_X8_readX hG d hFF hw hL hb (by omega) (kk _ _ ⟨fd, Or.inr ?_⟩)
                rw [ep]
                exact ⟨by show (i : Int) ≠ -1; omega, rfl, rfl⟩
        · refine m_iload 180 dX8_read_178 rfl rfl ?_
          refine i_bipush 182 97 dX8_read_180 rfl (by decide) ?_
          refine i_sub 183 dX8_read_182 rfl ?_
          refine i_const 184 dX8_read_183 rfl ?_
          refine i_add 185 dX8_read_184 rfl ?_
          refine m_istore 187 dX8_read_185 rfl (by decide) ?_
          have hnd : isD (ip i) = false := by rw [← dgt_i (b := ip) (L := L) (i := i) (by omega)]; exact q36
          have eu : ip i - 97 + 1 = (((ip i - 96).toNat : Nat) : Int) := by omega
          rw [eu]
          refine m_iload_n 188 dX8_read_187 rfl rfl ?_
          refine m_iload 190 dX8_read_188 rfl rfl ?_
          refine i_add 191 dX8_read_190 rfl ?_
          refine m_aload_n 192 dX8_read_191 rfl rfl ?_
          refine m_cV (M' := MX8_all) 195 [] kX8_50 imX8_all seX8_all clX8_all dX8_read_192 rfl rfl rfl (mw_22 hw) (m_rmI (by omega) (Nat.le_of_ble_eq_true rfl) (Nat.le_refl _) (Nat.le_refl _)) (c_X8_all hG (d + 1) hFF hw) ?_
          refine i_icmp_le 198 200 ⟨by omega, by omega⟩ ⟨by omega, by omega⟩ dX8_read_195 rfl (by decide) (fun q195 => ?_) (fun q195 => ?_)
          · have et : tk n F (dgN ip L (i : Int)) fd (ip i) (nxb ip L i) = some (F + (ip i - 96), dgN ip L ((i + 1 : Nat) : Int), zer fd F.toNat (ip i - 96).toNat) := by
              unfold tk
              rw [dgN_s0 q36, if_neg (by rw [hnd]; decide), if_neg (by omega), if_pos (by omega)]
            rw [pF_some et] at kk
            refine i_const 201 dX8_read_200 rfl ?_
            refine m_istore 203 dX8_read_201 rfl (by decide) ?_
            have ez := l_X8_readZ hG d hFF hw hL hb (pl := pl) (so := so) (bt := bt) (nb := nb) (wl := wl) (ou := ou) (ar := ar) (mk := mk) (rc := rc) (fd := fd) (Q := Q) (F := F) (u := (ip i - 96).toNat) (z := 0) hd.1 (by omega) (x3 := some (vI (i : Int))) (x4 := some (vI (ip i))) (fun x6 => ?_) (ip i - 96).toNat 0 (by omega)
            · rw [zer_0] at ez
              exact ez
            · refine m_iload_n 231 dX8_read_230 rfl rfl ?_
              refine m_iload_n 232 dX8_read_231 rfl rfl ?_
              refine i_if_ge 235 240 ⟨by omega, by omega⟩ dX8_read_232 rfl (by decide) (fun h => absurd h (by decide)) (fun _ => ?_)
              refine m_iload 237 dX8_read_235 rfl rfl ?_
              refine m_goto 241 dX8_read_237 (by decide) ?_
              refine i_add 242 dX8_read_241 rfl ?_
              refine m_istore_n 243 dX8_read_242 rfl (by decide) ?_
              refine m_goto 275 dX8_read_243 (by decide) ?_
              refine i_inc 278 dX8_read_275 rfl rfl (by decide) ?_
              refine m_goto 11 dX8_read_278 (by decide) ?_
              rw [show F + (((ip i - 96).toNat : Nat) : Int) = F + (ip i - 96) by omega]
              exact ih (i + 1) (F + (ip i - 96)) (zer fd F.toNat (ip i - 96).toNat) _ _ _ (by omega) (tk_ok hd et) kk
          · have et : tk n F (dgN ip L (i : Int)) fd (ip i) (nxb ip L i) = none := by
              unfold tk
              rw [if_neg (by rw [hnd]; decide), if_neg (by omega), if_neg (by omega)]
            have ep := pF_none (j := j) et
            refine m_iload_n 199 dX8_read_198 rfl rfl ?_
            refine m_istore_n 200 dX8_read_199 rfl (by decide) ?_
            refine i_const 201 dX8_read_200 rfl ?_
            refine m_istore 203 dX8_read_201 rfl (by decide) ?_
            refine m_iload 205 dX8_read_203 rfl rfl ?_
            refine m_iload 207 dX8_read_205 rfl rfl ?_
            refine i_icmp_ge 210 230 ⟨by omega, by omega⟩ ⟨by omega, by omega⟩ dX8_read_207 rfl (by decide) (fun h => absurd h (by omega)) (fun _ => ?_)
            refine m_iload_n 211 dX8_read_210 rfl rfl ?_
            refine i_if_ge 214 230 ⟨by omega, by omega⟩ dX8_read_211 rfl (by decide) (fun _ => ?_) (fun h => absurd h (by omega))
            refine m_iload_n 231 dX8_read_230 rfl rfl ?_
            refine m_iload_n 232 dX8_read_231 rfl rfl ?_
            refine i_if_ge 235 240 ⟨by omega, by omega⟩ dX8_read_232 rfl (by decide) (fun _ => ?_) (fun h => absurd h (by omega))
            refine i_const 241 dX8_read_240 rfl ?_
            refine i_add 242 dX8_read_241 rfl ?_
            refine m_istore_n 243 dX8_read_242 rfl (by decide) ?_
            refine m_goto 275 dX8_read_243 (by decide) ?_
            refine l_X8_readX hG d hFF hw hL hb (by omega) (kk _ _ ⟨fd, Or.inr ?_⟩)
            rw [ep]
            exact ⟨by show (i : Int) ≠ -1; omega, rfl, rfl⟩
    · refine m_aload_n 40 dX8_read_39 rfl rfl ?_
      refine m_iload_n 41 dX8_read_40 rfl rfl ?_
      refine i_const 42 dX8_read_41 rfl ?_
      refine i_sub 43 dX8_read_42 rfl ?_
      refine m_cV (M' := MX8_isDigit) 46 [_] kX8_119 imX8_isDigit seX8_isDigit clX8_isDigit dX8_read_43 rfl rfl rfl (mw_22 hw) (m_rmI (by omega) (Nat.le_of_ble_eq_true rfl) (Nat.le_refl _) (Nat.le_refl _)) (c_X8_isDigit hG (d + 1) hFF hw hL hb ⟨by omega, by omega⟩) ?_
      refine m_istore 48 dX8_read_46 rfl (by decide) ?_
      refine m_iload 50 dX8_read_48 rfl rfl ?_
      refine b_if_eq 53 67 dX8_read_50 rfl (by decide) (fun q50 => ?_) (fun q50 => ?_)
      · refine i_const 68 dX8_read_67 rfl ?_
        refine m_istore 70 dX8_read_68 rfl (by decide) ?_
        refine m_iload 72 dX8_read_70 rfl rfl ?_
        refine i_if_ne 75 95 ⟨by omega, by omega⟩ dX8_read_72 rfl (by decide) (fun h => absurd h (by decide)) (fun _ => ?_)
        refine m_iload 77 dX8_read_75 rfl rfl ?_
        refine b_if_ne 80 100 dX8_read_77 rfl (by decide) (fun q77 => ?_) (fun q77 => ?_)
        · rw [q50] at q77
          cases q77
        · refine m_iload 82 dX8_read_80 rfl rfl ?_
          refine i_bipush 84 48 dX8_read_82 rfl (by decide) ?_
          refine i_icmp_eq 87 95 ⟨by omega, by omega⟩ ⟨by omega, by omega⟩ dX8_read_84 rfl (by decide) (fun q84 => ?_) (fun q84 => ?_)
          · have hyd : isD (ip i) = true := by rw [← dgt_i (b := ip) (L := L) (i := i) (by omega)]; exact q36
            have et : tk n F (dgN ip L (i : Int)) fd (ip i) (nxb ip L i) = none := by
              unfold tk
              rw [if_pos hyd, if_pos (dgN_0 q50), if_pos (Or.inl q84)]
            have ep := pF_none (j := j) et
            refine m_iload_n 96 dX8_read_95 rfl rfl ?_
            refine m_istore_n 97 dX8_read_96 rfl (by decide) ?_
            refine m_goto 144 dX8_read_97 (by decide) ?_
            refine m_iload_n 145 dX8_read_144 rfl rfl ?_
            refine m_iload_n 146 dX8_read_145 rfl rfl ?_
            refine i_if_ge 149 158 ⟨by omega, by omega⟩ dX8_read_146 rfl (by decide) (fun _ => ?_) (fun h => absurd h (by omega))
            refine i_const 159 dX8_read_158 rfl ?_
            refine i_add 160 dX8_read_159 rfl ?_
            refine m_istore_n 161 dX8_read_160 rfl (by decide) ?_
            refine m_goto 275 dX8_read_161 (by decide) ?_
            refine l_X8_readX hG d hFF hw hL hb (by omega) (kk _ _ ⟨fd, Or.inr ?_⟩)
            rw [ep]
            exact ⟨by show (i : Int) ≠ -1; omega, rfl, rfl⟩
          · refine m_iload_n 88 dX8_read_87 rfl rfl ?_
            refine m_aload_n 89 dX8_read_88 rfl rfl ?_
            refine m_cV (M' := MX8_all) 92 [] kX8_50 imX8_all seX8_all clX8_all dX8_read_89 rfl rfl rfl (mw_22 hw) (m_rmI (by omega) (Nat.le_of_ble_eq_true rfl) (Nat.le_refl _) (Nat.le_refl _)) (c_X8_all hG (d + 1) hFF hw) ?_
            refine i_icmp_ne 95 100 ⟨by omega, by omega⟩ ⟨by omega, by omega⟩ dX8_read_92 rfl (by decide) (fun q92 => ?_) (fun q92 => ?_)
            · have hyd : isD (ip i) = true := by rw [← dgt_i (b := ip) (L := L) (i := i) (by omega)]; exact q36
              have et : tk n F (dgN ip L (i : Int)) fd (ip i) (nxb ip L i) = some (F + 1, dgN ip L ((i + 1 : Nat) : Int), up fd F.toNat (ip i - 48)) := by
                unfold tk
                rw [dgN_s1 q36 q50]
                rw [if_pos hyd, if_pos (dgN_0 q50), if_neg (by omega)]
              rw [pF_some et] at kk
              refine m_iload 102 dX8_read_100 rfl rfl ?_
              refine b_if_eq 105 133 dX8_read_102 rfl (by decide) (fun _ => ?_) (fun h => absurd h (by rw [q50]; decide))
              refine m_aload_n 134 dX8_read_133 rfl rfl ?_
              refine m_getf 137 foX8_33 dX8_read_134 rfl (mw_22 hw) (by rfl) ?_
              refine m_iload_n 138 dX8_read_137 rfl rfl ?_
              refine m_iload 140 dX8_read_138 rfl rfl ?_
              refine i_bipush 142 48 dX8_read_140 rfl (by decide) ?_
              refine i_sub 143 dX8_read_142 rfl ?_
              refine i_ast 144 dX8_read_143 rfl (mw_30 hw) ⟨by omega, by omega, by omega⟩ ?_
              rw [mw_s30]
              refine m_iload_n 145 dX8_read_144 rfl rfl ?_
              refine m_iload_n 146 dX8_read_145 rfl rfl ?_
              refine i_if_ge 149 158 ⟨by omega, by omega⟩ dX8_read_146 rfl (by decide) (fun h => absurd h (by decide)) (fun _ => ?_)
              refine m_iload 151 dX8_read_149 rfl rfl ?_
              refine b_if_ne 154 158 dX8_read_151 rfl (by decide) (fun h => absurd h (by rw [q50]; decide)) (fun _ => ?_)
              refine i_const 155 dX8_read_154 rfl ?_
              refine m_goto 159 dX8_read_155 (by decide) ?_
              refine i_add 160 dX8_read_159 rfl ?_
              refine m_istore_n 161 dX8_read_160 rfl (by decide) ?_
              refine m_goto 275 dX8_read_161 (by decide) ?_
              refine i_inc 278 dX8_read_275 rfl rfl (by decide) ?_
              refine m_goto 11 dX8_read_278 (by decide) ?_
              exact ih (i + 1) (F + 1) (up fd F.toNat (ip i - 48)) _ _ _ (by omega) (tk_ok hd et) kk
            · have hyd : isD (ip i) = true := by rw [← dgt_i (b := ip) (L := L) (i := i) (by omega)]; exact q36
              have et : tk n F (dgN ip L (i : Int)) fd (ip i) (nxb ip L i) = none := by
                unfold tk
                rw [if_pos hyd, if_pos (dgN_0 q50), if_pos (Or.inr (by omega))]
              have ep := pF_none (j := j) et
              refine m_iload_n 96 dX8_read_95 rfl rfl ?_
              refine m_istore_n 97 dX8_read_96 rfl (by decide) ?_
              refine m_goto 144 dX8_read_97 (by decide) ?_
              refine m_iload_n 145 dX8_read_144 rfl rfl ?_
              refine m_iload_n 146 dX8_read_145 rfl rfl ?_
              refine i_if_ge 149 158 ⟨by omega, by omega⟩ dX8_read_146 rfl (by decide) (fun _ => ?_) (fun h => absurd h (by omega))
              refine i_const 159 dX8_read_158 rfl ?_
              refine i_add 160 dX8_read_159 rfl ?_
              refine m_istore_n 161 dX8_read_160 rfl (by decide) ?_
              refine m_goto 275 dX8_read_161 (by decide) ?_
              refine l_X8_readX hG d hFF hw hL hb (by omega) (kk _ _ ⟨fd, Or.inr ?_⟩)
              rw [ep]
              exact ⟨by show (i : Int) ≠ -1; omega, rfl, rfl⟩
      · refine m_aload_n 54 dX8_read_53 rfl rfl ?_
        refine m_iload_n 55 dX8_read_54 rfl rfl ?_
        refine i_const 56 dX8_read_55 rfl ?_
        refine i_sub 57 dX8_read_56 rfl ?_
        refine m_cV (M' := MX8_isDigit) 60 [_] kX8_119 imX8_isDigit seX8_isDigit clX8_isDigit dX8_read_57 rfl rfl rfl (mw_22 hw) (m_rmI (by omega) (Nat.le_of_ble_eq_true rfl) (Nat.le_refl _) (Nat.le_refl _)) (c_X8_isDigit hG (d + 1) hFF hw hL hb ⟨by omega, by omega⟩) ?_
        refine b_if_eq 63 67 dX8_read_60 rfl (by decide) (fun q60 => ?_) (fun q60 => ?_)
        · refine i_const 68 dX8_read_67 rfl ?_
          refine m_istore 70 dX8_read_68 rfl (by decide) ?_
          refine m_iload 72 dX8_read_70 rfl rfl ?_
          refine i_if_ne 75 95 ⟨by omega, by omega⟩ dX8_read_72 rfl (by decide) (fun h => absurd h (by decide)) (fun _ => ?_)
          refine m_iload 77 dX8_read_75 rfl rfl ?_
          refine b_if_ne 80 100 dX8_read_77 rfl (by decide) (fun q77 => ?_) (fun q77 => ?_)
          · have hF1 : 1 ≤ F := hd.2.2.2.2 (by rw [dgN_1 q50 q60]; decide)
            have hyd : isD (ip i) = true := by rw [← dgt_i (b := ip) (L := L) (i := i) (by omega)]; exact q36
            have et : tk n F (dgN ip L (i : Int)) fd (ip i) (nxb ip L i) = some (F, dgN ip L ((i + 1 : Nat) : Int), up fd (F - 1).toNat (10 * fd (F - 1).toNat + (ip i - 48))) := by
              unfold tk
              rw [dgN_s2 q36 q50]
              rw [if_pos hyd, if_neg (by rw [dgN_1 q50 q60]; decide), if_pos (dgN_1 q50 q60)]
            rw [pF_some et] at kk
            refine m_iload 102 dX8_read_100 rfl rfl ?_
            refine b_if_eq 105 133 dX8_read_102 rfl (by decide) (fun h => absurd h (by rw [q50]; decide)) (fun _ => ?_)
            refine m_aload_n 106 dX8_read_105 rfl rfl ?_
            refine m_getf 109 foX8_33 dX8_read_106 rfl (mw_22 hw) (by rfl) ?_
            refine m_iload_n 110 dX8_read_109 rfl rfl ?_
            refine i_const 111 dX8_read_110 rfl ?_
            refine i_sub 112 dX8_read_111 rfl ?_
            refine i_bipush 114 10 dX8_read_112 rfl (by decide) ?_
            refine m_aload_n 115 dX8_read_114 rfl rfl ?_
            refine m_getf 118 foX8_33 dX8_read_115 rfl (mw_22 hw) (by rfl) ?_
            refine m_iload_n 119 dX8_read_118 rfl rfl ?_
            refine i_const 120 dX8_read_119 rfl ?_
            refine i_sub 121 dX8_read_120 rfl ?_
            refine i_ald 122 dX8_read_121 rfl (mw_30 hw) ⟨by omega, by omega, by omega⟩ ?_
            refine i_mul 123 dX8_read_122 rfl ?_
            refine m_iload 125 dX8_read_123 rfl rfl ?_
            refine i_add 126 dX8_read_125 rfl ?_
            refine i_bipush 128 48 dX8_read_126 rfl (by decide) ?_
            refine i_sub 129 dX8_read_128 rfl ?_
            refine i_ast 130 dX8_read_129 rfl (mw_30 hw) ⟨by omega, by omega, by omega⟩ ?_
            rw [mw_s30]
            refine m_goto 144 dX8_read_130 (by decide) ?_
            refine m_iload_n 145 dX8_read_144 rfl rfl ?_
            refine m_iload_n 146 dX8_read_145 rfl rfl ?_
            refine i_if_ge 149 158 ⟨by omega, by omega⟩ dX8_read_146 rfl (by decide) (fun h => absurd h (by decide)) (fun _ => ?_)
            refine m_iload 151 dX8_read_149 rfl rfl ?_
            refine b_if_ne 154 158 dX8_read_151 rfl (by decide) (fun _ => ?_) (fun h => absurd h (by rw [q50]; decide))
            refine i_const 159 dX8_read_158 rfl ?_
            refine i_add 160 dX8_read_159 rfl ?_
            refine m_istore_n 161 dX8_read_160 rfl (by decide) ?_
            refine m_goto 275 dX8_read_161 (by decide) ?_
            refine i_inc 278 dX8_read_275 rfl rfl (by decide) ?_
            refine m_goto 11 dX8_read_278 (by decide) ?_
            rw [Int.add_zero, show 10 * fd (F - 1).toNat + ip i - 48 = 10 * fd (F - 1).toNat + (ip i - 48) by omega]
            exact ih (i + 1) (F) (up fd (F - 1).toNat (10 * fd (F - 1).toNat + (ip i - 48))) _ _ _ (by omega) (tk_ok hd et) kk
          · refine m_iload 82 dX8_read_80 rfl rfl ?_
            refine i_bipush 84 48 dX8_read_82 rfl (by decide) ?_
            refine i_icmp_eq 87 95 ⟨by omega, by omega⟩ ⟨by omega, by omega⟩ dX8_read_84 rfl (by decide) (fun q84 => ?_) (fun q84 => ?_)
            · rw [q50] at q77
              cases q77
            · refine m_iload_n 88 dX8_read_87 rfl rfl ?_
              refine m_aload_n 89 dX8_read_88 rfl rfl ?_
              refine m_cV (M' := MX8_all) 92 [] kX8_50 imX8_all seX8_all clX8_all dX8_read_89 rfl rfl rfl (mw_22 hw) (m_rmI (by omega) (Nat.le_of_ble_eq_true rfl) (Nat.le_refl _) (Nat.le_refl _)) (c_X8_all hG (d + 1) hFF hw) ?_
              refine i_icmp_ne 95 100 ⟨by omega, by omega⟩ ⟨by omega, by omega⟩ dX8_read_92 rfl (by decide) (fun q92 => ?_) (fun q92 => ?_)
              · rw [q50] at q77
                cases q77
              · rw [q50] at q77
                cases q77
        · refine i_const 64 dX8_read_63 rfl ?_
          refine m_goto 68 dX8_read_64 (by decide) ?_
          refine m_istore 70 dX8_read_68 rfl (by decide) ?_
          refine m_iload 72 dX8_read_70 rfl rfl ?_
          refine i_if_ne 75 95 ⟨by omega, by omega⟩ dX8_read_72 rfl (by decide) (fun _ => ?_) (fun h => absurd h (by decide))
          have hyd : isD (ip i) = true := by rw [← dgt_i (b := ip) (L := L) (i := i) (by omega)]; exact q36
          have et : tk n F (dgN ip L (i : Int)) fd (ip i) (nxb ip L i) = none := by
            unfold tk
            rw [if_pos hyd, if_neg (by rw [dgN_2 q50 q60]; decide), if_neg (by rw [dgN_2 q50 q60]; decide)]
          have ep := pF_none (j := j) et
          refine m_iload_n 96 dX8_read_95 rfl rfl ?_
          refine m_istore_n 97 dX8_read_96 rfl (by decide) ?_
          refine m_goto 144 dX8_read_97 (by decide) ?_
          refine m_iload_n 145 dX8_read_144 rfl rfl ?_
          refine m_iload_n 146 dX8_read_145 rfl rfl ?_
          refine i_if_ge 149 158 ⟨by omega, by omega⟩ dX8_read_146 rfl (by decide) (fun _ => ?_) (fun h => absurd h (by omega))
          refine i_const 159 dX8_read_158 rfl ?_
          refine i_add 160 dX8_read_159 rfl ?_
          refine m_istore_n 161 dX8_read_160 rfl (by decide) ?_
          refine m_goto 275 dX8_read_161 (by decide) ?_
          refine l_X8_readX hG d hFF hw hL hb (by omega) (kk _ _ ⟨fd, Or.inr ?_⟩)
          rw [ep]
          exact ⟨by show (i : Int) ≠ -1; omega, rfl, rfl⟩
set_option maxHeartbeats 4000000 in
set_option maxRecDepth 100000 in
theorem c_X8_read (hG : m_G G) (d : Nat) {k W H : Int} {n : Nat} (hF : fOK k W H n) {t pl so bt : Int} {nb wl ou : Nat → Bool} {ar mk rc ip fd : Nat → Int} (hw : 30 < w.length) {L : Nat} (hL : L ≤ 1200) (hb : ∀ i, i < L → 0 ≤ ip i ∧ ip i ≤ 255) : m_Ct G MX8_read (m_r (d + 2) 0 0) [.ref 22] (mw w t k W H ((L : Int)) pl so bt nb wl ar mk rc ou ip fd) (fun r x => ∃ (fd2 : Nat → Int), ((pF n ip L L 0 0 0 fd).1 = -1 ∧ r = some (some (vI (n : Int))) ∧ x = (mw w 0 k W H 0 pl so bt nb wl ar (fill n (pF n ip L L 0 0 0 fd).2 mk) rc ou ip ((pF n ip L L 0 0 0 fd).2))) ∨ ((pF n ip L L 0 0 0 fd).1 ≠ -1 ∧ r = some (some (vI (-1 - (pF n ip L L 0 0 0 fd).1))) ∧ x = (mw w 0 k W H 0 pl so bt nb wl ar mk rc ou ip fd2))) := by
  have hFF := hF
  have hnb := hF.n
  obtain ⟨hk0, hk4, hW1, hW2, hH1, hH2, hn, hg4⟩ := hF
  refine m_enter (L := [some (.ref 22), none, none, none, none, none, none]) (by decide) hG (m_c1 rfl) (Nat.le_of_ble_eq_true rfl) rfl ?_
  refine m_aload_n 1 dX8_read_0 rfl rfl ?_
  refine i_const 2 dX8_read_1 rfl ?_
  refine p8_0 (M := MX8_read) 5 rfl dX8_read_2 rfl hw ?_
  refine i_const 6 dX8_read_5 rfl ?_
  refine m_istore_n 7 dX8_read_6 rfl (by decide) ?_
  refine i_const 8 dX8_read_7 rfl ?_
  refine m_istore_n 9 dX8_read_8 rfl (by decide) ?_
  refine i_const 10 dX8_read_9 rfl ?_
  refine m_istore_n 11 dX8_read_10 rfl (by decide) ?_
  have e0 : dgN ip L ((0 : Nat) : Int) = 0 := dgN_0 (by unfold dgt; rw [inB_0 (by omega)]; rfl)
  have e := l_X8_read hG d hFF hw hL hb (pl := pl) (so := so) (bt := bt) (nb := nb) (wl := wl) (ou := ou) (ar := ar) (mk := mk) (rc := rc) (Q := (fun r x => ∃ (fd2 : Nat → Int), ((pF n ip L L 0 0 0 fd).1 = -1 ∧ r = some (some (vI (n : Int))) ∧ x = (mw w 0 k W H 0 pl so bt nb wl ar (fill n (pF n ip L L 0 0 0 fd).2 mk) rc ou ip ((pF n ip L L 0 0 0 fd).2))) ∨ ((pF n ip L L 0 0 0 fd).1 ≠ -1 ∧ r = some (some (vI (-1 - (pF n ip L L 0 0 0 fd).1))) ∧ x = (mw w 0 k W H 0 pl so bt nb wl ar mk rc ou ip fd2)))) L 0 0 fd none none none (by omega) (by rw [e0]; exact ⟨by omega, by omega, by omega, by omega, fun h => by omega⟩) (fun r x h => by rw [e0] at h; exact h)
  exact e
end MT
