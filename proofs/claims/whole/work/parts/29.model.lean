/-! the model: its cells -/
section MO
def mwc (w : List mC) (c22 c23 c24 c25 c26 c27 c28 c29 c30 : mC) : List mC := ((((((((w.set 22 c22).set 23 c23).set 24 c24).set 25 c25).set 26 c26).set 27 c27).set 28 c28).set 29 c29).set 30 c30
theorem mw_s22 {w : List mC} {c22 c23 c24 c25 c26 c27 c28 c29 c30 x : mC} : (mwc w c22 c23 c24 c25 c26 c27 c28 c29 c30).set (21 + 1) x = mwc w x c23 c24 c25 c26 c27 c28 c29 c30 := by
  show (mwc w c22 c23 c24 c25 c26 c27 c28 c29 c30).set 22 x = _
  unfold mwc
  rw [List.set_comm _ _ (by decide : (30 : Nat) ≠ 22), List.set_comm _ _ (by decide : (29 : Nat) ≠ 22), List.set_comm _ _ (by decide : (28 : Nat) ≠ 22), List.set_comm _ _ (by decide : (27 : Nat) ≠ 22), List.set_comm _ _ (by decide : (26 : Nat) ≠ 22), List.set_comm _ _ (by decide : (25 : Nat) ≠ 22), List.set_comm _ _ (by decide : (24 : Nat) ≠ 22), List.set_comm _ _ (by decide : (23 : Nat) ≠ 22), List.set_set]
theorem mw_22 {w : List mC} {c22 c23 c24 c25 c26 c27 c28 c29 c30 : mC} (hw : 30 < w.length) : (mwc w c22 c23 c24 c25 c26 c27 c28 c29 c30)[22]? = some c22 := by
  unfold mwc
  rw [List.getElem?_set_ne (by decide), List.getElem?_set_ne (by decide), List.getElem?_set_ne (by decide), List.getElem?_set_ne (by decide), List.getElem?_set_ne (by decide), List.getElem?_set_ne (by decide), List.getElem?_set_ne (by decide), List.getElem?_set_ne (by decide), List.getElem?_set_self (by first | omega | (simp only [List.length_set]; omega))]
theorem mw_s23 {w : List mC} {c22 c23 c24 c25 c26 c27 c28 c29 c30 x : mC} : (mwc w c22 c23 c24 c25 c26 c27 c28 c29 c30).set (22 + 1) x = mwc w c22 x c24 c25 c26 c27 c28 c29 c30 := by
  show (mwc w c22 c23 c24 c25 c26 c27 c28 c29 c30).set 23 x = _
  unfold mwc
  rw [List.set_comm _ _ (by decide : (30 : Nat) ≠ 23), List.set_comm _ _ (by decide : (29 : Nat) ≠ 23), List.set_comm _ _ (by decide : (28 : Nat) ≠ 23), List.set_comm _ _ (by decide : (27 : Nat) ≠ 23), List.set_comm _ _ (by decide : (26 : Nat) ≠ 23), List.set_comm _ _ (by decide : (25 : Nat) ≠ 23), List.set_comm _ _ (by decide : (24 : Nat) ≠ 23), List.set_set]
theorem mw_23 {w : List mC} {c22 c23 c24 c25 c26 c27 c28 c29 c30 : mC} (hw : 30 < w.length) : (mwc w c22 c23 c24 c25 c26 c27 c28 c29 c30)[23]? = some c23 := by
  unfold mwc
  rw [List.getElem?_set_ne (by decide), List.getElem?_set_ne (by decide), List.getElem?_set_ne (by decide), List.getElem?_set_ne (by decide), List.getElem?_set_ne (by decide), List.getElem?_set_ne (by decide), List.getElem?_set_ne (by decide), List.getElem?_set_self (by first | omega | (simp only [List.length_set]; omega))]
theorem mw_s24 {w : List mC} {c22 c23 c24 c25 c26 c27 c28 c29 c30 x : mC} : (mwc w c22 c23 c24 c25 c26 c27 c28 c29 c30).set (23 + 1) x = mwc w c22 c23 x c25 c26 c27 c28 c29 c30 := by
  show (mwc w c22 c23 c24 c25 c26 c27 c28 c29 c30).set 24 x = _
  unfold mwc
  rw [List.set_comm _ _ (by decide : (30 : Nat) ≠ 24), List.set_comm _ _ (by decide : (29 : Nat) ≠ 24), List.set_comm _ _ (by decide : (28 : Nat) ≠ 24), List.set_comm _ _ (by decide : (27 : Nat) ≠ 24), List.set_comm _ _ (by decide : (26 : Nat) ≠ 24), List.set_comm _ _ (by decide : (25 : Nat) ≠ 24), List.set_set]
theorem mw_24 {w : List mC} {c22 c23 c24 c25 c26 c27 c28 c29 c30 : mC} (hw : 30 < w.length) : (mwc w c22 c23 c24 c25 c26 c27 c28 c29 c30)[24]? = some c24 := by
  unfold mwc
  rw [List.getElem?_set_ne (by decide), List.getElem?_set_ne (by decide), List.getElem?_set_ne (by decide), List.getElem?_set_ne (by decide), List.getElem?_set_ne (by decide), List.getElem?_set_ne (by decide), List.getElem?_set_self (by first | omega | (simp only [List.length_set]; omega))]
theorem mw_s25 {w : List mC} {c22 c23 c24 c25 c26 c27 c28 c29 c30 x : mC} : (mwc w c22 c23 c24 c25 c26 c27 c28 c29 c30).set (24 + 1) x = mwc w c22 c23 c24 x c26 c27 c28 c29 c30 := by
  show (mwc w c22 c23 c24 c25 c26 c27 c28 c29 c30).set 25 x = _
  unfold mwc
  rw [List.set_comm _ _ (by decide : (30 : Nat) ≠ 25), List.set_comm _ _ (by decide : (29 : Nat) ≠ 25), List.set_comm _ _ (by decide : (28 : Nat) ≠ 25), List.set_comm _ _ (by decide : (27 : Nat) ≠ 25), List.set_comm _ _ (by decide : (26 : Nat) ≠ 25), List.set_set]
theorem mw_25 {w : List mC} {c22 c23 c24 c25 c26 c27 c28 c29 c30 : mC} (hw : 30 < w.length) : (mwc w c22 c23 c24 c25 c26 c27 c28 c29 c30)[25]? = some c25 := by
  unfold mwc
  rw [List.getElem?_set_ne (by decide), List.getElem?_set_ne (by decide), List.getElem?_set_ne (by decide), List.getElem?_set_ne (by decide), List.getElem?_set_ne (by decide), List.getElem?_set_self (by first | omega | (simp only [List.length_set]; omega))]
theorem mw_s26 {w : List mC} {c22 c23 c24 c25 c26 c27 c28 c29 c30 x : mC} : (mwc w c22 c23 c24 c25 c26 c27 c28 c29 c30).set (25 + 1) x = mwc w c22 c23 c24 c25 x c27 c28 c29 c30 := by
  show (mwc w c22 c23 c24 c25 c26 c27 c28 c29 c30).set 26 x = _
  unfold mwc
  rw [List.set_comm _ _ (by decide : (30 : Nat) ≠ 26), List.set_comm _ _ (by decide : (29 : Nat) ≠ 26), List.set_comm _ _ (by decide : (28 : Nat) ≠ 26), List.set_comm _ _ (by decide : (27 : Nat) ≠ 26), List.set_set]
theorem mw_26 {w : List mC} {c22 c23 c24 c25 c26 c27 c28 c29 c30 : mC} (hw : 30 < w.length) : (mwc w c22 c23 c24 c25 c26 c27 c28 c29 c30)[26]? = some c26 := by
  unfold mwc
  rw [List.getElem?_set_ne (by decide), List.getElem?_set_ne (by decide), List.getElem?_set_ne (by decide), List.getElem?_set_ne (by decide), List.getElem?_set_self (by first | omega | (simp only [List.length_set]; omega))]
theorem mw_s27 {w : List mC} {c22 c23 c24 c25 c26 c27 c28 c29 c30 x : mC} : (mwc w c22 c23 c24 c25 c26 c27 c28 c29 c30).set (26 + 1) x = mwc w c22 c23 c24 c25 c26 x c28 c29 c30 := by
  show (mwc w c22 c23 c24 c25 c26 c27 c28 c29 c30).set 27 x = _
  unfold mwc
  rw [List.set_comm _ _ (by decide : (30 : Nat) ≠ 27), List.set_comm _ _ (by decide : (29 : Nat) ≠ 27), List.set_comm _ _ (by decide : (28 : Nat) ≠ 27), List.set_set]
theorem mw_27 {w : List mC} {c22 c23 c24 c25 c26 c27 c28 c29 c30 : mC} (hw : 30 < w.length) : (mwc w c22 c23 c24 c25 c26 c27 c28 c29 c30)[27]? = some c27 := by
  unfold mwc
  rw [List.getElem?_set_ne (by decide), List.getElem?_set_ne (by decide), List.getElem?_set_ne (by decide), List.getElem?_set_self (by first | omega | (simp only [List.length_set]; omega))]
theorem mw_s28 {w : List mC} {c22 c23 c24 c25 c26 c27 c28 c29 c30 x : mC} : (mwc w c22 c23 c24 c25 c26 c27 c28 c29 c30).set (27 + 1) x = mwc w c22 c23 c24 c25 c26 c27 x c29 c30 := by
  show (mwc w c22 c23 c24 c25 c26 c27 c28 c29 c30).set 28 x = _
  unfold mwc
  rw [List.set_comm _ _ (by decide : (30 : Nat) ≠ 28), List.set_comm _ _ (by decide : (29 : Nat) ≠ 28), List.set_set]
theorem mw_28 {w : List mC} {c22 c23 c24 c25 c26 c27 c28 c29 c30 : mC} (hw : 30 < w.length) : (mwc w c22 c23 c24 c25 c26 c27 c28 c29 c30)[28]? = some c28 := by
  unfold mwc
  rw [List.getElem?_set_ne (by decide), List.getElem?_set_ne (by decide), List.getElem?_set_self (by first | omega | (simp only [List.length_set]; omega))]
theorem mw_s29 {w : List mC} {c22 c23 c24 c25 c26 c27 c28 c29 c30 x : mC} : (mwc w c22 c23 c24 c25 c26 c27 c28 c29 c30).set (28 + 1) x = mwc w c22 c23 c24 c25 c26 c27 c28 x c30 := by
  show (mwc w c22 c23 c24 c25 c26 c27 c28 c29 c30).set 29 x = _
  unfold mwc
  rw [List.set_comm _ _ (by decide : (30 : Nat) ≠ 29), List.set_set]
theorem mw_29 {w : List mC} {c22 c23 c24 c25 c26 c27 c28 c29 c30 : mC} (hw : 30 < w.length) : (mwc w c22 c23 c24 c25 c26 c27 c28 c29 c30)[29]? = some c29 := by
  unfold mwc
  rw [List.getElem?_set_ne (by decide), List.getElem?_set_self (by first | omega | (simp only [List.length_set]; omega))]
theorem mw_s30 {w : List mC} {c22 c23 c24 c25 c26 c27 c28 c29 c30 x : mC} : (mwc w c22 c23 c24 c25 c26 c27 c28 c29 c30).set (29 + 1) x = mwc w c22 c23 c24 c25 c26 c27 c28 c29 x := by
  show (mwc w c22 c23 c24 c25 c26 c27 c28 c29 c30).set 30 x = _
  unfold mwc
  rw [List.set_set]
theorem mw_30 {w : List mC} {c22 c23 c24 c25 c26 c27 c28 c29 c30 : mC} (hw : 30 < w.length) : (mwc w c22 c23 c24 c25 c26 c27 c28 c29 c30)[30]? = some c30 := by
  unfold mwc
  rw [List.getElem?_set_self (by first | omega | (simp only [List.length_set]; omega))]
theorem mw_n {w : List mC} {c22 c23 c24 c25 c26 c27 c28 c29 c30 : mC} {i : Nat} (h : i < 22 ∨ 30 < i) : (mwc w c22 c23 c24 c25 c26 c27 c28 c29 c30)[i]? = w[i]? := by
  unfold mwc
  rw [List.getElem?_set_ne (by omega), List.getElem?_set_ne (by omega), List.getElem?_set_ne (by omega), List.getElem?_set_ne (by omega), List.getElem?_set_ne (by omega), List.getElem?_set_ne (by omega), List.getElem?_set_ne (by omega), List.getElem?_set_ne (by omega), List.getElem?_set_ne (by omega)]
theorem mw_len {w : List mC} {c22 c23 c24 c25 c26 c27 c28 c29 c30 : mC} : (mwc w c22 c23 c24 c25 c26 c27 c28 c29 c30).length = w.length := by
  unfold mwc
  simp only [List.length_set]
theorem mw_self {w : List mC} {c22 c23 c24 c25 c26 c27 c28 c29 c30 : mC} (h22 : w[22]? = some c22) (h23 : w[23]? = some c23) (h24 : w[24]? = some c24) (h25 : w[25]? = some c25) (h26 : w[26]? = some c26) (h27 : w[27]? = some c27) (h28 : w[28]? = some c28) (h29 : w[29]? = some c29) (h30 : w[30]? = some c30) : mwc w c22 c23 c24 c25 c26 c27 c28 c29 c30 = w := by
  unfold mwc
  rw [set_get h22, set_get h23, set_get h24, set_get h25, set_get h26, set_get h27, set_get h28, set_get h29, set_get h30]
abbrev oMod (t k W H sz pl so bt : Int) : mC := mO 8 [vI t, vI k, vI W, vI H, .ref 23, .ref 24, .ref 25, .ref 26, .ref 27, .ref 28, vI sz, .ref 29, .ref 30, vI pl, vI so, vI bt]
abbrev mw (w : List mC) (t k W H sz pl so bt : Int) (nb wl : Nat → Bool) (ar mk rc : Nat → Int) (ou : Nat → Bool) (ip fd : Nat → Int) : List mC :=
  mwc w (oMod t k W H sz pl so bt) (cZ 65536 nb) (cZ 65536 wl) (cI 256 ar) (cI 256 mk) (cI 256 rc) (cZ 256 ou) (cI 1200 ip) (cI 256 fd)
abbrev mA (f : Nat → Bool) (a b : Int) : Bool := f (256 * a + b).toNat
variable {G : mG} {M : mM} {R : Room} {Q : Option (Option Value) → List mC → Prop} {nc ns pc : Nat} {L : List (Option Value)} {st : List Value} {w : List mC}
theorem p8_0 {M : mM} (pc' : Nat) {z : Int} {a0 a1 a2 a3 a4 a5 a6 a7 a8 a9 a10 a11 a12 a13 a14 a15 : Value} {c23 c24 c25 c26 c27 c28 c29 c30 : mC} (hM : M.1.cls = RX8) (hd : decode M.2.1 pc = .ok (.putfield 58, 3)) (hp : pc + 3 = pc') (hw : 30 < w.length)
    (k : m_J G M R Q nc ns pc' L st (mwc w (mO 8 [vI z, a1, a2, a3, a4, a5, a6, a7, a8, a9, a10, a11, a12, a13, a14, a15]) c23 c24 c25 c26 c27 c28 c29 c30)) : m_J G M R Q nc ns pc L (vI z :: .ref 22 :: st) (mwc w (mO 8 [a0, a1, a2, a3, a4, a5, a6, a7, a8, a9, a10, a11, a12, a13, a14, a15]) c23 c24 c25 c26 c27 c28 c29 c30) := by
  refine m_putf pc' tyX8 rfl tyX8_ok nmX8 (Or.inl rfl) (show m_fo M.1.cls 58 8 0 by rw [hM]; exact foX8_58) hd hp (mw_22 hw) (Nat.le_of_ble_eq_true rfl) (Or.inl ⟨rfl, _, rfl⟩) ?_
  rw [mw_s22]
  exact k
theorem p8_1 {M : mM} (pc' : Nat) {z : Int} {a0 a1 a2 a3 a4 a5 a6 a7 a8 a9 a10 a11 a12 a13 a14 a15 : Value} {c23 c24 c25 c26 c27 c28 c29 c30 : mC} (hM : M.1.cls = RX8) (hd : decode M.2.1 pc = .ok (.putfield 40, 3)) (hp : pc + 3 = pc') (hw : 30 < w.length)
    (k : m_J G M R Q nc ns pc' L st (mwc w (mO 8 [a0, vI z, a2, a3, a4, a5, a6, a7, a8, a9, a10, a11, a12, a13, a14, a15]) c23 c24 c25 c26 c27 c28 c29 c30)) : m_J G M R Q nc ns pc L (vI z :: .ref 22 :: st) (mwc w (mO 8 [a0, a1, a2, a3, a4, a5, a6, a7, a8, a9, a10, a11, a12, a13, a14, a15]) c23 c24 c25 c26 c27 c28 c29 c30) := by
  refine m_putf pc' tyX8 rfl tyX8_ok nmX8 (Or.inl rfl) (show m_fo M.1.cls 40 8 1 by rw [hM]; exact foX8_40) hd hp (mw_22 hw) (Nat.le_of_ble_eq_true rfl) (Or.inl ⟨rfl, _, rfl⟩) ?_
  rw [mw_s22]
  exact k
theorem p8_2 {M : mM} (pc' : Nat) {z : Int} {a0 a1 a2 a3 a4 a5 a6 a7 a8 a9 a10 a11 a12 a13 a14 a15 : Value} {c23 c24 c25 c26 c27 c28 c29 c30 : mC} (hM : M.1.cls = RX8) (hd : decode M.2.1 pc = .ok (.putfield 44, 3)) (hp : pc + 3 = pc') (hw : 30 < w.length)
    (k : m_J G M R Q nc ns pc' L st (mwc w (mO 8 [a0, a1, vI z, a3, a4, a5, a6, a7, a8, a9, a10, a11, a12, a13, a14, a15]) c23 c24 c25 c26 c27 c28 c29 c30)) : m_J G M R Q nc ns pc L (vI z :: .ref 22 :: st) (mwc w (mO 8 [a0, a1, a2, a3, a4, a5, a6, a7, a8, a9, a10, a11, a12, a13, a14, a15]) c23 c24 c25 c26 c27 c28 c29 c30) := by
  refine m_putf pc' tyX8 rfl tyX8_ok nmX8 (Or.inl rfl) (show m_fo M.1.cls 44 8 2 by rw [hM]; exact foX8_44) hd hp (mw_22 hw) (Nat.le_of_ble_eq_true rfl) (Or.inl ⟨rfl, _, rfl⟩) ?_
  rw [mw_s22]
  exact k
theorem p8_3 {M : mM} (pc' : Nat) {z : Int} {a0 a1 a2 a3 a4 a5 a6 a7 a8 a9 a10 a11 a12 a13 a14 a15 : Value} {c23 c24 c25 c26 c27 c28 c29 c30 : mC} (hM : M.1.cls = RX8) (hd : decode M.2.1 pc = .ok (.putfield 47, 3)) (hp : pc + 3 = pc') (hw : 30 < w.length)
    (k : m_J G M R Q nc ns pc' L st (mwc w (mO 8 [a0, a1, a2, vI z, a4, a5, a6, a7, a8, a9, a10, a11, a12, a13, a14, a15]) c23 c24 c25 c26 c27 c28 c29 c30)) : m_J G M R Q nc ns pc L (vI z :: .ref 22 :: st) (mwc w (mO 8 [a0, a1, a2, a3, a4, a5, a6, a7, a8, a9, a10, a11, a12, a13, a14, a15]) c23 c24 c25 c26 c27 c28 c29 c30) := by
  refine m_putf pc' tyX8 rfl tyX8_ok nmX8 (Or.inl rfl) (show m_fo M.1.cls 47 8 3 by rw [hM]; exact foX8_47) hd hp (mw_22 hw) (Nat.le_of_ble_eq_true rfl) (Or.inl ⟨rfl, _, rfl⟩) ?_
  rw [mw_s22]
  exact k
theorem p8_10 {M : mM} (pc' : Nat) {z : Int} {a0 a1 a2 a3 a4 a5 a6 a7 a8 a9 a10 a11 a12 a13 a14 a15 : Value} {c23 c24 c25 c26 c27 c28 c29 c30 : mC} (hM : M.1.cls = RX8) (hd : decode M.2.1 pc = .ok (.putfield 116, 3)) (hp : pc + 3 = pc') (hw : 30 < w.length)
    (k : m_J G M R Q nc ns pc' L st (mwc w (mO 8 [a0, a1, a2, a3, a4, a5, a6, a7, a8, a9, vI z, a11, a12, a13, a14, a15]) c23 c24 c25 c26 c27 c28 c29 c30)) : m_J G M R Q nc ns pc L (vI z :: .ref 22 :: st) (mwc w (mO 8 [a0, a1, a2, a3, a4, a5, a6, a7, a8, a9, a10, a11, a12, a13, a14, a15]) c23 c24 c25 c26 c27 c28 c29 c30) := by
  refine m_putf pc' tyX8 rfl tyX8_ok nmX8 (Or.inl rfl) (show m_fo M.1.cls 116 8 10 by rw [hM]; exact foX8_116) hd hp (mw_22 hw) (Nat.le_of_ble_eq_true rfl) (Or.inl ⟨rfl, _, rfl⟩) ?_
  rw [mw_s22]
  exact k
theorem p8_13 {M : mM} (pc' : Nat) {z : Int} {a0 a1 a2 a3 a4 a5 a6 a7 a8 a9 a10 a11 a12 a13 a14 a15 : Value} {c23 c24 c25 c26 c27 c28 c29 c30 : mC} (hM : M.1.cls = RX8) (hd : decode M.2.1 pc = .ok (.putfield 104, 3)) (hp : pc + 3 = pc') (hw : 30 < w.length)
    (k : m_J G M R Q nc ns pc' L st (mwc w (mO 8 [a0, a1, a2, a3, a4, a5, a6, a7, a8, a9, a10, a11, a12, vI z, a14, a15]) c23 c24 c25 c26 c27 c28 c29 c30)) : m_J G M R Q nc ns pc L (vI z :: .ref 22 :: st) (mwc w (mO 8 [a0, a1, a2, a3, a4, a5, a6, a7, a8, a9, a10, a11, a12, a13, a14, a15]) c23 c24 c25 c26 c27 c28 c29 c30) := by
  refine m_putf pc' tyX8 rfl tyX8_ok nmX8 (Or.inl rfl) (show m_fo M.1.cls 104 8 13 by rw [hM]; exact foX8_104) hd hp (mw_22 hw) (Nat.le_of_ble_eq_true rfl) (Or.inl ⟨rfl, _, rfl⟩) ?_
  rw [mw_s22]
  exact k
theorem p8_14 {M : mM} (pc' : Nat) {z : Int} {a0 a1 a2 a3 a4 a5 a6 a7 a8 a9 a10 a11 a12 a13 a14 a15 : Value} {c23 c24 c25 c26 c27 c28 c29 c30 : mC} (hM : M.1.cls = RX8) (hd : decode M.2.1 pc = .ok (.putfield 107, 3)) (hp : pc + 3 = pc') (hw : 30 < w.length)
    (k : m_J G M R Q nc ns pc' L st (mwc w (mO 8 [a0, a1, a2, a3, a4, a5, a6, a7, a8, a9, a10, a11, a12, a13, vI z, a15]) c23 c24 c25 c26 c27 c28 c29 c30)) : m_J G M R Q nc ns pc L (vI z :: .ref 22 :: st) (mwc w (mO 8 [a0, a1, a2, a3, a4, a5, a6, a7, a8, a9, a10, a11, a12, a13, a14, a15]) c23 c24 c25 c26 c27 c28 c29 c30) := by
  refine m_putf pc' tyX8 rfl tyX8_ok nmX8 (Or.inl rfl) (show m_fo M.1.cls 107 8 14 by rw [hM]; exact foX8_107) hd hp (mw_22 hw) (Nat.le_of_ble_eq_true rfl) (Or.inl ⟨rfl, _, rfl⟩) ?_
  rw [mw_s22]
  exact k
theorem p8_15 {M : mM} (pc' : Nat) {z : Int} {a0 a1 a2 a3 a4 a5 a6 a7 a8 a9 a10 a11 a12 a13 a14 a15 : Value} {c23 c24 c25 c26 c27 c28 c29 c30 : mC} (hM : M.1.cls = RX8) (hd : decode M.2.1 pc = .ok (.putfield 110, 3)) (hp : pc + 3 = pc') (hw : 30 < w.length)
    (k : m_J G M R Q nc ns pc' L st (mwc w (mO 8 [a0, a1, a2, a3, a4, a5, a6, a7, a8, a9, a10, a11, a12, a13, a14, vI z]) c23 c24 c25 c26 c27 c28 c29 c30)) : m_J G M R Q nc ns pc L (vI z :: .ref 22 :: st) (mwc w (mO 8 [a0, a1, a2, a3, a4, a5, a6, a7, a8, a9, a10, a11, a12, a13, a14, a15]) c23 c24 c25 c26 c27 c28 c29 c30) := by
  refine m_putf pc' tyX8 rfl tyX8_ok nmX8 (Or.inl rfl) (show m_fo M.1.cls 110 8 15 by rw [hM]; exact foX8_110) hd hp (mw_22 hw) (Nat.le_of_ble_eq_true rfl) (Or.inl ⟨rfl, _, rfl⟩) ?_
  rw [mw_s22]
  exact k
set_option maxHeartbeats 4000000 in
set_option maxRecDepth 100000 in
theorem c_X8_thrown (hG : m_G G) (d : Nat) {k W H : Int} {n : Nat} (hF : fOK k W H n) {t sz pl so bt : Int} {nb wl ou : Nat → Bool} {ar mk rc ip fd : Nat → Int} (hw : 30 < w.length) : m_Cv G MX8_thrown (m_r d 0 0) [.ref 22] (mw w t k W H sz pl so bt nb wl ar mk rc ou ip fd) (some (vI t)) (mw w t k W H sz pl so bt nb wl ar mk rc ou ip fd) := by
  have hFF := hF
  have hnb := hF.n
  obtain ⟨hk0, hk4, hW1, hW2, hH1, hH2, hn, hg4⟩ := hF
  refine m_enter (L := [some (.ref 22)]) (by decide) hG (m_c1 rfl) (Nat.le_of_ble_eq_true rfl) rfl ?_
  refine m_aload_n 1 dX8_thrown_0 rfl rfl ?_
  refine m_getf 4 foX8_58 dX8_thrown_1 rfl (mw_22 hw) (by rfl) ?_
  refine i_ret _ dX8_thrown_4 rfl ⟨Nat.le_refl _, Nat.le_refl _⟩ ?_ ⟨rfl, rfl⟩
  rfl
set_option maxHeartbeats 4000000 in
set_option maxRecDepth 100000 in
theorem c_X8_fails (hG : m_G G) (d : Nat) {k W H : Int} {n : Nat} (hF : fOK k W H n) {t sz pl so bt : Int} {nb wl ou : Nat → Bool} {ar mk rc ip fd : Nat → Int} (hw : 30 < w.length) {b : Bool} : m_Cv G MX8_fails (m_r d 0 0) [.ref 22, vB b] (mw w t k W H sz pl so bt nb wl ar mk rc ou ip fd) (some (vB b)) (mw w (if b then 1 else 0) k W H sz pl so bt nb wl ar mk rc ou ip fd) := by
  have hFF := hF
  have hnb := hF.n
  obtain ⟨hk0, hk4, hW1, hW2, hH1, hH2, hn, hg4⟩ := hF
  refine m_enter (L := [some (.ref 22), some (vB b)]) (by decide) hG (m_c1 rfl) (Nat.le_of_ble_eq_true rfl) rfl ?_
  refine m_aload_n 1 dX8_fails_0 rfl rfl ?_
  refine m_iload_n 2 dX8_fails_1 rfl rfl ?_
  refine b_if_eq 5 9 dX8_fails_2 rfl (by decide) (fun q2 => ?_) (fun q2 => ?_)
  · refine i_const 10 dX8_fails_9 rfl ?_
    refine p8_0 (M := MX8_fails) 13 rfl dX8_fails_10 rfl hw ?_
    refine m_iload_n 14 dX8_fails_13 rfl rfl ?_
    refine i_retB _ dX8_fails_14 rfl ⟨Nat.le_refl _, Nat.le_refl _⟩ ?_ ⟨rfl, by rw [q2]; rfl⟩
    refine congrArg vB ?_
    rfl
  · refine i_const 6 dX8_fails_5 rfl ?_
    refine m_goto 10 dX8_fails_6 (by decide) ?_
    refine p8_0 (M := MX8_fails) 13 rfl dX8_fails_10 rfl hw ?_
    refine m_iload_n 14 dX8_fails_13 rfl rfl ?_
    refine i_retB _ dX8_fails_14 rfl ⟨Nat.le_refl _, Nat.le_refl _⟩ ?_ ⟨rfl, by rw [q2]; rfl⟩
    refine congrArg vB ?_
    rfl
set_option maxHeartbeats 4000000 in
set_option maxRecDepth 100000 in
theorem c_X8_held (hG : m_G G) (d : Nat) {v a b : Int} (hv : iR v) (ha : iR a) (hb : iR b) (hab : a ≤ b) : m_Cv G MX8_held (m_r d 0 0) [vI v, vI a, vI b] w (some (vI (wtn v a b))) w := by
  obtain ⟨hv1, hv2⟩ := hv
  obtain ⟨ha1, ha2⟩ := ha
  obtain ⟨hb1, hb2⟩ := hb
  refine m_enter (L := [some (vI v), some (vI a), some (vI b)]) (by decide) hG (m_c1 rfl) (Nat.le_of_ble_eq_true rfl) rfl ?_
  refine m_iload_n 1 dX8_held_0 rfl rfl ?_
  refine m_iload_n 2 dX8_held_1 rfl rfl ?_
  refine i_icmp_ge 5 9 ⟨by omega, by omega⟩ ⟨by omega, by omega⟩ dX8_held_2 rfl (by decide) (fun q2 => ?_) (fun q2 => ?_)
  · refine m_iload_n 10 dX8_held_9 rfl rfl ?_
    refine m_iload_n 11 dX8_held_10 rfl rfl ?_
    refine i_icmp_le 14 18 ⟨by omega, by omega⟩ ⟨by omega, by omega⟩ dX8_held_11 rfl (by decide) (fun q11 => ?_) (fun q11 => ?_)
    · refine m_iload_n 19 dX8_held_18 rfl rfl ?_
      refine i_ret _ dX8_held_19 rfl ⟨Nat.le_refl _, Nat.le_refl _⟩ ?_ ⟨rfl, rfl⟩
      unfold wtn
      split <;> first | omega | (split <;> omega)
    · refine m_iload_n 15 dX8_held_14 rfl rfl ?_
      refine m_goto 19 dX8_held_15 (by decide) ?_
      refine i_ret _ dX8_held_19 rfl ⟨Nat.le_refl _, Nat.le_refl _⟩ ?_ ⟨rfl, rfl⟩
      unfold wtn
      split <;> first | omega | (split <;> omega)
  · refine m_iload_n 6 dX8_held_5 rfl rfl ?_
    refine m_goto 19 dX8_held_6 (by decide) ?_
    refine i_ret _ dX8_held_19 rfl ⟨Nat.le_refl _, Nat.le_refl _⟩ ?_ ⟨rfl, rfl⟩
    unfold wtn
    split <;> first | omega | (split <;> omega)
set_option maxHeartbeats 4000000 in
set_option maxRecDepth 100000 in
theorem c_X8_all (hG : m_G G) (d : Nat) {k W H : Int} {n : Nat} (hF : fOK k W H n) {t sz pl so bt : Int} {nb wl ou : Nat → Bool} {ar mk rc ip fd : Nat → Int} (hw : 30 < w.length) : m_Cv G MX8_all (m_r d 0 0) [.ref 22] (mw w t k W H sz pl so bt nb wl ar mk rc ou ip fd) (some (vI n)) (mw w t k W H sz pl so bt nb wl ar mk rc ou ip fd) := by
  have hFF := hF
  have hnb := hF.n
  obtain ⟨hk0, hk4, hW1, hW2, hH1, hH2, hn, hg4⟩ := hF
  refine m_enter (L := [some (.ref 22)]) (by decide) hG (m_c1 rfl) (Nat.le_of_ble_eq_true rfl) rfl ?_
  refine m_aload_n 1 dX8_all_0 rfl rfl ?_
  refine m_getf 4 foX8_44 dX8_all_1 rfl (mw_22 hw) (by rfl) ?_
  refine m_aload_n 5 dX8_all_4 rfl rfl ?_
  refine m_getf 8 foX8_47 dX8_all_5 rfl (mw_22 hw) (by rfl) ?_
  refine i_mul 9 dX8_all_8 rfl ?_
  refine i_ret _ dX8_all_9 rfl ⟨Nat.le_refl _, Nat.le_refl _⟩ ?_ ⟨rfl, rfl⟩
  rw [hn]
set_option maxHeartbeats 4000000 in
set_option maxRecDepth 100000 in
theorem c_X8_isPlace (hG : m_G G) (d : Nat) {k W H : Int} {n : Nat} (hF : fOK k W H n) {t sz pl so bt : Int} {nb wl ou : Nat → Bool} {ar mk rc ip fd : Nat → Int} (hw : 30 < w.length) {z : Int} (hz : iR z) : m_Cv G MX8_isPlace (m_r (d + 1) 0 0) [.ref 22, vI z] (mw w t k W H sz pl so bt nb wl ar mk rc ou ip fd) (some (vB (inB z n))) (mw w t k W H sz pl so bt nb wl ar mk rc ou ip fd) := by
  have hFF := hF
  have hnb := hF.n
  obtain ⟨hk0, hk4, hW1, hW2, hH1, hH2, hn, hg4⟩ := hF
  obtain ⟨hz1, hz2⟩ := hz
  refine m_enter (L := [some (.ref 22), some (vI z)]) (by decide) hG (m_c1 rfl) (Nat.le_of_ble_eq_true rfl) rfl ?_
  refine m_iload_n 1 dX8_isPlace_0 rfl rfl ?_
  refine i_if_lt 4 16 ⟨by omega, by omega⟩ dX8_isPlace_1 rfl (by decide) (fun q1 => ?_) (fun q1 => ?_)
  · refine i_const 17 dX8_isPlace_16 rfl ?_
    refine i_retB _ dX8_isPlace_17 rfl ⟨Nat.le_refl _, Nat.le_refl _⟩ ?_ ⟨rfl, rfl⟩
    refine i_eq0 ?_
    exact inB_0 (by omega)
  · refine m_iload_n 5 dX8_isPlace_4 rfl rfl ?_
    refine m_aload_n 6 dX8_isPlace_5 rfl rfl ?_
    refine m_cV (M' := MX8_all) 9 [] kX8_50 imX8_all seX8_all clX8_all dX8_isPlace_6 rfl rfl rfl (mw_22 hw) (m_rmI (by omega) (Nat.le_of_ble_eq_true rfl) (Nat.le_refl _) (Nat.le_refl _)) (c_X8_all hG (d) hFF hw) ?_
    refine i_icmp_ge 12 16 ⟨by omega, by omega⟩ ⟨by omega, by omega⟩ dX8_isPlace_9 rfl (by decide) (fun q9 => ?_) (fun q9 => ?_)
    · refine i_const 17 dX8_isPlace_16 rfl ?_
      refine i_retB _ dX8_isPlace_17 rfl ⟨Nat.le_refl _, Nat.le_refl _⟩ ?_ ⟨rfl, rfl⟩
      refine i_eq0 ?_
      exact inB_0 (by omega)
    · refine i_const 13 dX8_isPlace_12 rfl ?_
      refine m_goto 17 dX8_isPlace_13 (by decide) ?_
      refine i_retB _ dX8_isPlace_17 rfl ⟨Nat.le_refl _, Nat.le_refl _⟩ ?_ ⟨rfl, rfl⟩
      refine i_eq1 ?_
      exact inB_1 (by omega)
set_option maxHeartbeats 4000000 in
set_option maxRecDepth 100000 in
theorem c_X8_at (hG : m_G G) (d : Nat) {k W H : Int} {n : Nat} (hF : fOK k W H n) {t sz pl so bt : Int} {nb wl ou : Nat → Bool} {ar mk rc ip fd : Nat → Int} (hw : 30 < w.length) {x y : Int} (hx : iR x) (hy : iR y) : m_Cv G MX8_at (m_r d 0 0) [.ref 22, vI x, vI y] (mw w t k W H sz pl so bt nb wl ar mk rc ou ip fd) (some (vI (plA W H x y))) (mw w t k W H sz pl so bt nb wl ar mk rc ou ip fd) := by
  have hFF := hF
  have hnb := hF.n
  obtain ⟨hk0, hk4, hW1, hW2, hH1, hH2, hn, hg4⟩ := hF
  obtain ⟨hx1, hx2⟩ := hx
  obtain ⟨hy1, hy2⟩ := hy
  refine m_enter (L := [some (.ref 22), some (vI x), some (vI y)]) (by decide) hG (m_c1 rfl) (Nat.le_of_ble_eq_true rfl) rfl ?_
  refine m_iload_n 1 dX8_at_0 rfl rfl ?_
  refine i_if_lt 4 24 ⟨by omega, by omega⟩ dX8_at_1 rfl (by decide) (fun q1 => ?_) (fun q1 => ?_)
  · refine i_const 25 dX8_at_24 rfl ?_
    refine m_goto 36 dX8_at_25 (by decide) ?_
    refine i_ret _ dX8_at_36 rfl ⟨Nat.le_refl _, Nat.le_refl _⟩ ?_ ⟨rfl, rfl⟩
    unfold plA
    first | rw [if_neg (by omega)] | rw [if_pos (by omega)]
  · refine m_iload_n 5 dX8_at_4 rfl rfl ?_
    refine m_aload_n 6 dX8_at_5 rfl rfl ?_
    refine m_getf 9 foX8_44 dX8_at_6 rfl (mw_22 hw) (by rfl) ?_
    refine i_icmp_ge 12 24 ⟨by omega, by omega⟩ ⟨by omega, by omega⟩ dX8_at_9 rfl (by decide) (fun q9 => ?_) (fun q9 => ?_)
    · refine i_const 25 dX8_at_24 rfl ?_
      refine m_goto 36 dX8_at_25 (by decide) ?_
      refine i_ret _ dX8_at_36 rfl ⟨Nat.le_refl _, Nat.le_refl _⟩ ?_ ⟨rfl, rfl⟩
      unfold plA
      first | rw [if_neg (by omega)] | rw [if_pos (by omega)]
    · refine m_iload_n 13 dX8_at_12 rfl rfl ?_
      refine i_if_lt 16 24 ⟨by omega, by omega⟩ dX8_at_13 rfl (by decide) (fun q13 => ?_) (fun q13 => ?_)
      · refine i_const 25 dX8_at_24 rfl ?_
        refine m_goto 36 dX8_at_25 (by decide) ?_
        refine i_ret _ dX8_at_36 rfl ⟨Nat.le_refl _, Nat.le_refl _⟩ ?_ ⟨rfl, rfl⟩
        unfold plA
        first | rw [if_neg (by omega)] | rw [if_pos (by omega)]
      · refine m_iload_n 17 dX8_at_16 rfl rfl ?_
        refine m_aload_n 18 dX8_at_17 rfl rfl ?_
        refine m_getf 21 foX8_47 dX8_at_18 rfl (mw_22 hw) (by rfl) ?_
        refine i_icmp_lt 24 28 ⟨by omega, by omega⟩ ⟨by omega, by omega⟩ dX8_at_21 rfl (by decide) (fun q21 => ?_) (fun q21 => ?_)
        · refine m_aload_n 29 dX8_at_28 rfl rfl ?_
          refine m_getf 32 foX8_44 dX8_at_29 rfl (mw_22 hw) (by rfl) ?_
          refine m_iload_n 33 dX8_at_32 rfl rfl ?_
          refine i_mul 34 dX8_at_33 rfl ?_
          refine m_iload_n 35 dX8_at_34 rfl rfl ?_
          refine i_add 36 dX8_at_35 rfl ?_
          refine i_ret _ dX8_at_36 rfl ⟨Nat.le_refl _, Nat.le_refl _⟩ ?_ ⟨rfl, rfl⟩
          unfold plA
          first | rw [if_neg (by omega)] | rw [if_pos (by omega)]
        · refine i_const 25 dX8_at_24 rfl ?_
          refine m_goto 36 dX8_at_25 (by decide) ?_
          refine i_ret _ dX8_at_36 rfl ⟨Nat.le_refl _, Nat.le_refl _⟩ ?_ ⟨rfl, rfl⟩
          unfold plA
          first | rw [if_neg (by omega)] | rw [if_pos (by omega)]
set_option maxHeartbeats 4000000 in
set_option maxRecDepth 100000 in
theorem c_X8_hex (hG : m_G G) (d : Nat) {k W H : Int} {n : Nat} (hF : fOK k W H n) {t sz pl so bt : Int} {nb wl ou : Nat → Bool} {ar mk rc ip fd : Nat → Int} (hw : 30 < w.length) {x y s : Int} (hxy : 0 ≤ x ∧ x < W ∧ 0 ≤ y ∧ y < H) (hs : 0 ≤ s ∧ s < 6) : m_Cv G MX8_hex (m_r (d + 1) 0 0) [.ref 22, vI x, vI y, vI s] (mw w t k W H sz pl so bt nb wl ar mk rc ou ip fd) (some (vI (hxS W H x y s))) (mw w t k W H sz pl so bt nb wl ar mk rc ou ip fd) := by
  have hFF := hF
  have hnb := hF.n
  obtain ⟨hk0, hk4, hW1, hW2, hH1, hH2, hn, hg4⟩ := hF
  have hv : s = 0 ∨ s = 1 ∨ s = 2 ∨ s = 3 ∨ s = 4 ∨ s = 5 := by omega
  rcases hv with hv | hv | hv | hv | hv | hv
  · subst hv
    refine m_enter (L := [some (.ref 22), some (vI x), some (vI y), some (vI 0), none]) (by decide) hG (m_c1 rfl) (Nat.le_of_ble_eq_true rfl) rfl ?_
    refine m_iload_n 1 dX8_hex_0 rfl rfl ?_
    refine m_iload_n 2 dX8_hex_1 rfl rfl ?_
    refine i_const 3 dX8_hex_2 rfl ?_
    refine i_rem 4 dX8_hex_3 rfl ⟨by omega, by omega, by omega, by omega⟩ ?_
    refine i_add 5 dX8_hex_4 rfl ?_
    refine m_istore 7 dX8_hex_5 rfl (by decide) ?_
    refine m_iload_n 8 dX8_hex_7 rfl rfl ?_
    refine i_tableIn 44 ⟨by omega, by omega⟩ dX8_hex_8 (by decide) (by decide) rfl (by decide) ?_
    refine m_aload_n 45 dX8_hex_44 rfl rfl ?_
    refine m_iload 47 dX8_hex_45 rfl rfl ?_
    refine m_iload_n 48 dX8_hex_47 rfl rfl ?_
    refine i_const 49 dX8_hex_48 rfl ?_
    refine i_sub 50 dX8_hex_49 rfl ?_
    refine m_cV (M' := MX8_at) 53 [_, _] kX8_61 imX8_at seX8_at clX8_at dX8_hex_50 rfl rfl rfl (mw_22 hw) (m_rmI (by omega) (Nat.le_of_ble_eq_true rfl) (Nat.le_refl _) (Nat.le_refl _)) (c_X8_at hG (d) hFF hw ⟨by omega, by omega⟩ ⟨by omega, by omega⟩) ?_
    refine i_ret _ dX8_hex_53 rfl ⟨Nat.le_refl _, Nat.le_refl _⟩ ?_ ⟨rfl, rfl⟩
    rfl
  · subst hv
    refine m_enter (L := [some (.ref 22), some (vI x), some (vI y), some (vI 1), none]) (by decide) hG (m_c1 rfl) (Nat.le_of_ble_eq_true rfl) rfl ?_
    refine m_iload_n 1 dX8_hex_0 rfl rfl ?_
    refine m_iload_n 2 dX8_hex_1 rfl rfl ?_
    refine i_const 3 dX8_hex_2 rfl ?_
    refine i_rem 4 dX8_hex_3 rfl ⟨by omega, by omega, by omega, by omega⟩ ?_
    refine i_add 5 dX8_hex_4 rfl ?_
    refine m_istore 7 dX8_hex_5 rfl (by decide) ?_
    refine m_iload_n 8 dX8_hex_7 rfl rfl ?_
    refine i_tableIn 54 ⟨by omega, by omega⟩ dX8_hex_8 (by decide) (by decide) rfl (by decide) ?_
    refine m_aload_n 55 dX8_hex_54 rfl rfl ?_
    refine m_iload_n 56 dX8_hex_55 rfl rfl ?_
    refine i_const 57 dX8_hex_56 rfl ?_
    refine i_add 58 dX8_hex_57 rfl ?_
    refine m_iload_n 59 dX8_hex_58 rfl rfl ?_
    refine m_cV (M' := MX8_at) 62 [_, _] kX8_61 imX8_at seX8_at clX8_at dX8_hex_59 rfl rfl rfl (mw_22 hw) (m_rmI (by omega) (Nat.le_of_ble_eq_true rfl) (Nat.le_refl _) (Nat.le_refl _)) (c_X8_at hG (d) hFF hw ⟨by omega, by omega⟩ ⟨by omega, by omega⟩) ?_
    refine i_ret _ dX8_hex_62 rfl ⟨Nat.le_refl _, Nat.le_refl _⟩ ?_ ⟨rfl, rfl⟩
    rfl
  · subst hv
    refine m_enter (L := [some (.ref 22), some (vI x), some (vI y), some (vI 2), none]) (by decide) hG (m_c1 rfl) (Nat.le_of_ble_eq_true rfl) rfl ?_
    refine m_iload_n 1 dX8_hex_0 rfl rfl ?_
    refine m_iload_n 2 dX8_hex_1 rfl rfl ?_
    refine i_const 3 dX8_hex_2 rfl ?_
    refine i_rem 4 dX8_hex_3 rfl ⟨by omega, by omega, by omega, by omega⟩ ?_
    refine i_add 5 dX8_hex_4 rfl ?_
    refine m_istore 7 dX8_hex_5 rfl (by decide) ?_
    refine m_iload_n 8 dX8_hex_7 rfl rfl ?_
    refine i_tableIn 63 ⟨by omega, by omega⟩ dX8_hex_8 (by decide) (by decide) rfl (by decide) ?_
    refine m_aload_n 64 dX8_hex_63 rfl rfl ?_
    refine m_iload 66 dX8_hex_64 rfl rfl ?_
    refine m_iload_n 67 dX8_hex_66 rfl rfl ?_
    refine i_const 68 dX8_hex_67 rfl ?_
    refine i_add 69 dX8_hex_68 rfl ?_
    refine m_cV (M' := MX8_at) 72 [_, _] kX8_61 imX8_at seX8_at clX8_at dX8_hex_69 rfl rfl rfl (mw_22 hw) (m_rmI (by omega) (Nat.le_of_ble_eq_true rfl) (Nat.le_refl _) (Nat.le_refl _)) (c_X8_at hG (d) hFF hw ⟨by omega, by omega⟩ ⟨by omega, by omega⟩) ?_
    refine i_ret _ dX8_hex_72 rfl ⟨Nat.le_refl _, Nat.le_refl _⟩ ?_ ⟨rfl, rfl⟩
    rfl
  · subst hv
    refine m_enter (L := [some (.ref 22), some (vI x), some (vI y), some (vI 3), none]) (by decide) hG (m_c1 rfl) (Nat.le_of_ble_eq_true rfl) rfl ?_
    refine m_iload_n 1 dX8_hex_0 rfl rfl ?_
    refine m_iload_n 2 dX8_hex_1 rfl rfl ?_
    refine i_const 3 dX8_hex_2 rfl ?_
    refine i_rem 4 dX8_hex_3 rfl ⟨by omega, by omega, by omega, by omega⟩ ?_
    refine i_add 5 dX8_hex_4 rfl ?_
    refine m_istore 7 dX8_hex_5 rfl (by decide) ?_
    refine m_iload_n 8 dX8_hex_7 rfl rfl ?_
    refine i_tableIn 73 ⟨by omega, by omega⟩ dX8_hex_8 (by decide) (by decide) rfl (by decide) ?_
    refine m_aload_n 74 dX8_hex_73 rfl rfl ?_
    refine m_iload 76 dX8_hex_74 rfl rfl ?_
    refine i_const 77 dX8_hex_76 rfl ?_
    refine i_sub 78 dX8_hex_77 rfl ?_
    refine m_iload_n 79 dX8_hex_78 rfl rfl ?_
    refine i_const 80 dX8_hex_79 rfl ?_
    refine i_add 81 dX8_hex_80 rfl ?_
    refine m_cV (M' := MX8_at) 84 [_, _] kX8_61 imX8_at seX8_at clX8_at dX8_hex_81 rfl rfl rfl (mw_22 hw) (m_rmI (by omega) (Nat.le_of_ble_eq_true rfl) (Nat.le_refl _) (Nat.le_refl _)) (c_X8_at hG (d) hFF hw ⟨by omega, by omega⟩ ⟨by omega, by omega⟩) ?_
    refine i_ret _ dX8_hex_84 rfl ⟨Nat.le_refl _, Nat.le_refl _⟩ ?_ ⟨rfl, rfl⟩
    rfl
  · subst hv
    refine m_enter (L := [some (.ref 22), some (vI x), some (vI y), some (vI 4), none]) (by decide) hG (m_c1 rfl) (Nat.le_of_ble_eq_true rfl) rfl ?_
    refine m_iload_n 1 dX8_hex_0 rfl rfl ?_
    refine m_iload_n 2 dX8_hex_1 rfl rfl ?_
    refine i_const 3 dX8_hex_2 rfl ?_
    refine i_rem 4 dX8_hex_3 rfl ⟨by omega, by omega, by omega, by omega⟩ ?_
    refine i_add 5 dX8_hex_4 rfl ?_
    refine m_istore 7 dX8_hex_5 rfl (by decide) ?_
    refine m_iload_n 8 dX8_hex_7 rfl rfl ?_
    refine i_tableIn 85 ⟨by omega, by omega⟩ dX8_hex_8 (by decide) (by decide) rfl (by decide) ?_
    refine m_aload_n 86 dX8_hex_85 rfl rfl ?_
    refine m_iload_n 87 dX8_hex_86 rfl rfl ?_
    refine i_const 88 dX8_hex_87 rfl ?_
    refine i_sub 89 dX8_hex_88 rfl ?_
    refine m_iload_n 90 dX8_hex_89 rfl rfl ?_
    refine m_cV (M' := MX8_at) 93 [_, _] kX8_61 imX8_at seX8_at clX8_at dX8_hex_90 rfl rfl rfl (mw_22 hw) (m_rmI (by omega) (Nat.le_of_ble_eq_true rfl) (Nat.le_refl _) (Nat.le_refl _)) (c_X8_at hG (d) hFF hw ⟨by omega, by omega⟩ ⟨by omega, by omega⟩) ?_
    refine i_ret _ dX8_hex_93 rfl ⟨Nat.le_refl _, Nat.le_refl _⟩ ?_ ⟨rfl, rfl⟩
    rfl
  · subst hv
    refine m_enter (L := [some (.ref 22), some (vI x), some (vI y), some (vI 5), none]) (by decide) hG (m_c1 rfl) (Nat.le_of_ble_eq_true rfl) rfl ?_
    refine m_iload_n 1 dX8_hex_0 rfl rfl ?_
    refine m_iload_n 2 dX8_hex_1 rfl rfl ?_
    refine i_const 3 dX8_hex_2 rfl ?_
    refine i_rem 4 dX8_hex_3 rfl ⟨by omega, by omega, by omega, by omega⟩ ?_
    refine i_add 5 dX8_hex_4 rfl ?_
    refine m_istore 7 dX8_hex_5 rfl (by decide) ?_
    refine m_iload_n 8 dX8_hex_7 rfl rfl ?_
    refine i_tableOut 94 ⟨by omega, by omega⟩ dX8_hex_8 (by decide) (by decide) ?_
    refine m_aload_n 95 dX8_hex_94 rfl rfl ?_
    refine m_iload 97 dX8_hex_95 rfl rfl ?_
    refine i_const 98 dX8_hex_97 rfl ?_
    refine i_sub 99 dX8_hex_98 rfl ?_
    refine m_iload_n 100 dX8_hex_99 rfl rfl ?_
    refine i_const 101 dX8_hex_100 rfl ?_
    refine i_sub 102 dX8_hex_101 rfl ?_
    refine m_cV (M' := MX8_at) 105 [_, _] kX8_61 imX8_at seX8_at clX8_at dX8_hex_102 rfl rfl rfl (mw_22 hw) (m_rmI (by omega) (Nat.le_of_ble_eq_true rfl) (Nat.le_refl _) (Nat.le_refl _)) (c_X8_at hG (d) hFF hw ⟨by omega, by omega⟩ ⟨by omega, by omega⟩) ?_
    refine i_ret _ dX8_hex_105 rfl ⟨Nat.le_refl _, Nat.le_refl _⟩ ?_ ⟨rfl, rfl⟩
    rfl

set_option maxHeartbeats 4000000 in
set_option maxRecDepth 100000 in
theorem c_X8_ring (hG : m_G G) (d : Nat) {k W H : Int} {n : Nat} (hF : fOK k W H n) {t sz pl so bt : Int} {nb wl ou : Nat → Bool} {ar mk rc ip fd : Nat → Int} (hw : 30 < w.length) {x y s : Int} (hxy : 0 ≤ x ∧ x < W ∧ 0 ≤ y ∧ y < H) (hs : 0 ≤ s ∧ s < 6) : m_Cv G MX8_ring (m_r (d + 1) 0 0) [.ref 22, vI x, vI y, vI s] (mw w t k W H sz pl so bt nb wl ar mk rc ou ip fd) (some (vI (rgS W H x y s))) (mw w t k W H sz pl so bt nb wl ar mk rc ou ip fd) := by
  have hFF := hF
  have hnb := hF.n
  obtain ⟨hk0, hk4, hW1, hW2, hH1, hH2, hn, hg4⟩ := hF
  have e1 : (if x = W - 1 then 0 else x + 1) = (x + 1) % W := by
    split
    · next h => rw [h, Int.sub_add_cancel, Int.emod_self]
    · exact (Int.emod_eq_of_lt (by omega) (by omega)).symm
  have e3 : (if x = 0 then W - 1 else x - 1) = (x + W - 1) % W := by
    split
    · next h => rw [h, Int.zero_add]; exact (Int.emod_eq_of_lt (by omega) (by omega)).symm
    · rw [show x + W - 1 = x - 1 + W by omega, Int.add_emod_right]
      exact (Int.emod_eq_of_lt (by omega) (by omega)).symm
  have eb1 : 0 ≤ (x + 1) % W ∧ (x + 1) % W < W := ⟨Int.emod_nonneg _ (by omega), Int.emod_lt_of_pos _ (by omega)⟩
  have eb3 : 0 ≤ (x + W - 1) % W ∧ (x + W - 1) % W < W := ⟨Int.emod_nonneg _ (by omega), Int.emod_lt_of_pos _ (by omega)⟩
  have hv : s = 0 ∨ s = 1 ∨ s = 2 ∨ s = 3 ∨ s = 4 ∨ s = 5 := by omega
  rcases hv with hv | hv | hv | hv | hv | hv
  · subst hv
    refine m_enter (L := [some (.ref 22), some (vI x), some (vI y), some (vI 0)]) (by decide) hG (m_c1 rfl) (Nat.le_of_ble_eq_true rfl) rfl ?_
    refine m_iload_n 1 dX8_ring_0 rfl rfl ?_
    refine i_tableIn 32 ⟨by omega, by omega⟩ dX8_ring_1 (by decide) (by decide) rfl (by decide) ?_
    refine m_aload_n 33 dX8_ring_32 rfl rfl ?_
    refine m_iload_n 34 dX8_ring_33 rfl rfl ?_
    refine m_iload_n 35 dX8_ring_34 rfl rfl ?_
    refine i_const 36 dX8_ring_35 rfl ?_
    refine i_sub 37 dX8_ring_36 rfl ?_
    refine m_cV (M' := MX8_at) 40 [_, _] kX8_61 imX8_at seX8_at clX8_at dX8_ring_37 rfl rfl rfl (mw_22 hw) (m_rmI (by omega) (Nat.le_of_ble_eq_true rfl) (Nat.le_refl _) (Nat.le_refl _)) (c_X8_at hG (d) hFF hw ⟨by omega, by omega⟩ ⟨by omega, by omega⟩) ?_
    refine i_ret _ dX8_ring_40 rfl ⟨Nat.le_refl _, Nat.le_refl _⟩ ?_ ⟨rfl, rfl⟩
    unfold rgS
    rfl
  · subst hv
    refine m_enter (L := [some (.ref 22), some (vI x), some (vI y), some (vI 1)]) (by decide) hG (m_c1 rfl) (Nat.le_of_ble_eq_true rfl) rfl ?_
    refine m_iload_n 1 dX8_ring_0 rfl rfl ?_
    refine i_tableIn 41 ⟨by omega, by omega⟩ dX8_ring_1 (by decide) (by decide) rfl (by decide) ?_
    refine m_aload_n 42 dX8_ring_41 rfl rfl ?_
    refine m_getf 45 foX8_44 dX8_ring_42 rfl (mw_22 hw) (by rfl) ?_
    refine i_const 46 dX8_ring_45 rfl ?_
    refine i_icmp_le 49 65 ⟨by omega, by omega⟩ ⟨by omega, by omega⟩ dX8_ring_46 rfl (by decide) (fun q46 => ?_) (fun q46 => ?_)
    · refine i_const 66 dX8_ring_65 rfl ?_
      refine i_ret _ dX8_ring_66 rfl ⟨Nat.le_refl _, Nat.le_refl _⟩ ?_ ⟨rfl, rfl⟩
      unfold rgS
      first
        | (rw [if_neg (by decide), if_pos rfl, if_pos (by omega)]; done)
        | (rw [if_neg (by decide), if_pos rfl, if_neg (by omega), e1]; done)
    · refine m_aload_n 50 dX8_ring_49 rfl rfl ?_
      refine m_iload_n 51 dX8_ring_50 rfl rfl ?_
      refine i_const 52 dX8_ring_51 rfl ?_
      refine i_add 53 dX8_ring_52 rfl ?_
      refine m_aload_n 54 dX8_ring_53 rfl rfl ?_
      refine m_getf 57 foX8_44 dX8_ring_54 rfl (mw_22 hw) (by rfl) ?_
      refine i_rem 58 dX8_ring_57 rfl ⟨by omega, by omega, by omega, by omega⟩ ?_
      refine m_iload_n 59 dX8_ring_58 rfl rfl ?_
      refine m_cV (M' := MX8_at) 62 [_, _] kX8_61 imX8_at seX8_at clX8_at dX8_ring_59 rfl rfl rfl (mw_22 hw) (m_rmI (by omega) (Nat.le_of_ble_eq_true rfl) (Nat.le_refl _) (Nat.le_refl _)) (c_X8_at hG (d) hFF hw ⟨by omega, by omega⟩ ⟨by omega, by omega⟩) ?_
      refine m_goto 66 dX8_ring_62 (by decide) ?_
      refine i_ret _ dX8_ring_66 rfl ⟨Nat.le_refl _, Nat.le_refl _⟩ ?_ ⟨rfl, rfl⟩
      unfold rgS
      first
        | (rw [if_neg (by decide), if_pos rfl, if_pos (by omega)]; done)
        | (rw [if_neg (by decide), if_pos rfl, if_neg (by omega), e1]; done)
  · subst hv
    refine m_enter (L := [some (.ref 22), some (vI x), some (vI y), some (vI 2)]) (by decide) hG (m_c1 rfl) (Nat.le_of_ble_eq_true rfl) rfl ?_
    refine m_iload_n 1 dX8_ring_0 rfl rfl ?_
    refine i_tableIn 67 ⟨by omega, by omega⟩ dX8_ring_1 (by decide) (by decide) rfl (by decide) ?_
    refine m_aload_n 68 dX8_ring_67 rfl rfl ?_
    refine m_iload_n 69 dX8_ring_68 rfl rfl ?_
    refine m_iload_n 70 dX8_ring_69 rfl rfl ?_
    refine i_const 71 dX8_ring_70 rfl ?_
    refine i_add 72 dX8_ring_71 rfl ?_
    refine m_cV (M' := MX8_at) 75 [_, _] kX8_61 imX8_at seX8_at clX8_at dX8_ring_72 rfl rfl rfl (mw_22 hw) (m_rmI (by omega) (Nat.le_of_ble_eq_true rfl) (Nat.le_refl _) (Nat.le_refl _)) (c_X8_at hG (d) hFF hw ⟨by omega, by omega⟩ ⟨by omega, by omega⟩) ?_
    refine i_ret _ dX8_ring_75 rfl ⟨Nat.le_refl _, Nat.le_refl _⟩ ?_ ⟨rfl, rfl⟩
    unfold rgS
    rfl
  · subst hv
    refine m_enter (L := [some (.ref 22), some (vI x), some (vI y), some (vI 3)]) (by decide) hG (m_c1 rfl) (Nat.le_of_ble_eq_true rfl) rfl ?_
    refine m_iload_n 1 dX8_ring_0 rfl rfl ?_
    refine i_tableIn 76 ⟨by omega, by omega⟩ dX8_ring_1 (by decide) (by decide) rfl (by decide) ?_
    refine m_aload_n 77 dX8_ring_76 rfl rfl ?_
    refine m_getf 80 foX8_44 dX8_ring_77 rfl (mw_22 hw) (by rfl) ?_
    refine i_const 81 dX8_ring_80 rfl ?_
    refine i_icmp_le 84 105 ⟨by omega, by omega⟩ ⟨by omega, by omega⟩ dX8_ring_81 rfl (by decide) (fun q81 => ?_) (fun q81 => ?_)
    · refine i_const 106 dX8_ring_105 rfl ?_
      refine i_ret _ dX8_ring_106 rfl ⟨Nat.le_refl _, Nat.le_refl _⟩ ?_ ⟨rfl, rfl⟩
      unfold rgS
      first
        | (rw [if_neg (by decide), if_neg (by decide), if_neg (by decide), if_pos rfl, if_pos (by omega)]; done)
        | (rw [if_neg (by decide), if_neg (by decide), if_neg (by decide), if_pos rfl, if_neg (by omega), e3]; done)
    · refine m_aload_n 85 dX8_ring_84 rfl rfl ?_
      refine m_iload_n 86 dX8_ring_85 rfl rfl ?_
      refine m_aload_n 87 dX8_ring_86 rfl rfl ?_
      refine m_getf 90 foX8_44 dX8_ring_87 rfl (mw_22 hw) (by rfl) ?_
      refine i_add 91 dX8_ring_90 rfl ?_
      refine i_const 92 dX8_ring_91 rfl ?_
      refine i_sub 93 dX8_ring_92 rfl ?_
      refine m_aload_n 94 dX8_ring_93 rfl rfl ?_
      refine m_getf 97 foX8_44 dX8_ring_94 rfl (mw_22 hw) (by rfl) ?_
      refine i_rem 98 dX8_ring_97 rfl ⟨by omega, by omega, by omega, by omega⟩ ?_
      refine m_iload_n 99 dX8_ring_98 rfl rfl ?_
      refine m_cV (M' := MX8_at) 102 [_, _] kX8_61 imX8_at seX8_at clX8_at dX8_ring_99 rfl rfl rfl (mw_22 hw) (m_rmI (by omega) (Nat.le_of_ble_eq_true rfl) (Nat.le_refl _) (Nat.le_refl _)) (c_X8_at hG (d) hFF hw ⟨by omega, by omega⟩ ⟨by omega, by omega⟩) ?_
      refine m_goto 106 dX8_ring_102 (by decide) ?_
      refine i_ret _ dX8_ring_106 rfl ⟨Nat.le_refl _, Nat.le_refl _⟩ ?_ ⟨rfl, rfl⟩
      unfold rgS
      first
        | (rw [if_neg (by decide), if_neg (by decide), if_neg (by decide), if_pos rfl, if_pos (by omega)]; done)
        | (rw [if_neg (by decide), if_neg (by decide), if_neg (by decide), if_pos rfl, if_neg (by omega), e3]; done)
  · subst hv
    refine m_enter (L := [some (.ref 22), some (vI x), some (vI y), some (vI 4)]) (by decide) hG (m_c1 rfl) (Nat.le_of_ble_eq_true rfl) rfl ?_
    refine m_iload_n 1 dX8_ring_0 rfl rfl ?_
    refine i_tableOut 107 ⟨by omega, by omega⟩ dX8_ring_1 (by decide) (by decide) ?_
    refine i_const 108 dX8_ring_107 rfl ?_
    refine i_ret _ dX8_ring_108 rfl ⟨Nat.le_refl _, Nat.le_refl _⟩ ?_ ⟨rfl, rfl⟩
    unfold rgS
    rfl
  · subst hv
    refine m_enter (L := [some (.ref 22), some (vI x), some (vI y), some (vI 5)]) (by decide) hG (m_c1 rfl) (Nat.le_of_ble_eq_true rfl) rfl ?_
    refine m_iload_n 1 dX8_ring_0 rfl rfl ?_
    refine i_tableOut 107 ⟨by omega, by omega⟩ dX8_ring_1 (by decide) (by decide) ?_
    refine i_const 108 dX8_ring_107 rfl ?_
    refine i_ret _ dX8_ring_108 rfl ⟨Nat.le_refl _, Nat.le_refl _⟩ ?_ ⟨rfl, rfl⟩
    unfold rgS
    rfl

set_option maxHeartbeats 4000000 in
set_option maxRecDepth 100000 in
theorem c_X8_step (hG : m_G G) (d : Nat) {k W H : Int} {n : Nat} (hF : fOK k W H n) {t sz pl so bt : Int} {nb wl ou : Nat → Bool} {ar mk rc ip fd : Nat → Int} (hw : 30 < w.length) {p s : Int} (hp : 0 ≤ p ∧ p < n) (hs : 0 ≤ s ∧ s < 6) : m_Cv G MX8_step (m_r (d + 2) 0 0) [.ref 22, vI p, vI s] (mw w t k W H sz pl so bt nb wl ar mk rc ou ip fd) (some (vI (stp k W H (p % W) (p / W) s))) (mw w t k W H sz pl so bt nb wl ar mk rc ou ip fd) := by
  have hFF := hF
  have hnb := hF.n
  obtain ⟨hk0, hk4, hW1, hW2, hH1, hH2, hn, hg4⟩ := hF
  have hxy : 0 ≤ p % W ∧ p % W < W ∧ 0 ≤ p / W ∧ p / W < H := ⟨Int.emod_nonneg _ (by omega), Int.emod_lt_of_pos _ (by omega), Int.ediv_nonneg hp.1 (by omega), Int.ediv_lt_of_lt_mul (by omega) (by rw [Int.mul_comm, ← hn]; exact hp.2)⟩
  have hv : k = 0 ∨ k = 1 ∨ k = 2 ∨ k = 3 ∨ k = 4 := by omega
  rcases hv with hv | hv | hv | hv | hv
  · subst hv
    refine m_enter (L := [some (.ref 22), some (vI p), some (vI s), none, none]) (by decide) hG (m_c1 rfl) (Nat.le_of_ble_eq_true rfl) rfl ?_
    refine m_iload_n 1 dX8_step_0 rfl rfl ?_
    refine m_aload_n 2 dX8_step_1 rfl rfl ?_
    refine m_getf 5 foX8_44 dX8_step_2 rfl (mw_22 hw) (by rfl) ?_
    refine i_rem 6 dX8_step_5 rfl ⟨by omega, by omega, by omega, by omega⟩ ?_
    refine m_istore_n 7 dX8_step_6 rfl (by decide) ?_
    refine m_iload_n 8 dX8_step_7 rfl rfl ?_
    refine m_aload_n 9 dX8_step_8 rfl rfl ?_
    refine m_getf 12 foX8_44 dX8_step_9 rfl (mw_22 hw) (by rfl) ?_
    refine i_div 13 dX8_step_12 rfl ⟨by omega, by omega, by omega, by omega⟩ ?_
    refine m_istore 15 dX8_step_13 rfl (by decide) ?_
    refine m_aload_n 16 dX8_step_15 rfl rfl ?_
    refine m_getf 19 foX8_40 dX8_step_16 rfl (mw_22 hw) (by rfl) ?_
    refine i_tableIn 48 ⟨by omega, by omega⟩ dX8_step_19 (by decide) (by decide) rfl (by decide) ?_
    refine m_iload_n 49 dX8_step_48 rfl rfl ?_
    refine i_if_ne 52 64 ⟨by omega, by omega⟩ dX8_step_49 rfl (by decide) (fun q49 => ?_) (fun q49 => ?_)
    · refine m_iload_n 65 dX8_step_64 rfl rfl ?_
      refine i_const 66 dX8_step_65 rfl ?_
      refine i_icmp_ne 69 81 ⟨by omega, by omega⟩ ⟨by omega, by omega⟩ dX8_step_66 rfl (by decide) (fun q66 => ?_) (fun q66 => ?_)
      · refine m_iload_n 82 dX8_step_81 rfl rfl ?_
        refine i_const 83 dX8_step_82 rfl ?_
        refine i_icmp_ne 86 98 ⟨by omega, by omega⟩ ⟨by omega, by omega⟩ dX8_step_83 rfl (by decide) (fun q83 => ?_) (fun q83 => ?_)
        · refine m_iload_n 99 dX8_step_98 rfl rfl ?_
          refine i_const 100 dX8_step_99 rfl ?_
          refine i_icmp_ne 103 115 ⟨by omega, by omega⟩ ⟨by omega, by omega⟩ dX8_step_100 rfl (by decide) (fun q100 => ?_) (fun q100 => ?_)
          · refine i_const 116 dX8_step_115 rfl ?_
            refine i_ret _ dX8_step_116 rfl ⟨Nat.le_refl _, Nat.le_refl _⟩ ?_ ⟨rfl, rfl⟩
            show _ = sqS _ _ _ _ _
            unfold sqS
            first
              | (rw [if_pos (by omega)]; done)
              | (rw [if_neg (by omega), if_pos (by omega)]; done)
              | (rw [if_neg (by omega), if_neg (by omega), if_pos (by omega)]; done)
              | (rw [if_neg (by omega), if_neg (by omega), if_neg (by omega)]; done)
              | (rw [if_neg (by omega), if_neg (by omega), if_pos (by omega), if_pos (by omega)]; done)
              | (rw [if_neg (by omega), if_neg (by omega), if_pos (by omega), if_neg (by omega)]; done)
              | (rw [if_neg (by omega), if_neg (by omega), if_neg (by omega), if_pos (by omega)]; done)
              | (rw [if_neg (by omega), if_neg (by omega), if_neg (by omega), if_neg (by omega)]; done)
          · refine m_aload_n 104 dX8_step_103 rfl rfl ?_
            refine m_iload_n 105 dX8_step_104 rfl rfl ?_
            refine i_const 106 dX8_step_105 rfl ?_
            refine i_sub 107 dX8_step_106 rfl ?_
            refine m_iload 109 dX8_step_107 rfl rfl ?_
            refine m_cV (M' := MX8_at) 112 [_, _] kX8_61 imX8_at seX8_at clX8_at dX8_step_109 rfl rfl rfl (mw_22 hw) (m_rmI (by omega) (Nat.le_of_ble_eq_true rfl) (Nat.le_refl _) (Nat.le_refl _)) (c_X8_at hG (d + 1) hFF hw ⟨by omega, by omega⟩ ⟨by omega, by omega⟩) ?_
            refine m_goto 116 dX8_step_112 (by decide) ?_
            refine i_ret _ dX8_step_116 rfl ⟨Nat.le_refl _, Nat.le_refl _⟩ ?_ ⟨rfl, rfl⟩
            show _ = sqS _ _ _ _ _
            unfold sqS
            first
              | (rw [if_pos (by omega)]; done)
              | (rw [if_neg (by omega), if_pos (by omega)]; done)
              | (rw [if_neg (by omega), if_neg (by omega), if_pos (by omega)]; done)
              | (rw [if_neg (by omega), if_neg (by omega), if_neg (by omega)]; done)
              | (rw [if_neg (by omega), if_neg (by omega), if_pos (by omega), if_pos (by omega)]; done)
              | (rw [if_neg (by omega), if_neg (by omega), if_pos (by omega), if_neg (by omega)]; done)
              | (rw [if_neg (by omega), if_neg (by omega), if_neg (by omega), if_pos (by omega)]; done)
              | (rw [if_neg (by omega), if_neg (by omega), if_neg (by omega), if_neg (by omega)]; done)
        · refine m_aload_n 87 dX8_step_86 rfl rfl ?_
          refine m_iload_n 88 dX8_step_87 rfl rfl ?_
          refine m_iload 90 dX8_step_88 rfl rfl ?_
          refine i_const 91 dX8_step_90 rfl ?_
          refine i_add 92 dX8_step_91 rfl ?_
          refine m_cV (M' := MX8_at) 95 [_, _] kX8_61 imX8_at seX8_at clX8_at dX8_step_92 rfl rfl rfl (mw_22 hw) (m_rmI (by omega) (Nat.le_of_ble_eq_true rfl) (Nat.le_refl _) (Nat.le_refl _)) (c_X8_at hG (d + 1) hFF hw ⟨by omega, by omega⟩ ⟨by omega, by omega⟩) ?_
          refine m_goto 116 dX8_step_95 (by decide) ?_
          refine i_ret _ dX8_step_116 rfl ⟨Nat.le_refl _, Nat.le_refl _⟩ ?_ ⟨rfl, rfl⟩
          show _ = sqS _ _ _ _ _
          unfold sqS
          first
            | (rw [if_pos (by omega)]; done)
            | (rw [if_neg (by omega), if_pos (by omega)]; done)
            | (rw [if_neg (by omega), if_neg (by omega), if_pos (by omega)]; done)
            | (rw [if_neg (by omega), if_neg (by omega), if_neg (by omega)]; done)
            | (rw [if_neg (by omega), if_neg (by omega), if_pos (by omega), if_pos (by omega)]; done)
            | (rw [if_neg (by omega), if_neg (by omega), if_pos (by omega), if_neg (by omega)]; done)
            | (rw [if_neg (by omega), if_neg (by omega), if_neg (by omega), if_pos (by omega)]; done)
            | (rw [if_neg (by omega), if_neg (by omega), if_neg (by omega), if_neg (by omega)]; done)
      · refine m_aload_n 70 dX8_step_69 rfl rfl ?_
        refine m_iload_n 71 dX8_step_70 rfl rfl ?_
        refine i_const 72 dX8_step_71 rfl ?_
        refine i_add 73 dX8_step_72 rfl ?_
        refine m_iload 75 dX8_step_73 rfl rfl ?_
        refine m_cV (M' := MX8_at) 78 [_, _] kX8_61 imX8_at seX8_at clX8_at dX8_step_75 rfl rfl rfl (mw_22 hw) (m_rmI (by omega) (Nat.le_of_ble_eq_true rfl) (Nat.le_refl _) (Nat.le_refl _)) (c_X8_at hG (d + 1) hFF hw ⟨by omega, by omega⟩ ⟨by omega, by omega⟩) ?_
        refine m_goto 116 dX8_step_78 (by decide) ?_
        refine i_ret _ dX8_step_116 rfl ⟨Nat.le_refl _, Nat.le_refl _⟩ ?_ ⟨rfl, rfl⟩
        show _ = sqS _ _ _ _ _
        unfold sqS
        first
          | (rw [if_pos (by omega)]; done)
          | (rw [if_neg (by omega), if_pos (by omega)]; done)
          | (rw [if_neg (by omega), if_neg (by omega), if_pos (by omega)]; done)
          | (rw [if_neg (by omega), if_neg (by omega), if_neg (by omega)]; done)
          | (rw [if_neg (by omega), if_neg (by omega), if_pos (by omega), if_pos (by omega)]; done)
          | (rw [if_neg (by omega), if_neg (by omega), if_pos (by omega), if_neg (by omega)]; done)
          | (rw [if_neg (by omega), if_neg (by omega), if_neg (by omega), if_pos (by omega)]; done)
          | (rw [if_neg (by omega), if_neg (by omega), if_neg (by omega), if_neg (by omega)]; done)
    · refine m_aload_n 53 dX8_step_52 rfl rfl ?_
      refine m_iload_n 54 dX8_step_53 rfl rfl ?_
      refine m_iload 56 dX8_step_54 rfl rfl ?_
      refine i_const 57 dX8_step_56 rfl ?_
      refine i_sub 58 dX8_step_57 rfl ?_
      refine m_cV (M' := MX8_at) 61 [_, _] kX8_61 imX8_at seX8_at clX8_at dX8_step_58 rfl rfl rfl (mw_22 hw) (m_rmI (by omega) (Nat.le_of_ble_eq_true rfl) (Nat.le_refl _) (Nat.le_refl _)) (c_X8_at hG (d + 1) hFF hw ⟨by omega, by omega⟩ ⟨by omega, by omega⟩) ?_
      refine m_goto 116 dX8_step_61 (by decide) ?_
      refine i_ret _ dX8_step_116 rfl ⟨Nat.le_refl _, Nat.le_refl _⟩ ?_ ⟨rfl, rfl⟩
      show _ = sqS _ _ _ _ _
      unfold sqS
      first
        | (rw [if_pos (by omega)]; done)
        | (rw [if_neg (by omega), if_pos (by omega)]; done)
        | (rw [if_neg (by omega), if_neg (by omega), if_pos (by omega)]; done)
        | (rw [if_neg (by omega), if_neg (by omega), if_neg (by omega)]; done)
        | (rw [if_neg (by omega), if_neg (by omega), if_pos (by omega), if_pos (by omega)]; done)
        | (rw [if_neg (by omega), if_neg (by omega), if_pos (by omega), if_neg (by omega)]; done)
        | (rw [if_neg (by omega), if_neg (by omega), if_neg (by omega), if_pos (by omega)]; done)
        | (rw [if_neg (by omega), if_neg (by omega), if_neg (by omega), if_neg (by omega)]; done)
  · subst hv
    refine m_enter (L := [some (.ref 22), some (vI p), some (vI s), none, none]) (by decide) hG (m_c1 rfl) (Nat.le_of_ble_eq_true rfl) rfl ?_
    refine m_iload_n 1 dX8_step_0 rfl rfl ?_
    refine m_aload_n 2 dX8_step_1 rfl rfl ?_
    refine m_getf 5 foX8_44 dX8_step_2 rfl (mw_22 hw) (by rfl) ?_
    refine i_rem 6 dX8_step_5 rfl ⟨by omega, by omega, by omega, by omega⟩ ?_
    refine m_istore_n 7 dX8_step_6 rfl (by decide) ?_
    refine m_iload_n 8 dX8_step_7 rfl rfl ?_
    refine m_aload_n 9 dX8_step_8 rfl rfl ?_
    refine m_getf 12 foX8_44 dX8_step_9 rfl (mw_22 hw) (by rfl) ?_
    refine i_div 13 dX8_step_12 rfl ⟨by omega, by omega, by omega, by omega⟩ ?_
    refine m_istore 15 dX8_step_13 rfl (by decide) ?_
    refine m_aload_n 16 dX8_step_15 rfl rfl ?_
    refine m_getf 19 foX8_40 dX8_step_16 rfl (mw_22 hw) (by rfl) ?_
    refine i_tableIn 117 ⟨by omega, by omega⟩ dX8_step_19 (by decide) (by decide) rfl (by decide) ?_
    refine m_aload_n 118 dX8_step_117 rfl rfl ?_
    refine m_iload_n 119 dX8_step_118 rfl rfl ?_
    refine m_iload 121 dX8_step_119 rfl rfl ?_
    refine m_iload_n 122 dX8_step_121 rfl rfl ?_
    refine m_cV (M' := MX8_hex) 125 [_, _, _] kX8_64 imX8_hex seX8_hex clX8_hex dX8_step_122 rfl rfl rfl (mw_22 hw) (m_rmI (by omega) (Nat.le_of_ble_eq_true rfl) (Nat.le_refl _) (Nat.le_refl _)) (c_X8_hex hG d hFF hw hxy hs) ?_
    refine i_ret _ dX8_step_125 rfl ⟨Nat.le_refl _, Nat.le_refl _⟩ ?_ ⟨rfl, rfl⟩
    rfl
  · subst hv
    refine m_enter (L := [some (.ref 22), some (vI p), some (vI s), none, none]) (by decide) hG (m_c1 rfl) (Nat.le_of_ble_eq_true rfl) rfl ?_
    refine m_iload_n 1 dX8_step_0 rfl rfl ?_
    refine m_aload_n 2 dX8_step_1 rfl rfl ?_
    refine m_getf 5 foX8_44 dX8_step_2 rfl (mw_22 hw) (by rfl) ?_
    refine i_rem 6 dX8_step_5 rfl ⟨by omega, by omega, by omega, by omega⟩ ?_
    refine m_istore_n 7 dX8_step_6 rfl (by decide) ?_
    refine m_iload_n 8 dX8_step_7 rfl rfl ?_
    refine m_aload_n 9 dX8_step_8 rfl rfl ?_
    refine m_getf 12 foX8_44 dX8_step_9 rfl (mw_22 hw) (by rfl) ?_
    refine i_div 13 dX8_step_12 rfl ⟨by omega, by omega, by omega, by omega⟩ ?_
    refine m_istore 15 dX8_step_13 rfl (by decide) ?_
    refine m_aload_n 16 dX8_step_15 rfl rfl ?_
    refine m_getf 19 foX8_40 dX8_step_16 rfl (mw_22 hw) (by rfl) ?_
    refine i_tableIn 126 ⟨by omega, by omega⟩ dX8_step_19 (by decide) (by decide) rfl (by decide) ?_
    refine m_iload_n 127 dX8_step_126 rfl rfl ?_
    refine i_if_ne 130 142 ⟨by omega, by omega⟩ dX8_step_127 rfl (by decide) (fun q127 => ?_) (fun q127 => ?_)
    · refine m_iload_n 143 dX8_step_142 rfl rfl ?_
      refine i_const 144 dX8_step_143 rfl ?_
      refine i_icmp_ne 147 159 ⟨by omega, by omega⟩ ⟨by omega, by omega⟩ dX8_step_144 rfl (by decide) (fun q144 => ?_) (fun q144 => ?_)
      · refine m_iload_n 160 dX8_step_159 rfl rfl ?_
        refine i_const 161 dX8_step_160 rfl ?_
        refine i_icmp_ne 164 192 ⟨by omega, by omega⟩ ⟨by omega, by omega⟩ dX8_step_161 rfl (by decide) (fun q161 => ?_) (fun q161 => ?_)
        · refine i_const 193 dX8_step_192 rfl ?_
          refine i_ret _ dX8_step_193 rfl ⟨Nat.le_refl _, Nat.le_refl _⟩ ?_ ⟨rfl, rfl⟩
          show _ = trS _ _ _ _ _
          unfold trS
          first
            | (rw [if_pos (by omega)]; done)
            | (rw [if_neg (by omega), if_pos (by omega)]; done)
            | (rw [if_neg (by omega), if_neg (by omega), if_pos (by omega)]; done)
            | (rw [if_neg (by omega), if_neg (by omega), if_neg (by omega)]; done)
            | (rw [if_neg (by omega), if_neg (by omega), if_pos (by omega), if_pos (by omega)]; done)
            | (rw [if_neg (by omega), if_neg (by omega), if_pos (by omega), if_neg (by omega)]; done)
            | (rw [if_neg (by omega), if_neg (by omega), if_neg (by omega), if_pos (by omega)]; done)
            | (rw [if_neg (by omega), if_neg (by omega), if_neg (by omega), if_neg (by omega)]; done)
        · refine m_aload_n 165 dX8_step_164 rfl rfl ?_
          refine m_iload_n 166 dX8_step_165 rfl rfl ?_
          refine m_iload_n 167 dX8_step_166 rfl rfl ?_
          refine m_iload 169 dX8_step_167 rfl rfl ?_
          refine i_add 170 dX8_step_169 rfl ?_
          refine i_const 171 dX8_step_170 rfl ?_
          refine i_rem 172 dX8_step_171 rfl ⟨by omega, by omega, by omega, by omega⟩ ?_
          refine i_if_ne 175 182 ⟨by omega, by omega⟩ dX8_step_172 rfl (by decide) (fun q172 => ?_) (fun q172 => ?_)
          · refine m_iload 184 dX8_step_182 rfl rfl ?_
            refine i_const 185 dX8_step_184 rfl ?_
            refine i_sub 186 dX8_step_185 rfl ?_
            refine m_cV (M' := MX8_at) 189 [_, _] kX8_61 imX8_at seX8_at clX8_at dX8_step_186 rfl rfl rfl (mw_22 hw) (m_rmI (by omega) (Nat.le_of_ble_eq_true rfl) (Nat.le_refl _) (Nat.le_refl _)) (c_X8_at hG (d + 1) hFF hw ⟨by omega, by omega⟩ ⟨by omega, by omega⟩) ?_
            refine m_goto 193 dX8_step_189 (by decide) ?_
            refine i_ret _ dX8_step_193 rfl ⟨Nat.le_refl _, Nat.le_refl _⟩ ?_ ⟨rfl, rfl⟩
            show _ = trS _ _ _ _ _
            unfold trS
            first
              | (rw [if_pos (by omega)]; done)
              | (rw [if_neg (by omega), if_pos (by omega)]; done)
              | (rw [if_neg (by omega), if_neg (by omega), if_pos (by omega)]; done)
              | (rw [if_neg (by omega), if_neg (by omega), if_neg (by omega)]; done)
              | (rw [if_neg (by omega), if_neg (by omega), if_pos (by omega), if_pos (by omega)]; done)
              | (rw [if_neg (by omega), if_neg (by omega), if_pos (by omega), if_neg (by omega)]; done)
              | (rw [if_neg (by omega), if_neg (by omega), if_neg (by omega), if_pos (by omega)]; done)
              | (rw [if_neg (by omega), if_neg (by omega), if_neg (by omega), if_neg (by omega)]; done)
          · refine m_iload 177 dX8_step_175 rfl rfl ?_
            refine i_const 178 dX8_step_177 rfl ?_
            refine i_add 179 dX8_step_178 rfl ?_
            refine m_goto 186 dX8_step_179 (by decide) ?_
            refine m_cV (M' := MX8_at) 189 [_, _] kX8_61 imX8_at seX8_at clX8_at dX8_step_186 rfl rfl rfl (mw_22 hw) (m_rmI (by omega) (Nat.le_of_ble_eq_true rfl) (Nat.le_refl _) (Nat.le_refl _)) (c_X8_at hG (d + 1) hFF hw ⟨by omega, by omega⟩ ⟨by omega, by omega⟩) ?_
            refine m_goto 193 dX8_step_189 (by decide) ?_
            refine i_ret _ dX8_step_193 rfl ⟨Nat.le_refl _, Nat.le_refl _⟩ ?_ ⟨rfl, rfl⟩
            show _ = trS _ _ _ _ _
            unfold trS
            first
              | (rw [if_pos (by omega)]; done)
              | (rw [if_neg (by omega), if_pos (by omega)]; done)
              | (rw [if_neg (by omega), if_neg (by omega), if_pos (by omega)]; done)
              | (rw [if_neg (by omega), if_neg (by omega), if_neg (by omega)]; done)
              | (rw [if_neg (by omega), if_neg (by omega), if_pos (by omega), if_pos (by omega)]; done)
              | (rw [if_neg (by omega), if_neg (by omega), if_pos (by omega), if_neg (by omega)]; done)
              | (rw [if_neg (by omega), if_neg (by omega), if_neg (by omega), if_pos (by omega)]; done)
              | (rw [if_neg (by omega), if_neg (by omega), if_neg (by omega), if_neg (by omega)]; done)
      · refine m_aload_n 148 dX8_step_147 rfl rfl ?_
        refine m_iload_n 149 dX8_step_148 rfl rfl ?_
        refine i_const 150 dX8_step_149 rfl ?_
        refine i_add 151 dX8_step_150 rfl ?_
        refine m_iload 153 dX8_step_151 rfl rfl ?_
        refine m_cV (M' := MX8_at) 156 [_, _] kX8_61 imX8_at seX8_at clX8_at dX8_step_153 rfl rfl rfl (mw_22 hw) (m_rmI (by omega) (Nat.le_of_ble_eq_true rfl) (Nat.le_refl _) (Nat.le_refl _)) (c_X8_at hG (d + 1) hFF hw ⟨by omega, by omega⟩ ⟨by omega, by omega⟩) ?_
        refine m_goto 193 dX8_step_156 (by decide) ?_
        refine i_ret _ dX8_step_193 rfl ⟨Nat.le_refl _, Nat.le_refl _⟩ ?_ ⟨rfl, rfl⟩
        show _ = trS _ _ _ _ _
        unfold trS
        first
          | (rw [if_pos (by omega)]; done)
          | (rw [if_neg (by omega), if_pos (by omega)]; done)
          | (rw [if_neg (by omega), if_neg (by omega), if_pos (by omega)]; done)
          | (rw [if_neg (by omega), if_neg (by omega), if_neg (by omega)]; done)
          | (rw [if_neg (by omega), if_neg (by omega), if_pos (by omega), if_pos (by omega)]; done)
          | (rw [if_neg (by omega), if_neg (by omega), if_pos (by omega), if_neg (by omega)]; done)
          | (rw [if_neg (by omega), if_neg (by omega), if_neg (by omega), if_pos (by omega)]; done)
          | (rw [if_neg (by omega), if_neg (by omega), if_neg (by omega), if_neg (by omega)]; done)
    · refine m_aload_n 131 dX8_step_130 rfl rfl ?_
      refine m_iload_n 132 dX8_step_131 rfl rfl ?_
      refine i_const 133 dX8_step_132 rfl ?_
      refine i_sub 134 dX8_step_133 rfl ?_
      refine m_iload 136 dX8_step_134 rfl rfl ?_
      refine m_cV (M' := MX8_at) 139 [_, _] kX8_61 imX8_at seX8_at clX8_at dX8_step_136 rfl rfl rfl (mw_22 hw) (m_rmI (by omega) (Nat.le_of_ble_eq_true rfl) (Nat.le_refl _) (Nat.le_refl _)) (c_X8_at hG (d + 1) hFF hw ⟨by omega, by omega⟩ ⟨by omega, by omega⟩) ?_
      refine m_goto 193 dX8_step_139 (by decide) ?_
      refine i_ret _ dX8_step_193 rfl ⟨Nat.le_refl _, Nat.le_refl _⟩ ?_ ⟨rfl, rfl⟩
      show _ = trS _ _ _ _ _
      unfold trS
      first
        | (rw [if_pos (by omega)]; done)
        | (rw [if_neg (by omega), if_pos (by omega)]; done)
        | (rw [if_neg (by omega), if_neg (by omega), if_pos (by omega)]; done)
        | (rw [if_neg (by omega), if_neg (by omega), if_neg (by omega)]; done)
        | (rw [if_neg (by omega), if_neg (by omega), if_pos (by omega), if_pos (by omega)]; done)
        | (rw [if_neg (by omega), if_neg (by omega), if_pos (by omega), if_neg (by omega)]; done)
        | (rw [if_neg (by omega), if_neg (by omega), if_neg (by omega), if_pos (by omega)]; done)
        | (rw [if_neg (by omega), if_neg (by omega), if_neg (by omega), if_neg (by omega)]; done)
  · subst hv
    refine m_enter (L := [some (.ref 22), some (vI p), some (vI s), none, none]) (by decide) hG (m_c1 rfl) (Nat.le_of_ble_eq_true rfl) rfl ?_
    refine m_iload_n 1 dX8_step_0 rfl rfl ?_
    refine m_aload_n 2 dX8_step_1 rfl rfl ?_
    refine m_getf 5 foX8_44 dX8_step_2 rfl (mw_22 hw) (by rfl) ?_
    refine i_rem 6 dX8_step_5 rfl ⟨by omega, by omega, by omega, by omega⟩ ?_
    refine m_istore_n 7 dX8_step_6 rfl (by decide) ?_
    refine m_iload_n 8 dX8_step_7 rfl rfl ?_
    refine m_aload_n 9 dX8_step_8 rfl rfl ?_
    refine m_getf 12 foX8_44 dX8_step_9 rfl (mw_22 hw) (by rfl) ?_
    refine i_div 13 dX8_step_12 rfl ⟨by omega, by omega, by omega, by omega⟩ ?_
    refine m_istore 15 dX8_step_13 rfl (by decide) ?_
    refine m_aload_n 16 dX8_step_15 rfl rfl ?_
    refine m_getf 19 foX8_40 dX8_step_16 rfl (mw_22 hw) (by rfl) ?_
    refine i_tableIn 194 ⟨by omega, by omega⟩ dX8_step_19 (by decide) (by decide) rfl (by decide) ?_
    refine m_aload_n 195 dX8_step_194 rfl rfl ?_
    refine m_iload_n 196 dX8_step_195 rfl rfl ?_
    refine m_iload 198 dX8_step_196 rfl rfl ?_
    refine m_iload_n 199 dX8_step_198 rfl rfl ?_
    refine m_cV (M' := MX8_ring) 202 [_, _, _] kX8_67 imX8_ring seX8_ring clX8_ring dX8_step_199 rfl rfl rfl (mw_22 hw) (m_rmI (by omega) (Nat.le_of_ble_eq_true rfl) (Nat.le_refl _) (Nat.le_refl _)) (c_X8_ring hG d hFF hw hxy hs) ?_
    refine i_ret _ dX8_step_202 rfl ⟨Nat.le_refl _, Nat.le_refl _⟩ ?_ ⟨rfl, rfl⟩
    rfl
  · subst hv
    refine m_enter (L := [some (.ref 22), some (vI p), some (vI s), none, none]) (by decide) hG (m_c1 rfl) (Nat.le_of_ble_eq_true rfl) rfl ?_
    refine m_iload_n 1 dX8_step_0 rfl rfl ?_
    refine m_aload_n 2 dX8_step_1 rfl rfl ?_
    refine m_getf 5 foX8_44 dX8_step_2 rfl (mw_22 hw) (by rfl) ?_
    refine i_rem 6 dX8_step_5 rfl ⟨by omega, by omega, by omega, by omega⟩ ?_
    refine m_istore_n 7 dX8_step_6 rfl (by decide) ?_
    refine m_iload_n 8 dX8_step_7 rfl rfl ?_
    refine m_aload_n 9 dX8_step_8 rfl rfl ?_
    refine m_getf 12 foX8_44 dX8_step_9 rfl (mw_22 hw) (by rfl) ?_
    refine i_div 13 dX8_step_12 rfl ⟨by omega, by omega, by omega, by omega⟩ ?_
    refine m_istore 15 dX8_step_13 rfl (by decide) ?_
    refine m_aload_n 16 dX8_step_15 rfl rfl ?_
    refine m_getf 19 foX8_40 dX8_step_16 rfl (mw_22 hw) (by rfl) ?_
    refine i_tableOut 203 ⟨by omega, by omega⟩ dX8_step_19 (by decide) (by decide) ?_
    refine i_const 204 dX8_step_203 rfl ?_
    refine i_ret _ dX8_step_204 rfl ⟨Nat.le_refl _, Nat.le_refl _⟩ ?_ ⟨rfl, rfl⟩
    rfl

end MO
