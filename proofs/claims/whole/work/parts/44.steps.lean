/-! the class's steps -/
section SC
variable {G : mG} {w x : List mC} {sc : mC} {k W H : Int} {n sl m : Nat} {col row : Nat → Int} {bes : Nat → Int} {wal : Nat → Bool} {cL : Nat} {cip cmk car : Nat → Int} {t : Int} {nb wl : Nat → Bool} {mL : Nat} {mip mmk mar : Nat → Int} {o : Nat → Int64}
theorem len_of {i : Nat} {c : mC} (h : w[i]? = some c) : i < w.length := (List.getElem?_eq_some_iff.mp h).1
theorem cAt_6 {b' : Nat → Int} (hb : ∀ j : Nat, j < m → -1 ≤ b' j ∧ b' j < n) (h : cAt w k W H n sl m col row bes wal cL cip cmk car) : cAt (w.set 6 (cI m b')) k W H n sl m col row (b') wal cL cip cmk car := by
  obtain ⟨hX, h9, h13, h18, h19, h20, h21, f, l, g, l2, g2, F, D, dm, h10, h11, h12, h14, h15, h16, h17⟩ := h
  obtain ⟨a1, a2, a3, a4, a5, a6, a7, a8, a9, a10, a11, a12, a13⟩ := hX
  have e : ∀ i, i ∉ [6] → (w.set 6 (cI m b'))[i]? = w[i]? := fun i hi => by
    exact List.getElem?_set_ne (by simp at hi; omega)
  exact ⟨⟨(e 1 (by decide)).trans a1, (e 2 (by decide)).trans a2, (e 3 (by decide)).trans a3, (e 4 (by decide)).trans a4, (e 5 (by decide)).trans a5, List.getElem?_set_self (len_of a6), (e 7 (by decide)).trans a7, (e 8 (by decide)).trans a8, a9, a10, a11, a12, hb⟩, (e 9 (by decide)).trans h9, (e 13 (by decide)).trans h13, (e 18 (by decide)).trans h18, (e 19 (by decide)).trans h19, (e 20 (by decide)).trans h20, (e 21 (by decide)).trans h21, f, l, g, l2, g2, F, D, dm, (e 10 (by decide)).trans h10, (e 11 (by decide)).trans h11, (e 12 (by decide)).trans h12, (e 14 (by decide)).trans h14, (e 15 (by decide)).trans h15, (e 16 (by decide)).trans h16, (e 17 (by decide)).trans h17⟩
theorem cAt_7 {b' : Nat → Bool} (h : cAt w k W H n sl m col row bes wal cL cip cmk car) : cAt (w.set 7 (cZ m b')) k W H n sl m col row bes (b') cL cip cmk car := by
  obtain ⟨hX, h9, h13, h18, h19, h20, h21, f, l, g, l2, g2, F, D, dm, h10, h11, h12, h14, h15, h16, h17⟩ := h
  obtain ⟨a1, a2, a3, a4, a5, a6, a7, a8, a9, a10, a11, a12, a13⟩ := hX
  have e : ∀ i, i ∉ [7] → (w.set 7 (cZ m b'))[i]? = w[i]? := fun i hi => by
    exact List.getElem?_set_ne (by simp at hi; omega)
  exact ⟨⟨(e 1 (by decide)).trans a1, (e 2 (by decide)).trans a2, (e 3 (by decide)).trans a3, (e 4 (by decide)).trans a4, (e 5 (by decide)).trans a5, (e 6 (by decide)).trans a6, List.getElem?_set_self (len_of a7), (e 8 (by decide)).trans a8, a9, a10, a11, a12, a13⟩, (e 9 (by decide)).trans h9, (e 13 (by decide)).trans h13, (e 18 (by decide)).trans h18, (e 19 (by decide)).trans h19, (e 20 (by decide)).trans h20, (e 21 (by decide)).trans h21, f, l, g, l2, g2, F, D, dm, (e 10 (by decide)).trans h10, (e 11 (by decide)).trans h11, (e 12 (by decide)).trans h12, (e 14 (by decide)).trans h14, (e 15 (by decide)).trans h15, (e 16 (by decide)).trans h16, (e 17 (by decide)).trans h17⟩
theorem cAt_20 {b' : Nat → Int} (h : cAt w k W H n sl m col row bes wal cL cip cmk car) : cAt (w.set 20 (cI n b')) k W H n sl m col row bes wal cL cip (b') car := by
  obtain ⟨hX, h9, h13, h18, h19, h20, h21, f, l, g, l2, g2, F, D, dm, h10, h11, h12, h14, h15, h16, h17⟩ := h
  obtain ⟨a1, a2, a3, a4, a5, a6, a7, a8, a9, a10, a11, a12, a13⟩ := hX
  have e : ∀ i, i ∉ [20] → (w.set 20 (cI n b'))[i]? = w[i]? := fun i hi => by
    exact List.getElem?_set_ne (by simp at hi; omega)
  exact ⟨⟨(e 1 (by decide)).trans a1, (e 2 (by decide)).trans a2, (e 3 (by decide)).trans a3, (e 4 (by decide)).trans a4, (e 5 (by decide)).trans a5, (e 6 (by decide)).trans a6, (e 7 (by decide)).trans a7, (e 8 (by decide)).trans a8, a9, a10, a11, a12, a13⟩, (e 9 (by decide)).trans h9, (e 13 (by decide)).trans h13, (e 18 (by decide)).trans h18, (e 19 (by decide)).trans h19, List.getElem?_set_self (len_of h20), (e 21 (by decide)).trans h21, f, l, g, l2, g2, F, D, dm, (e 10 (by decide)).trans h10, (e 11 (by decide)).trans h11, (e 12 (by decide)).trans h12, (e 14 (by decide)).trans h14, (e 15 (by decide)).trans h15, (e 16 (by decide)).trans h16, (e 17 (by decide)).trans h17⟩
theorem cAt_21 {b' : Nat → Int} (h : cAt w k W H n sl m col row bes wal cL cip cmk car) : cAt (w.set 21 (cI n b')) k W H n sl m col row bes wal cL cip cmk (b') := by
  obtain ⟨hX, h9, h13, h18, h19, h20, h21, f, l, g, l2, g2, F, D, dm, h10, h11, h12, h14, h15, h16, h17⟩ := h
  obtain ⟨a1, a2, a3, a4, a5, a6, a7, a8, a9, a10, a11, a12, a13⟩ := hX
  have e : ∀ i, i ∉ [21] → (w.set 21 (cI n b'))[i]? = w[i]? := fun i hi => by
    exact List.getElem?_set_ne (by simp at hi; omega)
  exact ⟨⟨(e 1 (by decide)).trans a1, (e 2 (by decide)).trans a2, (e 3 (by decide)).trans a3, (e 4 (by decide)).trans a4, (e 5 (by decide)).trans a5, (e 6 (by decide)).trans a6, (e 7 (by decide)).trans a7, (e 8 (by decide)).trans a8, a9, a10, a11, a12, a13⟩, (e 9 (by decide)).trans h9, (e 13 (by decide)).trans h13, (e 18 (by decide)).trans h18, (e 19 (by decide)).trans h19, (e 20 (by decide)).trans h20, List.getElem?_set_self (len_of h21), f, l, g, l2, g2, F, D, dm, (e 10 (by decide)).trans h10, (e 11 (by decide)).trans h11, (e 12 (by decide)).trans h12, (e 14 (by decide)).trans h14, (e 15 (by decide)).trans h15, (e 16 (by decide)).trans h16, (e 17 (by decide)).trans h17⟩
theorem cAt_wW {f' g' : Nat → Int} {l' : Int} (h : cAt w k W H n sl m col row bes wal cL cip cmk car) : cAt (wW w (cI n f') (oRow 12 l') (cI n g')) k W H n sl m col row bes wal cL cip cmk car := by
  obtain ⟨hX, h9, h13, h18, h19, h20, h21, f, l, g, l2, g2, F, D, dm, h10, h11, h12, h14, h15, h16, h17⟩ := h
  obtain ⟨a1, a2, a3, a4, a5, a6, a7, a8, a9, a10, a11, a12, a13⟩ := hX
  have e : ∀ i, i ∉ [10, 11, 12] → (wW w (cI n f') (oRow 12 l') (cI n g'))[i]? = w[i]? := fun i hi => by
    simp at hi; exact wW_n (by omega) (by omega) (by omega)
  exact ⟨⟨(e 1 (by decide)).trans a1, (e 2 (by decide)).trans a2, (e 3 (by decide)).trans a3, (e 4 (by decide)).trans a4, (e 5 (by decide)).trans a5, (e 6 (by decide)).trans a6, (e 7 (by decide)).trans a7, (e 8 (by decide)).trans a8, a9, a10, a11, a12, a13⟩, (e 9 (by decide)).trans h9, (e 13 (by decide)).trans h13, (e 18 (by decide)).trans h18, (e 19 (by decide)).trans h19, (e 20 (by decide)).trans h20, (e 21 (by decide)).trans h21, f', l', g', l2, g2, F, D, dm, wW_a (len_of h12), wW_b (len_of h12), wW_c (len_of h12), (e 14 (by decide)).trans h14, (e 15 (by decide)).trans h15, (e 16 (by decide)).trans h16, (e 17 (by decide)).trans h17⟩
theorem cAt_wS {g' : Nat → Int} {l' : Int} (h : cAt w k W H n sl m col row bes wal cL cip cmk car) : cAt (wS w (oRow 15 l') (cI (3 * n) g')) k W H n sl m col row bes wal cL cip cmk car := by
  obtain ⟨hX, h9, h13, h18, h19, h20, h21, f, l, g, l2, g2, F, D, dm, h10, h11, h12, h14, h15, h16, h17⟩ := h
  obtain ⟨a1, a2, a3, a4, a5, a6, a7, a8, a9, a10, a11, a12, a13⟩ := hX
  have e : ∀ i, i ∉ [14, 15] → (wS w (oRow 15 l') (cI (3 * n) g'))[i]? = w[i]? := fun i hi => by
    simp at hi; exact wS_n (by omega) (by omega)
  exact ⟨⟨(e 1 (by decide)).trans a1, (e 2 (by decide)).trans a2, (e 3 (by decide)).trans a3, (e 4 (by decide)).trans a4, (e 5 (by decide)).trans a5, (e 6 (by decide)).trans a6, (e 7 (by decide)).trans a7, (e 8 (by decide)).trans a8, a9, a10, a11, a12, a13⟩, (e 9 (by decide)).trans h9, (e 13 (by decide)).trans h13, (e 18 (by decide)).trans h18, (e 19 (by decide)).trans h19, (e 20 (by decide)).trans h20, (e 21 (by decide)).trans h21, f, l, g, l', g', F, D, dm, (e 10 (by decide)).trans h10, (e 11 (by decide)).trans h11, (e 12 (by decide)).trans h12, wS_b (len_of h15), wS_c (len_of h15), (e 16 (by decide)).trans h16, (e 17 (by decide)).trans h17⟩
theorem cAt_u {g' : Nat → Int} {L' : Nat} (h : cAt w k W H n sl m col row bes wal cL cip cmk car) : cAt ((w.set 19 (cI 1200 g')).set 18 (oRow 19 (L' : Int))) k W H n sl m col row bes wal (L') (g') cmk car := by
  obtain ⟨hX, h9, h13, h18, h19, h20, h21, f, l, g, l2, g2, F, D, dm, h10, h11, h12, h14, h15, h16, h17⟩ := h
  obtain ⟨a1, a2, a3, a4, a5, a6, a7, a8, a9, a10, a11, a12, a13⟩ := hX
  have e : ∀ i, i ∉ [19, 18] → ((w.set 19 (cI 1200 g')).set 18 (oRow 19 (L' : Int)))[i]? = w[i]? := fun i hi => by
    simp at hi; rw [List.getElem?_set_ne (by omega), List.getElem?_set_ne (by omega)]
  exact ⟨⟨(e 1 (by decide)).trans a1, (e 2 (by decide)).trans a2, (e 3 (by decide)).trans a3, (e 4 (by decide)).trans a4, (e 5 (by decide)).trans a5, (e 6 (by decide)).trans a6, (e 7 (by decide)).trans a7, (e 8 (by decide)).trans a8, a9, a10, a11, a12, a13⟩, (e 9 (by decide)).trans h9, (e 13 (by decide)).trans h13, List.getElem?_set_self (by simpa using len_of h18), (List.getElem?_set_ne (by decide)).trans (List.getElem?_set_self (len_of h19)), (e 20 (by decide)).trans h20, (e 21 (by decide)).trans h21, f, l, g, l2, g2, F, D, dm, (e 10 (by decide)).trans h10, (e 11 (by decide)).trans h11, (e 12 (by decide)).trans h12, (e 14 (by decide)).trans h14, (e 15 (by decide)).trans h15, (e 16 (by decide)).trans h16, (e 17 (by decide)).trans h17⟩
theorem cAt_rd {F' D' : Int} {m' : Nat → Int} (h : cAt w k W H n sl m col row bes wal cL cip cmk car) : cAt ((wD w (oDraft F' D') (cI n m')).set 18 (oRow 19 0)) k W H n sl m col row bes wal 0 cip cmk car := by
  obtain ⟨hX, h9, h13, h18, h19, h20, h21, f, l, g, l2, g2, F, D, dm, h10, h11, h12, h14, h15, h16, h17⟩ := h
  obtain ⟨a1, a2, a3, a4, a5, a6, a7, a8, a9, a10, a11, a12, a13⟩ := hX
  have e : ∀ i, i ∉ [16, 17, 18] → ((wD w (oDraft F' D') (cI n m')).set 18 (oRow 19 0))[i]? = w[i]? := fun i hi => by
    simp at hi; rw [List.getElem?_set_ne (by omega)]; exact wD_n (by omega) (by omega)
  exact ⟨⟨(e 1 (by decide)).trans a1, (e 2 (by decide)).trans a2, (e 3 (by decide)).trans a3, (e 4 (by decide)).trans a4, (e 5 (by decide)).trans a5, (e 6 (by decide)).trans a6, (e 7 (by decide)).trans a7, (e 8 (by decide)).trans a8, a9, a10, a11, a12, a13⟩, (e 9 (by decide)).trans h9, (e 13 (by decide)).trans h13, List.getElem?_set_self (by unfold wD; simpa using len_of h18), (e 19 (by decide)).trans h19, (e 20 (by decide)).trans h20, (e 21 (by decide)).trans h21, f, l, g, l2, g2, F', D', m', (e 10 (by decide)).trans h10, (e 11 (by decide)).trans h11, (e 12 (by decide)).trans h12, (e 14 (by decide)).trans h14, (e 15 (by decide)).trans h15, (List.getElem?_set_ne (by decide)).trans (wD_b (len_of h17)), (List.getElem?_set_ne (by decide)).trans (wD_c (len_of h17))⟩
theorem kp_wW {a b c : mC} : kp w (wW w a b c) := ⟨by unfold wW; simp, fun i hi _ => wW_n (by omega) (by omega) (by omega)⟩
theorem kp_wS {a b : mC} : kp w (wS w a b) := ⟨by unfold wS; simp, fun i hi _ => wS_n (by omega) (by omega)⟩
theorem kp_rd {a b c : mC} : kp w ((wD w a b).set 18 c) := ⟨by unfold wD; simp, fun i hi _ => by rw [List.getElem?_set_ne (by omega)]; exact wD_n (by omega) (by omega)⟩
theorem up_rg {f : Nat → Int} {n m i : Nat} {z : Int} (h : ∀ j : Nat, j < m → -1 ≤ f j ∧ f j < n) (hz : -1 ≤ z ∧ z < n) : ∀ j : Nat, j < m → -1 ≤ up f i z j ∧ up f i z j < n := by
  intro j hj
  unfold up
  split
  · exact hz
  · exact h j hj
theorem updL_0 {o : Nat → Int64} {v : Int64} : vp_updL o (iI 0).toNatClampNeg v 0 = v := rfl
theorem S7_joinN (hG : m_G G) (d : Nat) (hS : ST sc w k W H n sl m col row bes wal cL cip cmk car t nb wl mL mip mmk mar o) {a b : Int} (ha : 0 ≤ a ∧ a < n) (hb : 0 ≤ b ∧ b < n) (hno : k ≠ 4 ∨ a = b ∨ sOf sl bes a b ≠ -1) : m_Ct G MX7_join (m_r (d + 3) 0 0) [.ref 1, vI a, vI b] w (fun r x => r = some (some (vB false)) ∧ ST sc x k W H n sl m col row bes wal cL cip cmk car t nb wl mL mip mmk mar o) := by
  have hS0 := hS
  obtain ⟨hlen, h0, hC, hM, h31⟩ := hS
  have hCC := hC
  obtain ⟨hX, h9, h13, h18, h19, h20, h21, f, l, g, l2, g2, F, D, dm, h10, h11, h12, h14, h15, h16, h17⟩ := hC
  have hMM := hM
  obtain ⟨pl, so, bt, rc, ou, fd, m22, m23, m24, m25, m26, m27, m28, m29, m30⟩ := hM
  have hF : fOK k W H n := hX.2.2.2.2.2.2.2.2.1
  have hnb := hF.n
  have key : m_Cv G MX7_join (m_r (d + 3) 0 0) [.ref 1, vI a, vI b] w _ w := c_X7_joinN hG d hX ha hb hno
  exact m_Ct.post key (fun r x h => ⟨h.1, by rw [h.2]; exact hS0⟩)
theorem S7_joinY (hG : m_G G) (d : Nat) (hS : ST sc w k W H n sl m col row bes wal cL cip cmk car t nb wl mL mip mmk mar o) {a b : Int} (ha : 0 ≤ a ∧ a < n) (hb : 0 ≤ b ∧ b < n) (hk : k = 4) (hab : a ≠ b) (hs : sOf sl bes a b = -1) : m_Ct G MX7_join (m_r (d + 3) 0 0) [.ref 1, vI a, vI b] w (fun r x => r = some (some (vB true)) ∧ ST sc x k W H n sl m col row (up (up bes (a * sl + b).toNat b) (b * sl + a).toNat a) wal cL cip cmk car t nb wl mL mip mmk mar o) := by
  have hS0 := hS
  obtain ⟨hlen, h0, hC, hM, h31⟩ := hS
  have hCC := hC
  obtain ⟨hX, h9, h13, h18, h19, h20, h21, f, l, g, l2, g2, F, D, dm, h10, h11, h12, h14, h15, h16, h17⟩ := hC
  have hMM := hM
  obtain ⟨pl, so, bt, rc, ou, fd, m22, m23, m24, m25, m26, m27, m28, m29, m30⟩ := hM
  have hF : fOK k W H n := hX.2.2.2.2.2.2.2.2.1
  have hnb := hF.n
  have key : m_Cv G MX7_join (m_r (d + 3) 0 0) [.ref 1, vI a, vI b] w _ _ := c_X7_joinY hG d hX ha hb hk hab hs
  exact m_Ct.post key (fun r x h => ⟨h.1, by rw [h.2]; exact ST_c hS0 (kp_set ⟨by decide, by decide⟩) (cAt_6 (up_rg (up_rg hX.2.2.2.2.2.2.2.2.2.2.2.2 ⟨by omega, by omega⟩) ⟨by omega, by omega⟩) hCC)⟩)
theorem S7_wallN (hG : m_G G) (d : Nat) (hS : ST sc w k W H n sl m col row bes wal cL cip cmk car t nb wl mL mip mmk mar o) {a b : Int} {on : Bool} (ha : 0 ≤ a ∧ a < n) (hb : 0 ≤ b ∧ b < n) (hno : sOf sl bes a b = -1 ∨ wAt sl wal a (sOf sl bes a b) = on) : m_Ct G MX7_wall (m_r (d + 3) 0 0) [.ref 1, vI a, vI b, vB on] w (fun r x => r = some (some (vB false)) ∧ ST sc x k W H n sl m col row bes wal cL cip cmk car t nb wl mL mip mmk mar o) := by
  have hS0 := hS
  obtain ⟨hlen, h0, hC, hM, h31⟩ := hS
  have hCC := hC
  obtain ⟨hX, h9, h13, h18, h19, h20, h21, f, l, g, l2, g2, F, D, dm, h10, h11, h12, h14, h15, h16, h17⟩ := hC
  have hMM := hM
  obtain ⟨pl, so, bt, rc, ou, fd, m22, m23, m24, m25, m26, m27, m28, m29, m30⟩ := hM
  have hF : fOK k W H n := hX.2.2.2.2.2.2.2.2.1
  have hnb := hF.n
  have key : m_Cv G MX7_wall (m_r (d + 3) 0 0) [.ref 1, vI a, vI b, vB on] w _ w := c_X7_wallN hG d hX ha hb hno
  exact m_Ct.post key (fun r x h => ⟨h.1, by rw [h.2]; exact hS0⟩)
theorem S7_wallY (hG : m_G G) (d : Nat) (hS : ST sc w k W H n sl m col row bes wal cL cip cmk car t nb wl mL mip mmk mar o) {a b : Int} {on : Bool} (ha : 0 ≤ a ∧ a < n) (hb : 0 ≤ b ∧ b < n) (hs1 : 0 ≤ sOf sl bes a b ∧ sOf sl bes a b < sl) (hs2 : 0 ≤ sOf sl bes b a ∧ sOf sl bes b a < sl) (hwl : wAt sl wal a (sOf sl bes a b) ≠ on) : m_Ct G MX7_wall (m_r (d + 3) 0 0) [.ref 1, vI a, vI b, vB on] w (fun r x => r = some (some (vB true)) ∧ ST sc x k W H n sl m col row bes (up (up wal (a * sl + sOf sl bes a b).toNat on) (b * sl + sOf sl bes b a).toNat on) cL cip cmk car t nb wl mL mip mmk mar o) := by
  have hS0 := hS
  obtain ⟨hlen, h0, hC, hM, h31⟩ := hS
  have hCC := hC
  obtain ⟨hX, h9, h13, h18, h19, h20, h21, f, l, g, l2, g2, F, D, dm, h10, h11, h12, h14, h15, h16, h17⟩ := hC
  have hMM := hM
  obtain ⟨pl, so, bt, rc, ou, fd, m22, m23, m24, m25, m26, m27, m28, m29, m30⟩ := hM
  have hF : fOK k W H n := hX.2.2.2.2.2.2.2.2.1
  have hnb := hF.n
  have key : m_Cv G MX7_wall (m_r (d + 3) 0 0) [.ref 1, vI a, vI b, vB on] w _ _ := c_X7_wallY hG d hX ha hb hs1 hs2 hwl
  exact m_Ct.post key (fun r x h => ⟨h.1, by rw [h.2]; exact ST_c hS0 (kp_set ⟨by decide, by decide⟩) (cAt_7 hCC)⟩)
theorem S7_degree (hG : m_G G) (d : Nat) (hS : ST sc w k W H n sl m col row bes wal cL cip cmk car t nb wl mL mip mmk mar o) {p : Int} {nx : Bool} (hp : 0 ≤ p ∧ p < n) : m_Ct G MX7_degree (m_r (d + 3) 0 0) [.ref 1, vI p, vB nx] w (fun r x => r = some (some (vI (cntF (fun s => (if nx then oAt sl bes wal p s else bAt sl bes p s) != -1) sl 0))) ∧ ST sc x k W H n sl m col row bes wal cL cip cmk car t nb wl mL mip mmk mar o) := by
  have hS0 := hS
  obtain ⟨hlen, h0, hC, hM, h31⟩ := hS
  have hCC := hC
  obtain ⟨hX, h9, h13, h18, h19, h20, h21, f, l, g, l2, g2, F, D, dm, h10, h11, h12, h14, h15, h16, h17⟩ := hC
  have hMM := hM
  obtain ⟨pl, so, bt, rc, ou, fd, m22, m23, m24, m25, m26, m27, m28, m29, m30⟩ := hM
  have hF : fOK k W H n := hX.2.2.2.2.2.2.2.2.1
  have hnb := hF.n
  have key : m_Cv G MX7_degree (m_r (d + 3) 0 0) [.ref 1, vI p, vB nx] w _ w := c_X7_degree hG d hX hp
  exact m_Ct.post key (fun r x h => ⟨h.1, by rw [h.2]; exact hS0⟩)
theorem S7_neighbour (hG : m_G G) (d : Nat) (hS : ST sc w k W H n sl m col row bes wal cL cip cmk car t nb wl mL mip mmk mar o) {p : Int} {c : Int} (hp : 0 ≤ p ∧ p < n) (hc : iR c) : m_Ct G MX7_neighbour (m_r (d + 3) 0 0) [.ref 1, vI p, vI c] w (fun r x => r = some (some (vI (nthF (bAt sl bes p) c sl 0 0))) ∧ ST sc x k W H n sl m col row bes wal cL cip cmk car t nb wl mL mip mmk mar o) := by
  have hS0 := hS
  obtain ⟨hlen, h0, hC, hM, h31⟩ := hS
  have hCC := hC
  obtain ⟨hX, h9, h13, h18, h19, h20, h21, f, l, g, l2, g2, F, D, dm, h10, h11, h12, h14, h15, h16, h17⟩ := hC
  have hMM := hM
  obtain ⟨pl, so, bt, rc, ou, fd, m22, m23, m24, m25, m26, m27, m28, m29, m30⟩ := hM
  have hF : fOK k W H n := hX.2.2.2.2.2.2.2.2.1
  have hnb := hF.n
  have key : m_Cv G MX7_neighbour (m_r (d + 3) 0 0) [.ref 1, vI p, vI c] w _ w := c_X7_neighbour hG d hX hp hc
  exact m_Ct.post key (fun r x h => ⟨h.1, by rw [h.2]; exact hS0⟩)
theorem S7_seen (hG : m_G G) (d : Nat) (hS : ST sc w k W H n sl m col row bes wal cL cip cmk car t nb wl mL mip mmk mar o) {p q i : Int} (hp : 0 ≤ p ∧ p < n) (hr : iR q) (hi : iR i) : m_Ct G MX7_seen (m_r (d + 3) 0 0) [.ref 1, vI p, vI q, vI i] w (fun r x => r = some (some (vI (if inB q (dirN k) then seF (fun z => oAt sl bes wal z q) p i n 0 (oAt sl bes wal p q) else -1))) ∧ ST sc x k W H n sl m col row bes wal cL cip cmk car t nb wl mL mip mmk mar o) := by
  have hS0 := hS
  obtain ⟨hlen, h0, hC, hM, h31⟩ := hS
  have hCC := hC
  obtain ⟨hX, h9, h13, h18, h19, h20, h21, f, l, g, l2, g2, F, D, dm, h10, h11, h12, h14, h15, h16, h17⟩ := hC
  have hMM := hM
  obtain ⟨pl, so, bt, rc, ou, fd, m22, m23, m24, m25, m26, m27, m28, m29, m30⟩ := hM
  have hF : fOK k W H n := hX.2.2.2.2.2.2.2.2.1
  have hnb := hF.n
  have key : m_Cv G MX7_seen (m_r (d + 3) 0 0) [.ref 1, vI p, vI q, vI i] w _ w := c_X7_seen hG d hX hp hr hi
  exact m_Ct.post key (fun r x h => ⟨h.1, by rw [h.2]; exact hS0⟩)
theorem S7_image (hG : m_G G) (d : Nat) (hS : ST sc w k W H n sl m col row bes wal cL cip cmk car t nb wl mL mip mmk mar o) {a p : Int} (hp : 0 ≤ p ∧ p < n) (ha : iR a) : m_Ct G MX7_image (m_r (d + 3) 0 0) [.ref 1, vI a, vI p] w (fun r x => r = some (some (vI (if inB a (tuN k W H) then trn k W H a (col p.toNat) (row p.toNat) else -1))) ∧ ST sc x k W H n sl m col row bes wal cL cip cmk car t nb wl mL mip mmk mar o) := by
  have hS0 := hS
  obtain ⟨hlen, h0, hC, hM, h31⟩ := hS
  have hCC := hC
  obtain ⟨hX, h9, h13, h18, h19, h20, h21, f, l, g, l2, g2, F, D, dm, h10, h11, h12, h14, h15, h16, h17⟩ := hC
  have hMM := hM
  obtain ⟨pl, so, bt, rc, ou, fd, m22, m23, m24, m25, m26, m27, m28, m29, m30⟩ := hM
  have hF : fOK k W H n := hX.2.2.2.2.2.2.2.2.1
  have hnb := hF.n
  have key : m_Cv G MX7_image (m_r (d + 3) 0 0) [.ref 1, vI a, vI p] w _ w := c_X7_image hG d hX hp ha
  exact m_Ct.post key (fun r x h => ⟨h.1, by rw [h.2]; exact hS0⟩)
theorem S7_areaN (hG : m_G G) (d : Nat) (hS : ST sc w k W H n sl m col row bes wal cL cip cmk car t nb wl mL mip mmk mar o) {p a : Int} (hp : 0 ≤ p ∧ p < n) (ha : ¬ (0 ≤ a ∧ a < n)) (hr : iR a) : m_Ct G MX7_area (m_r (d + 3) 0 0) [.ref 1, vI p, vI a] w (fun r x => r = some (some (vB false)) ∧ ST sc x k W H n sl m col row bes wal cL cip cmk car t nb wl mL mip mmk mar o) := by
  have hS0 := hS
  obtain ⟨hlen, h0, hC, hM, h31⟩ := hS
  have hCC := hC
  obtain ⟨hX, h9, h13, h18, h19, h20, h21, f, l, g, l2, g2, F, D, dm, h10, h11, h12, h14, h15, h16, h17⟩ := hC
  have hMM := hM
  obtain ⟨pl, so, bt, rc, ou, fd, m22, m23, m24, m25, m26, m27, m28, m29, m30⟩ := hM
  have hF : fOK k W H n := hX.2.2.2.2.2.2.2.2.1
  have hnb := hF.n
  have key : m_Cv G MX7_area (m_r (d + 3) 0 0) [.ref 1, vI p, vI a] w _ w := c_X7_areaN hG d hX hp ha hr
  exact m_Ct.post key (fun r x h => ⟨h.1, by rw [h.2]; exact hS0⟩)
theorem S7_areaY (hG : m_G G) (d : Nat) (hS : ST sc w k W H n sl m col row bes wal cL cip cmk car t nb wl mL mip mmk mar o) {p a : Int} (hp : 0 ≤ p ∧ p < n) (ha : 0 ≤ a ∧ a < n) : m_Ct G MX7_area (m_r (d + 3) 0 0) [.ref 1, vI p, vI a] w (fun r x => r = some (some (vB true)) ∧ ST sc x k W H n sl m col row bes wal cL cip cmk (up car p.toNat a) t nb wl mL mip mmk mar o) := by
  have hS0 := hS
  obtain ⟨hlen, h0, hC, hM, h31⟩ := hS
  have hCC := hC
  obtain ⟨hX, h9, h13, h18, h19, h20, h21, f, l, g, l2, g2, F, D, dm, h10, h11, h12, h14, h15, h16, h17⟩ := hC
  have hMM := hM
  obtain ⟨pl, so, bt, rc, ou, fd, m22, m23, m24, m25, m26, m27, m28, m29, m30⟩ := hM
  have hF : fOK k W H n := hX.2.2.2.2.2.2.2.2.1
  have hnb := hF.n
  have key : m_Cv G MX7_area (m_r (d + 3) 0 0) [.ref 1, vI p, vI a] w _ _ := c_X7_areaY hG d hX h21 hp ha
  exact m_Ct.post key (fun r x h => ⟨h.1, by rw [h.2]; exact ST_c hS0 (kp_set ⟨by decide, by decide⟩) (cAt_21 hCC)⟩)
theorem S7_markN (hG : m_G G) (d : Nat) (hS : ST sc w k W H n sl m col row bes wal cL cip cmk car t nb wl mL mip mmk mar o) {p a : Int} (hp : 0 ≤ p ∧ p < n) (ha : ¬ (0 ≤ a ∧ a ≤ 99)) (hr : iR a) : m_Ct G MX7_mark (m_r (d + 3) 0 0) [.ref 1, vI p, vI a] w (fun r x => r = some (some (vB false)) ∧ ST sc x k W H n sl m col row bes wal cL cip cmk car t nb wl mL mip mmk mar o) := by
  have hS0 := hS
  obtain ⟨hlen, h0, hC, hM, h31⟩ := hS
  have hCC := hC
  obtain ⟨hX, h9, h13, h18, h19, h20, h21, f, l, g, l2, g2, F, D, dm, h10, h11, h12, h14, h15, h16, h17⟩ := hC
  have hMM := hM
  obtain ⟨pl, so, bt, rc, ou, fd, m22, m23, m24, m25, m26, m27, m28, m29, m30⟩ := hM
  have hF : fOK k W H n := hX.2.2.2.2.2.2.2.2.1
  have hnb := hF.n
  have key : m_Cv G MX7_mark (m_r (d + 3) 0 0) [.ref 1, vI p, vI a] w _ w := c_X7_markN hG d hX hp ha hr
  exact m_Ct.post key (fun r x h => ⟨h.1, by rw [h.2]; exact hS0⟩)
theorem S7_markY (hG : m_G G) (d : Nat) (hS : ST sc w k W H n sl m col row bes wal cL cip cmk car t nb wl mL mip mmk mar o) {p a : Int} (hp : 0 ≤ p ∧ p < n) (ha : 0 ≤ a ∧ a ≤ 99) : m_Ct G MX7_mark (m_r (d + 3) 0 0) [.ref 1, vI p, vI a] w (fun r x => r = some (some (vB true)) ∧ ST sc x k W H n sl m col row bes wal cL cip (up cmk p.toNat a) car t nb wl mL mip mmk mar o) := by
  have hS0 := hS
  obtain ⟨hlen, h0, hC, hM, h31⟩ := hS
  have hCC := hC
  obtain ⟨hX, h9, h13, h18, h19, h20, h21, f, l, g, l2, g2, F, D, dm, h10, h11, h12, h14, h15, h16, h17⟩ := hC
  have hMM := hM
  obtain ⟨pl, so, bt, rc, ou, fd, m22, m23, m24, m25, m26, m27, m28, m29, m30⟩ := hM
  have hF : fOK k W H n := hX.2.2.2.2.2.2.2.2.1
  have hnb := hF.n
  have key : m_Cv G MX7_mark (m_r (d + 3) 0 0) [.ref 1, vI p, vI a] w _ _ := c_X7_markY hG d hX h20 hp ha
  exact m_Ct.post key (fun r x h => ⟨h.1, by rw [h.2]; exact ST_c hS0 (kp_set ⟨by decide, by decide⟩) (cAt_20 hCC)⟩)
theorem S7_far (hG : m_G G) (d : Nat) (hS : ST sc w k W H n sl m col row bes wal cL cip cmk car t nb wl mL mip mmk mar o) {a b : Int} (ha : 0 ≤ a ∧ a < n) (hb : 0 ≤ b ∧ b < n) : m_Ct G MX7_far (m_r (d + 5) 0 0) [.ref 1, vI a, vI b] w (fun r x => (∃ f2 : Nat → Int, bfs (nxC sl bes wal) n (fun _ => -1) f2 a.toNat ∧ r = some (some (vI (f2 b.toNat)))) ∧ ST sc x k W H n sl m col row bes wal cL cip cmk car t nb wl mL mip mmk mar o) := by
  have hS0 := hS
  obtain ⟨hlen, h0, hC, hM, h31⟩ := hS
  have hCC := hC
  obtain ⟨hX, h9, h13, h18, h19, h20, h21, f, l, g, l2, g2, F, D, dm, h10, h11, h12, h14, h15, h16, h17⟩ := hC
  have hMM := hM
  obtain ⟨pl, so, bt, rc, ou, fd, m22, m23, m24, m25, m26, m27, m28, m29, m30⟩ := hM
  have hF : fOK k W H n := hX.2.2.2.2.2.2.2.2.1
  have hnb := hF.n
  have key : m_Ct G MX7_far (m_r (d + 5) 0 0) [.ref 1, vI a, vI b] w _ := c_X7_far hG d hX h9 (len_of h12) h10 h11 h12 ha hb
  exact m_Ct.post key (fun r x h => by
    obtain ⟨l3, f2, g3, q1, q2, -, rfl⟩ := h
    exact ⟨⟨f2, q1, q2⟩, ST_c hS0 kp_wW (cAt_wW hCC)⟩)
theorem S7_without (hG : m_G G) (d : Nat) (hS : ST sc w k W H n sl m col row bes wal cL cip cmk car t nb wl mL mip mmk mar o) {p : Int} (hp : 0 ≤ p ∧ p < n) : m_Ct G MX7_without (m_r (d + 5) 0 0) [.ref 1, vI p] w (fun r x => (∃ c : Int, r = some (some (vI c)) ∧ cpR (nxC sl bes wal) n n 0 (fun q => q ≠ p.toNat) c) ∧ ST sc x k W H n sl m col row bes wal cL cip cmk car t nb wl mL mip mmk mar o) := by
  have hS0 := hS
  obtain ⟨hlen, h0, hC, hM, h31⟩ := hS
  have hCC := hC
  obtain ⟨hX, h9, h13, h18, h19, h20, h21, f, l, g, l2, g2, F, D, dm, h10, h11, h12, h14, h15, h16, h17⟩ := hC
  have hMM := hM
  obtain ⟨pl, so, bt, rc, ou, fd, m22, m23, m24, m25, m26, m27, m28, m29, m30⟩ := hM
  have hF : fOK k W H n := hX.2.2.2.2.2.2.2.2.1
  have hnb := hF.n
  have key : m_Ct G MX7_without (m_r (d + 5) 0 0) [.ref 1, vI p] w _ := c_X7_without hG d hX h9 (len_of h12) h10 h11 h12 hp
  exact m_Ct.post key (fun r x h => by
    obtain ⟨c, l3, f2, g3, q1, q2, rfl⟩ := h
    exact ⟨⟨c, q1, q2⟩, ST_c hS0 kp_wW (cAt_wW hCC)⟩)
theorem S7_partsA (hG : m_G G) (d : Nat) (hS : ST sc w k W H n sl m col row bes wal cL cip cmk car t nb wl mL mip mmk mar o) {a : Int} (ha : a < 0) (hra : iR a) : m_Ct G MX7_parts (m_r (d + 5) 0 0) [.ref 1, vI a] w (fun r x => (∃ c : Int, r = some (some (vI c)) ∧ cpR (nxC sl bes wal) n n 0 (fun _ => True) c) ∧ ST sc x k W H n sl m col row bes wal cL cip cmk car t nb wl mL mip mmk mar o) := by
  have hS0 := hS
  obtain ⟨hlen, h0, hC, hM, h31⟩ := hS
  have hCC := hC
  obtain ⟨hX, h9, h13, h18, h19, h20, h21, f, l, g, l2, g2, F, D, dm, h10, h11, h12, h14, h15, h16, h17⟩ := hC
  have hMM := hM
  obtain ⟨pl, so, bt, rc, ou, fd, m22, m23, m24, m25, m26, m27, m28, m29, m30⟩ := hM
  have hF : fOK k W H n := hX.2.2.2.2.2.2.2.2.1
  have hnb := hF.n
  have key : m_Ct G MX7_parts (m_r (d + 5) 0 0) [.ref 1, vI a] w _ := c_X7_partsA hG d hX h9 (len_of h12) h10 h11 h12 ha hra
  exact m_Ct.post key (fun r x h => by
    obtain ⟨c, l3, f2, g3, q1, q2, rfl⟩ := h
    exact ⟨⟨c, q1, q2⟩, ST_c hS0 kp_wW (cAt_wW hCC)⟩)
theorem S7_partsB (hG : m_G G) (d : Nat) (hS : ST sc w k W H n sl m col row bes wal cL cip cmk car t nb wl mL mip mmk mar o) {a : Int} (ha : 0 ≤ a) (hra : iR a) (hA : ∀ j, j < n → iR (car j)) : m_Ct G MX7_parts (m_r (d + 5) 0 0) [.ref 1, vI a] w (fun r x => (∃ c : Int, r = some (some (vI c)) ∧ cpR (nxC sl bes wal) n n 0 (fun q => car q = a) c) ∧ ST sc x k W H n sl m col row bes wal cL cip cmk car t nb wl mL mip mmk mar o) := by
  have hS0 := hS
  obtain ⟨hlen, h0, hC, hM, h31⟩ := hS
  have hCC := hC
  obtain ⟨hX, h9, h13, h18, h19, h20, h21, f, l, g, l2, g2, F, D, dm, h10, h11, h12, h14, h15, h16, h17⟩ := hC
  have hMM := hM
  obtain ⟨pl, so, bt, rc, ou, fd, m22, m23, m24, m25, m26, m27, m28, m29, m30⟩ := hM
  have hF : fOK k W H n := hX.2.2.2.2.2.2.2.2.1
  have hnb := hF.n
  have key : m_Ct G MX7_parts (m_r (d + 5) 0 0) [.ref 1, vI a] w _ := c_X7_partsB hG d hX h9 (len_of h12) h10 h11 h12 h21 hA ha hra
  exact m_Ct.post key (fun r x h => by
    obtain ⟨c, l3, f2, g3, q1, q2, rfl⟩ := h
    exact ⟨⟨c, q1, q2⟩, ST_c hS0 kp_wW (cAt_wW hCC)⟩)
theorem S7_places (hG : m_G G) (d : Nat) (hS : ST sc w k W H n sl m col row bes wal cL cip cmk car t nb wl mL mip mmk mar o)  : m_Ct G MX7_places (m_r (d + 0) 0 0) [.ref 1] w (fun r x => r = some (some (vI n)) ∧ ST sc x k W H n sl m col row bes wal cL cip cmk car t nb wl mL mip mmk mar o) := by
  have hS0 := hS
  obtain ⟨hlen, h0, hC, hM, h31⟩ := hS
  have hCC := hC
  obtain ⟨hX, h9, h13, h18, h19, h20, h21, f, l, g, l2, g2, F, D, dm, h10, h11, h12, h14, h15, h16, h17⟩ := hC
  have hMM := hM
  obtain ⟨pl, so, bt, rc, ou, fd, m22, m23, m24, m25, m26, m27, m28, m29, m30⟩ := hM
  have hF : fOK k W H n := hX.2.2.2.2.2.2.2.2.1
  have hnb := hF.n
  have key : m_Cv G MX7_places (m_r (d + 0) 0 0) [.ref 1] w _ w := c_X7_places hG d hX
  exact m_Ct.post key (fun r x h => ⟨h.1, by rw [h.2]; exact hS0⟩)
theorem S7_pairs (hG : m_G G) (d : Nat) (hS : ST sc w k W H n sl m col row bes wal cL cip cmk car t nb wl mL mip mmk mar o) {wd : Bool} : m_Ct G MX7_pairs (m_r (d + 2) 0 0) [.ref 1, vB wd] w (fun r x => r = some (some (vI (sumF (fun p => cntF (prP sl bes wal wd p) sl 0) n 0))) ∧ ST sc x k W H n sl m col row bes wal cL cip cmk car t nb wl mL mip mmk mar o) := by
  have hS0 := hS
  obtain ⟨hlen, h0, hC, hM, h31⟩ := hS
  have hCC := hC
  obtain ⟨hX, h9, h13, h18, h19, h20, h21, f, l, g, l2, g2, F, D, dm, h10, h11, h12, h14, h15, h16, h17⟩ := hC
  have hMM := hM
  obtain ⟨pl, so, bt, rc, ou, fd, m22, m23, m24, m25, m26, m27, m28, m29, m30⟩ := hM
  have hF : fOK k W H n := hX.2.2.2.2.2.2.2.2.1
  have hnb := hF.n
  have key : m_Cv G MX7_pairs (m_r (d + 2) 0 0) [.ref 1, vB wd] w _ w := c_X7_pairs hG d hX
  exact m_Ct.post key (fun r x h => ⟨h.1, by rw [h.2]; exact hS0⟩)
theorem S7_pair (hG : m_G G) (d : Nat) (hS : ST sc w k W H n sl m col row bes wal cL cip cmk car t nb wl mL mip mmk mar o) {c : Int} {gr : Bool} (hc : iR c) : m_Ct G MX7_pair (m_r (d + 3) 0 0) [.ref 1, vI c, vB gr] w (fun r x => r = some (some (vI (prO sl bes c gr n 0 0))) ∧ ST sc x k W H n sl m col row bes wal cL cip cmk car t nb wl mL mip mmk mar o) := by
  have hS0 := hS
  obtain ⟨hlen, h0, hC, hM, h31⟩ := hS
  have hCC := hC
  obtain ⟨hX, h9, h13, h18, h19, h20, h21, f, l, g, l2, g2, F, D, dm, h10, h11, h12, h14, h15, h16, h17⟩ := hC
  have hMM := hM
  obtain ⟨pl, so, bt, rc, ou, fd, m22, m23, m24, m25, m26, m27, m28, m29, m30⟩ := hM
  have hF : fOK k W H n := hX.2.2.2.2.2.2.2.2.1
  have hnb := hF.n
  have key : m_Cv G MX7_pair (m_r (d + 3) 0 0) [.ref 1, vI c, vB gr] w _ w := c_X7_pair hG d hX hc
  exact m_Ct.post key (fun r x h => ⟨h.1, by rw [h.2]; exact hS0⟩)
theorem S7_size (hG : m_G G) (d : Nat) (hS : ST sc w k W H n sl m col row bes wal cL cip cmk car t nb wl mL mip mmk mar o) {a : Int} (ha : iR a) (hA : ∀ j, j < n → iR (car j)) : m_Ct G MX7_size (m_r (d + 0) 0 0) [.ref 1, vI a] w (fun r x => r = some (some (vI (cntF (fun s => car s.toNat == a) n 0))) ∧ ST sc x k W H n sl m col row bes wal cL cip cmk car t nb wl mL mip mmk mar o) := by
  have hS0 := hS
  obtain ⟨hlen, h0, hC, hM, h31⟩ := hS
  have hCC := hC
  obtain ⟨hX, h9, h13, h18, h19, h20, h21, f, l, g, l2, g2, F, D, dm, h10, h11, h12, h14, h15, h16, h17⟩ := hC
  have hMM := hM
  obtain ⟨pl, so, bt, rc, ou, fd, m22, m23, m24, m25, m26, m27, m28, m29, m30⟩ := hM
  have hF : fOK k W H n := hX.2.2.2.2.2.2.2.2.1
  have hnb := hF.n
  have key : m_Cv G MX7_size (m_r (d + 0) 0 0) [.ref 1, vI a] w _ w := c_X7_size hG d hX h21 ha hA
  exact m_Ct.post key (fun r x h => ⟨h.1, by rw [h.2]; exact hS0⟩)
theorem S7_keeps (hG : m_G G) (d : Nat) (hS : ST sc w k W H n sl m col row bes wal cL cip cmk car t nb wl mL mip mmk mar o) {a : Int} (ha : iR a) (hK : ∀ j, j < n → iR (cmk j)) : m_Ct G MX7_keeps (m_r (d + 5) 0 0) [.ref 1, vI a] w (fun r x => r = some (some (vB (inB a (tuN k W H) && allF (kaP sl bes cmk wal (tMap k W H a col row)) n 0))) ∧ ST sc x k W H n sl m col row bes wal cL cip cmk car t nb wl mL mip mmk mar o) := by
  have hS0 := hS
  obtain ⟨hlen, h0, hC, hM, h31⟩ := hS
  have hCC := hC
  obtain ⟨hX, h9, h13, h18, h19, h20, h21, f, l, g, l2, g2, F, D, dm, h10, h11, h12, h14, h15, h16, h17⟩ := hC
  have hMM := hM
  obtain ⟨pl, so, bt, rc, ou, fd, m22, m23, m24, m25, m26, m27, m28, m29, m30⟩ := hM
  have hF : fOK k W H n := hX.2.2.2.2.2.2.2.2.1
  have hnb := hF.n
  have key : m_Cv G MX7_keeps (m_r (d + 5) 0 0) [.ref 1, vI a] w _ w := c_X7_keeps hG d hX h20 hK ha
  exact m_Ct.post key (fun r x h => ⟨h.1, by rw [h.2]; exact hS0⟩)
theorem S7_keeping (hG : m_G G) (d : Nat) (hS : ST sc w k W H n sl m col row bes wal cL cip cmk car t nb wl mL mip mmk mar o) (hK : ∀ j, j < n → iR (cmk j)) : m_Ct G MX7_keeping (m_r (d + 5) 0 0) [.ref 1] w (fun r x => r = some (some (vI (cntF (fun t => allF (kaP sl bes cmk wal (tMap k W H t col row)) n 0) (tuN k W H).toNat 0))) ∧ ST sc x k W H n sl m col row bes wal cL cip cmk car t nb wl mL mip mmk mar o) := by
  have hS0 := hS
  obtain ⟨hlen, h0, hC, hM, h31⟩ := hS
  have hCC := hC
  obtain ⟨hX, h9, h13, h18, h19, h20, h21, f, l, g, l2, g2, F, D, dm, h10, h11, h12, h14, h15, h16, h17⟩ := hC
  have hMM := hM
  obtain ⟨pl, so, bt, rc, ou, fd, m22, m23, m24, m25, m26, m27, m28, m29, m30⟩ := hM
  have hF : fOK k W H n := hX.2.2.2.2.2.2.2.2.1
  have hnb := hF.n
  have key : m_Cv G MX7_keeping (m_r (d + 5) 0 0) [.ref 1] w _ w := c_X7_keeping hG d hX h20 hK
  exact m_Ct.post key (fun r x h => ⟨h.1, by rw [h.2]; exact hS0⟩)
theorem S7_text (hG : m_G G) (d : Nat) (hS : ST sc w k W H n sl m col row bes wal cL cip cmk car t nb wl mL mip mmk mar o) {i : Int} (hi : iR i) (hK : ∀ j, j < n → 0 ≤ cmk j ∧ cmk j ≤ 99) : m_Ct G MX7_text (m_r (d + 3) 0 0) [.ref 1, vI i] w (fun r x => r = some (some (vI (atL (txF cmk n 0 0) i))) ∧ ST sc x k W H n sl m col row bes wal cL cip cmk car t nb wl mL mip mmk mar o) := by
  have hS0 := hS
  obtain ⟨hlen, h0, hC, hM, h31⟩ := hS
  have hCC := hC
  obtain ⟨hX, h9, h13, h18, h19, h20, h21, f, l, g, l2, g2, F, D, dm, h10, h11, h12, h14, h15, h16, h17⟩ := hC
  have hMM := hM
  obtain ⟨pl, so, bt, rc, ou, fd, m22, m23, m24, m25, m26, m27, m28, m29, m30⟩ := hM
  have hF : fOK k W H n := hX.2.2.2.2.2.2.2.2.1
  have hnb := hF.n
  have key : m_Ct G MX7_text (m_r (d + 3) 0 0) [.ref 1, vI i] w _ := c_X7_text hG d hX h20 hK h13 (len_of h15) h14 h15 hi
  exact m_Ct.post key (fun r x h => by
    obtain ⟨q1, l3, g3, rfl⟩ := h
    exact ⟨q1, ST_c hS0 kp_wS (cAt_wS hCC)⟩)
theorem S7_unitN (hG : m_G G) (d : Nat) (hS : ST sc w k W H n sl m col row bes wal cL cip cmk car t nb wl mL mip mmk mar o) {u : Int} (hu : iR u) (hz : cL ≤ 1200) (hno : ¬ (0 ≤ u ∧ u ≤ 255 ∧ (cL : Int) < 1200)) : m_Ct G MX7_unit (m_r (d + 1) 0 0) [.ref 1, vI u] w (fun r x => r = some (some (vB false)) ∧ ST sc x k W H n sl m col row bes wal cL cip cmk car t nb wl mL mip mmk mar o) := by
  have hS0 := hS
  obtain ⟨hlen, h0, hC, hM, h31⟩ := hS
  have hCC := hC
  obtain ⟨hX, h9, h13, h18, h19, h20, h21, f, l, g, l2, g2, F, D, dm, h10, h11, h12, h14, h15, h16, h17⟩ := hC
  have hMM := hM
  obtain ⟨pl, so, bt, rc, ou, fd, m22, m23, m24, m25, m26, m27, m28, m29, m30⟩ := hM
  have hF : fOK k W H n := hX.2.2.2.2.2.2.2.2.1
  have hnb := hF.n
  have key : m_Cv G MX7_unit (m_r (d + 1) 0 0) [.ref 1, vI u] w _ w := c_X7_unitN hG d hX.1 h18 h19 ⟨by omega, by omega⟩ hu hno
  exact m_Ct.post key (fun r x h => ⟨h.1, by rw [h.2]; exact hS0⟩)
theorem S7_unitY (hG : m_G G) (d : Nat) (hS : ST sc w k W H n sl m col row bes wal cL cip cmk car t nb wl mL mip mmk mar o) {u : Int} (hu : 0 ≤ u ∧ u ≤ 255) (hz : cL < 1200) : m_Ct G MX7_unit (m_r (d + 1) 0 0) [.ref 1, vI u] w (fun r x => r = some (some (vB true)) ∧ ST sc x k W H n sl m col row bes wal (cL + 1) (up cip cL u) cmk car t nb wl mL mip mmk mar o) := by
  have hS0 := hS
  obtain ⟨hlen, h0, hC, hM, h31⟩ := hS
  have hCC := hC
  obtain ⟨hX, h9, h13, h18, h19, h20, h21, f, l, g, l2, g2, F, D, dm, h10, h11, h12, h14, h15, h16, h17⟩ := hC
  have hMM := hM
  obtain ⟨pl, so, bt, rc, ou, fd, m22, m23, m24, m25, m26, m27, m28, m29, m30⟩ := hM
  have hF : fOK k W H n := hX.2.2.2.2.2.2.2.2.1
  have hnb := hF.n
  have key : m_Cv G MX7_unit (m_r (d + 1) 0 0) [.ref 1, vI u] w _ _ := c_X7_unitY hG d hX.1 h18 h19 ⟨by omega, by omega⟩ hu
  rw [Int.toNat_natCast, show (cL : Int) + 1 = ((cL + 1 : Nat) : Int) by omega] at key
  exact m_Ct.post key (fun r x h => ⟨h.1, by rw [h.2]; exact ST_c hS0 (kp_tr (kp_set ⟨by decide, by decide⟩) (kp_set ⟨by decide, by decide⟩)) (cAt_u hCC)⟩)
theorem S7_read (hG : m_G G) (d : Nat) (hS : ST sc w k W H n sl m col row bes wal cL cip cmk car t nb wl mL mip mmk mar o) (hL : cL ≤ 1200) (hb : ∀ i, i < cL → 0 ≤ cip i ∧ cip i ≤ 255) : m_Ct G MX7_read (m_r (d + 3) 0 0) [.ref 1] w (fun r x => ∃ dm : Nat → Int, ((pF n cip cL cL 0 0 0 dm).1 = -1 ∧ r = some (some (vI n)) ∧ ST sc x k W H n sl m col row bes wal 0 cip (fill n (pF n cip cL cL 0 0 0 dm).2 cmk) car t nb wl mL mip mmk mar o) ∨ ((pF n cip cL cL 0 0 0 dm).1 ≠ -1 ∧ r = some (some (vI (-1 - (pF n cip cL cL 0 0 0 dm).1))) ∧ ST sc x k W H n sl m col row bes wal 0 cip cmk car t nb wl mL mip mmk mar o)) := by
  have hS0 := hS
  obtain ⟨hlen, h0, hC, hM, h31⟩ := hS
  have hCC := hC
  obtain ⟨hX, h9, h13, h18, h19, h20, h21, f, l, g, l2, g2, F, D, dm, h10, h11, h12, h14, h15, h16, h17⟩ := hC
  have hMM := hM
  obtain ⟨pl, so, bt, rc, ou, fd, m22, m23, m24, m25, m26, m27, m28, m29, m30⟩ := hM
  have hF : fOK k W H n := hX.2.2.2.2.2.2.2.2.1
  have hnb := hF.n
  have hpr := pF_r (n := n) (b := cip) (L := cL) cL 0 0 0 dm (by omega)
  have key : m_Ct G MX7_read (m_r (d + 3) 0 0) [.ref 1] w _ := c_X7_read hG d hX hL h18 h19 hb h16 h17 h20 (len_of h20) ⟨hpr.1, by omega⟩
  refine m_Ct.post key (fun r x h => ⟨dm, ?_⟩)
  obtain ⟨F2, D2, m2, ⟨q1, q2, rfl⟩ | ⟨q1, q2, rfl⟩⟩ := h
  · exact Or.inl ⟨q1, q2, ST_c hS0 (kp_tr kp_rd (kp_set ⟨by decide, by decide⟩)) (cAt_20 (cAt_rd hCC))⟩
  · exact Or.inr ⟨q1, q2, ST_c hS0 kp_rd (cAt_rd hCC)⟩
theorem W7_joinN (hG : m_G G) (d : Nat) (hS : ST sc w k W H n sl m col row bes wal cL cip cmk car t nb wl mL mip mmk mar o) {a b : Int} (ha : 0 ≤ a ∧ a < n) (hb : 0 ≤ b ∧ b < n) (hno : k ≠ 4 ∨ a = b ∨ sOf sl bes a b ≠ -1) : m_Ct G ML_join (m_r (d + 4) 1 6) [.ref 1, vI a, vI b, .ref 31] w (fun r x => r = some (some (vI 0)) ∧ ∃ o' : Nat → Int64, o' 0 = (if false then 1 else 0) ∧ ST sc x k W H n sl m col row bes wal cL cip cmk car t nb wl mL mip mmk mar (o')) :=
  w_join_n hG (d + 3) hS.2.2.1.1.1 (S7_joinN hG d hS ha hb hno) (fun r x h => ⟨_, o, h.1, h.2.2.2.2.2, rfl, _, updL_0, ST_o h.2⟩)
theorem W7_joinY (hG : m_G G) (d : Nat) (hS : ST sc w k W H n sl m col row bes wal cL cip cmk car t nb wl mL mip mmk mar o) {a b : Int} (ha : 0 ≤ a ∧ a < n) (hb : 0 ≤ b ∧ b < n) (hk : k = 4) (hab : a ≠ b) (hs : sOf sl bes a b = -1) : m_Ct G ML_join (m_r (d + 4) 1 6) [.ref 1, vI a, vI b, .ref 31] w (fun r x => r = some (some (vI 0)) ∧ ∃ o' : Nat → Int64, o' 0 = (if true then 1 else 0) ∧ ST sc x k W H n sl m col row (up (up bes (a * sl + b).toNat b) (b * sl + a).toNat a) wal cL cip cmk car t nb wl mL mip mmk mar (o')) :=
  w_join_n hG (d + 3) hS.2.2.1.1.1 (S7_joinY hG d hS ha hb hk hab hs) (fun r x h => ⟨_, o, h.1, h.2.2.2.2.2, rfl, _, updL_0, ST_o h.2⟩)
theorem W7_wallN (hG : m_G G) (d : Nat) (hS : ST sc w k W H n sl m col row bes wal cL cip cmk car t nb wl mL mip mmk mar o) {a b : Int} {on : Bool} (ha : 0 ≤ a ∧ a < n) (hb : 0 ≤ b ∧ b < n) (hno : sOf sl bes a b = -1 ∨ wAt sl wal a (sOf sl bes a b) = on) : m_Ct G ML_wall (m_r (d + 4) 1 6) [.ref 1, vI a, vI b, vB on, .ref 31] w (fun r x => r = some (some (vI 0)) ∧ ∃ o' : Nat → Int64, o' 0 = (if false then 1 else 0) ∧ ST sc x k W H n sl m col row bes wal cL cip cmk car t nb wl mL mip mmk mar (o')) :=
  w_wall_n hG (d + 3) hS.2.2.1.1.1 (S7_wallN hG d hS ha hb hno) (fun r x h => ⟨_, o, h.1, h.2.2.2.2.2, rfl, _, updL_0, ST_o h.2⟩)
theorem W7_wallY (hG : m_G G) (d : Nat) (hS : ST sc w k W H n sl m col row bes wal cL cip cmk car t nb wl mL mip mmk mar o) {a b : Int} {on : Bool} (ha : 0 ≤ a ∧ a < n) (hb : 0 ≤ b ∧ b < n) (hs1 : 0 ≤ sOf sl bes a b ∧ sOf sl bes a b < sl) (hs2 : 0 ≤ sOf sl bes b a ∧ sOf sl bes b a < sl) (hwl : wAt sl wal a (sOf sl bes a b) ≠ on) : m_Ct G ML_wall (m_r (d + 4) 1 6) [.ref 1, vI a, vI b, vB on, .ref 31] w (fun r x => r = some (some (vI 0)) ∧ ∃ o' : Nat → Int64, o' 0 = (if true then 1 else 0) ∧ ST sc x k W H n sl m col row bes (up (up wal (a * sl + sOf sl bes a b).toNat on) (b * sl + sOf sl bes b a).toNat on) cL cip cmk car t nb wl mL mip mmk mar (o')) :=
  w_wall_n hG (d + 3) hS.2.2.1.1.1 (S7_wallY hG d hS ha hb hs1 hs2 hwl) (fun r x h => ⟨_, o, h.1, h.2.2.2.2.2, rfl, _, updL_0, ST_o h.2⟩)
theorem W7_degree (hG : m_G G) (d : Nat) (hS : ST sc w k W H n sl m col row bes wal cL cip cmk car t nb wl mL mip mmk mar o) {p : Int} {nx : Bool} (hp : 0 ≤ p ∧ p < n) : m_Ct G ML_degree (m_r (d + 4) 1 6) [.ref 1, vI p, vB nx, .ref 31] w (fun r x => r = some (some (vI 0)) ∧ ∃ o' : Nat → Int64, o' 0 = (iI (cntF (fun s => (if nx then oAt sl bes wal p s else bAt sl bes p s) != -1) sl 0)).toInt64 ∧ ST sc x k W H n sl m col row bes wal cL cip cmk car t nb wl mL mip mmk mar (o')) :=
  w_degree_n hG (d + 3) hS.2.2.1.1.1 (S7_degree hG d hS hp) (fun r x h => ⟨_, o, h.1, h.2.2.2.2.2, rfl, _, updL_0, ST_o h.2⟩)
theorem W7_neighbour (hG : m_G G) (d : Nat) (hS : ST sc w k W H n sl m col row bes wal cL cip cmk car t nb wl mL mip mmk mar o) {p : Int} {c : Int} (hp : 0 ≤ p ∧ p < n) (hc : iR c) : m_Ct G ML_neighbour (m_r (d + 4) 1 6) [.ref 1, vI p, vI c, .ref 31] w (fun r x => r = some (some (vI 0)) ∧ ∃ o' : Nat → Int64, o' 0 = (iI (nthF (bAt sl bes p) c sl 0 0)).toInt64 ∧ ST sc x k W H n sl m col row bes wal cL cip cmk car t nb wl mL mip mmk mar (o')) :=
  w_neighbour_n hG (d + 3) hS.2.2.1.1.1 (S7_neighbour hG d hS hp hc) (fun r x h => ⟨_, o, h.1, h.2.2.2.2.2, rfl, _, updL_0, ST_o h.2⟩)
theorem W7_seen (hG : m_G G) (d : Nat) (hS : ST sc w k W H n sl m col row bes wal cL cip cmk car t nb wl mL mip mmk mar o) {p q i : Int} (hp : 0 ≤ p ∧ p < n) (hr : iR q) (hi : iR i) : m_Ct G ML_seen (m_r (d + 4) 1 6) [.ref 1, vI p, vI q, vI i, .ref 31] w (fun r x => r = some (some (vI 0)) ∧ ∃ o' : Nat → Int64, o' 0 = (iI (if inB q (dirN k) then seF (fun z => oAt sl bes wal z q) p i n 0 (oAt sl bes wal p q) else -1)).toInt64 ∧ ST sc x k W H n sl m col row bes wal cL cip cmk car t nb wl mL mip mmk mar (o')) :=
  w_seen_n hG (d + 3) hS.2.2.1.1.1 (S7_seen hG d hS hp hr hi) (fun r x h => ⟨_, o, h.1, h.2.2.2.2.2, rfl, _, updL_0, ST_o h.2⟩)
theorem W7_image (hG : m_G G) (d : Nat) (hS : ST sc w k W H n sl m col row bes wal cL cip cmk car t nb wl mL mip mmk mar o) {a p : Int} (hp : 0 ≤ p ∧ p < n) (ha : iR a) : m_Ct G ML_image (m_r (d + 4) 1 6) [.ref 1, vI a, vI p, .ref 31] w (fun r x => r = some (some (vI 0)) ∧ ∃ o' : Nat → Int64, o' 0 = (iI (if inB a (tuN k W H) then trn k W H a (col p.toNat) (row p.toNat) else -1)).toInt64 ∧ ST sc x k W H n sl m col row bes wal cL cip cmk car t nb wl mL mip mmk mar (o')) :=
  w_image_n hG (d + 3) hS.2.2.1.1.1 (S7_image hG d hS hp ha) (fun r x h => ⟨_, o, h.1, h.2.2.2.2.2, rfl, _, updL_0, ST_o h.2⟩)
theorem W7_areaN (hG : m_G G) (d : Nat) (hS : ST sc w k W H n sl m col row bes wal cL cip cmk car t nb wl mL mip mmk mar o) {p a : Int} (hp : 0 ≤ p ∧ p < n) (ha : ¬ (0 ≤ a ∧ a < n)) (hr : iR a) : m_Ct G ML_area (m_r (d + 4) 1 6) [.ref 1, vI p, vI a, .ref 31] w (fun r x => r = some (some (vI 0)) ∧ ∃ o' : Nat → Int64, o' 0 = (if false then 1 else 0) ∧ ST sc x k W H n sl m col row bes wal cL cip cmk car t nb wl mL mip mmk mar (o')) :=
  w_area_n hG (d + 3) hS.2.2.1.1.1 (S7_areaN hG d hS hp ha hr) (fun r x h => ⟨_, o, h.1, h.2.2.2.2.2, rfl, _, updL_0, ST_o h.2⟩)
theorem W7_areaY (hG : m_G G) (d : Nat) (hS : ST sc w k W H n sl m col row bes wal cL cip cmk car t nb wl mL mip mmk mar o) {p a : Int} (hp : 0 ≤ p ∧ p < n) (ha : (0 ≤ a ∧ a < n)) : m_Ct G ML_area (m_r (d + 4) 1 6) [.ref 1, vI p, vI a, .ref 31] w (fun r x => r = some (some (vI 0)) ∧ ∃ o' : Nat → Int64, o' 0 = (if true then 1 else 0) ∧ ST sc x k W H n sl m col row bes wal cL cip cmk (up car p.toNat a) t nb wl mL mip mmk mar (o')) :=
  w_area_n hG (d + 3) hS.2.2.1.1.1 (S7_areaY hG d hS hp ha) (fun r x h => ⟨_, o, h.1, h.2.2.2.2.2, rfl, _, updL_0, ST_o h.2⟩)
theorem W7_markN (hG : m_G G) (d : Nat) (hS : ST sc w k W H n sl m col row bes wal cL cip cmk car t nb wl mL mip mmk mar o) {p a : Int} (hp : 0 ≤ p ∧ p < n) (ha : ¬ (0 ≤ a ∧ a ≤ 99)) (hr : iR a) : m_Ct G ML_mark (m_r (d + 4) 1 6) [.ref 1, vI p, vI a, .ref 31] w (fun r x => r = some (some (vI 0)) ∧ ∃ o' : Nat → Int64, o' 0 = (if false then 1 else 0) ∧ ST sc x k W H n sl m col row bes wal cL cip cmk car t nb wl mL mip mmk mar (o')) :=
  w_mark_n hG (d + 3) hS.2.2.1.1.1 (S7_markN hG d hS hp ha hr) (fun r x h => ⟨_, o, h.1, h.2.2.2.2.2, rfl, _, updL_0, ST_o h.2⟩)
theorem W7_markY (hG : m_G G) (d : Nat) (hS : ST sc w k W H n sl m col row bes wal cL cip cmk car t nb wl mL mip mmk mar o) {p a : Int} (hp : 0 ≤ p ∧ p < n) (ha : (0 ≤ a ∧ a ≤ 99)) : m_Ct G ML_mark (m_r (d + 4) 1 6) [.ref 1, vI p, vI a, .ref 31] w (fun r x => r = some (some (vI 0)) ∧ ∃ o' : Nat → Int64, o' 0 = (if true then 1 else 0) ∧ ST sc x k W H n sl m col row bes wal cL cip (up cmk p.toNat a) car t nb wl mL mip mmk mar (o')) :=
  w_mark_n hG (d + 3) hS.2.2.1.1.1 (S7_markY hG d hS hp ha) (fun r x h => ⟨_, o, h.1, h.2.2.2.2.2, rfl, _, updL_0, ST_o h.2⟩)
theorem W7_far (hG : m_G G) (d : Nat) (hS : ST sc w k W H n sl m col row bes wal cL cip cmk car t nb wl mL mip mmk mar o) {a b : Int} (ha : 0 ≤ a ∧ a < n) (hb : 0 ≤ b ∧ b < n) : m_Ct G ML_far (m_r (d + 6) 1 6) [.ref 1, vI a, vI b, .ref 31] w (fun r x => r = some (some (vI 0)) ∧ ∃ o' : Nat → Int64, (∃ f2 : Nat → Int, bfs (nxC sl bes wal) n (fun _ => -1) f2 a.toNat ∧ o' 0 = (iI (f2 b.toNat)).toInt64) ∧ ST sc x k W H n sl m col row bes wal cL cip cmk car t nb wl mL mip mmk mar (o')) :=
  w_far_n hG (d + 5) hS.2.2.1.1.1 (S7_far hG d hS ha hb) (fun r x h => by
    obtain ⟨⟨f2, q1, q2⟩, q3⟩ := h
    exact ⟨_, o, q2, q3.2.2.2.2, rfl, _, ⟨f2, q1, updL_0⟩, ST_o q3⟩)
theorem W7_without (hG : m_G G) (d : Nat) (hS : ST sc w k W H n sl m col row bes wal cL cip cmk car t nb wl mL mip mmk mar o) {p : Int} (hp : 0 ≤ p ∧ p < n) : m_Ct G ML_without (m_r (d + 6) 1 6) [.ref 1, vI p, .ref 31] w (fun r x => r = some (some (vI 0)) ∧ ∃ o' : Nat → Int64, (∃ c : Int, o' 0 = (iI c).toInt64 ∧ cpR (nxC sl bes wal) n n 0 (fun q => q ≠ p.toNat) c) ∧ ST sc x k W H n sl m col row bes wal cL cip cmk car t nb wl mL mip mmk mar (o')) :=
  w_without_n hG (d + 5) hS.2.2.1.1.1 (S7_without hG d hS hp) (fun r x h => by
    obtain ⟨⟨c, q1, q2⟩, q3⟩ := h
    exact ⟨_, o, q1, q3.2.2.2.2, rfl, _, ⟨c, updL_0, q2⟩, ST_o q3⟩)
theorem W7_joinX (hG : m_G G) (d : Nat) (hS : ST sc w k W H n sl m col row bes wal cL cip cmk car t nb wl mL mip mmk mar o) {a b : Int} (ha : ¬ (0 ≤ a ∧ a < n)) (hr : iR a) : m_Ct G ML_join (m_r (d + 9) 1 6) [.ref 1, vI a, vI b, .ref 31] w (fun r x => r = some (some (vI 1)) ∧ ST sc x k W H n sl m col row bes wal cL cip cmk car t nb wl mL mip mmk mar o) :=
  w_join_x hG d hS.2.2.1.1.1 (c_X7_joinX hG d hS.2.2.1.1 ha hr) ⟨rfl, ST_x hS _⟩
theorem W7_joinX2 (hG : m_G G) (d : Nat) (hS : ST sc w k W H n sl m col row bes wal cL cip cmk car t nb wl mL mip mmk mar o) {a b : Int} (ha : 0 ≤ a ∧ a < n) (hb : ¬ (0 ≤ b ∧ b < n)) (hr : iR b) : m_Ct G ML_join (m_r (d + 9) 1 6) [.ref 1, vI a, vI b, .ref 31] w (fun r x => r = some (some (vI 1)) ∧ ST sc x k W H n sl m col row bes wal cL cip cmk car t nb wl mL mip mmk mar o) :=
  w_join_x hG d hS.2.2.1.1.1 (c_X7_joinX2 hG d hS.2.2.1.1 ha hb hr) ⟨rfl, ST_x hS _⟩
theorem W7_wallX (hG : m_G G) (d : Nat) (hS : ST sc w k W H n sl m col row bes wal cL cip cmk car t nb wl mL mip mmk mar o) {a b : Int} {on : Bool} (ha : ¬ (0 ≤ a ∧ a < n)) (hr : iR a) : m_Ct G ML_wall (m_r (d + 9) 1 6) [.ref 1, vI a, vI b, vB on, .ref 31] w (fun r x => r = some (some (vI 1)) ∧ ST sc x k W H n sl m col row bes wal cL cip cmk car t nb wl mL mip mmk mar o) :=
  w_wall_x hG d hS.2.2.1.1.1 (c_X7_wallX hG d hS.2.2.1.1 ha hr) ⟨rfl, ST_x hS _⟩
theorem W7_wallX2 (hG : m_G G) (d : Nat) (hS : ST sc w k W H n sl m col row bes wal cL cip cmk car t nb wl mL mip mmk mar o) {a b : Int} {on : Bool} (ha : 0 ≤ a ∧ a < n) (hb : ¬ (0 ≤ b ∧ b < n)) (hr : iR b) : m_Ct G ML_wall (m_r (d + 9) 1 6) [.ref 1, vI a, vI b, vB on, .ref 31] w (fun r x => r = some (some (vI 1)) ∧ ST sc x k W H n sl m col row bes wal cL cip cmk car t nb wl mL mip mmk mar o) :=
  w_wall_x hG d hS.2.2.1.1.1 (c_X7_wallX2 hG d hS.2.2.1.1 ha hb hr) ⟨rfl, ST_x hS _⟩
theorem W7_farX (hG : m_G G) (d : Nat) (hS : ST sc w k W H n sl m col row bes wal cL cip cmk car t nb wl mL mip mmk mar o) {a b : Int} (ha : ¬ (0 ≤ a ∧ a < n)) (hr : iR a) : m_Ct G ML_far (m_r (d + 9) 1 6) [.ref 1, vI a, vI b, .ref 31] w (fun r x => r = some (some (vI 1)) ∧ ST sc x k W H n sl m col row bes wal cL cip cmk car t nb wl mL mip mmk mar o) :=
  w_far_x hG d hS.2.2.1.1.1 (c_X7_farX hG d hS.2.2.1.1 ha hr) ⟨rfl, ST_x hS _⟩
theorem W7_farX2 (hG : m_G G) (d : Nat) (hS : ST sc w k W H n sl m col row bes wal cL cip cmk car t nb wl mL mip mmk mar o) {a b : Int} (ha : 0 ≤ a ∧ a < n) (hb : ¬ (0 ≤ b ∧ b < n)) (hr : iR b) : m_Ct G ML_far (m_r (d + 9) 1 6) [.ref 1, vI a, vI b, .ref 31] w (fun r x => r = some (some (vI 1)) ∧ ST sc x k W H n sl m col row bes wal cL cip cmk car t nb wl mL mip mmk mar o) :=
  w_far_x hG d hS.2.2.1.1.1 (c_X7_farX2 hG d hS.2.2.1.1 ha hb hr) ⟨rfl, ST_x hS _⟩
theorem W7_degreeX (hG : m_G G) (d : Nat) (hS : ST sc w k W H n sl m col row bes wal cL cip cmk car t nb wl mL mip mmk mar o) {p : Int} {nx : Bool} (hp : ¬ (0 ≤ p ∧ p < n)) (hr : iR p) : m_Ct G ML_degree (m_r (d + 9) 1 6) [.ref 1, vI p, vB nx, .ref 31] w (fun r x => r = some (some (vI 1)) ∧ ST sc x k W H n sl m col row bes wal cL cip cmk car t nb wl mL mip mmk mar o) :=
  w_degree_x hG d hS.2.2.1.1.1 (c_X7_degreeX hG d hS.2.2.1.1 hp hr) ⟨rfl, ST_x hS _⟩
theorem W7_neighbourX (hG : m_G G) (d : Nat) (hS : ST sc w k W H n sl m col row bes wal cL cip cmk car t nb wl mL mip mmk mar o) {p : Int} {c : Int} (hp : ¬ (0 ≤ p ∧ p < n)) (hr : iR p) : m_Ct G ML_neighbour (m_r (d + 9) 1 6) [.ref 1, vI p, vI c, .ref 31] w (fun r x => r = some (some (vI 1)) ∧ ST sc x k W H n sl m col row bes wal cL cip cmk car t nb wl mL mip mmk mar o) :=
  w_neighbour_x hG d hS.2.2.1.1.1 (c_X7_neighbourX hG d hS.2.2.1.1 hp hr) ⟨rfl, ST_x hS _⟩
theorem W7_seenX (hG : m_G G) (d : Nat) (hS : ST sc w k W H n sl m col row bes wal cL cip cmk car t nb wl mL mip mmk mar o) {p : Int} {q i : Int} (hp : ¬ (0 ≤ p ∧ p < n)) (hr : iR p) : m_Ct G ML_seen (m_r (d + 9) 1 6) [.ref 1, vI p, vI q, vI i, .ref 31] w (fun r x => r = some (some (vI 1)) ∧ ST sc x k W H n sl m col row bes wal cL cip cmk car t nb wl mL mip mmk mar o) :=
  w_seen_x hG d hS.2.2.1.1.1 (c_X7_seenX hG d hS.2.2.1.1 hp hr) ⟨rfl, ST_x hS _⟩
theorem W7_areaX (hG : m_G G) (d : Nat) (hS : ST sc w k W H n sl m col row bes wal cL cip cmk car t nb wl mL mip mmk mar o) {p : Int} {a : Int} (hp : ¬ (0 ≤ p ∧ p < n)) (hr : iR p) : m_Ct G ML_area (m_r (d + 9) 1 6) [.ref 1, vI p, vI a, .ref 31] w (fun r x => r = some (some (vI 1)) ∧ ST sc x k W H n sl m col row bes wal cL cip cmk car t nb wl mL mip mmk mar o) :=
  w_area_x hG d hS.2.2.1.1.1 (c_X7_areaX hG d hS.2.2.1.1 hp hr) ⟨rfl, ST_x hS _⟩
theorem W7_markX (hG : m_G G) (d : Nat) (hS : ST sc w k W H n sl m col row bes wal cL cip cmk car t nb wl mL mip mmk mar o) {p : Int} {a : Int} (hp : ¬ (0 ≤ p ∧ p < n)) (hr : iR p) : m_Ct G ML_mark (m_r (d + 9) 1 6) [.ref 1, vI p, vI a, .ref 31] w (fun r x => r = some (some (vI 1)) ∧ ST sc x k W H n sl m col row bes wal cL cip cmk car t nb wl mL mip mmk mar o) :=
  w_mark_x hG d hS.2.2.1.1.1 (c_X7_markX hG d hS.2.2.1.1 hp hr) ⟨rfl, ST_x hS _⟩
theorem W7_imageX (hG : m_G G) (d : Nat) (hS : ST sc w k W H n sl m col row bes wal cL cip cmk car t nb wl mL mip mmk mar o) {p : Int} {a : Int} (hp : ¬ (0 ≤ p ∧ p < n)) (hr : iR p) : m_Ct G ML_image (m_r (d + 9) 1 6) [.ref 1, vI a, vI p, .ref 31] w (fun r x => r = some (some (vI 1)) ∧ ST sc x k W H n sl m col row bes wal cL cip cmk car t nb wl mL mip mmk mar o) :=
  w_image_x hG d hS.2.2.1.1.1 (c_X7_imageX hG d hS.2.2.1.1 hp hr) ⟨rfl, ST_x hS _⟩
theorem W7_withoutX (hG : m_G G) (d : Nat) (hS : ST sc w k W H n sl m col row bes wal cL cip cmk car t nb wl mL mip mmk mar o) {p : Int} (hp : ¬ (0 ≤ p ∧ p < n)) (hr : iR p) : m_Ct G ML_without (m_r (d + 9) 1 6) [.ref 1, vI p, .ref 31] w (fun r x => r = some (some (vI 1)) ∧ ST sc x k W H n sl m col row bes wal cL cip cmk car t nb wl mL mip mmk mar o) :=
  w_without_x hG d hS.2.2.1.1.1 (c_X7_withoutX hG d hS.2.2.1.1 hp hr) ⟨rfl, ST_x hS _⟩
end SC
