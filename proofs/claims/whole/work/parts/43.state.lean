/-! the state of class and model -/
section ST
def cAt (w : List mC) (k W H : Int) (n sl m : Nat) (col row bes : Nat → Int) (wal : Nat → Bool) (L : Nat) (ip mk ar : Nat → Int) : Prop :=
  cX w k W H n sl m col row bes wal ∧ w[9]? = some oWalk ∧ w[13]? = some oScribe ∧ w[18]? = some (oRow 19 (L : Int)) ∧ w[19]? = some (cI 1200 ip) ∧ w[20]? = some (cI n mk) ∧ w[21]? = some (cI n ar) ∧
  ∃ (f : Nat → Int) (l : Int) (g : Nat → Int) (l2 : Int) (g2 : Nat → Int) (F D : Int) (dm : Nat → Int), w[10]? = some (cI n f) ∧ w[11]? = some (oRow 12 l) ∧ w[12]? = some (cI n g) ∧ w[14]? = some (oRow 15 l2) ∧ w[15]? = some (cI (3 * n) g2) ∧ w[16]? = some (oDraft F D) ∧ w[17]? = some (cI n dm)
def mAt (w : List mC) (k W H t : Int) (nb wl : Nat → Bool) (L : Nat) (ip mk ar : Nat → Int) : Prop :=
  ∃ (pl so bt : Int) (rc : Nat → Int) (ou : Nat → Bool) (fd : Nat → Int), w[22]? = some (oMod t k W H (L : Int) pl so bt) ∧ w[23]? = some (cZ 65536 nb) ∧ w[24]? = some (cZ 65536 wl) ∧ w[25]? = some (cI 256 ar) ∧ w[26]? = some (cI 256 mk) ∧ w[27]? = some (cI 256 rc) ∧ w[28]? = some (cZ 256 ou) ∧ w[29]? = some (cI 1200 ip) ∧ w[30]? = some (cI 256 fd)
def ST (sc : mC) (w : List mC) (k W H : Int) (n sl m : Nat) (col row bes : Nat → Int) (wal : Nat → Bool) (cL : Nat) (cip cmk car : Nat → Int) (t : Int) (nb wl : Nat → Bool) (mL : Nat) (mip mmk mar : Nat → Int) (o : Nat → Int64) : Prop :=
  31 < w.length ∧ w[0]? = some sc ∧ cAt w k W H n sl m col row bes wal cL cip cmk car ∧ mAt w k W H t nb wl mL mip mmk mar ∧ w[31]? = some (mJ 1 o)
def kp (w x : List mC) : Prop := w.length ≤ x.length ∧ ∀ i, (i = 0 ∨ 22 ≤ i) → i < w.length → x[i]? = w[i]?
theorem kp_set {w : List mC} {i : Nat} {c : mC} (h : 0 < i ∧ i < 22) : kp w (w.set i c) := ⟨by simp, fun j hj _ => List.getElem?_set_ne (by omega)⟩
theorem kp_tr {w x y : List mC} (h : kp w x) (h2 : kp x y) : kp w y := ⟨Nat.le_trans h.1 h2.1, fun i hi hl => (h2.2 i hi (Nat.lt_of_lt_of_le hl h.1)).trans (h.2 i hi hl)⟩
theorem kp_rf {w : List mC} : kp w w := ⟨Nat.le_refl _, fun _ _ _ => rfl⟩
theorem kp_app {w : List mC} {c : mC} : kp w (w ++ [c]) := ⟨by simp, fun i _ hl => List.getElem?_append_left hl⟩
variable {G : mG} {w x : List mC} {sc : mC} {k W H : Int} {n sl m : Nat} {col row : Nat → Int} {bes : Nat → Int} {wal : Nat → Bool} {cL : Nat} {cip cmk car : Nat → Int} {t : Int} {nb wl : Nat → Bool} {mL : Nat} {mip mmk mar : Nat → Int} {o : Nat → Int64}
theorem mAt_kp (h : mAt w k W H t nb wl mL mip mmk mar) (hk : kp w x) (hl : 30 < w.length) : mAt x k W H t nb wl mL mip mmk mar := by
  obtain ⟨pl, so, bt, rc, ou, fd, m22, m23, m24, m25, m26, m27, m28, m29, m30⟩ := h
  exact ⟨pl, so, bt, rc, ou, fd, (hk.2 22 (by omega) (by omega)).trans m22, (hk.2 23 (by omega) (by omega)).trans m23, (hk.2 24 (by omega) (by omega)).trans m24, (hk.2 25 (by omega) (by omega)).trans m25, (hk.2 26 (by omega) (by omega)).trans m26, (hk.2 27 (by omega) (by omega)).trans m27, (hk.2 28 (by omega) (by omega)).trans m28, (hk.2 29 (by omega) (by omega)).trans m29, (hk.2 30 (by omega) (by omega)).trans m30⟩
theorem cAt_k (h : cAt w k W H n sl m col row bes wal cL cip cmk car) (hk : ∀ i, 1 ≤ i → i < 22 → x[i]? = w[i]?) : cAt x k W H n sl m col row bes wal cL cip cmk car := by
  obtain ⟨hX, h9, h13, h18, h19, h20, h21, f, l, g, l2, g2, F, D, dm, h10, h11, h12, h14, h15, h16, h17⟩ := h
  have e := fun (i : Nat) (a : 1 ≤ i) (b : i < 22) => hk i a b
  refine ⟨?_, (e 9 (by omega) (by omega)).trans h9, (e 13 (by omega) (by omega)).trans h13, (e 18 (by omega) (by omega)).trans h18, (e 19 (by omega) (by omega)).trans h19, (e 20 (by omega) (by omega)).trans h20, (e 21 (by omega) (by omega)).trans h21, f, l, g, l2, g2, F, D, dm, (e 10 (by omega) (by omega)).trans h10, (e 11 (by omega) (by omega)).trans h11, (e 12 (by omega) (by omega)).trans h12, (e 14 (by omega) (by omega)).trans h14, (e 15 (by omega) (by omega)).trans h15, (e 16 (by omega) (by omega)).trans h16, (e 17 (by omega) (by omega)).trans h17⟩
  obtain ⟨a1, a2, a3, a4, a5, a6, a7, a8, a9⟩ := hX
  exact ⟨(e 1 (by omega) (by omega)).trans a1, (e 2 (by omega) (by omega)).trans a2, (e 3 (by omega) (by omega)).trans a3, (e 4 (by omega) (by omega)).trans a4, (e 5 (by omega) (by omega)).trans a5, (e 6 (by omega) (by omega)).trans a6, (e 7 (by omega) (by omega)).trans a7, (e 8 (by omega) (by omega)).trans a8, a9⟩
/-- the class has gone on -/
theorem ST_c {bes' : Nat → Int} {wal' : Nat → Bool} {cL' : Nat} {cip' cmk' car' : Nat → Int} (hS : ST sc w k W H n sl m col row bes wal cL cip cmk car t nb wl mL mip mmk mar o) (hk : kp w x) (hc : cAt x k W H n sl m col row bes' wal' cL' cip' cmk' car') : ST sc x k W H n sl m col row (bes') (wal') (cL') (cip') (cmk') (car') t nb wl mL mip mmk mar o := by
  obtain ⟨hlen, h0, hC, hM, h31⟩ := hS
  exact ⟨Nat.lt_of_lt_of_le hlen hk.1, (hk.2 0 (Or.inl rfl) (by omega)).trans h0, hc, mAt_kp hM hk (by omega), (hk.2 31 (by omega) hlen).trans h31⟩
theorem ST_o {o' : Nat → Int64} (hS : ST sc w k W H n sl m col row bes wal cL cip cmk car t nb wl mL mip mmk mar o) : ST sc (w.set 31 (mJ 1 o')) k W H n sl m col row bes wal cL cip cmk car t nb wl mL mip mmk mar (o') := by
  obtain ⟨hlen, h0, hC, hM, h31⟩ := hS
  refine ⟨by simpa using hlen, by rw [List.getElem?_set_ne (by decide)]; exact h0, cAt_k hC (fun i _ _ => List.getElem?_set_ne (by omega)), ?_, List.getElem?_set_self hlen⟩
  obtain ⟨pl, so, bt, rc, ou, fd, m22, m23, m24, m25, m26, m27, m28, m29, m30⟩ := hM
  exact ⟨pl, so, bt, rc, ou, fd, (List.getElem?_set_ne (by decide)).trans m22, (List.getElem?_set_ne (by decide)).trans m23, (List.getElem?_set_ne (by decide)).trans m24, (List.getElem?_set_ne (by decide)).trans m25, (List.getElem?_set_ne (by decide)).trans m26, (List.getElem?_set_ne (by decide)).trans m27, (List.getElem?_set_ne (by decide)).trans m28, (List.getElem?_set_ne (by decide)).trans m29, (List.getElem?_set_ne (by decide)).trans m30⟩
theorem ST_x (hS : ST sc w k W H n sl m col row bes wal cL cip cmk car t nb wl mL mip mmk mar o) (c : mC) : ST sc (w ++ [c]) k W H n sl m col row bes wal cL cip cmk car t nb wl mL mip mmk mar o := by
  have hS0 := hS
  obtain ⟨hlen, h0, hC, hM, h31⟩ := hS
  exact ST_c hS0 kp_app (cAt_k hC (fun i _ _ => List.getElem?_append_left (by omega)))
/-- the model has gone on -/
theorem ST_m {t' pl so bt : Int} {nb' wl' ou : Nat → Bool} {mL' : Nat} {mip' mmk' mar' rc fd : Nat → Int} (hS : ST sc w k W H n sl m col row bes wal cL cip cmk car t nb wl mL mip mmk mar o) : ST sc (mw w t' k W H (mL' : Int) pl so bt nb' wl' mar' mmk' rc ou mip' fd) k W H n sl m col row bes wal cL cip cmk car (t') (nb') (wl') (mL') (mip') (mmk') (mar') o := by
  obtain ⟨hlen, h0, hC, hM, h31⟩ := hS
  have hl : 30 < w.length := by omega
  exact ⟨by rw [mw_len]; exact hlen, (mw_n (Or.inl (by decide))).trans h0, cAt_k hC (fun i _ h => mw_n (Or.inl h)), ⟨pl, so, bt, rc, ou, fd, mw_22 hl, mw_23 hl, mw_24 hl, mw_25 hl, mw_26 hl, mw_27 hl, mw_28 hl, mw_29 hl, mw_30 hl⟩, (mw_n (Or.inr (by decide))).trans h31⟩
/-- the world, told as the model's -/
theorem ST_w (hS : ST sc w k W H n sl m col row bes wal cL cip cmk car t nb wl mL mip mmk mar o) : ∃ (pl so bt : Int) (rc : Nat → Int) (ou : Nat → Bool) (fd : Nat → Int), w = mw w t k W H (mL : Int) pl so bt nb wl mar mmk rc ou mip fd := by
  obtain ⟨hlen, h0, hC, hM, h31⟩ := hS
  obtain ⟨pl, so, bt, rc, ou, fd, m22, m23, m24, m25, m26, m27, m28, m29, m30⟩ := hM
  exact ⟨pl, so, bt, rc, ou, fd, (mw_self m22 m23 m24 m25 m26 m27 m28 m29 m30).symm⟩
theorem ST_thrown (hG : m_G G) (d : Nat) (hS : ST sc w k W H n sl m col row bes wal cL cip cmk car t nb wl mL mip mmk mar o) : m_Cv G MX8_thrown (m_r d 0 0) [.ref 22] w (some (vI t)) w := by
  have hF := hS.2.2.1.1.2.2.2.2.2.2.2.2.1
  have hl : 30 < w.length := by have := hS.1; omega
  obtain ⟨pl, so, bt, rc, ou, fd, e⟩ := ST_w hS
  rw [e]
  exact c_X8_thrown hG d hF hl

theorem m_Ct.post {M : mM} {R : Room} {av : List Value} {Q Q' : Option (Option Value) → List mC → Prop} (h : m_Ct G M R av w Q) (hq : ∀ r x, Q r x → Q' r x) : m_Ct G M R av w Q' := by
  intro p e ha hc hk s m args below hf happ hP hK
  obtain ⟨n, o, h1, h2, h3, r, x, h4, h5⟩ := h p e ha hc hk s m args below hf happ hP hK
  exact ⟨n, o, h1, h2, h3, r, x, hq r x h4, h5⟩
theorem S8_joinX (hG : m_G G) (d : Nat) (hS : ST sc w k W H n sl m col row bes wal cL cip cmk car t nb wl mL mip mmk mar o) {a b : Int} (ha : ¬ (0 ≤ a ∧ a < n)) (hr : iR a) : m_Ct G MX8_join (m_r (d + 3) 0 0) [.ref 22, vI a, vI b] w (fun r y => r = some (some (vB false)) ∧ ST sc y k W H n sl m col row bes wal cL cip cmk car 1 nb wl mL mip mmk mar o) := by
  have hF := hS.2.2.1.1.2.2.2.2.2.2.2.2.1
  have hl : 30 < w.length := by have := hS.1; omega
  obtain ⟨pl, so, bt, rc, ou, fd, e⟩ := ST_w hS
  have key : m_Cv G MX8_join (m_r (d + 3) 0 0) [.ref 22, vI a, vI b] (mw w t k W H (mL : Int) pl so bt nb wl mar mmk rc ou mip fd) _ _ := c_X8_joinX hG d hF hl ha hr
  rw [← e] at key
  exact m_Ct.post key (fun r y h => ⟨h.1, by rw [h.2]; exact ST_m hS⟩)
theorem S8_joinX2 (hG : m_G G) (d : Nat) (hS : ST sc w k W H n sl m col row bes wal cL cip cmk car t nb wl mL mip mmk mar o) {a b : Int} (ha : 0 ≤ a ∧ a < n) (hb : ¬ (0 ≤ b ∧ b < n)) (hr : iR b) : m_Ct G MX8_join (m_r (d + 3) 0 0) [.ref 22, vI a, vI b] w (fun r y => r = some (some (vB false)) ∧ ST sc y k W H n sl m col row bes wal cL cip cmk car 1 nb wl mL mip mmk mar o) := by
  have hF := hS.2.2.1.1.2.2.2.2.2.2.2.2.1
  have hl : 30 < w.length := by have := hS.1; omega
  obtain ⟨pl, so, bt, rc, ou, fd, e⟩ := ST_w hS
  have key : m_Cv G MX8_join (m_r (d + 3) 0 0) [.ref 22, vI a, vI b] (mw w t k W H (mL : Int) pl so bt nb wl mar mmk rc ou mip fd) _ _ := c_X8_joinX2 hG d hF hl ha hb hr
  rw [← e] at key
  exact m_Ct.post key (fun r y h => ⟨h.1, by rw [h.2]; exact ST_m hS⟩)
theorem S8_wallX (hG : m_G G) (d : Nat) (hS : ST sc w k W H n sl m col row bes wal cL cip cmk car t nb wl mL mip mmk mar o) {a b : Int} {on : Bool} (ha : ¬ (0 ≤ a ∧ a < n)) (hr : iR a) : m_Ct G MX8_wall (m_r (d + 3) 0 0) [.ref 22, vI a, vI b, vB on] w (fun r y => r = some (some (vB false)) ∧ ST sc y k W H n sl m col row bes wal cL cip cmk car 1 nb wl mL mip mmk mar o) := by
  have hF := hS.2.2.1.1.2.2.2.2.2.2.2.2.1
  have hl : 30 < w.length := by have := hS.1; omega
  obtain ⟨pl, so, bt, rc, ou, fd, e⟩ := ST_w hS
  have key : m_Cv G MX8_wall (m_r (d + 3) 0 0) [.ref 22, vI a, vI b, vB on] (mw w t k W H (mL : Int) pl so bt nb wl mar mmk rc ou mip fd) _ _ := c_X8_wallX hG d hF hl ha hr
  rw [← e] at key
  exact m_Ct.post key (fun r y h => ⟨h.1, by rw [h.2]; exact ST_m hS⟩)
theorem S8_wallX2 (hG : m_G G) (d : Nat) (hS : ST sc w k W H n sl m col row bes wal cL cip cmk car t nb wl mL mip mmk mar o) {a b : Int} {on : Bool} (ha : 0 ≤ a ∧ a < n) (hb : ¬ (0 ≤ b ∧ b < n)) (hr : iR b) : m_Ct G MX8_wall (m_r (d + 3) 0 0) [.ref 22, vI a, vI b, vB on] w (fun r y => r = some (some (vB false)) ∧ ST sc y k W H n sl m col row bes wal cL cip cmk car 1 nb wl mL mip mmk mar o) := by
  have hF := hS.2.2.1.1.2.2.2.2.2.2.2.2.1
  have hl : 30 < w.length := by have := hS.1; omega
  obtain ⟨pl, so, bt, rc, ou, fd, e⟩ := ST_w hS
  have key : m_Cv G MX8_wall (m_r (d + 3) 0 0) [.ref 22, vI a, vI b, vB on] (mw w t k W H (mL : Int) pl so bt nb wl mar mmk rc ou mip fd) _ _ := c_X8_wallX2 hG d hF hl ha hb hr
  rw [← e] at key
  exact m_Ct.post key (fun r y h => ⟨h.1, by rw [h.2]; exact ST_m hS⟩)
theorem S8_joinN (hG : m_G G) (d : Nat) (hS : ST sc w k W H n sl m col row bes wal cL cip cmk car t nb wl mL mip mmk mar o) {a b : Int} (ha : 0 ≤ a ∧ a < n) (hb : 0 ≤ b ∧ b < n) (hno : k ≠ 4 ∨ a = b ∨ mA nb a b = true) : m_Ct G MX8_join (m_r (d + 3) 0 0) [.ref 22, vI a, vI b] w (fun r y => r = some (some (vB false)) ∧ ST sc y k W H n sl m col row bes wal cL cip cmk car 0 nb wl mL mip mmk mar o) := by
  have hF := hS.2.2.1.1.2.2.2.2.2.2.2.2.1
  have hl : 30 < w.length := by have := hS.1; omega
  obtain ⟨pl, so, bt, rc, ou, fd, e⟩ := ST_w hS
  have key : m_Cv G MX8_join (m_r (d + 3) 0 0) [.ref 22, vI a, vI b] (mw w t k W H (mL : Int) pl so bt nb wl mar mmk rc ou mip fd) _ _ := c_X8_joinN hG d hF hl ha hb hno
  rw [← e] at key
  exact m_Ct.post key (fun r y h => ⟨h.1, by rw [h.2]; exact ST_m hS⟩)
theorem S8_joinY (hG : m_G G) (d : Nat) (hS : ST sc w k W H n sl m col row bes wal cL cip cmk car t nb wl mL mip mmk mar o) {a b : Int} (ha : 0 ≤ a ∧ a < n) (hb : 0 ≤ b ∧ b < n) (hk : k = 4) (hab : a ≠ b) (hno : mA nb a b = false) : m_Ct G MX8_join (m_r (d + 3) 0 0) [.ref 22, vI a, vI b] w (fun r y => r = some (some (vB true)) ∧ ST sc y k W H n sl m col row bes wal cL cip cmk car 0 (up (up nb (256 * a + b).toNat true) (256 * b + a).toNat true) wl mL mip mmk mar o) := by
  have hF := hS.2.2.1.1.2.2.2.2.2.2.2.2.1
  have hl : 30 < w.length := by have := hS.1; omega
  obtain ⟨pl, so, bt, rc, ou, fd, e⟩ := ST_w hS
  have key : m_Cv G MX8_join (m_r (d + 3) 0 0) [.ref 22, vI a, vI b] (mw w t k W H (mL : Int) pl so bt nb wl mar mmk rc ou mip fd) _ _ := c_X8_joinY hG d hF hl ha hb hk hab hno
  rw [← e] at key
  exact m_Ct.post key (fun r y h => ⟨h.1, by rw [h.2]; exact ST_m hS⟩)
theorem S8_wallN (hG : m_G G) (d : Nat) (hS : ST sc w k W H n sl m col row bes wal cL cip cmk car t nb wl mL mip mmk mar o) {a b : Int} {on : Bool} (ha : 0 ≤ a ∧ a < n) (hb : 0 ≤ b ∧ b < n) (hno : mA nb a b = false ∨ mA wl a b = on) : m_Ct G MX8_wall (m_r (d + 3) 0 0) [.ref 22, vI a, vI b, vB on] w (fun r y => r = some (some (vB false)) ∧ ST sc y k W H n sl m col row bes wal cL cip cmk car 0 nb wl mL mip mmk mar o) := by
  have hF := hS.2.2.1.1.2.2.2.2.2.2.2.2.1
  have hl : 30 < w.length := by have := hS.1; omega
  obtain ⟨pl, so, bt, rc, ou, fd, e⟩ := ST_w hS
  have key : m_Cv G MX8_wall (m_r (d + 3) 0 0) [.ref 22, vI a, vI b, vB on] (mw w t k W H (mL : Int) pl so bt nb wl mar mmk rc ou mip fd) _ _ := c_X8_wallN hG d hF hl ha hb hno
  rw [← e] at key
  exact m_Ct.post key (fun r y h => ⟨h.1, by rw [h.2]; exact ST_m hS⟩)
theorem S8_wallY (hG : m_G G) (d : Nat) (hS : ST sc w k W H n sl m col row bes wal cL cip cmk car t nb wl mL mip mmk mar o) {a b : Int} {on : Bool} (ha : 0 ≤ a ∧ a < n) (hb : 0 ≤ b ∧ b < n) (hn1 : mA nb a b = true) (hn2 : mA wl a b ≠ on) : m_Ct G MX8_wall (m_r (d + 3) 0 0) [.ref 22, vI a, vI b, vB on] w (fun r y => r = some (some (vB true)) ∧ ST sc y k W H n sl m col row bes wal cL cip cmk car 0 nb (up (up wl (256 * a + b).toNat on) (256 * b + a).toNat on) mL mip mmk mar o) := by
  have hF := hS.2.2.1.1.2.2.2.2.2.2.2.2.1
  have hl : 30 < w.length := by have := hS.1; omega
  obtain ⟨pl, so, bt, rc, ou, fd, e⟩ := ST_w hS
  have key : m_Cv G MX8_wall (m_r (d + 3) 0 0) [.ref 22, vI a, vI b, vB on] (mw w t k W H (mL : Int) pl so bt nb wl mar mmk rc ou mip fd) _ _ := c_X8_wallY hG d hF hl ha hb hn1 hn2
  rw [← e] at key
  exact m_Ct.post key (fun r y h => ⟨h.1, by rw [h.2]; exact ST_m hS⟩)
theorem S8_places (hG : m_G G) (d : Nat) (hS : ST sc w k W H n sl m col row bes wal cL cip cmk car t nb wl mL mip mmk mar o)  : m_Ct G MX8_places (m_r (d + 1) 0 0) [.ref 22] w (fun r y => r = some (some (vI n)) ∧ ST sc y k W H n sl m col row bes wal cL cip cmk car 0 nb wl mL mip mmk mar o) := by
  have hF := hS.2.2.1.1.2.2.2.2.2.2.2.2.1
  have hl : 30 < w.length := by have := hS.1; omega
  obtain ⟨pl, so, bt, rc, ou, fd, e⟩ := ST_w hS
  have key : m_Cv G MX8_places (m_r (d + 1) 0 0) [.ref 22] (mw w t k W H (mL : Int) pl so bt nb wl mar mmk rc ou mip fd) _ _ := c_X8_places hG d hF hl
  rw [← e] at key
  exact m_Ct.post key (fun r y h => ⟨h.1, by rw [h.2]; exact ST_m hS⟩)
theorem S8_degreeX (hG : m_G G) (d : Nat) (hS : ST sc w k W H n sl m col row bes wal cL cip cmk car t nb wl mL mip mmk mar o) {p : Int} {nx : Bool} (hp : ¬ (0 ≤ p ∧ p < n)) (hr : iR p) : m_Ct G MX8_degree (m_r (d + 3) 0 0) [.ref 22, vI p, vB nx] w (fun r y => r = some (some (vI 0)) ∧ ST sc y k W H n sl m col row bes wal cL cip cmk car 1 nb wl mL mip mmk mar o) := by
  have hF := hS.2.2.1.1.2.2.2.2.2.2.2.2.1
  have hl : 30 < w.length := by have := hS.1; omega
  obtain ⟨pl, so, bt, rc, ou, fd, e⟩ := ST_w hS
  have key : m_Cv G MX8_degree (m_r (d + 3) 0 0) [.ref 22, vI p, vB nx] (mw w t k W H (mL : Int) pl so bt nb wl mar mmk rc ou mip fd) _ _ := c_X8_degreeX hG d hF hl hp hr
  rw [← e] at key
  exact m_Ct.post key (fun r y h => ⟨h.1, by rw [h.2]; exact ST_m hS⟩)
theorem S8_neighbourX (hG : m_G G) (d : Nat) (hS : ST sc w k W H n sl m col row bes wal cL cip cmk car t nb wl mL mip mmk mar o) {p : Int} {c : Int} (hp : ¬ (0 ≤ p ∧ p < n)) (hr : iR p) : m_Ct G MX8_neighbour (m_r (d + 3) 0 0) [.ref 22, vI p, vI c] w (fun r y => r = some (some (vI 0)) ∧ ST sc y k W H n sl m col row bes wal cL cip cmk car 1 nb wl mL mip mmk mar o) := by
  have hF := hS.2.2.1.1.2.2.2.2.2.2.2.2.1
  have hl : 30 < w.length := by have := hS.1; omega
  obtain ⟨pl, so, bt, rc, ou, fd, e⟩ := ST_w hS
  have key : m_Cv G MX8_neighbour (m_r (d + 3) 0 0) [.ref 22, vI p, vI c] (mw w t k W H (mL : Int) pl so bt nb wl mar mmk rc ou mip fd) _ _ := c_X8_neighbourX hG d hF hl hp hr
  rw [← e] at key
  exact m_Ct.post key (fun r y h => ⟨h.1, by rw [h.2]; exact ST_m hS⟩)
theorem S8_seenX (hG : m_G G) (d : Nat) (hS : ST sc w k W H n sl m col row bes wal cL cip cmk car t nb wl mL mip mmk mar o) {p : Int} {r i : Int} (hp : ¬ (0 ≤ p ∧ p < n)) (hr : iR p) : m_Ct G MX8_seen (m_r (d + 3) 0 0) [.ref 22, vI p, vI r, vI i] w (fun r y => r = some (some (vI 0)) ∧ ST sc y k W H n sl m col row bes wal cL cip cmk car 1 nb wl mL mip mmk mar o) := by
  have hF := hS.2.2.1.1.2.2.2.2.2.2.2.2.1
  have hl : 30 < w.length := by have := hS.1; omega
  obtain ⟨pl, so, bt, rc, ou, fd, e⟩ := ST_w hS
  have key : m_Cv G MX8_seen (m_r (d + 3) 0 0) [.ref 22, vI p, vI r, vI i] (mw w t k W H (mL : Int) pl so bt nb wl mar mmk rc ou mip fd) _ _ := c_X8_seenX hG d hF hl hp hr
  rw [← e] at key
  exact m_Ct.post key (fun r y h => ⟨h.1, by rw [h.2]; exact ST_m hS⟩)
theorem S8_areaX (hG : m_G G) (d : Nat) (hS : ST sc w k W H n sl m col row bes wal cL cip cmk car t nb wl mL mip mmk mar o) {p : Int} {a : Int} (hp : ¬ (0 ≤ p ∧ p < n)) (hr : iR p) : m_Ct G MX8_area (m_r (d + 3) 0 0) [.ref 22, vI p, vI a] w (fun r y => r = some (some (vB false)) ∧ ST sc y k W H n sl m col row bes wal cL cip cmk car 1 nb wl mL mip mmk mar o) := by
  have hF := hS.2.2.1.1.2.2.2.2.2.2.2.2.1
  have hl : 30 < w.length := by have := hS.1; omega
  obtain ⟨pl, so, bt, rc, ou, fd, e⟩ := ST_w hS
  have key : m_Cv G MX8_area (m_r (d + 3) 0 0) [.ref 22, vI p, vI a] (mw w t k W H (mL : Int) pl so bt nb wl mar mmk rc ou mip fd) _ _ := c_X8_areaX hG d hF hl hp hr
  rw [← e] at key
  exact m_Ct.post key (fun r y h => ⟨h.1, by rw [h.2]; exact ST_m hS⟩)
theorem S8_markX (hG : m_G G) (d : Nat) (hS : ST sc w k W H n sl m col row bes wal cL cip cmk car t nb wl mL mip mmk mar o) {p : Int} {a : Int} (hp : ¬ (0 ≤ p ∧ p < n)) (hr : iR p) : m_Ct G MX8_mark (m_r (d + 3) 0 0) [.ref 22, vI p, vI a] w (fun r y => r = some (some (vB false)) ∧ ST sc y k W H n sl m col row bes wal cL cip cmk car 1 nb wl mL mip mmk mar o) := by
  have hF := hS.2.2.1.1.2.2.2.2.2.2.2.2.1
  have hl : 30 < w.length := by have := hS.1; omega
  obtain ⟨pl, so, bt, rc, ou, fd, e⟩ := ST_w hS
  have key : m_Cv G MX8_mark (m_r (d + 3) 0 0) [.ref 22, vI p, vI a] (mw w t k W H (mL : Int) pl so bt nb wl mar mmk rc ou mip fd) _ _ := c_X8_markX hG d hF hl hp hr
  rw [← e] at key
  exact m_Ct.post key (fun r y h => ⟨h.1, by rw [h.2]; exact ST_m hS⟩)
theorem S8_imageX (hG : m_G G) (d : Nat) (hS : ST sc w k W H n sl m col row bes wal cL cip cmk car t nb wl mL mip mmk mar o) {p : Int} {a : Int} (hp : ¬ (0 ≤ p ∧ p < n)) (hr : iR p) : m_Ct G MX8_image (m_r (d + 3) 0 0) [.ref 22, vI a, vI p] w (fun r y => r = some (some (vI 0)) ∧ ST sc y k W H n sl m col row bes wal cL cip cmk car 1 nb wl mL mip mmk mar o) := by
  have hF := hS.2.2.1.1.2.2.2.2.2.2.2.2.1
  have hl : 30 < w.length := by have := hS.1; omega
  obtain ⟨pl, so, bt, rc, ou, fd, e⟩ := ST_w hS
  have key : m_Cv G MX8_image (m_r (d + 3) 0 0) [.ref 22, vI a, vI p] (mw w t k W H (mL : Int) pl so bt nb wl mar mmk rc ou mip fd) _ _ := c_X8_imageX hG d hF hl hp hr
  rw [← e] at key
  exact m_Ct.post key (fun r y h => ⟨h.1, by rw [h.2]; exact ST_m hS⟩)
theorem S8_withoutX (hG : m_G G) (d : Nat) (hS : ST sc w k W H n sl m col row bes wal cL cip cmk car t nb wl mL mip mmk mar o) {p : Int} (hp : ¬ (0 ≤ p ∧ p < n)) (hr : iR p) : m_Ct G MX8_without (m_r (d + 3) 0 0) [.ref 22, vI p] w (fun r y => r = some (some (vI 0)) ∧ ST sc y k W H n sl m col row bes wal cL cip cmk car 1 nb wl mL mip mmk mar o) := by
  have hF := hS.2.2.1.1.2.2.2.2.2.2.2.2.1
  have hl : 30 < w.length := by have := hS.1; omega
  obtain ⟨pl, so, bt, rc, ou, fd, e⟩ := ST_w hS
  have key : m_Cv G MX8_without (m_r (d + 3) 0 0) [.ref 22, vI p] (mw w t k W H (mL : Int) pl so bt nb wl mar mmk rc ou mip fd) _ _ := c_X8_withoutX hG d hF hl hp hr
  rw [← e] at key
  exact m_Ct.post key (fun r y h => ⟨h.1, by rw [h.2]; exact ST_m hS⟩)
theorem S8_degree (hG : m_G G) (d : Nat) (hS : ST sc w k W H n sl m col row bes wal cL cip cmk car t nb wl mL mip mmk mar o) {p : Int} {nx : Bool} (hp : 0 ≤ p ∧ p < n) : m_Ct G MX8_degree (m_r (d + 3) 0 0) [.ref 22, vI p, vB nx] w (fun r y => r = some (some (vI (cntF (fun q => if nx then nxM nb wl p q else mA nb p q) n 0))) ∧ ST sc y k W H n sl m col row bes wal cL cip cmk car 0 nb wl mL mip mmk mar o) := by
  have hF := hS.2.2.1.1.2.2.2.2.2.2.2.2.1
  have hl : 30 < w.length := by have := hS.1; omega
  obtain ⟨pl, so, bt, rc, ou, fd, e⟩ := ST_w hS
  have key : m_Cv G MX8_degree (m_r (d + 3) 0 0) [.ref 22, vI p, vB nx] (mw w t k W H (mL : Int) pl so bt nb wl mar mmk rc ou mip fd) _ _ := c_X8_degree hG d hF hl hp
  rw [← e] at key
  exact m_Ct.post key (fun r y h => ⟨h.1, by rw [h.2]; exact ST_m hS⟩)
theorem S8_neighbour (hG : m_G G) (d : Nat) (hS : ST sc w k W H n sl m col row bes wal cL cip cmk car t nb wl mL mip mmk mar o) {p : Int} {c : Int} (hp : 0 ≤ p ∧ p < n) (hc : iR c) : m_Ct G MX8_neighbour (m_r (d + 3) 0 0) [.ref 22, vI p, vI c] w (fun r y => r = some (some (vI (nthF (gN k W H n nb p) c 256 0 0))) ∧ ST sc y k W H n sl m col row bes wal cL cip cmk car 0 nb wl mL mip mmk mar o) := by
  have hF := hS.2.2.1.1.2.2.2.2.2.2.2.2.1
  have hl : 30 < w.length := by have := hS.1; omega
  obtain ⟨pl, so, bt, rc, ou, fd, e⟩ := ST_w hS
  have key : m_Cv G MX8_neighbour (m_r (d + 3) 0 0) [.ref 22, vI p, vI c] (mw w t k W H (mL : Int) pl so bt nb wl mar mmk rc ou mip fd) _ _ := c_X8_neighbour hG d hF hl hp hc
  rw [← e] at key
  exact m_Ct.post key (fun r y h => ⟨h.1, by rw [h.2]; exact ST_m hS⟩)
theorem S8_pairs (hG : m_G G) (d : Nat) (hS : ST sc w k W H n sl m col row bes wal cL cip cmk car t nb wl mL mip mmk mar o) {wd : Bool} : m_Ct G MX8_pairs (m_r (d + 3) 0 0) [.ref 22, vB wd] w (fun r y => r = some (some (vI (sumF (fun a => cntF (pM nb wl wd a) (n - 1 - a.toNat) (a + 1)) n 0))) ∧ ST sc y k W H n sl m col row bes wal cL cip cmk car 0 nb wl mL mip mmk mar o) := by
  have hF := hS.2.2.1.1.2.2.2.2.2.2.2.2.1
  have hl : 30 < w.length := by have := hS.1; omega
  obtain ⟨pl, so, bt, rc, ou, fd, e⟩ := ST_w hS
  have key : m_Cv G MX8_pairs (m_r (d + 3) 0 0) [.ref 22, vB wd] (mw w t k W H (mL : Int) pl so bt nb wl mar mmk rc ou mip fd) _ _ := c_X8_pairs hG d hF hl
  rw [← e] at key
  exact m_Ct.post key (fun r y h => ⟨h.1, by rw [h.2]; exact ST_m hS⟩)
theorem S8_pair (hG : m_G G) (d : Nat) (hS : ST sc w k W H n sl m col row bes wal cL cip cmk car t nb wl mL mip mmk mar o) {c : Int} {gr : Bool} (hc : iR c) : m_Ct G MX8_pair (m_r (d + 3) 0 0) [.ref 22, vI c, vB gr] w (fun r y => r = some (some (vI (pmO nb n c gr n 0 0))) ∧ ST sc y k W H n sl m col row bes wal cL cip cmk car 0 nb wl mL mip mmk mar o) := by
  have hF := hS.2.2.1.1.2.2.2.2.2.2.2.2.1
  have hl : 30 < w.length := by have := hS.1; omega
  obtain ⟨pl, so, bt, rc, ou, fd, e⟩ := ST_w hS
  have key : m_Cv G MX8_pair (m_r (d + 3) 0 0) [.ref 22, vI c, vB gr] (mw w t k W H (mL : Int) pl so bt nb wl mar mmk rc ou mip fd) _ _ := c_X8_pair hG d hF hl hc
  rw [← e] at key
  exact m_Ct.post key (fun r y h => ⟨h.1, by rw [h.2]; exact ST_m hS⟩)
theorem S8_seenN (hG : m_G G) (d : Nat) (hS : ST sc w k W H n sl m col row bes wal cL cip cmk car t nb wl mL mip mmk mar o) {p r i : Int} (hp : 0 ≤ p ∧ p < n) (hr : iR r) (hi : iR i) (hno : ¬ (0 ≤ r ∧ r < dirN k ∧ 0 ≤ i)) : m_Ct G MX8_seen (m_r (d + 3) 0 0) [.ref 22, vI p, vI r, vI i] w (fun r y => r = some (some (vI (-1))) ∧ ST sc y k W H n sl m col row bes wal cL cip cmk car 0 nb wl mL mip mmk mar o) := by
  have hF := hS.2.2.1.1.2.2.2.2.2.2.2.2.1
  have hl : 30 < w.length := by have := hS.1; omega
  obtain ⟨pl, so, bt, rc, ou, fd, e⟩ := ST_w hS
  have key : m_Cv G MX8_seen (m_r (d + 3) 0 0) [.ref 22, vI p, vI r, vI i] (mw w t k W H (mL : Int) pl so bt nb wl mar mmk rc ou mip fd) _ _ := c_X8_seenN hG d hF hl hp hr hi hno
  rw [← e] at key
  exact m_Ct.post key (fun r y h => ⟨h.1, by rw [h.2]; exact ST_m hS⟩)
theorem S8_seenY (hG : m_G G) (d : Nat) (hS : ST sc w k W H n sl m col row bes wal cL cip cmk car t nb wl mL mip mmk mar o) {p q i : Int} (hp : 0 ≤ p ∧ p < n) (hr : 0 ≤ q ∧ q < dirN k) (hi : 0 ≤ i ∧ i < 2147483648) : m_Ct G MX8_seen (m_r (d + 3) 0 0) [.ref 22, vI p, vI q, vI i] w (fun r y => r = some (some (vI (seF (opM k W H wl q) p i n 0 (opM k W H wl q p)))) ∧ ST sc y k W H n sl m col row bes wal cL cip cmk car 0 nb wl mL mip mmk mar o) := by
  have hF := hS.2.2.1.1.2.2.2.2.2.2.2.2.1
  have hl : 30 < w.length := by have := hS.1; omega
  obtain ⟨pl, so, bt, rc, ou, fd, e⟩ := ST_w hS
  have key : m_Cv G MX8_seen (m_r (d + 3) 0 0) [.ref 22, vI p, vI q, vI i] (mw w t k W H (mL : Int) pl so bt nb wl mar mmk rc ou mip fd) _ _ := (by obtain ⟨φ, I, p1, p2, p3⟩ := stp_pot hF hp hr; exact c_X8_seenY hG d hF hl hp hr hi φ I p3 p1 p2)
  rw [← e] at key
  exact m_Ct.post key (fun r y h => ⟨h.1, by rw [h.2]; exact ST_m hS⟩)
theorem S8_areaN (hG : m_G G) (d : Nat) (hS : ST sc w k W H n sl m col row bes wal cL cip cmk car t nb wl mL mip mmk mar o) {p a : Int} (hp : 0 ≤ p ∧ p < n) (ha : ¬ (0 ≤ a ∧ a < n)) (hr : iR a) : m_Ct G MX8_area (m_r (d + 3) 0 0) [.ref 22, vI p, vI a] w (fun r y => r = some (some (vB false)) ∧ ST sc y k W H n sl m col row bes wal cL cip cmk car 0 nb wl mL mip mmk mar o) := by
  have hF := hS.2.2.1.1.2.2.2.2.2.2.2.2.1
  have hl : 30 < w.length := by have := hS.1; omega
  obtain ⟨pl, so, bt, rc, ou, fd, e⟩ := ST_w hS
  have key : m_Cv G MX8_area (m_r (d + 3) 0 0) [.ref 22, vI p, vI a] (mw w t k W H (mL : Int) pl so bt nb wl mar mmk rc ou mip fd) _ _ := c_X8_areaN hG d hF hl hp ha hr
  rw [← e] at key
  exact m_Ct.post key (fun r y h => ⟨h.1, by rw [h.2]; exact ST_m hS⟩)
theorem S8_areaY (hG : m_G G) (d : Nat) (hS : ST sc w k W H n sl m col row bes wal cL cip cmk car t nb wl mL mip mmk mar o) {p a : Int} (hp : 0 ≤ p ∧ p < n) (ha : 0 ≤ a ∧ a < n) : m_Ct G MX8_area (m_r (d + 3) 0 0) [.ref 22, vI p, vI a] w (fun r y => r = some (some (vB true)) ∧ ST sc y k W H n sl m col row bes wal cL cip cmk car 0 nb wl mL mip mmk (up mar p.toNat a) o) := by
  have hF := hS.2.2.1.1.2.2.2.2.2.2.2.2.1
  have hl : 30 < w.length := by have := hS.1; omega
  obtain ⟨pl, so, bt, rc, ou, fd, e⟩ := ST_w hS
  have key : m_Cv G MX8_area (m_r (d + 3) 0 0) [.ref 22, vI p, vI a] (mw w t k W H (mL : Int) pl so bt nb wl mar mmk rc ou mip fd) _ _ := c_X8_areaY hG d hF hl hp ha
  rw [← e] at key
  exact m_Ct.post key (fun r y h => ⟨h.1, by rw [h.2]; exact ST_m hS⟩)
theorem S8_size (hG : m_G G) (d : Nat) (hS : ST sc w k W H n sl m col row bes wal cL cip cmk car t nb wl mL mip mmk mar o) {a : Int} (ha : iR a) (hA : ∀ j, j < n → iR (mar j)) : m_Ct G MX8_size (m_r (d + 3) 0 0) [.ref 22, vI a] w (fun r y => r = some (some (vI (cntF (fun s => mar s.toNat == a) n 0))) ∧ ST sc y k W H n sl m col row bes wal cL cip cmk car 0 nb wl mL mip mmk mar o) := by
  have hF := hS.2.2.1.1.2.2.2.2.2.2.2.2.1
  have hl : 30 < w.length := by have := hS.1; omega
  obtain ⟨pl, so, bt, rc, ou, fd, e⟩ := ST_w hS
  have key : m_Cv G MX8_size (m_r (d + 3) 0 0) [.ref 22, vI a] (mw w t k W H (mL : Int) pl so bt nb wl mar mmk rc ou mip fd) _ _ := c_X8_size hG d hF hl ha hA
  rw [← e] at key
  exact m_Ct.post key (fun r y h => ⟨h.1, by rw [h.2]; exact ST_m hS⟩)
theorem S8_markN (hG : m_G G) (d : Nat) (hS : ST sc w k W H n sl m col row bes wal cL cip cmk car t nb wl mL mip mmk mar o) {p a : Int} (hp : 0 ≤ p ∧ p < n) (ha : ¬ (0 ≤ a ∧ a ≤ 99)) (hr : iR a) : m_Ct G MX8_mark (m_r (d + 3) 0 0) [.ref 22, vI p, vI a] w (fun r y => r = some (some (vB false)) ∧ ST sc y k W H n sl m col row bes wal cL cip cmk car 0 nb wl mL mip mmk mar o) := by
  have hF := hS.2.2.1.1.2.2.2.2.2.2.2.2.1
  have hl : 30 < w.length := by have := hS.1; omega
  obtain ⟨pl, so, bt, rc, ou, fd, e⟩ := ST_w hS
  have key : m_Cv G MX8_mark (m_r (d + 3) 0 0) [.ref 22, vI p, vI a] (mw w t k W H (mL : Int) pl so bt nb wl mar mmk rc ou mip fd) _ _ := c_X8_markN hG d hF hl hp ha hr
  rw [← e] at key
  exact m_Ct.post key (fun r y h => ⟨h.1, by rw [h.2]; exact ST_m hS⟩)
theorem S8_markY (hG : m_G G) (d : Nat) (hS : ST sc w k W H n sl m col row bes wal cL cip cmk car t nb wl mL mip mmk mar o) {p a : Int} (hp : 0 ≤ p ∧ p < n) (ha : 0 ≤ a ∧ a ≤ 99) : m_Ct G MX8_mark (m_r (d + 3) 0 0) [.ref 22, vI p, vI a] w (fun r y => r = some (some (vB true)) ∧ ST sc y k W H n sl m col row bes wal cL cip cmk car 0 nb wl mL mip (up mmk p.toNat a) mar o) := by
  have hF := hS.2.2.1.1.2.2.2.2.2.2.2.2.1
  have hl : 30 < w.length := by have := hS.1; omega
  obtain ⟨pl, so, bt, rc, ou, fd, e⟩ := ST_w hS
  have key : m_Cv G MX8_mark (m_r (d + 3) 0 0) [.ref 22, vI p, vI a] (mw w t k W H (mL : Int) pl so bt nb wl mar mmk rc ou mip fd) _ _ := c_X8_markY hG d hF hl hp ha
  rw [← e] at key
  exact m_Ct.post key (fun r y h => ⟨h.1, by rw [h.2]; exact ST_m hS⟩)
theorem S8_image (hG : m_G G) (d : Nat) (hS : ST sc w k W H n sl m col row bes wal cL cip cmk car t nb wl mL mip mmk mar o) {a p : Int} (hp : 0 ≤ p ∧ p < n) (ha : iR a) : m_Ct G MX8_image (m_r (d + 3) 0 0) [.ref 22, vI a, vI p] w (fun r y => r = some (some (vI (if inB a (tuN k W H) then TM k W H a p else -1))) ∧ ST sc y k W H n sl m col row bes wal cL cip cmk car 0 nb wl mL mip mmk mar o) := by
  have hF := hS.2.2.1.1.2.2.2.2.2.2.2.2.1
  have hl : 30 < w.length := by have := hS.1; omega
  obtain ⟨pl, so, bt, rc, ou, fd, e⟩ := ST_w hS
  have key : m_Cv G MX8_image (m_r (d + 3) 0 0) [.ref 22, vI a, vI p] (mw w t k W H (mL : Int) pl so bt nb wl mar mmk rc ou mip fd) _ _ := c_X8_image hG d hF hl hp ha
  rw [← e] at key
  exact m_Ct.post key (fun r y h => ⟨h.1, by rw [h.2]; exact ST_m hS⟩)
theorem S8_keeps (hG : m_G G) (d : Nat) (hS : ST sc w k W H n sl m col row bes wal cL cip cmk car t nb wl mL mip mmk mar o) {a : Int} (ha : iR a) (hM : ∀ j, j < n → iR (mmk j)) : m_Ct G MX8_keeps (m_r (d + 3) 0 0) [.ref 22, vI a] w (fun r y => r = some (some (vB (inB a (tuN k W H) && allF (kOut n nb wl mmk (TM k W H a)) n 0))) ∧ ST sc y k W H n sl m col row bes wal cL cip cmk car 0 nb wl mL mip mmk mar o) := by
  have hF := hS.2.2.1.1.2.2.2.2.2.2.2.2.1
  have hl : 30 < w.length := by have := hS.1; omega
  obtain ⟨pl, so, bt, rc, ou, fd, e⟩ := ST_w hS
  have key : m_Cv G MX8_keeps (m_r (d + 3) 0 0) [.ref 22, vI a] (mw w t k W H (mL : Int) pl so bt nb wl mar mmk rc ou mip fd) _ _ := c_X8_keeps hG d hF hl ha hM
  rw [← e] at key
  exact m_Ct.post key (fun r y h => ⟨h.1, by rw [h.2]; exact ST_m hS⟩)
theorem S8_keeping (hG : m_G G) (d : Nat) (hS : ST sc w k W H n sl m col row bes wal cL cip cmk car t nb wl mL mip mmk mar o) (hM : ∀ j, j < n → iR (mmk j)) : m_Ct G MX8_keeping (m_r (d + 3) 0 0) [.ref 22] w (fun r y => r = some (some (vI (cntF (fun t => allF (kOut n nb wl mmk (TM k W H t)) n 0) (tuN k W H).toNat 0))) ∧ ST sc y k W H n sl m col row bes wal cL cip cmk car 0 nb wl mL mip mmk mar o) := by
  have hF := hS.2.2.1.1.2.2.2.2.2.2.2.2.1
  have hl : 30 < w.length := by have := hS.1; omega
  obtain ⟨pl, so, bt, rc, ou, fd, e⟩ := ST_w hS
  have key : m_Cv G MX8_keeping (m_r (d + 3) 0 0) [.ref 22] (mw w t k W H (mL : Int) pl so bt nb wl mar mmk rc ou mip fd) _ _ := c_X8_keeping hG d hF hl hM
  rw [← e] at key
  exact m_Ct.post key (fun r y h => ⟨h.1, by rw [h.2]; exact ST_m hS⟩)
theorem S8_text (hG : m_G G) (d : Nat) (hS : ST sc w k W H n sl m col row bes wal cL cip cmk car t nb wl mL mip mmk mar o) {i : Int} (hi : iR i) (hM : ∀ j, j < n → 0 ≤ mmk j ∧ mmk j ≤ 99) : m_Ct G MX8_text (m_r (d + 2) 0 0) [.ref 22, vI i] w (fun r y => r = some (some (vI (atL (txF mmk n 0 0) i))) ∧ ST sc y k W H n sl m col row bes wal cL cip cmk car 0 nb wl mL mip mmk mar o) := by
  have hF := hS.2.2.1.1.2.2.2.2.2.2.2.2.1
  have hl : 30 < w.length := by have := hS.1; omega
  obtain ⟨pl, so, bt, rc, ou, fd, e⟩ := ST_w hS
  have key : m_Cv G MX8_text (m_r (d + 2) 0 0) [.ref 22, vI i] (mw w t k W H (mL : Int) pl so bt nb wl mar mmk rc ou mip fd) _ _ := c_X8_text hG d hF hl hi hM
  rw [← e] at key
  exact m_Ct.post key (fun r y h => ⟨h.1, by rw [h.2]; exact ST_m hS⟩)
theorem S8_unitN (hG : m_G G) (d : Nat) (hS : ST sc w k W H n sl m col row bes wal cL cip cmk car t nb wl mL mip mmk mar o) {u : Int} (hu : iR u) (hz : mL ≤ 1200) (hno : ¬ (0 ≤ u ∧ u ≤ 255 ∧ (mL : Int) < 1200)) : m_Ct G MX8_unit (m_r (d + 0) 0 0) [.ref 22, vI u] w (fun r y => r = some (some (vB false)) ∧ ST sc y k W H n sl m col row bes wal cL cip cmk car 0 nb wl mL mip mmk mar o) := by
  have hF := hS.2.2.1.1.2.2.2.2.2.2.2.2.1
  have hl : 30 < w.length := by have := hS.1; omega
  obtain ⟨pl, so, bt, rc, ou, fd, e⟩ := ST_w hS
  have key : m_Cv G MX8_unit (m_r (d + 0) 0 0) [.ref 22, vI u] (mw w t k W H (mL : Int) pl so bt nb wl mar mmk rc ou mip fd) _ _ := c_X8_unitN hG d hF hl hu ⟨by omega, by omega⟩ hno
  rw [← e] at key
  exact m_Ct.post key (fun r y h => ⟨h.1, by rw [h.2]; exact ST_m hS⟩)
theorem S8_unitY (hG : m_G G) (d : Nat) (hS : ST sc w k W H n sl m col row bes wal cL cip cmk car t nb wl mL mip mmk mar o) {u : Int} (hu : 0 ≤ u ∧ u ≤ 255) (hz : mL < 1200) : m_Ct G MX8_unit (m_r d 0 0) [.ref 22, vI u] w (fun r y => r = some (some (vB true)) ∧ ST sc y k W H n sl m col row bes wal cL cip cmk car 0 nb wl (mL + 1) (up mip mL u) mmk mar o) := by
  have hF := hS.2.2.1.1.2.2.2.2.2.2.2.2.1
  have hl : 30 < w.length := by have := hS.1; omega
  obtain ⟨pl, so, bt, rc, ou, fd, e⟩ := ST_w hS
  have key : m_Cv G MX8_unit (m_r d 0 0) [.ref 22, vI u] (mw w t k W H (mL : Int) pl so bt nb wl mar mmk rc ou mip fd) _ _ := c_X8_unitY hG d hF hl hu ⟨by omega, by omega⟩
  rw [← e, Int.toNat_natCast, show (mL : Int) + 1 = ((mL + 1 : Nat) : Int) by omega] at key
  exact m_Ct.post key (fun r y h => ⟨h.1, by rw [h.2]; exact ST_m hS⟩)
theorem S8_farX (hG : m_G G) (d : Nat) (hS : ST sc w k W H n sl m col row bes wal cL cip cmk car t nb wl mL mip mmk mar o) {a b : Int} (ha : ¬ (0 ≤ a ∧ a < n)) (hr : iR a) : m_Ct G MX8_far (m_r (d + 3) 0 0) [.ref 22, vI a, vI b] w (fun r y => r = some (some (vI 0)) ∧ ST sc y k W H n sl m col row bes wal cL cip cmk car 1 nb wl mL mip mmk mar o) := by
  have hF := hS.2.2.1.1.2.2.2.2.2.2.2.2.1
  have hl : 30 < w.length := by have := hS.1; omega
  obtain ⟨pl, so, bt, rc, ou, fd, e⟩ := ST_w hS
  have key : m_Cv G MX8_far (m_r (d + 3) 0 0) [.ref 22, vI a, vI b] (mw w t k W H (mL : Int) pl so bt nb wl mar mmk rc ou mip fd) _ _ := c_X8_farX hG d hF hl ha hr
  rw [← e] at key
  exact m_Ct.post key (fun r y h => ⟨h.1, by rw [h.2]; exact ST_m hS⟩)
theorem S8_farX2 (hG : m_G G) (d : Nat) (hS : ST sc w k W H n sl m col row bes wal cL cip cmk car t nb wl mL mip mmk mar o) {a b : Int} (ha : 0 ≤ a ∧ a < n) (hb : ¬ (0 ≤ b ∧ b < n)) (hr : iR b) : m_Ct G MX8_far (m_r (d + 3) 0 0) [.ref 22, vI a, vI b] w (fun r y => r = some (some (vI 0)) ∧ ST sc y k W H n sl m col row bes wal cL cip cmk car 1 nb wl mL mip mmk mar o) := by
  have hF := hS.2.2.1.1.2.2.2.2.2.2.2.2.1
  have hl : 30 < w.length := by have := hS.1; omega
  obtain ⟨pl, so, bt, rc, ou, fd, e⟩ := ST_w hS
  have key : m_Cv G MX8_far (m_r (d + 3) 0 0) [.ref 22, vI a, vI b] (mw w t k W H (mL : Int) pl so bt nb wl mar mmk rc ou mip fd) _ _ := c_X8_farX2 hG d hF hl ha hb hr
  rw [← e] at key
  exact m_Ct.post key (fun r y h => ⟨h.1, by rw [h.2]; exact ST_m hS⟩)
theorem S8_far (hG : m_G G) (d : Nat) (hS : ST sc w k W H n sl m col row bes wal cL cip cmk car t nb wl mL mip mmk mar o) {a b : Int} (ha : 0 ≤ a ∧ a < n) (hb : 0 ≤ b ∧ b < n) : m_Ct G MX8_far (m_r (d + 3) 0 0) [.ref 22, vI a, vI b] w (fun r y => (∃ (f2 : Nat → Int) (ou : Nat → Bool), shr (nxB nb wl) (admO n (fill 256 (fun _ => false) ou)) n f2 a.toNat ∧ r = some (some (vI (f2 b.toNat)))) ∧ ST sc y k W H n sl m col row bes wal cL cip cmk car 0 nb wl mL mip mmk mar o) := by
  have hF := hS.2.2.1.1.2.2.2.2.2.2.2.2.1
  have hl : 30 < w.length := by have := hS.1; omega
  obtain ⟨pl, so, bt, rc, ou, fd, e⟩ := ST_w hS
  have key : m_Ct G MX8_far (m_r (d + 3) 0 0) [.ref 22, vI a, vI b] (mw w t k W H (mL : Int) pl so bt nb wl mar mmk rc ou mip fd) _ := c_X8_far hG d hF hl ha hb
  rw [← e] at key
  exact m_Ct.post key (fun r y h => by
    obtain ⟨f2, h1, h2, rfl⟩ := h
    exact ⟨⟨f2, ou, h1, h2⟩, ST_m hS⟩)
theorem S8_parts (hG : m_G G) (d : Nat) (hS : ST sc w k W H n sl m col row bes wal cL cip cmk car t nb wl mL mip mmk mar o) {a : Int} (ha : iR a) (hA : ∀ j, j < 256 → iR (mar j)) : m_Ct G MX8_parts (m_r (d + 3) 0 0) [.ref 22, vI a] w (fun r y => (∃ c : Int, r = some (some (vI c)) ∧ cpR (nxB nb wl) n n 0 (fun q => poF mar a q = false) c) ∧ ST sc y k W H n sl m col row bes wal cL cip cmk car 0 nb wl mL mip mmk mar o) := by
  have hF := hS.2.2.1.1.2.2.2.2.2.2.2.2.1
  have hl : 30 < w.length := by have := hS.1; omega
  obtain ⟨pl, so, bt, rc, ou, fd, e⟩ := ST_w hS
  have key : m_Ct G MX8_parts (m_r (d + 3) 0 0) [.ref 22, vI a] (mw w t k W H (mL : Int) pl so bt nb wl mar mmk rc ou mip fd) _ := c_X8_parts hG d hF hl ha hA
  rw [← e] at key
  exact m_Ct.post key (fun r y h => by
    obtain ⟨c, rc2, ou2, h1, h2, rfl⟩ := h
    exact ⟨⟨c, h1, h2⟩, ST_m hS⟩)
theorem S8_without (hG : m_G G) (d : Nat) (hS : ST sc w k W H n sl m col row bes wal cL cip cmk car t nb wl mL mip mmk mar o) {p : Int} (hp : 0 ≤ p ∧ p < n) : m_Ct G MX8_without (m_r (d + 3) 0 0) [.ref 22, vI p] w (fun r y => (∃ c : Int, r = some (some (vI c)) ∧ cpR (nxB nb wl) n n 0 (fun q => q ≠ p.toNat) c) ∧ ST sc y k W H n sl m col row bes wal cL cip cmk car 0 nb wl mL mip mmk mar o) := by
  have hF := hS.2.2.1.1.2.2.2.2.2.2.2.2.1
  have hl : 30 < w.length := by have := hS.1; omega
  obtain ⟨pl, so, bt, rc, ou, fd, e⟩ := ST_w hS
  have key : m_Ct G MX8_without (m_r (d + 3) 0 0) [.ref 22, vI p] (mw w t k W H (mL : Int) pl so bt nb wl mar mmk rc ou mip fd) _ := c_X8_without hG d hF hl hp
  rw [← e] at key
  exact m_Ct.post key (fun r y h => by
    obtain ⟨c, rc2, ou2, h1, h2, rfl⟩ := h
    exact ⟨⟨c, h1, h2⟩, ST_m hS⟩)
theorem S8_read (hG : m_G G) (d : Nat) (hS : ST sc w k W H n sl m col row bes wal cL cip cmk car t nb wl mL mip mmk mar o) (hL : mL ≤ 1200) (hb : ∀ i, i < mL → 0 ≤ mip i ∧ mip i ≤ 255) : m_Ct G MX8_read (m_r (d + 2) 0 0) [.ref 22] w (fun r y => ∃ fd : Nat → Int, ((pF n mip mL mL 0 0 0 fd).1 = -1 ∧ r = some (some (vI n)) ∧ ST sc y k W H n sl m col row bes wal cL cip cmk car 0 nb wl 0 mip (fill n (pF n mip mL mL 0 0 0 fd).2 mmk) mar o) ∨ ((pF n mip mL mL 0 0 0 fd).1 ≠ -1 ∧ r = some (some (vI (-1 - (pF n mip mL mL 0 0 0 fd).1))) ∧ ST sc y k W H n sl m col row bes wal cL cip cmk car 0 nb wl 0 mip mmk mar o)) := by
  have hF := hS.2.2.1.1.2.2.2.2.2.2.2.2.1
  have hl : 30 < w.length := by have := hS.1; omega
  obtain ⟨pl, so, bt, rc, ou, fd, e⟩ := ST_w hS
  have key : m_Ct G MX8_read (m_r (d + 2) 0 0) [.ref 22] (mw w t k W H (mL : Int) pl so bt nb wl mar mmk rc ou mip fd) _ := c_X8_read hG d hF hl hL hb
  rw [← e] at key
  refine m_Ct.post key (fun r y h => ⟨fd, ?_⟩)
  obtain ⟨fd2, ⟨h1, h2, rfl⟩ | ⟨h1, h2, rfl⟩⟩ := h
  · exact Or.inl ⟨h1, h2, ST_m (mL' := 0) hS⟩
  · exact Or.inr ⟨h1, h2, ST_m (mL' := 0) hS⟩
end ST
