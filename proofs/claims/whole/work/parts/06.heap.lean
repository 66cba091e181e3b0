section MH
variable {G : mG} {M : mM} {R : Room} {Q : Option (Option Value) → List mC → Prop} {nc ns pc : Nat} {L : List (Option Value)} {st : List Value} {w : List mC}
/-- entry idx of the class own names field k of class ci -/
def m_fo (own : String) (idx ci k : Nat) : Prop := ∃ (C : String) (T : u_T) (N : Nat), mCl[ci]? = some (C, T, N) ∧ k < N ∧ Cond.fieldLink own idx (T k).1 (T k).2.1 (T k).2.2.1 ∈ lw_tbl ∧ ∀ x ∈ u_ws C T N, x ∈ lw_tbl
theorem m_gu (C : String) (T : u_T) (N : Nat) : ∀ x ∈ u_ws C T N, goodWord x = true := by
  intro x hx
  obtain ⟨k, -, rfl⟩ := List.mem_map.mp hx
  unfold u_lay
  split <;> rfl
theorem m_getf (pc' : Nat) {i idx ci k : Nat} {fs : List Value} {v : Value} (hf : m_fo M.1.cls idx ci k) (hd : decode M.2.1 pc = .ok (.getfield idx, 3)) (hp : pc + 3 = pc') (hw : w[i]? = some (mO ci fs)) (hv : fs[k]? = some v)
    (kk : m_J G M R Q nc ns pc' L (v :: st) w) : m_J G M R Q nc ns pc L (.ref i :: st) w := by
  intro p e s m args below meth c C H locs ls hR hlo hL
  subst hp
  obtain ⟨Cn, T, N, h1, h2, h3, h4⟩ := hf
  obtain ⟨hx, hb, -, -, -, hown, -, -, hW, -, -, hG⟩ := id C
  obtain ⟨r, hr, hob⟩ := hR.2.2.2 _ _ hw
  have hP : va_P G.2.2.2 mCl [(m_a G i, .inr (ci, fs.map (m_v G)))] H := by
    intro q x hq
    match q, hq with
    | 0, hq => cases hq; exact ⟨r, hr, hob⟩
  exact va_get (D := G.2.2.2) (cl := mCl) (ci := ci) (C := Cn) (T := T) (N := N) (v := m_v G v) hx hb (Ts := u_ws Cn T N) (fun x hx => m_word hG hW (h4 x hx) (m_gu _ _ _ x hx) _) (fun _ h => h) hown (m_K hG hW) hP 0 rfl h1 k h2 (m_word hG hW h3 rfl _) (fun _ h9 => h9) (by simp [hv]) hd (kk p e s m args below meth c C H locs ls hR hlo hL)
theorem m_fits {ty : FieldType} {v : Value} (h : (ty = .int ∧ ∃ x, v = .int x) ∨ (ty = .boolean ∧ (v = .int 0 ∨ v = .int 1)) ∨ ((∃ t, ty = .array t) ∧ ∃ i, v = .ref i) ∨ ((∃ t, ty = .object t) ∧ ∃ i, v = .ref i)) : narrow ty (m_v G v) = m_v G v ∧ fits ty (m_v G v) = true := by
  rcases h with ⟨rfl, x, rfl⟩ | ⟨rfl, rfl | rfl⟩ | ⟨⟨t, rfl⟩, i, rfl⟩ | ⟨⟨t, rfl⟩, i, rfl⟩ <;> exact ⟨rfl, rfl⟩
theorem m_putf (pc' : Nat) {i idx ci k : Nat} {fs : List Value} {v : Value} {C0 : String} {T0 : u_T} {N0 : Nat} (ty0 : Nat → FieldType) (hc0 : mCl[ci]? = some (C0, T0, N0)) (hty : ∀ k, k < N0 → parseFieldDescriptor (T0 k).2.2.1 = some (ty0 k)) (hnm : ∀ a, a < N0 → ∀ b, b < N0 → a ≠ b → (T0 a).2.1 ≠ (T0 b).2.1) (hfin : (T0 k).2.2.2 = false ∨ ((T0 k).1 = M.1.cls ∧ M.1.name = "<init>" ∧ (T0 k).2.2.2 = true))
    (hf : m_fo M.1.cls idx ci k) (hd : decode M.2.1 pc = .ok (.putfield idx, 3)) (hp : pc + 3 = pc') (hw : w[i + 1]? = some (mO ci fs)) (hl : k < fs.length)
    (hv : (ty0 k = .int ∧ ∃ x, v = .int x) ∨ (ty0 k = .boolean ∧ (v = .int 0 ∨ v = .int 1)) ∨ ((∃ t, ty0 k = .array t) ∧ ∃ i, v = .ref i) ∨ ((∃ t, ty0 k = .object t) ∧ ∃ i, v = .ref i))
    (kk : m_J G M R Q nc ns pc' L st (w.set (i + 1) (mO ci (fs.set k v)))) : m_J G M R Q nc ns pc L (v :: .ref (i + 1) :: st) w := by
  intro p e s m args below meth c C H locs ls hR hlo hL
  subst hp
  obtain ⟨Cn, T, N, h1, h2, h3, h4⟩ := hf
  obtain ⟨rfl, rfl, rfl⟩ : C0 = Cn ∧ T0 = T ∧ N0 = N := by
    have := hc0.symm.trans h1
    simpa using this
  obtain ⟨hx, hb, -, -, -, hown, hname, -, hW, -, -, hG⟩ := id C
  obtain ⟨r, hr, cell, q1, q2, q3, q4⟩ := hR.2.2.2 _ _ hw
  have hr' : r = (C0, T0, N0) := Option.some.inj (hr.symm.trans h1)
  subst hr'
  have hts : ∀ x ∈ u_ws C0 T0 N0, x.before args s = true := fun x hx => m_word hG hW (h4 x hx) (m_gu _ _ _ x hx) _
  have hK := m_K hG hW
  have hap := va_apart (own := M.1.cls) (D := G.2.2.2) (cl := mCl) hts (fun _ h => h) ty0 hty hnm hK h1
  obtain ⟨hS, hfc, kC, hkC, hkind⟩ := hK.1 ci _ h1
  obtain ⟨cf, kf, fi, f, hi, hsl⟩ := hS k h2
  have hlay := hts _ (u_in_lay h2)
  unfold u_lay at hlay
  have hst := (u_facts hfc hkC (u_lays hts (fun _ h => h) h2) hi).1
  have hlink := m_word hG hW h3 rfl args
  obtain ⟨v1, v2⟩ := m_fits (G := G) hv
  have hd1 := hty k h2
  have key : ∀ H' : Heap, H'[m_a G (i + 1)]? = some (cell.setSlot f.slot (m_v G v)) → H'.size = H.size → (∀ q, q ≠ m_a G (i + 1) → H'[q]? = H[q]?) → W p G.1 e R s m args below meth c H' (locs ++ [⟨m_a G (i + 1), f.slot⟩]) nc ns (m_E G R Q args s below) (F0 m (pc + 3) ls (st.map (m_v G))) := by
    intro H' e1 e2 e3
    refine kk p e s m args below meth c C H' _ ls (hR.set hG.1 hw e2 e3 ⟨_, h1, t_OB.to (V := updV (vp_V (fs.map (m_v G))) k (m_v G v)) ⟨_, e1, q2, q3, ?_⟩ (fun j _ => ?_)⟩) ?_ hL
    · rw [hsl]
      exact t_set q4 hap h2 _
    · rw [vp_updV_set (by simpa using hl), List.map_set]
    · intro q hq
      rcases List.mem_append.mp hq with h | h
      · exact hlo q h
      · rw [List.mem_singleton.mp h]
        simp only [m_a]
        omega
  rcases hfin with hfin | ⟨hdecl, hinit, hfin⟩
  · rw [if_neg (by rw [hfin]; decide)] at hlay
    have h6 := u_store hfc hkC hkind hlay hi hd1 v1 v2
    exact W.putK hx hb (f := f) ⟨hown, hlink, ⟨_, _, _, hi⟩, hst⟩ (by rw [q2]; exact h6) q1 q3 (by rw [hsl]; exact k2_hasslot (q4 k h2)) rfl rfl hd key
  · rw [if_pos hfin] at hlay
    have hcf : m.cls = cf := by
      obtain ⟨_, _, c', _, _, _, -, -, hf', -, -, -, hown2, -⟩ := Cond.laysFinal_spec hlay
      have e1 : c' = cf := by have := hi.symm.trans hf'; simp at this; exact this.1.symm
      rw [hdecl] at hown2
      rw [← e1]; exact Option.some.inj (hown.symm.trans hown2)
    have h6 := u_fits hfc hkC hkind (Or.inr hlay) hi hd1 v1 v2
    exact W.putFinK hx hb hown hlink hi hst hcf (by rw [hname]; exact hinit) (by rw [q2]; exact h6) q1 q3 (by rw [hsl]; exact k2_hasslot (q4 k h2)) rfl rfl hd key
/-! arrays -/
theorem m_iald (pc' : Nat) {i n : Nat} {f : Nat → Int32} {j : Int32} (hd : decode M.2.1 pc = .ok (.iaload, 1)) (hp : pc + 1 = pc') (hw : w[i]? = some (mI n f)) (hin : vp_in j n)
    (kk : m_J G M R Q nc ns pc' L (.int (f j.toNatClampNeg) :: st) w) : m_J G M R Q nc ns pc L (.int j :: .ref i :: st) w := by
  intro p e s m args below meth c C H locs ls hR hlo hL
  subst hp
  obtain ⟨hx, hb, -, -, -, hown, hname, -, hW, -, -, hG⟩ := id C
  obtain ⟨cell, h1, h2, h3, h4, h5⟩ := hR.2.2.2 _ _ hw
  exact W.iald (v := .int (f j.toNatClampNeg)) hx hb h1 (State.isArrayOf_alike hW.alike h2) h3 (by rw [h4]; exact hin) (h5 _ (Nat.not_le.mp fun q => hin (Or.inr q))) rfl rfl hd (kk p e s m args below meth c C H locs ls hR hlo hL)
theorem m_zald (pc' : Nat) {i n : Nat} {f : Nat → Int32} {j : Int32} (hd : decode M.2.1 pc = .ok (.baload, 1)) (hp : pc + 1 = pc') (hw : w[i]? = some (mZ n f)) (hin : vp_in j n)
    (kk : m_J G M R Q nc ns pc' L (.int (f j.toNatClampNeg) :: st) w) : m_J G M R Q nc ns pc L (.int j :: .ref i :: st) w := by
  intro p e s m args below meth c C H locs ls hR hlo hL
  subst hp
  obtain ⟨hx, hb, -, -, -, hown, hname, -, hW, -, -, hG⟩ := id C
  obtain ⟨cell, h1, h2, h3, h4, h5⟩ := hR.2.2.2 _ _ hw
  exact W.zald (v := .int (f j.toNatClampNeg)) hx hb h1 (State.isArrayOf_alike hW.alike h2) h3 (by rw [h4]; exact hin) (h5 _ (Nat.not_le.mp fun q => hin (Or.inr q))) rfl rfl hd (kk p e s m args below meth c C H locs ls hR hlo hL)
theorem m_lald (pc' : Nat) {i n : Nat} {f : Nat → Int64} {j : Int32} (hd : decode M.2.1 pc = .ok (.laload, 1)) (hp : pc + 1 = pc') (hw : w[i]? = some (mJ n f)) (hin : vp_in j n)
    (kk : m_J G M R Q nc ns pc' L (.long (f j.toNatClampNeg) :: st) w) : m_J G M R Q nc ns pc L (.int j :: .ref i :: st) w := by
  intro p e s m args below meth c C H locs ls hR hlo hL
  subst hp
  obtain ⟨hx, hb, -, -, -, hown, hname, -, hW, -, -, hG⟩ := id C
  obtain ⟨cell, h1, h2, h3, h4, h5⟩ := hR.2.2.2 _ _ hw
  exact W.lald (v := .long (f j.toNatClampNeg)) hx hb h1 (State.isArrayOf_alike hW.alike h2) h3 (by rw [h4]; exact hin) (h5 _ (Nat.not_le.mp fun q => hin (Or.inr q))) rfl rfl hd (kk p e s m args below meth c C H locs ls hR hlo hL)
theorem m_len {i n : Nat} {c : mC} (hc : (∃ ty f, c = .inl (ty, n, f)) ∨ ∃ f, c = mJ n f) (pc' : Nat) (hd : decode M.2.1 pc = .ok (.arraylength, 1)) (hp : pc + 1 = pc') (hw : w[i]? = some c)
    (kk : m_J G M R Q nc ns pc' L (.int (nI n) :: st) w) : m_J G M R Q nc ns pc L (.ref i :: st) w := by
  intro p e s m args below meth c C H locs ls hR hlo hL
  subst hp
  obtain ⟨hx, hb, -, -, -, hown, hname, -, hW, -, -, hG⟩ := id C
  rcases hc with ⟨ty, f, rfl⟩ | ⟨f, rfl⟩
  · obtain ⟨cell, h1, h2, h3, h4, h5⟩ := hR.2.2.2 _ _ hw
    exact W.alen (n := nI n) hx hb h1 (State.isArrayOf_alike hW.alike h2) (by rw [h4]; rfl) rfl rfl hd (kk p e s m args below meth _ C H locs ls hR hlo hL)
  · obtain ⟨cell, h1, h2, h3, h4, h5⟩ := hR.2.2.2 _ _ hw
    exact W.alen (n := nI n) hx hb h1 (State.isArrayOf_alike hW.alike h2) (by rw [h4]; rfl) rfl rfl hd (kk p e s m args below meth _ C H locs ls hR hlo hL)
theorem m_slot {cell : Cell} {j k : Nat} {v : Value} (hj : j < cell.slots.size) : (cell.setSlot k v).slots[j]? = if j = k then some v else cell.slots[j]? := by
  unfold Cell.setSlot
  by_cases h : j = k
  · subst h
    simp [hj]
  · simp [h, Array.getElem?_setIfInBounds, Ne.symm h]
theorem m_slotn {cell : Cell} {k : Nat} {v : Value} : (cell.setSlot k v).slots.size = cell.slots.size := by simp [Cell.setSlot]
theorem m_isarr {U : State} {cell : Cell} {k : Nat} {v : Value} {ty : FieldType} (h : U.isArrayOf cell ty) : U.isArrayOf (cell.setSlot k v) ty := h
theorem m_iast (pc' : Nat) {i n : Nat} {f : Nat → Int32} {j x : Int32} (hd : decode M.2.1 pc = .ok (.iastore, 1)) (hp : pc + 1 = pc') (hw : w[i + 1]? = some (mI n f)) (hin : vp_in j n)
    (kk : m_J G M R Q nc ns pc' L st (w.set (i + 1) (mI n (upd f j.toNatClampNeg x)))) : m_J G M R Q nc ns pc L (.int x :: .int j :: .ref (i + 1) :: st) w := by
  intro p e s m args below meth c C H locs ls hR hlo hL
  subst hp
  obtain ⟨hx, hb, -, -, -, hown, hname, -, hW, -, -, hG⟩ := id C
  obtain ⟨cell, h1, h2, h3, h4, h5⟩ := hR.2.2.2 _ _ hw
  refine W.iast hx hb h1 (State.isArrayOf_alike hW.alike h2) h3 (by rw [h4]; exact hin) rfl rfl hd fun H' e1 e2 e3 => ?_
  refine kk p e s m args below meth c C H' _ ls (hR.set hG.1 hw e2 e3 ⟨_, e1, m_isarr h2, h3, m_slotn.trans h4, fun q hq => ?_⟩) (fun q hq => ?_) hL
  · rw [m_slot (by omega)]
    by_cases hqj : q = j.toNatClampNeg
    · rw [if_pos hqj]; subst hqj; simp [upd]
    · rw [if_neg hqj, h5 q hq]; simp [upd, hqj]
  · rcases List.mem_append.mp hq with h | h
    · exact hlo q h
    · rw [List.mem_singleton.mp h]
      simp only [m_a]
      omega
theorem m_zast (pc' : Nat) {i n : Nat} {f : Nat → Int32} {j x : Int32} (hd : decode M.2.1 pc = .ok (.bastore, 1)) (hp : pc + 1 = pc') (hw : w[i + 1]? = some (mZ n f)) (hin : vp_in j n) (hx01 : x = 0 ∨ x = 1)
    (kk : m_J G M R Q nc ns pc' L st (w.set (i + 1) (mZ n (upd f j.toNatClampNeg x)))) : m_J G M R Q nc ns pc L (.int x :: .int j :: .ref (i + 1) :: st) w := by
  intro p e s m args below meth c C H locs ls hR hlo hL
  subst hp
  obtain ⟨hx, hb, -, -, -, hown, hname, -, hW, -, -, hG⟩ := id C
  obtain ⟨cell, h1, h2, h3, h4, h5⟩ := hR.2.2.2 _ _ hw
  refine W.zast hx hb h1 (State.isArrayOf_alike hW.alike h2) h3 (by rw [h4]; exact hin) rfl rfl hd fun H' e1 e2 e3 => ?_
  have hn : narrow .boolean (.int x) = .int x := by rcases hx01 with rfl | rfl <;> rfl
  rw [hn] at e1
  refine kk p e s m args below meth c C H' _ ls (hR.set hG.1 hw e2 e3 ⟨_, e1, m_isarr h2, h3, m_slotn.trans h4, fun q hq => ?_⟩) (fun q hq => ?_) hL
  · rw [m_slot (by omega)]
    by_cases hqj : q = j.toNatClampNeg
    · rw [if_pos hqj]; subst hqj; simp [upd]
    · rw [if_neg hqj, h5 q hq]; simp [upd, hqj]
  · rcases List.mem_append.mp hq with h | h
    · exact hlo q h
    · rw [List.mem_singleton.mp h]
      simp only [m_a]
      omega
theorem m_last (pc' : Nat) {i n : Nat} {f : Nat → Int64} {j : Int32} {x : Int64} (hd : decode M.2.1 pc = .ok (.lastore, 1)) (hp : pc + 1 = pc') (hw : w[i + 1]? = some (mJ n f)) (hin : vp_in j n)
    (kk : m_J G M R Q nc ns pc' L st (w.set (i + 1) (mJ n (vp_updL f j.toNatClampNeg x)))) : m_J G M R Q nc ns pc L (.long x :: .int j :: .ref (i + 1) :: st) w := by
  intro p e s m args below meth c C H locs ls hR hlo hL
  subst hp
  obtain ⟨hx, hb, -, -, -, hown, hname, -, hW, -, -, hG⟩ := id C
  obtain ⟨cell, h1, h2, h3, h4, h5⟩ := hR.2.2.2 _ _ hw
  refine W.last hx hb h1 (State.isArrayOf_alike hW.alike h2) h3 (by rw [h4]; exact hin) rfl rfl hd fun H' e1 e2 e3 => ?_
  refine kk p e s m args below meth c C H' _ ls (hR.set hG.1 hw e2 e3 ⟨_, e1, m_isarr h2, h3, m_slotn.trans h4, fun q hq => ?_⟩) (fun q hq => ?_) hL
  · rw [m_slot (by omega)]
    by_cases hqj : q = j.toNatClampNeg
    · rw [if_pos hqj]; subst hqj; simp [vp_updL]
    · rw [if_neg hqj, h5 q hq]; simp [vp_updL, hqj]
  · rcases List.mem_append.mp hq with h | h
    · exact hlo q h
    · rw [List.mem_singleton.mp h]
      simp only [m_a]
      omega
end MH
