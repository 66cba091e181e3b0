section MIn
variable {G : mG} {M M' : mM} {R R' : Room} {Q Q' : Option (Option Value) → List mC → Prop} {nc ns pc : Nat} {L : List (Option Value)} {st : List Value} {w w' : List mC}
theorem m_vis {v : Value} (h : ∃ i, v = .ref i) : v.isRef = true := by obtain ⟨i, rfl⟩ := h; rfl
set_option maxHeartbeats 1000000 in
/-- new X("no such place"), thrown: the object is one more cell, of which nothing is told -/
theorem m_throwNew (hM : M.1.cls = "GridShapes") (hh : M.2.2.2.2 = []) (d0 : decode M.2.1 pc = .ok (.new 170, 3)) (d3 : decode M.2.1 (pc + 3) = .ok (.dup, 1)) (d4 : decode M.2.1 (pc + 3 + 1) = .ok (.ldc 172, 2)) (d6 : decode M.2.1 (pc + 3 + 1 + 2) = .ok (.invokespecial 174, 3)) (d9 : decode M.2.1 (pc + 3 + 1 + 2 + 3) = .ok (.athrow, 1))
    (h1 : Cond.classLink "GridShapes" 170 RJx00060 ∈ lw_tbl) (h2 : Cond.instantiable RJx00060 6 ∈ lw_tbl) (h3 : Cond.initialized RJx00060 ∈ lw_tbl) (hfr : 7 ≤ R.frames) (hlc : (st.map fun v => v.category).sum + 96 ≤ R.locals) (hn : nc + 1 ≤ R.cells ∧ ns + 6 ≤ R.slots) (hq : Q none (w ++ [mU])) : m_J G M R Q nc ns pc L st w := by
  intro p e s m args below meth c C H locs ls hR hlo hL T hT X
  obtain ⟨hx, hb, hml, hrt, hlocks, hown, hname, htab, hW, -, -, hG⟩ := id C
  rw [hM] at hown
  obtain ⟨am, ham⟩ := hG.2.2.2.2.2.2
  have X' := m_rebase (R0 := { frames := R.frames, locals := R.locals, cells := R.cells - nc, slots := R.slots - ns }) X rfl rfl (by show nc + (R.cells - nc) ≤ _; omega) (by show ns + (R.slots - ns) ≤ _; omega)
  have hWT : G.2.1.WarmedH T.vm := State.WarmedH.trans hW X.warmed
  generalize hs' : T.setFrames (.invoking m args :: below) = s' at X'
  have hvm : s'.vm = T.vm := by rw [← hs']; rfl
  have hhp : s'.heap = H := by rw [← hs', ← hT]; rfl
  have hW' : G.2.1.WarmedH s'.vm := by rw [hvm]; exact hWT
  have hown' : s'.vm.findClass "GridShapes" = some m.cls := by rw [hvm, X.warmed.alike.findClass]; exact hown
  obtain ⟨cX, kX, hfX, hkX, -⟩ := Cond.instantiable_spec (args := args) (first := s') (o := none) (s := s') (idx := []) (m_word hG hW' h2 rfl args)
  have hsum : ((st.map (m_v G)).map fun v => v.category).sum = (st.map fun v => v.category).sum := by
    rw [List.map_map]
    exact congrArg List.sum (List.map_congr_left fun v _ => m_cat G v)
  have key : W p G.1 e { frames := R.frames, locals := R.locals, cells := R.cells - nc, slots := R.slots - ns } s' m args below meth c H [] 0 0 (fun t => t.status = .running ∧ Ended t below (.threw H.size) ∧ s'.WarmedH t.vm ∧ s'.sameButNew ({ t with vm := s'.vm } : State) [] 1 6 ∧ ∃ ce : Cell, t.heap[H.size]? = some ce ∧ s'.vm.findClass RJx00060 = some ce.cls ∧ ce.vm = .none) (F0 m pc ls (st.map (m_v G))) := by
    refine W.newcK hx hb hown' (m_word hG hW' h1 rfl _) (m_word hG hW' h2 rfl _) (m_word hG hW' h3 rfl _) rfl d0 (show 0 + 1 ≤ R.cells - nc by omega) (show 0 + 6 ≤ R.slots - ns by omega) hfX rfl fun H1 kC hkC e1 z1 o1 => ?_
    cases hkX.symm.trans hkC
    refine lv_dup hx hb d3 rfl ?_
    refine va_ldcS hx hb hown' (vk_R.warm hW' ham) d4 ?_
    intro T2 hT2 X2
    have htr : e.platform.stackTraces = false := by rw [X.admits.platform]; exact hG.2.2.2.1
    obtain ⟨U, u1, u2, u3, u4, u5, ce, u6, u7⟩ := X2.ctorThrowS hx htr (own := "GridShapes") (cls := RJx00060) (names := m_names) (ic := 174) hown' (by decide) (by decide) (m_own hG hW' (fun q hq => by rw [hhp]; exact hR.2.2.1 q hq) args) (fun x hx => by cases hx) (a := H.size) hfX hkX (by rw [hT2]; exact e1) (by rw [hhp]; exact Nat.le_refl _) (msg := .ref am) rfl (g := F0 m (pc + 3 + 1 + 2) ls (.ref am :: .ref H.size :: .ref H.size :: st.map (m_v G))) rfl (by rw [hml]; exact hL.1) rfl rfl (rest := st.map (m_v G)) rfl (by rw [hb]; exact d6) (by rw [hb]; exact d9) (fun x hx => by rw [htab, hh] at hx; cases hx) (show 3 + 3 < R.frames by omega)
      (by
        rw [List.map_cons, List.sum_cons, hsum]
        show 2 * 0 + (1 + _) + (13 * (3 + 1) + 42) ≤ R.locals
        omega) hlocks
    exact ⟨U, u1, u2, u3, u4, u5, ce, u6, u7.cls, u7.vm⟩
  obtain ⟨t, a1, b1, b2, b3, b4, ce, b5, b6, b7⟩ := key T hT X'
  have hsm := b4
  obtain ⟨q1, q2, q3, q4, q5, q6⟩ := b4
  have q2' : H.size ≤ t.heap.size := by rw [← hhp]; exact q2
  have q3' : t.heap.size ≤ H.size + 1 := by rw [← hhp]; exact q3
  have hlt : H.size < t.heap.size := (Array.getElem?_eq_some_iff.mp b5).1
  have hsame : ∀ q : Nat, q < H.size → t.heap[q]? = H[q]? := by
    intro q hq
    have hg : s'.heap[q]? = some H[q] := by rw [hhp]; exact Array.getElem?_eq_getElem hq
    obtain ⟨c', g1, g2, g3, g4⟩ := q6 q _ hg
    have hsl : c'.slots = H[q].slots := Array.ext_getElem? fun i => g4 i (by simp)
    rw [hsl] at g2
    have g1' : t.heap[q]? = some c' := g1
    rw [g1', g2]
    exact (Array.getElem?_eq_getElem hq).symm
  refine ⟨t, a1, .threw H.size, b1, b2, none, w ++ [mU], hq, ⟨H.size, ce, rfl, b5, ?_, b7⟩, hR.push hG.1 (by omega) hsame ⟨ce, by rw [m_at hR]; exact b5, b7⟩, ?_, locs, ?_, hlo⟩
  · rw [← hW'.alike.findClass]; exact b6
  · rw [hvm] at *
    exact State.WarmedH.trans X.warmed (by
      have h9 : s'.WarmedH t.vm := b3
      rw [← hs'] at h9
      exact h9)
  · have h5 : T.sameButNew ({ t with vm := T.vm } : State) [] 1 6 := by
      rw [← hs'] at hsm
      obtain ⟨r1, r2, r3, r4, r5, r6⟩ := hsm
      refine ⟨?_, r2, r3, r4, r5, r6⟩
      rw [State.setFrames_setFrames] at r1
      exact r1
    have h6 := X.same.trans (h5.setVm s.vm)
    rw [List.append_nil] at h6
    exact h6.mono hn.1 hn.2
/-! the four ways to call; the answer told -/
/-- what every call asks of the room -/
def m_rm (R R' : Room) (M' : mM) (nc ns : Nat) (st : List Value) : Prop := R'.frames + 1 ≤ R.frames ∧ (st.map fun v => v.category).sum + (M'.2.2.1 + 11) + R'.locals ≤ R.locals ∧ nc + R'.cells ≤ R.cells ∧ ns + R'.slots ≤ R.slots
/-- the words of a callee: its code stands in the tables, its class is initialised -/
def m_cl (M' : mM) (n : Nat) : Prop := m_cw M' ∈ lw_tbl ∧ Cond.initialized M'.1.cls ∈ lw_tbl ∧ (M'.1.cls ≠ "java/lang/invoke/MethodHandle" ∧ M'.1.cls ≠ "java/lang/invoke/VarHandle") ∧ (parseMethodDescriptor M'.1.desc).map (fun d => d.parameters.length) = some n
theorem m_gcw (M' : mM) : goodWord (m_cw M') = true := by
  unfold m_cw
  split <;> rfl
theorem m_cats {st : List Value} : ((st.map (m_v G)).map fun v => v.category).sum = (st.map fun v => v.category).sum := by
  rw [List.map_map]
  exact congrArg List.sum (List.map_congr_left fun v _ => m_cat G v)
/-- from the linked call on -/
theorem m_go {p : Program} {e : Env} {s : State} {m : MethodId} {args : Array Value} {below : List Frame} {meth : Method} {c : Code} {T : State} {locs : List Loc} {ls : Array Slot} {av : List Value} {vm₁ : Vm} {mk : MethodId} {ig : Instr} {g0 : JFrame} {n : Nat}
    (C : m_Cx G M p s m meth c) (hcl : m_cl M' n) (X₁ : Stand p G.1 e R s m args below meth c (T.setVm vm₁) locs nc ns) (hR : m_R G w T.heap) (hlo : ∀ q ∈ locs, G.2.1.heap.size ≤ q.base) (hL : m_lv G ls M.2.2.1 L) (hn : s.methodNamed? M'.1 = some mk) (hdg : decode c.code pc = .ok (ig, 3)) (hrm : m_rm R R' M' nc ns st) (hM : m_Ct G M' R' av w Q')
    (hstep : ∀ target, (∀ acts, Steps p.tables e below (doInvoke e ((T.setVm vm₁).setTop (F0 m pc ls (st.map (m_v G)))) acts mk (av.map (m_v G)).toArray).1 target) → Steps p.tables e below (T.setTop g0) target)
    (kk : ∀ (v : Option Value) (w' : List mC), Q' (some v) w' → m_J G M R Q (nc + R'.cells) (ns + R'.slots) (pc + 3) L (v.toList ++ st) w')
    (kt : ∀ w' : List mC, Q' none w' → m_T G M R Q (nc + R'.cells) (ns + R'.slots) pc L w') : ∃ t, Steps p.tables e below (T.setTop g0) t ∧ m_E G R Q args s below t := by
  obtain ⟨hx, hb, hml, hrt, hlocks, hown, hname, htab, hW, -, -, hG⟩ := id C
  have hW1 : G.2.1.WarmedH (T.setVm vm₁).vm := State.WarmedH.trans hW X₁.warmed
  have hn1 : (T.setVm vm₁).methodNamed? M'.1 = some mk := by
    rw [← hn]
    exact State.methodNamed?_setVm (s := s) X₁.warmed.alike M'.1
  obtain ⟨r, w', T', Lc, hQ, hR2, X2, hLc, hst⟩ := m_inv (M' := M') (R' := R') (Q' := Q') X₁ (g := F0 m pc ls (st.map (m_v G))) rfl (by rw [hml]; exact hL.1) hdg hn1 hM rfl hrm.1 (by
    rw [m_cats]
    show 2 * 0 + _ + _ + _ ≤ _
    have := hrm.2.1
    omega) hrm.2.2.1 hrm.2.2.2 (m_word hG hW1 hcl.1 (m_gcw M') _) (m_word hG hW1 hcl.2.1 rfl _) hW1 hR
  have hlo2 : ∀ q ∈ locs ++ Lc, G.2.1.heap.size ≤ q.base := fun q hq => (List.mem_append.mp hq).elim (hlo q) (hLc q)
  cases r with
  | some v =>
    obtain ⟨t, a1, b1⟩ := kk v w' hQ p e s m args below meth c C T'.heap (locs ++ Lc) ls hR2 hlo2 hL T' rfl X2
    refine ⟨t, hstep t fun acts => ?_, b1⟩
    rw [doInvoke_state]
    refine Steps.trans hst ?_
    have he : (v.map (m_v G)).toList ++ st.map (m_v G) = (v.toList ++ st).map (m_v G) := by cases v <;> rfl
    rw [← he] at a1
    exact a1
  | none =>
    obtain ⟨x, hxc, hst2⟩ := hst
    obtain ⟨t, a1, b1⟩ := kt w' hQ p e s m args below meth c C T' (locs ++ Lc) ls x (st.map (m_v G)) hR2 hlo2 hL hxc X2
    refine ⟨t, hstep t fun acts => ?_, b1⟩
    rw [doInvoke_state]
    exact Steps.trans hst2 a1
theorem m_len1 {M' : mM} {n : Nat} (h : m_cl M' n) {sig : MethodDescriptor} (hs : parseMethodDescriptor M'.1.desc = some sig) : n = sig.parameters.length := by
  have := h.2.2.2
  rw [hs] at this
  exact (Option.some.inj this).symm
/-- invokestatic -/
theorem m_invS {idx n : Nat} {av : List Value} (hk : Cond.methodLink M.1.cls idx M'.1 ∈ lw_tbl) (hs : Cond.static M'.1 ∈ lw_tbl) (hcl : m_cl M' n) (hd : decode M.2.1 pc = .ok (.invokestatic idx, 3)) (hn : av.length = n) (hrm : m_rm R R' M' nc ns st) (hM : m_Ct G M' R' av w Q')
    (kk : ∀ (v : Option Value) (w' : List mC), Q' (some v) w' → m_J G M R Q (nc + R'.cells) (ns + R'.slots) (pc + 3) L (v.toList ++ st) w')
    (kt : ∀ w' : List mC, Q' none w' → m_T G M R Q (nc + R'.cells) (ns + R'.slots) pc L w') : m_J G M R Q nc ns pc L (av.reverse ++ st) w := by
  intro p e s m args below meth c C H locs ls hR hlo hL T hT X
  obtain ⟨hx, hb, hml, hrt, hlocks, hown, hname, htab, hW, -, -, hG⟩ := id C
  have hcode := m_word hG hW hcl.1 (m_gcw M') args
  obtain ⟨mk, hnamed⟩ : ∃ mk, s.methodNamed? M'.1 = some mk := by
    have h9 := m_word hG hW hs rfl args
    simp only [Cond.before, Cond.holds, Cond.value] at h9
    cases hq : s.methodNamed? M'.1 with
    | none => simp [hq] at h9
    | some mk => exact ⟨mk, rfl⟩
  obtain ⟨methM, cM, hmethM, -, -, -, -, -, -, hsigM⟩ := m_codespec hnamed hcode
  have hstatic : methM.isStatic = true := Cond.static_spec hnamed hmethM (m_word hG hW hs rfl args)
  obtain ⟨kP, hkP, -⟩ := className_of_methodNamed hnamed
  have hinitP : kP.init = .initialized := Cond.initialized_spec (findClass_of_methodNamed hnamed) hkP (m_word hG hW hcl.2.1 rfl args)
  obtain ⟨vm₁, X₁, hstep₁⟩ := X.invokestatic hx hown (m_word hG hW hk rfl args) hnamed hmethM hstatic hkP hinitP hcl.2.2.1 (g := F0 m pc ls ((av.reverse ++ st).map (m_v G))) rfl (argsL := av.map (m_v G)) (rest := st.map (m_v G)) (by rw [List.length_map, hn]; exact m_len1 hcl hsigM) (by simp) (by rw [hb]; exact hd)
  exact m_go C hcl X₁ (by rw [hT]; exact hR) hlo hL hnamed (by rw [hb]; exact hd) hrm hM hstep₁ kk kt
theorem m_invSN {idx n : Nat} {host : String} {av : List Value} (hk : Cond.methodLinkNest M.1.cls idx M'.1 host ∈ lw_tbl) (hs : Cond.static M'.1 ∈ lw_tbl) (hcl : m_cl M' n) (hd : decode M.2.1 pc = .ok (.invokestatic idx, 3)) (hn : av.length = n) (hrm : m_rm R R' M' nc ns st) (hM : m_Ct G M' R' av w Q')
    (kk : ∀ (v : Option Value) (w' : List mC), Q' (some v) w' → m_J G M R Q (nc + R'.cells) (ns + R'.slots) (pc + 3) L (v.toList ++ st) w')
    (kt : ∀ w' : List mC, Q' none w' → m_T G M R Q (nc + R'.cells) (ns + R'.slots) pc L w') : m_J G M R Q nc ns pc L (av.reverse ++ st) w := by
  intro p e s m args below meth c C H locs ls hR hlo hL T hT X
  obtain ⟨hx, hb, hml, hrt, hlocks, hown, hname, htab, hW, -, -, hG⟩ := id C
  have hcode := m_word hG hW hcl.1 (m_gcw M') args
  obtain ⟨mk, hnamed⟩ : ∃ mk, s.methodNamed? M'.1 = some mk := by
    have h9 := m_word hG hW hs rfl args
    simp only [Cond.before, Cond.holds, Cond.value] at h9
    cases hq : s.methodNamed? M'.1 with
    | none => simp [hq] at h9
    | some mk => exact ⟨mk, rfl⟩
  obtain ⟨methM, cM, hmethM, -, -, -, -, -, -, hsigM⟩ := m_codespec hnamed hcode
  have hstatic : methM.isStatic = true := Cond.static_spec hnamed hmethM (m_word hG hW hs rfl args)
  obtain ⟨kP, hkP, -⟩ := className_of_methodNamed hnamed
  have hinitP : kP.init = .initialized := Cond.initialized_spec (findClass_of_methodNamed hnamed) hkP (m_word hG hW hcl.2.1 rfl args)
  have hlk : (Cond.methodLinkNest M.1.cls idx M'.1 host).before args s = true := va_Nw.use rfl (va_Nw.warmM hW (va_Nw.of rfl (hG.2.1 _ hk)))
  obtain ⟨vm₁, X₁, hstep₁⟩ := X.invokestaticNest hx hown hlk hnamed hmethM hstatic hkP hinitP hcl.2.2.1 (g := F0 m pc ls ((av.reverse ++ st).map (m_v G))) rfl (argsL := av.map (m_v G)) (rest := st.map (m_v G)) (by rw [List.length_map, hn]; exact m_len1 hcl hsigM) (by simp) (by rw [hb]; exact hd)
  exact m_go C hcl X₁ (by rw [hT]; exact hR) hlo hL hnamed (by rw [hb]; exact hd) hrm hM hstep₁ kk kt
/-- invokevirtual on an object of the callee's own class -/
theorem m_invV {idx n i ci N : Nat} {T0 : u_T} {fs av : List Value} (hk : Cond.methodLink M.1.cls idx M'.1 ∈ lw_tbl) (hi : Cond.instanceMethod M'.1 ∈ lw_tbl) (hse : Cond.selects M'.1.cls M'.1 M'.1 ∈ lw_tbl) (hcl : m_cl M' n) (hd : decode M.2.1 pc = .ok (.invokevirtual idx, 3)) (hn : av.length = n) (hc : mCl[ci]? = some (M'.1.cls, T0, N)) (hw : w[i]? = some (mO ci fs)) (hrm : m_rm R R' M' nc ns st) (hM : m_Ct G M' R' (.ref i :: av) w Q')
    (kk : ∀ (v : Option Value) (w' : List mC), Q' (some v) w' → m_J G M R Q (nc + R'.cells) (ns + R'.slots) (pc + 3) L (v.toList ++ st) w')
    (kt : ∀ w' : List mC, Q' none w' → m_T G M R Q (nc + R'.cells) (ns + R'.slots) pc L w') : m_J G M R Q nc ns pc L (av.reverse ++ .ref i :: st) w := by
  intro p e s m args below meth c C H locs ls hR hlo hL T hT X
  obtain ⟨hx, hb, hml, hrt, hlocks, hown, hname, htab, hW, -, -, hG⟩ := id C
  have hcode := m_word hG hW hcl.1 (m_gcw M') args
  obtain ⟨mk, methM, hnamed, hmethM, hstM, habM⟩ := Cond.instanceMethod_spec (m_word hG hW hi rfl args)
  obtain ⟨methM', cM, hmethM', -, -, -, -, -, -, hsigM⟩ := m_codespec hnamed hcode
  cases hmethM.symm.trans hmethM'
  obtain ⟨c2, r2, m2, q1, q2, q3, q4, kP, hkP, hkPi⟩ := Cond.selects_spec (m_word hG hW hse rfl args)
  obtain ⟨r, hr, cell, g1, g2, g3, -⟩ := hR.2.2.2 _ _ hw
  have hcls : s.vm.findClass M'.1.cls = some cell.cls := by rw [g2]; exact ((m_K hG hW).1 ci _ hc).2.1
  cases hcls.symm.trans q1
  cases (State.methodFound?_of_named hnamed hcl.2.2.1).symm.trans q2
  cases hnamed.symm.trans q3
  have hselP : selectMethod e.platform s.vm cell.cls mk = .method mk := by rw [Launch.admits_selectMethod X.admits]; exact q4
  obtain ⟨vm₁, X₁, hstep₁⟩ := X.invokevirtual hx hown (m_word hG hW hk rfl args) hnamed hmethM hstM hkP hkPi hcl.2.2.1 (a := m_a G i) (cell := cell) (by rw [hT]; exact g1)
    (fun z h => by rw [g3] at h; cases h) hselP hmethM habM hkP hkPi (g := F0 m pc ls ((av.reverse ++ .ref i :: st).map (m_v G))) rfl (argsL := av.map (m_v G)) (rest := st.map (m_v G)) (by rw [List.length_map, hn]; exact m_len1 hcl hsigM) (by simp [m_v]) (by rw [hb]; exact hd)
  exact m_go (av := .ref i :: av) C hcl X₁ (by rw [hT]; exact hR) hlo hL hnamed (by rw [hb]; exact hd) hrm hM hstep₁ kk kt
/-- invokespecial of a constructor -/
theorem m_invI {idx n i : Nat} {av : List Value} (hk : Cond.methodLink M.1.cls idx M'.1 ∈ lw_tbl) (hi : Cond.instanceMethod M'.1 ∈ lw_tbl) (hin : M'.1.name = "<init>" ∧ M'.2.2.2 = (none, [])) (hcl : m_cl M' n) (hd : decode M.2.1 pc = .ok (.invokespecial idx, 3)) (hn : av.length = n) (hrm : m_rm R R' M' nc ns st) (hM : m_Ct G M' R' (.ref i :: av) w Q')
    (kk : ∀ (v : Option Value) (w' : List mC), Q' (some v) w' → m_J G M R Q (nc + R'.cells) (ns + R'.slots) (pc + 3) L (v.toList ++ st) w')
    (kt : ∀ w' : List mC, Q' none w' → m_T G M R Q (nc + R'.cells) (ns + R'.slots) pc L w') : m_J G M R Q nc ns pc L (av.reverse ++ .ref i :: st) w := by
  intro p e s m args below meth c C H locs ls hR hlo hL T hT X
  obtain ⟨hx, hb, hml, hrt, hlocks, hown, hname, htab, hW, -, -, hG⟩ := id C
  have hpl : e.platform.magicAccessors = ({} : Platform).magicAccessors := by rw [X.admits.platform]
  have hcode := m_word hG hW hcl.1 (m_gcw M') args
  have hcode' : (Cond.code M'.1 M'.2.1 M'.2.2.1 none).before args s = true := by
    obtain ⟨x, b, nl, rt, hs⟩ := M'
    obtain ⟨-, h9⟩ := hin
    simp only [Prod.mk.injEq] at h9
    obtain ⟨rfl, rfl⟩ := h9
    exact hcode
  obtain ⟨mk, methM, cM, kP, vm₁, hnamed, hmethM, hcodeM, -, hlocalsM, -, hkP, -, hW₁, hstep₁⟩ := Steps.initColdArgs (e := e) X.here hx X.warmed hpl hown hin.1 hcl.2.2.1 (m_word hG hW hk rfl args) (m_word hG hW hi rfl args) hcode' (f := F0 m pc ls ((av.reverse ++ .ref i :: st).map (m_v G))) rfl (a := m_a G i) (argsL := av.map (m_v G)) (rest := st.map (m_v G)) (fun sig h => by rw [List.length_map, hn]; exact m_len1 hcl h) (by simp [m_v]) (by rw [hb]; exact hd)
  exact m_go (av := .ref i :: av) C hcl (X.noted hW₁) (by rw [hT]; exact hR) hlo hL hnamed (by rw [hb]; exact hd) hrm hM hstep₁ kk kt
end MIn
