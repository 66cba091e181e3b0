section MM
variable {G : mG} {M : mM} {R : Room} {Q : Option (Option Value) → List mC → Prop} {nc ns pc : Nat} {L : List (Option Value)} {st : List Value} {w : List mC}
theorem m_lvf (ls : Array Slot) {nL : Nat} (h : m_lv G ls nL L) : ls.size = nL := h.1
/-- the ends -/
theorem m_iret {x : Int32} (hd : decode M.2.1 pc = .ok (.ireturn, 1)) (hr : M.2.2.2.1 = some .int ∨ (M.2.2.2.1 = some .boolean ∧ (x = 0 ∨ x = 1))) (hn : nc ≤ R.cells ∧ ns ≤ R.slots) (hq : Q (some (some (.int x))) w) : m_J G M R Q nc ns pc L [.int x] w := by
  intro p e s m args below meth c C H locs ls hR hlo hL T hT X
  obtain ⟨hx, hb, hml, hrt, hlocks, hown, hname, -, hW, -, -, hG⟩ := id C
  obtain ⟨fs, hret, hrun, hended, hW', hframe⟩ := X.leave (v := some (.int x)) (hlocks := hlocks) (fun h => by rw [hrt] at h; rcases hr with hr | ⟨hr, -⟩ <;> rw [hr] at h <;> cases h)
  have hmeth' : T.vm.method? m = some meth := X.method'
  refine ⟨T.setFrames fs, ?_, .returned (some (.int x)), hrun, hended, some (some (.int x)), w, hq, rfl, by rw [show (T.setFrames fs).heap = H from hT]; exact hR, hW', locs, hframe.mono hn.1 hn.2, hlo⟩
  rcases hr with hr | ⟨hr, hx01⟩
  · have hrt2 := hrt.trans hr
    show Steps p.tables e below (T.setTop (F0 m pc ls [.int x])) _
    jvm_step X.here [X.here.top, hx, hb, hd, hmeth', hrt2, narrow]
    (try refine ⟨rfl, ?_⟩); (try refine ⟨rfl, ?_⟩)
    first | (intro acts; rw [hret _ acts rfl rfl rfl]) | rw [hret _ _ rfl rfl rfl]
    exact Steps.refl _
  · have hrt2 := hrt.trans hr
    have hnw : narrow .boolean (.int x) = .int x := by rcases hx01 with rfl | rfl <;> rfl
    show Steps p.tables e below (T.setTop (F0 m pc ls [.int x])) _
    jvm_step X.here [X.here.top, hx, hb, hd, hmeth', hrt2, hnw]
    (try refine ⟨rfl, ?_⟩); (try refine ⟨rfl, ?_⟩)
    first | (intro acts; rw [hret _ acts rfl rfl rfl]) | rw [hret _ _ rfl rfl rfl]
    exact Steps.refl _
theorem m_vret (hd : decode M.2.1 pc = .ok (.return_, 1)) (hr : M.2.2.2.1 = none) (hn : nc ≤ R.cells ∧ ns ≤ R.slots) (hq : Q (some none) w) : m_J G M R Q nc ns pc L [] w := by
  intro p e s m args below meth c C H locs ls hR hlo hL T hT X
  obtain ⟨hx, hb, hml, hrt, hlocks, hown, hname, -, hW, -, -, hG⟩ := id C
  have hrt2 := hrt.trans hr
  obtain ⟨fs, hret, hrun, hended, hW', hframe⟩ := X.leave (v := none) (hlocks := hlocks) (fun _ => rfl)
  have hmeth' : T.vm.method? m = some meth := X.method'
  refine ⟨T.setFrames fs, ?_, .returned none, hrun, hended, some none, w, hq, rfl, by rw [show (T.setFrames fs).heap = H from hT]; exact hR, hW', locs, hframe.mono hn.1 hn.2, hlo⟩
  show Steps p.tables e below (T.setTop (F0 m pc ls [])) _
  jvm_step X.here [X.here.top, hx, hb, hd, hmeth', hrt2]
  (try refine ⟨rfl, ?_⟩); (try refine ⟨rfl, ?_⟩)
  first | (intro acts; rw [hret _ acts rfl rfl rfl]) | rw [hret _ _ rfl rfl rfl]
  exact Steps.refl _
/-- new -/
theorem m_new (pc' : Nat) {idx ci N : Nat} {C0 : String} {T0 : u_T} {fs : List Value} (ty : Nat → FieldType) (hc : mCl[ci]? = some (C0, T0, N)) (hty : ∀ k, k < N → parseFieldDescriptor (T0 k).2.2.1 = some (ty k)) (hin : ∀ x ∈ u_ws C0 T0 N, x ∈ lw_tbl) (h1 : Cond.classLink M.1.cls idx C0 ∈ lw_tbl) (h2 : Cond.instantiable C0 N ∈ lw_tbl) (h3 : Cond.initialized C0 ∈ lw_tbl)
    (hfs : ∀ j, j < N → defaultValue (ty j) = vp_V fs j) (hrf : ∀ v ∈ fs, ∀ i, v ≠ .ref i) (hd : decode M.2.1 pc = .ok (.new idx, 3)) (hp : pc + 3 = pc') (hn : nc + 1 ≤ R.cells ∧ ns + N ≤ R.slots)
    (kk : m_J G M R Q (nc + 1) (ns + N) pc' L (.ref w.length :: st) (w ++ [mO ci fs])) : m_J G M R Q nc ns pc L st w := by
  intro p e s m args below meth c C H locs ls hR hlo hL
  subst hp
  obtain ⟨hx, hb, hml, hrt, hlocks, hown, hname, -, hW, -, -, hG⟩ := id C
  have hts : ∀ x ∈ u_ws C0 T0 N, x.before args s = true := fun x hx => m_word hG hW (hin x hx) (m_gu _ _ _ x hx) _
  have hKn := (m_K hG hW).1 ci _ hc
  have hmap : fs.map (m_v G) = fs := by
    conv => rhs; rw [← List.map_id fs]
    refine List.map_congr_left fun v hv => ?_
    have := hrf v hv
    cases v <;> first | rfl | exact absurd rfl (this _)
  refine W.newcK hx hb hown (m_word hG hW h1 rfl _) (m_word hG hW h2 rfl _) (m_word hG hW h3 rfl _) rfl hd hn.1 hn.2 hKn.2.1 (m_at hR).symm fun H1 kC hkC e1 z1 o1 => ?_
  have hz := m_at hR
  exact kk p e s m args below meth c C H1 locs ls (hR.push hG.1 (by rw [z1, hz]) (fun q hq => o1 q (by omega)) ⟨_, hc, by rw [hmap]; exact (u_born ty hts (fun _ h => h) hKn hkC e1 hty).to hfs⟩) hlo hL
theorem m_newa (pc' : Nat) {at' : ArrayType} {ty : FieldType} {n : Int32} {N : Nat} {a0 : mC} (harr : Cond.arrayClass ty ∈ lw_tbl) (hty : newarray.typeOf at' = ty) (ha : ((ty = .int ∨ ty = .boolean) ∧ a0 = .inl (ty, N, fun _ => 0)) ∨ (ty = .long ∧ a0 = mJ N (fun _ => 0)))
    (hd : decode M.2.1 pc = .ok (.newarray at', 2)) (hp : pc + 2 = pc') (hn0 : n = nI N) (hN : N < 67108864) (hn : nc + 1 ≤ R.cells ∧ ns + N ≤ R.slots)
    (kk : m_J G M R Q (nc + 1) (ns + N) pc' L (.ref w.length :: st) (w ++ [a0])) : m_J G M R Q nc ns pc L (.int n :: st) w := by
  intro p e s m args below meth c C H locs ls hR hlo hL
  subst hp
  obtain ⟨hx, hb, hml, hrt, hlocks, hown, hname, -, hW, -, -, hG⟩ := id C
  have hz := m_at hR
  have hbytes : N * componentBytes (newarray.typeOf at') ≤ 536870912 := by
    have : componentBytes (newarray.typeOf at') ≤ 8 := by cases at' <;> decide
    exact Nat.le_trans (Nat.mul_le_mul_left N this) (by omega)
  refine va_newaK hx hb (by rw [hty]; exact m_word hG hW harr rfl _) rfl hd rfl (by rw [hn0]; exact nI_pos (by omega)) (by rw [hn0]; exact nI_clamp (by omega)) hbytes hn.1 hn.2 (m_at hR).symm fun H1 cA e1 z1 o1 hA _ => ?_
  have hA0 : G.2.1.isArrayOf (arrV cA N (fun _ => defaultValue (newarray.typeOf at'))) (newarray.typeOf at') := State.isArrayOf_alike hW.alike.symm (hA _ _)
  have hslots : ∀ j : Nat, j < N → (arrV cA N (fun _ => defaultValue (newarray.typeOf at'))).slots[j]? = some (defaultValue (newarray.typeOf at')) := fun j hj => by simp [arrV, hj]
  rw [hty] at e1 hA0 hslots
  refine kk p e s m args below meth c C H1 locs ls (hR.push hG.1 (by rw [z1, hz]) (fun q hq => o1 q (by omega)) ?_) hlo hL
  rcases ha with ⟨hi, rfl⟩ | ⟨rfl, rfl⟩
  · refine ⟨_, e1, hA0, fun h => (by cases h), arrV_size _ _ _, fun j hj => ?_⟩
    rw [hslots j hj]
    rcases hi with rfl | rfl <;> rfl
  · exact ⟨_, e1, hA0, fun h => (by cases h), arrV_size _ _ _, fun j hj => by rw [hslots j hj]; rfl⟩
theorem m_objInit (pc' : Nat) {i idx : Nat} (h1 : Cond.methodLink M.1.cls idx objectInit ∈ lw_tbl) (h2 : Cond.instanceMethod objectInit ∈ lw_tbl) (h3 : Cond.code objectInit ⟨#[0xb1]⟩ 1 none ∈ lw_tbl) (hd : decode M.2.1 pc = .ok (.invokespecial idx, 3)) (hp : pc + 3 = pc') (hr : 1 ≤ R.frames ∧ (st.map fun v => v.category).sum + 12 ≤ R.locals)
    (kk : m_J G M R Q nc ns pc' L st w) : m_J G M R Q nc ns pc L (.ref i :: st) w := by
  intro p e s m args below meth c C H locs ls hR hlo hL
  subst hp
  obtain ⟨hx, hb, hml, hrt, hlocks, hown, hname, -, hW, -, -, hG⟩ := id C
  have hm : ((st.map (m_v G)).map fun v => v.category) = st.map fun v => v.category := by
    rw [List.map_map]
    exact List.map_congr_left fun v _ => m_cat G v
  refine W.objInit hx hb hown (m_word hG hW h1 rfl _) (m_word hG hW h2 rfl _) (m_word hG hW h3 rfl _) rfl (by rw [hml]; exact hL.1) rfl hd hr.1 ?_ (kk p e s m args below meth c C H locs ls hR hlo hL)
  rw [hm]
  show 2 * 0 + _ + 12 ≤ _
  omega
theorem m_ldc (pc' : Nat) {idx : Nat} {v : Int32} (h1 : Cond.constant M.1.cls idx v ∈ lw_tbl) (hd : decode M.2.1 pc = .ok (.ldc idx, 2)) (hp : pc + 2 = pc') (kk : m_J G M R Q nc ns pc' L (.int v :: st) w) : m_J G M R Q nc ns pc L st w := by
  intro p e s m args below meth c C H locs ls hR hlo hL
  subst hp
  obtain ⟨hx, hb, hml, hrt, hlocks, hown, hname, -, hW, -, -, hG⟩ := id C
  exact lv_ldc hx hb hown (m_word hG hW h1 rfl _) hd (kk p e s m args below meth c C H locs ls hR hlo hL)
/-! the entry -/
theorem m_codespec {M : mM} {U : State} {mk : MethodId} {a : Array Value} (hn : U.methodNamed? M.1 = some mk) (h : (m_cw M).before a U = true) :
    ∃ (meth : Method) (c : Code), U.vm.method? mk = some meth ∧ meth.code = some c ∧ c.code = M.2.1 ∧ c.maxLocals = M.2.2.1 ∧ meth.sig.returnType = M.2.2.2.1 ∧ meth.locks = false ∧ c.exceptionTable.toList = tableOf M.2.2.2.2 ∧ parseMethodDescriptor M.1.desc = some meth.sig := by
  obtain ⟨x, b, nl, rt, hs⟩ := M
  cases hs with
  | nil =>
    obtain ⟨meth, c, h1, h2, h3, h4, h5, h6, h7, h8⟩ := Cond.code_spec hn (show (Cond.code x b nl rt).holds a U none U [] = true from h)
    refine ⟨meth, c, h1, h2, h3, h4, h5, h6, ?_, h8⟩
    have : c.exceptionTable = #[] := by simpa using h7
    rw [this]; rfl
  | cons q r =>
    obtain ⟨m', meth, c, h0, h1, h2, h3, h4, h5, h6, h7, h8⟩ := Cond.codeWith_spec (show (Cond.codeWith x b nl rt (q :: r)).holds a U none U [] = true from h)
    cases hn.symm.trans h0
    exact ⟨meth, c, h1, h2, h3, h4, h6, h7, by rw [← h5]; exact (table_eq _).symm, h8⟩
theorem m_args (vs : List Value) (hc : ∀ v ∈ vs, v.category = 1) : ∀ (o i : Nat) (v : Value), vs[i]? = some v → (o + i, v) ∈ lv_args o vs := by
  induction vs with
  | nil => intro o i v h; simp at h
  | cons x xs ih =>
    intro o i v h
    have hx : ¬ x.category = 2 := by
      have := hc x List.mem_cons_self
      omega
    cases i with
    | zero =>
      rw [List.getElem?_cons_zero] at h
      cases h
      exact List.mem_cons_self
    | succ i =>
      rw [List.getElem?_cons_succ] at h
      have := ih (fun v hv => hc v (List.mem_cons_of_mem _ hv)) (o + 1) i v h
      simp only [lv_args, hx, if_false]
      refine List.mem_cons_of_mem _ ?_
      rw [show o + (i + 1) = o + 1 + i by omega]
      exact this
theorem m_sll (vs : List Value) (hc : ∀ v ∈ vs, v.category = 1) : (lg_sl vs).length = vs.length := by
  induction vs with
  | nil => rfl
  | cons x xs ih =>
    have hx : ¬ x.category = 2 := by
      have := hc x List.mem_cons_self
      omega
    have := ih (fun v hv => hc v (List.mem_cons_of_mem _ hv))
    simp only [lg_sl, List.flatMap_cons, hx, if_false, List.length_append] at this ⊢
    simp [this]
    omega
theorem m_enter {av : List Value} (hM : plainName M.1.cls = true) (hG : m_G G) (hc : ∀ v ∈ av, v.category = 1) (hl : av.length ≤ M.2.2.1) (hL : L = av.map some ++ List.replicate (M.2.2.1 - av.length) none)
    (body : m_J G M R Q 0 0 0 L [] w) : m_Ct G M R av w Q := by
  refine MetFree.of_bodyS (code := M.2.1) (maxLocals := M.2.2.1) (ret := M.2.2.2.1) hM ?_ ?_
  · intro args s m h hn
    obtain ⟨meth, c, h1, h2, h3, h4, h5, h6, -, -⟩ := m_codespec hn (atoms_spec (ws := [m_cw M]) h _ List.mem_cons_self)
    exact ⟨meth, c, h1, h2, h3, h4, h5, h6⟩
  · intro p e s m args below meth c s₁ B hml hP _
    obtain ⟨rfl, hW, hR⟩ := hP
    have hpre := atoms_spec (ws := [m_cw M]) B.pre _ List.mem_cons_self
    obtain ⟨meth', c', h1, h2, h3, h4, h5, h6, h7, h8⟩ := m_codespec B.named hpre
    cases B.method.symm.trans h1
    have X₀ := Stand.of_body B
    cases X₀.code.symm.trans h2
    have hh0 : s₁.heap = s.heap := by rw [B.state]; rfl
    have hcx : m_Cx G M p s m meth c := by
      refine ⟨B.exec, h3, h4, h5, h6, findClass_of_methodNamed B.named, (name_of_methodNamed B.named B.method).1, h7, hW, ?_, hR.lt, hG⟩
      intro q cell hq hcell
      obtain ⟨g0, g1, g2, g3⟩ := hR
      have hlt : q < s.heap.size := (Array.getElem?_eq_some_iff.mp hcell).1
      obtain ⟨i, hi⟩ : ∃ i, q = G.2.1.heap.size + i := ⟨q - G.2.1.heap.size, by omega⟩
      have hiw : i + 1 < w.length := by omega
      have hok := g3 (i + 1) _ (List.getElem?_eq_getElem hiw)
      have hqa : m_a G (i + 1) = q := by simp only [m_a]; omega
      generalize w[i + 1] = cc at hok
      obtain ⟨ty, n, f⟩ | ⟨n, f⟩ | ⟨ci, fs⟩ | u := cc
      · obtain ⟨x, x1, x2, x3, -⟩ := hok
        rw [hqa] at x1
        cases hcell.symm.trans x1
        have := x2.1
        cases hv : cell.vm <;> first | rfl | exact absurd hv (this _)
      · obtain ⟨x, x1, x2, x3, -⟩ := hok
        rw [hqa] at x1
        cases hcell.symm.trans x1
        have := x2.1
        cases hv : cell.vm <;> first | rfl | exact absurd hv (this _)
      · obtain ⟨r, -, x, x1, x2, x3, -⟩ := hok
        rw [hqa] at x1
        cases hcell.symm.trans x1
        rw [x3]; rfl
      · obtain ⟨x, x1, x2⟩ := hok
        rw [hqa] at x1
        cases hcell.symm.trans x1
        rw [x2]; rfl
    have hc' : ∀ v ∈ av.map (m_v G), v.category = 1 := by
      intro v hv
      obtain ⟨u, hu, rfl⟩ := List.mem_map.mp hv
      rw [m_cat]
      exact hc u hu
    have hle : (lg_sl (av.map (m_v G))).length ≤ M.2.2.1 := by rw [m_sll _ hc', List.length_map]; exact hl
    have hlv := lv_entry (av.map (m_v G)) (n := M.2.2.1) hle
    have hlv' : m_lv G ((lg_sl (av.map (m_v G)) ++ List.replicate (M.2.2.1 - (lg_sl (av.map (m_v G))).length) Slot.unset).toArray) M.2.2.1 L := by
      refine ⟨hlv.1, hlv.2.1, ?_, fun i v hi => ?_⟩
      · rw [hL]; simp; omega
      · rw [hL] at hi
        have hlt : i < av.length := by
          rcases Nat.lt_or_ge i av.length with h | h
          · exact h
          · rw [List.getElem?_append_right (by simpa using h)] at hi
            have := List.eq_of_mem_replicate (List.mem_of_getElem? hi)
            cases this
        rw [List.getElem?_append_left (by simpa using hlt), List.getElem?_map] at hi
        have hiv : av[i]? = some v := by
          cases hh : av[i]? with
          | none => rw [hh] at hi; cases hi
          | some x => rw [hh] at hi; simp at hi; rw [hi]
        refine ⟨hc v (List.mem_of_getElem? hiv), ?_⟩
        have := m_args _ hc' 0 i (m_v G v) (by rw [List.getElem?_map, hiv]; rfl)
        rw [Nat.zero_add] at this
        exact hlv.2.2 _ this
    obtain ⟨t, a1, o, b1, b2, b3⟩ := body p e s m _ below meth c hcx s.heap [] _ hR (fun q h => by cases h) hlv' s₁ hh0 X₀
    rw [lg_entry_eq]
    exact ⟨t, o, a1, b1, b2, b3⟩
end MM
