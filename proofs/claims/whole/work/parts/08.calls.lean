/-! calls: the callee by its contract, whether it answers or throws -/
section MCa
variable {G : mG} {M M' : mM} {R R' : Room} {Q Q' : Option (Option Value) → List mC → Prop} {nc ns pc : Nat} {L : List (Option Value)} {st : List Value} {w : List mC}
/-- the exception's object -/
def m_xc (G : mG) (x : Nat) (H : Heap) : Prop := ∃ cell : Cell, H[x]? = some cell ∧ G.2.1.vm.findClass RJx00060 = some cell.cls ∧ cell.vm = .none
theorem m_inv {p : Program} {e : Env} {s : State} {m : MethodId} {args : Array Value} {below : List Frame} {meth : Method} {c : Code} {U : State} {locs : List Loc} {av : List Value} {a : Array Value}
    (X : Stand p G.1 e R s m args below meth c U locs nc ns) {g : JFrame} (hg : g.method = m) (hsize : g.locals.size = c.maxLocals) {ig : Instr} {len : Nat} (hdg : decode c.code g.pc = .ok (ig, len)) {mk : MethodId} (hn : U.methodNamed? M'.1 = some mk) (hM : m_Ct G M' R' av w Q') (ha : a = (av.map (m_v G)).toArray)
    (hfr0 : R'.frames + 1 ≤ R.frames) (hlo0 : 2 * g.monitorRoom + (g.stack.map fun v => v.category).sum + (M'.2.2.1 + 11) + R'.locals ≤ R.locals) (hce : nc + R'.cells ≤ R.cells) (hsl : ns + R'.slots ≤ R.slots)
    (hcw : (m_cw M').before a U = true) (hini : (Cond.initialized M'.1.cls).before a U = true) (hW : G.2.1.WarmedH U.vm) (hR : m_R G w U.heap) :
    ∃ (r : Option (Option Value)) (w' : List mC) (T' : State) (Lc : List Loc), Q' r w' ∧ m_R G w' T'.heap ∧ Stand p G.1 e R s m args below meth c T' (locs ++ Lc) (nc + R'.cells) (ns + R'.slots) ∧ (∀ q ∈ Lc, G.2.1.heap.size ≤ q.base) ∧
      (match r with
        | some v => Steps p.tables e below (doInvoke e (U.setTop g) [] mk a).1 (T'.setTop { g with pc := g.pc + len, stack := (v.map (m_v G)).toList ++ g.stack })
        | none => ∃ x : Nat, m_xc G x T'.heap ∧ Steps p.tables e below (doInvoke e (U.setTop g) [] mk a).1 ((T'.setTop g).pushFrame (.throwing x))) := by
  obtain ⟨methY, cY, hmY, hcY, -, hlY, -⟩ := m_codespec hn hcw
  obtain ⟨kY, hkY, -⟩ := className_of_methodNamed hn
  have hinitY : kY.init = .initialized := Cond.initialized_spec (findClass_of_methodNamed hn) hkY hini
  have h : At U g.method c below := by rw [hg]; exact X.here
  have happ : (headSpec [m_cw M'] R').appliesLoose M'.1 e.platform (U.calling g mk a) = true :=
    Spec.appliesLoose_calling (g := g) h hdg hn hkY hinitY
      (X.room_calling (g := g) (R' := R') hsize hmY hcY hfr0 (by rw [hlY]; exact hlo0) hce hsl) (atoms_intro (ws := [m_cw M']) fun x hx => by rw [List.mem_singleton.mp hx]; exact hcw)
  obtain ⟨mid, hmid⟩ := h.above
  have hfr : (U.setTop g).frames = (.java g :: mid) ++ below := by rw [State.frames_setTop' g h.top, hmid]; rfl
  obtain ⟨o, s₂, hsteps, -, hend, hq⟩ := Steps.callFree hM p X.admits X.cas X.clock (acts := []) (m := mk) (args := a) hfr happ ⟨ha, hW, hR⟩ trivial
  rw [State.frames_setTop' g h.top] at hend
  obtain ⟨r, w', hQ, hoc, hR2, hW₂, Lc, hsm, hLc⟩ := hq
  have hW' : U.WarmedH s₂.vm := hW₂
  obtain ⟨e2, q2, q3, q4, q5, q6⟩ := id hsm
  have e3 : s₂ = ({ (U.calling g mk a).setFrames s₂.frames with heap := s₂.heap, slotsUsed := s₂.slotsUsed } : State).setVm s₂.vm := by
    have : s₂ = ({ s₂ with vm := (U.calling g mk a).vm } : State).setVm s₂.vm := rfl
    rw [show ({ s₂ with vm := (U.calling g mk a).vm } : State) = _ from e2] at this
    exact this
  obtain ⟨g₀, hg0⟩ := Option.isSome_iff_exists.mp h.top
  obtain ⟨fr, hr⟩ := State.topJava?_eq_some.mp hg0
  have hr' : (({ U with heap := s₂.heap, slotsUsed := s₂.slotsUsed } : State).setVm s₂.vm).frames = .java g₀ :: fr := hr
  have hsame : U.sameButNew ({ U with heap := s₂.heap, slotsUsed := s₂.slotsUsed } : State) Lc R'.cells R'.slots := by
    refine ⟨?_, q2, q3, q4, q5, q6⟩
    obtain ⟨t, ht, -⟩ := State.frames_cons hr
    show ({ U with heap := s₂.heap, slotsUsed := s₂.slotsUsed } : State) = { U.setFrames U.frames with heap := s₂.heap, slotsUsed := s₂.slotsUsed }
    rw [State.setFrames_self ht]
  subst hg
  refine ⟨r, w', ({ U with heap := s₂.heap, slotsUsed := s₂.slotsUsed } : State).setVm s₂.vm, Lc, hQ, hR2,
    ⟨X.admits, X.cas, X.clock, X.frames, X.room, X.hears, X.method, X.code, (X.here.setHeapUsed s₂.heap s₂.slotsUsed).setVm hW'.alike, X.tail, State.WarmedH.trans X.warmed hW', X.limits, X.bytes, X.same.trans (hsame.setVm s.vm)⟩, hLc, ?_⟩
  cases r with
  | some v =>
    have ho : o = .returned (v.map (m_v G)) := hoc
    subst ho
    obtain ⟨c₂, i₂, len₂, hc₂, hd₂, hf₂⟩ := hend
    have hcc : c₂ = c := by
      have h1 : s₂.code? g.method = U.code? g.method := by
        rw [State.code?_eq, State.code?_eq, hW'.alike.method?]
      exact Option.some.inj (hc₂.symm.trans (h1.trans h.code))
    subst hcc
    have hlen : len₂ = len := by rw [hdg] at hd₂; cases hd₂; rfl
    subst hlen
    have hs₂ : s₂ = (({ U with heap := s₂.heap, slotsUsed := s₂.slotsUsed } : State).setVm s₂.vm).setTop { g with pc := g.pc + len₂, stack := (v.map (m_v G)).toList ++ g.stack } := by
      refine e3.trans ?_
      rw [hf₂, State.calling_eq h.top, State.setFrames_setFrames, State.setTop_of_frames _ hr', hr]
      rfl
    show Steps p.tables e below _ ((({ U with heap := s₂.heap, slotsUsed := s₂.slotsUsed } : State).setVm s₂.vm).setTop _)
    rw [← hs₂]
    exact hsteps
  | none =>
    obtain ⟨x, cell, ho, x1, x2, x3⟩ := hoc
    subst ho
    have hf₂ : s₂.frames = .throwing x :: .java g :: U.frames.tail := hend
    have hs₂ : s₂ = ((({ U with heap := s₂.heap, slotsUsed := s₂.slotsUsed } : State).setVm s₂.vm).setTop g).pushFrame (.throwing x) := by
      refine e3.trans ?_
      rw [hf₂, State.calling_eq h.top, State.setFrames_setFrames, State.pushFrame, State.frames_setTop _ hr', State.setTop_of_frames _ hr', State.setFrames_setFrames, hr]
      rfl
    refine ⟨x, ⟨cell, x1, x2, x3⟩, ?_⟩
    show Steps p.tables e below _ (((({ U with heap := s₂.heap, slotsUsed := s₂.slotsUsed } : State).setVm s₂.vm).setTop g).pushFrame (.throwing x))
    rw [← hs₂]
    exact hsteps
/-- an exception comes to this frame, at pc -/
def m_T (G : mG) (M : mM) (R : Room) (Q : Option (Option Value) → List mC → Prop) (nc ns pc : Nat) (L : List (Option Value)) (w : List mC) : Prop :=
  ∀ (p : Program) (e : Env) (s : State) (m : MethodId) (args : Array Value) (below : List Frame) (meth : Method) (c : Code), m_Cx G M p s m meth c → ∀ (T : State) (locs : List Loc) (ls : Array Slot) (x : Nat) (stk : List Value), m_R G w T.heap → (∀ q ∈ locs, G.2.1.heap.size ≤ q.base) → m_lv G ls M.2.2.1 L → m_xc G x T.heap → Stand p G.1 e R s m args below meth c T locs nc ns →
    ∃ t, Steps p.tables e below ((T.setTop (F0 m pc ls stk)).pushFrame (.throwing x)) t ∧ m_E G R Q args s below t
theorem m_T_out (hh : M.2.2.2.2 = []) (hn : nc ≤ R.cells ∧ ns ≤ R.slots) (hq : Q none w) : m_T G M R Q nc ns pc L w := by
  intro p e s m args below meth c C T locs ls x stk hR hlo hL hX X
  obtain ⟨hx, hb, hml, hrt, hlocks, hown, hname, htab, hW, -, -, hG⟩ := id C
  obtain ⟨h1, h2, h3, h4, h5⟩ := X.leaveThrown x (g := F0 m pc ls stk) rfl rfl rfl (fun y hy => by rw [htab, hh] at hy; cases hy) hlocks
  obtain ⟨cell, x1, x2, x3⟩ := hX
  exact ⟨_, h1, .threw x, h2, h3, none, w, hq, ⟨x, cell, rfl, x1, x2, x3⟩, hR, h4, locs, h5.mono hn.1 hn.2, hlo⟩
/-- the search finds the one handler, whose class may still be to be linked -/
theorem m_search {e : Env} {s : State} {f : JFrame} {a : Nat} {meth : Method} {code : Code} {x : ExceptionTableEntry} {c : ClassId} {cell : Cell} (hm : s.vm.method? f.method = some meth) (hc : meth.code = some code) (ht : code.exceptionTable.toList = [x]) (hx : covers x f.pc = true) (h0 : x.catchType ≠ 0)
    (hl : s.vm.ClassLinks e.platform f.method.cls x.catchType c) (hcell : s.heap[a]? = some cell) (hobj : ∀ k, cell.vm ≠ .statics k) (hk : ∃ k, s.vm.classes[cell.cls]? = some k) (hcl : ∃ k, s.vm.classes[c]? = some k) (hfit : s.vm.assignable cell.cls c = true) :
    ∀ (P : Handler → Pre) (E : CtlPost) (d : Bool) (acts : List Action), wp (findHandler f a) P E e d acts s ↔ P (.found x.handlerPc) d acts (s.setVm (s.vm.noted f.method.cls x.catchType (.cls c))) := by
  intro P E d acts
  rw [W.findHandler_eq hm hc, ht]
  simp only [covers] at hx
  have hg := resolveClass_links e.toSetting hl
  obtain ⟨h1, h2⟩ := hg.op (op := VmOp.resolveClass f.method.cls x.catchType) rfl
  have hal : s.vm.Alike (s.vm.noted f.method.cls x.catchType (.cls c)) := (Vm.Alike.refl s.vm).noted _ _ _
  obtain ⟨k1, hk1⟩ := hk
  obtain ⟨k2, hk2⟩ := hcl
  obtain ⟨k1', hk1', -⟩ := hal.2.2 _ _ hk1
  obtain ⟨k2', hk2', -⟩ := hal.2.2 _ _ hk2
  have hfit2 : (s.vm.noted f.method.cls x.catchType (.cls c)).assignable cell.cls c = true := by rw [hal.assignable]; exact hfit
  simp [findHandler.go, hx, h0, h1, h2, hcell, hobj, hk1', hk2', hfit2, VmOp.dirties, VmOp.acts]
theorem m_catchStep {tb : Tables} {e : Env} {s target : State} {g : JFrame} {c : Code} {below : List Frame} {a pc : Nat} {vm2 : Vm} (h : At s g.method c below)
    (hfind : ∀ (P : Handler → Pre) (E : CtlPost) (d : Bool) (acts : List Action), wp (findHandler g a) P E e d acts ((s.setTop g).pushFrame (.throwing a)) ↔ P (.found pc) d acts (((s.setTop g).pushFrame (.throwing a)).setVm vm2))
    (hrest : Steps tb e below ((s.setVm vm2).setTop { g with pc := pc, stack := [.ref a] }) target) : Steps tb e below ((s.setTop g).pushFrame (.throwing a)) target := by
  obtain ⟨hgo, hw⟩ := h.throwing a
  refine Steps.head hgo hw ?_
  have key : ∀ r : List Frame, (stepThrowing e ((s.setTop g).pushFrame (.throwing a)) a (.java g :: r)).Is ((((s.setTop g).pushFrame (.throwing a)).setVm vm2).setFrames (.java { g with pc := pc, stack := [.ref a] } :: r)) [] := by
    intro r
    simp only [stepThrowing, searchFrame, vmDo]
    generalize hr : Sem.go _ e false [] ((s.setTop g).pushFrame (.throwing a)) = res
    obtain ⟨as, rfl, ha⟩ := Sem.eq_ok_of hr (a := Handler.found pc) (s' := ((s.setTop g).pushFrame (.throwing a)).setVm vm2) (acts' := []) (by simp [hfind _ _ _ _])
    exact ⟨rfl, ha⟩
  rw [stepThread_throwing (frames_entered h.top _), (key _).1]
  obtain ⟨g₀, hg⟩ := Option.isSome_iff_exists.mp h.top
  obtain ⟨r, hr⟩ := State.topJava?_eq_some.mp hg
  have hr2 : (s.setVm vm2).frames = .java g₀ :: r := hr
  rw [State.setTop_of_frames _ hr2] at hrest
  have hcomm : ∀ (u : State) (F G2 : List Frame), ((u.setFrames F).setVm vm2).setFrames G2 = (u.setVm vm2).setFrames G2 := fun u F G2 => by
    rw [show (u.setFrames F).setVm vm2 = (u.setVm vm2).setFrames F from rfl, State.setFrames_setFrames]
  rw [hr, List.tail_cons, State.pushFrame, hcomm, State.setTop_of_frames _ hr, hcomm]
  exact hrest
/-- caught: the handler's first instruction lays the object away -/
theorem m_T_catch {hs he hp ct : Nat} {z : Nat} {ig : Instr} {len : Nat} (hh : M.2.2.2.2 = [(hs, he, hp, ct)]) (hcov : hs ≤ pc ∧ pc < he) (hct : ct ≠ 0) (h1 : Cond.classLink M.1.cls ct RJx00060 ∈ lw_tbl) (h2 : Cond.castable RJx00060 RJx00060 ∈ lw_tbl)
    (hd : decode M.2.1 hp = .ok (ig, len)) (hig : (ig = .astore z ∧ len = 2) ∨ (∃ f : Fin 4, ig = .astore_n f ∧ (f : Nat) = z ∧ len = 1)) (hz : z < M.2.2.1)
    (kk : m_J G M R Q nc ns (hp + len) (L.set z none) [] w) : m_T G M R Q nc ns pc L w := by
  intro p e s m args below meth c C T locs ls x stk hR hlo hL hX X
  obtain ⟨hx, hb, hml, hrt, hlocks, hown, hname, htab, hW, -, -, hG⟩ := id C
  rw [hh] at htab
  obtain ⟨cell, x1, x2, x3⟩ := hX
  have hpl : e.platform.magicAccessors = ({} : Platform).magicAccessors := by rw [X.admits.platform]
  obtain ⟨cT, hcT, hcl⟩ := Cond.classLink_spec (args := args) (first := s) (o := none) (idx := []) hown (m_word hG hW h1 rfl args) e.platform hpl
  obtain ⟨dk, _, _, kt, hdk, _, _, _, _, hkt, _, hopen⟩ := hcl.here
  have hcl₀ := X.warmed.classLinks hcl
  have hW' : s.WarmedH (T.vm.noted m.cls ct (.cls cT)) := X.warmed.noted hdk hopen (State.rightAt_cls hcl)
  have hal := X.warmed.alike
  have hfc : s.vm.findClass RJx00060 = some cell.cls := by rw [hW.alike.findClass]; exact x2
  obtain ⟨c3, c4, hc3, hc4, hasg⟩ := Cond.castable_spec (args := #[]) (first := G.2.1) (o := none) (s := G.2.1) (idx := []) (hG.2.1 _ h2)
  cases hc3.symm.trans x2
  cases hc4.symm.trans x2
  cases hcT.symm.trans hfc
  have hfit2 : T.vm.assignable cell.cls cell.cls = true := by rw [hal.assignable, hW.alike.assignable]; exact hasg
  obtain ⟨kt2, hkt2, -⟩ := hal.2.2 _ _ hkt
  have X2 := X.noted hW'
  have key : W p G.1 e R s m args below meth c T.heap locs nc ns (m_E G R Q args s below) (F0 m hp ls [.ref x]) := by
    rcases hig with ⟨rfl, rfl⟩ | ⟨f, rfl, rfl, rfl⟩
    · exact lv_astore hx hb hd hL.has hz rfl (fun ls' h' => kk p e s m args below meth c C T.heap locs ls' hR hlo (hL.dropped h'))
    · exact lv_astore_n hx hb hd rfl hL.has hz rfl (fun ls' h' => kk p e s m args below meth c C T.heap locs ls' hR hlo (hL.dropped h'))
  obtain ⟨t, a1, b1⟩ := key (T.setVm (T.vm.noted m.cls ct (.cls cell.cls))) rfl X2
  refine ⟨t, ?_, b1⟩
  refine m_catchStep (g := F0 m pc ls stk) X.here (pc := hp) (m_search (f := F0 m pc ls stk) (x := ⟨hs, he, hp, ct⟩) (meth := meth) (code := c) (c := cell.cls) (cell := cell) ?_ X.code (htab.trans rfl) ?_ hct ?_ ?_ (fun k h => by rw [x3] at h; cases h) ⟨kt2, hkt2⟩ ⟨kt2, hkt2⟩ ?_) a1
  · rw [Stand.throwing_vm]; exact X.method'
  · simp [covers, hcov]
  · rw [Stand.throwing_vm]; exact hcl₀
  · rw [Stand.throwing_heap]; exact x1
  · rw [Stand.throwing_vm]; exact hfit2
end MCa
