/-! the throw of the one exception -/
theorem m_tcast {U S : State} {a b : Array Value} {x y : String} (hal : S.vm.Alike U.vm) (h : (Cond.castable x y).before a S = true) : (Cond.castable x y).before b U = true := by
  simp only [Cond.before, Cond.holds, Cond.value] at h ⊢
  simp only [hal.findClass, hal.assignable]
  exact h
theorem m_tdecl {U S : State} {a b : Array Value} {x : MethodName} (hal : S.vm.Alike U.vm) (h : (Cond.declares x).before a S = true) : (Cond.declares x).before b U = true := by
  simp only [Cond.before, Cond.holds, Cond.value] at h ⊢
  have e1 : U.methodNamed? x = S.methodNamed? x := State.methodNamed?_setVm (s := S) hal x
  have e2 : U.vm.method? = S.vm.method? := funext hal.method?
  rw [e1, e2]
  exact h
theorem m_found {U S : State} (hal : S.vm.Alike U.vm) {cls name desc : String} {c i : Nat} {k : Class} {f : Field} (hf : S.fieldFound? cls name desc = some (c, k, i, f)) : ∃ k' : Class, U.fieldFound? cls name desc = some (c, k', i, f) ∧ k'.statics = k.statics ∧ k'.staticTypes = k.staticTypes := by
  obtain ⟨k', h1, h2⟩ := State.fieldFound?_setVm (s := S) hal hf
  exact ⟨k', h1, by rw [h2], by rw [h2]⟩
theorem m_tlay {U S : State} {a b : Array Value} {x y z : String} (hal : S.vm.Alike U.vm) (hq : ∀ q : Nat, q < S.heap.size → U.heap[q]? = S.heap[q]?) (h : (Cond.laysStatic x y z).before a S = true) : (Cond.laysStatic x y z).before b U = true := by
  simp only [Cond.before, Cond.holds, Cond.value] at h ⊢
  rw [hal.findClass]
  cases hc : S.vm.findClass x with
  | none => simp [hc] at h
  | some c =>
    cases hf : S.fieldFound? x y z with
    | none => simp [hc, hf] at h
    | some r =>
      obtain ⟨c', k, i, f⟩ := r
      obtain ⟨k', e1, e2, e3⟩ := m_found hal hf
      rw [hc, hf] at h
      rw [e1]
      simp only at h ⊢
      rw [e2, e3]
      cases hs : k.statics with
      | none => simp [hs] at h
      | some q =>
        rw [hs] at h
        cases hcell : S.heap[q]? with
        | none => simp [hcell] at h
        | some cell =>
          have hlt : q < S.heap.size := (Array.getElem?_eq_some_iff.mp hcell).1
          simp only [Option.bind_some, hcell] at h
          simp only [Option.bind_some, hq q hlt, hcell]
          exact h
theorem m_tref {U S : State} {a b : Array Value} {x y z : String} (hal : S.vm.Alike U.vm) (hq : ∀ q : Nat, q < S.heap.size → U.heap[q]? = S.heap[q]?) (h : (Cond.isRef (.static x y z)).before a S = true) : (Cond.isRef (.static x y z)).before b U = true := by
  have ev : (Term.static x y z).eval b U none [] U = (Term.static x y z).eval a S none [] S := by
    simp only [Cond.before, Cond.holds, Cond.value] at h
    cases hf : S.fieldFound? x y z with
    | none => simp [Term.eval, State.fieldNamed?, hf] at h
    | some r =>
      obtain ⟨c', k, i, f⟩ := r
      obtain ⟨k', e1, e2, e3⟩ := m_found hal hf
      cases hev : (Term.static x y z).eval a S none [] S with
      | none => simp [hev] at h
      | some v =>
        obtain ⟨h1, q, cell, h2, h3, h4, h5⟩ := Term.static_spec hf hev
        have hlt : q < S.heap.size := (Array.getElem?_eq_some_iff.mp h3).1
        rw [← hev]
        simp [Term.eval, State.fieldNamed?, hf, e1, h1, e2, h2, hq q hlt, h3]
  simp only [Cond.before, Cond.holds, Cond.value] at h ⊢
  rw [ev]
  exact h
def m_kind : Cond → Bool
  | .declares _ => true
  | .castable .. => true
  | .laysStatic .. => true
  | x => goodWord x
def m_names : List String := ["java/lang/IndexOutOfBoundsException", "java/lang/RuntimeException", "java/lang/Exception"]
set_option maxRecDepth 100000 in
theorem m_ownall : (Bundle.ownAtoms "GridShapes" 174 RJx00060 m_names).all (fun x => (decide (x ∈ lw_tbl) && m_kind x) || (decide (x = m_uns) || decide (x = m_sup))) = true := by decide +kernel
theorem m_own {G : mG} {U : State} (hG : m_G G) (hW : G.2.1.WarmedH U.vm) (hq : ∀ q : Nat, q < G.2.1.heap.size → U.heap[q]? = G.2.1.heap[q]?) (b : Array Value) : ∀ x ∈ Bundle.ownAtoms "GridShapes" 174 RJx00060 m_names, x.before b U = true := by
  intro x hx
  have h := List.all_eq_true.mp m_ownall x hx
  simp only [Bool.or_eq_true, Bool.and_eq_true, decide_eq_true_eq] at h
  rcases h with ⟨h1, h2⟩ | rfl | rfl
  · have h3 := hG.2.1 x h1
    unfold m_kind at h2
    split at h2
    · exact m_tdecl hW.alike h3
    · exact m_tcast hW.alike h3
    · exact m_tlay hW.alike hq h3
    · exact m_word hG hW h1 h2 b
  · exact m_tref hW.alike hq hG.2.2.2.2.1
  · exact m_tref hW.alike hq hG.2.2.2.2.2.1
/-- the walk so far is forgotten: the method as if it began here -/
theorem m_rebase {p : Program} {l : Launch} {e : Env} {R R0 : Room} {s : State} {m : MethodId} {args : Array Value} {below : List Frame} {meth : Method} {c : Code} {T : State} {locs : List Loc} {n k : Nat} (X : Stand p l e R s m args below meth c T locs n k)
    (h1 : R0.frames = R.frames) (h2 : R0.locals = R.locals) (h3 : n + R0.cells ≤ R.cells) (h4 : k + R0.slots ≤ R.slots) : Stand p l e R0 (T.setFrames (.invoking m args :: below)) m args below meth c T [] 0 0 := by
  obtain ⟨g₀, hfr⟩ := X.frames_eq
  have hcur : T.cur < T.threads.size := State.cur_lt_of_frames hfr
  have hF : (T.setFrames (.invoking m args :: below)).frames = .invoking m args :: below := State.frames_setFrames _ hcur
  have hal := X.warmed.alike
  have hvm : (T.setFrames (.invoking m args :: below)).vm = T.vm := rfl
  have hmeth : (T.setFrames (.invoking m args :: below)).vm.method? m = some meth := X.method'
  refine ⟨X.admits, X.cas, X.clock, hF, ?_, ?_, hmeth, X.code, X.here, X.tail, State.WarmedH.refl _, by rw [State.stackLimits_setFrames], by rw [State.stackBytes_setFrames], ?_⟩
  · have h := X.room
    have hbook := X.book
    simp only [State.hasRoom, Bool.and_eq_true, decide_eq_true_eq] at h
    rw [State.localsInUse_invoking X.frames X.method X.code, X.frames] at h
    have hhs := X.heapSize
    have hus := X.used
    simp only [State.hasRoom, Bool.and_eq_true, decide_eq_true_eq]
    rw [State.localsInUse_invoking hF hmeth X.code, hF, State.stackLimits_setFrames, State.stackBytes_setFrames, X.limits, X.bytes, h1, h2]
    refine ⟨⟨⟨h.1.1.1, ?_⟩, ?_⟩, hbook⟩
    · have := h.1.1.2
      show T.heap.size + R0.cells ≤ _
      omega
    · have := h.1.2
      show T.slotsUsed + R0.slots ≤ _
      omega
  · have hh := X.hears
    rcases below with _ | ⟨y, r⟩
    · simp only [State.hears, hmeth, X.method] at hh ⊢
      exact hh
    · cases y <;> first | exact hh | (simp only [State.hears, State.code?_eq, hvm, hal.method?] at hh ⊢; exact hh)
  · obtain ⟨t, ht, -⟩ := State.frames_cons hF
    have h := (State.sameButNew.refl (T.setFrames (.invoking m args :: below)) ht).setFrames T.frames (State.cur_lt_of_frames hF)
    have e1 : (T.setFrames (.invoking m args :: below)).setFrames T.frames = T := by
      rw [State.setFrames_setFrames]
      obtain ⟨t2, ht2, -⟩ := State.frames_cons hfr
      exact State.setFrames_self ht2
    rw [e1] at h
    exact h
