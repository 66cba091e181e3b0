/-! a machine of one's own over the kit's walk: the heap since the law's start as a list of cells; a reference is a place in that list; place 0 is the script -/
/-- the launch, the law's first state, the script's address, the classes' numbers and slots -/
abbrev mG : Type := Launch × State × Nat × va_G
/-- a method: its name, bytes, locals, answer's type, handlers -/
abbrev mM : Type := MethodName × ByteArray × Nat × Option FieldType × List (Nat × Nat × Nat × Nat)
def m_a (G : mG) : Nat → Nat
  | 0 => G.2.2.1
  | i + 1 => G.2.1.heap.size + i
def m_v (G : mG) : Value → Value
  | .ref i => .ref (m_a G i)
  | v => v
abbrev mC : Type := (FieldType × Nat × (Nat → Int32)) ⊕ (Nat × (Nat → Int64)) ⊕ (Nat × List Value) ⊕ Unit
abbrev mI (n : Nat) (f : Nat → Int32) : mC := .inl (.int, n, f)
abbrev mZ (n : Nat) (f : Nat → Int32) : mC := .inl (.boolean, n, f)
abbrev mJ (n : Nat) (f : Nat → Int64) : mC := .inr (.inl (n, f))
abbrev mO (ci : Nat) (fs : List Value) : mC := .inr (.inr (.inl (ci, fs)))
abbrev mU : mC := .inr (.inr (.inr ()))
def m_ok (G : mG) (i : Nat) (H : Heap) (c : mC) : Prop := match c with
  | .inl (ty, n, f) => ∃ cell : Cell, H[m_a G i]? = some cell ∧ G.2.1.isArrayOf cell ty ∧ cell.vm ≠ .unknown ∧ cell.slots.size = n ∧ ∀ j : Nat, j < n → cell.slots[j]? = some (.int (f j))
  | .inr (.inl (n, f)) => ∃ cell : Cell, H[m_a G i]? = some cell ∧ G.2.1.isArrayOf cell .long ∧ cell.vm ≠ .unknown ∧ cell.slots.size = n ∧ ∀ j : Nat, j < n → cell.slots[j]? = some (.long (f j))
  | .inr (.inr (.inl (ci, fs))) => ∃ r : vw_C, mCl[ci]? = some r ∧ t_OB (m_a G i) (G.2.2.2.1 ci) r.2.2 (G.2.2.2.2 ci) H (vp_V (fs.map (m_v G)))
  | .inr (.inr (.inr _)) => ∃ cell : Cell, H[m_a G i]? = some cell ∧ cell.vm = .none
def m_R (G : mG) (w : List mC) (H : Heap) : Prop := 0 < w.length ∧ G.2.1.heap.size + w.length = H.size + 1 ∧ (∀ q : Nat, q < G.2.1.heap.size → H[q]? = G.2.1.heap[q]?) ∧ ∀ (i : Nat) (c : mC), w[i]? = some c → m_ok G i H c
def m_uns : Cond := .isRef (.static "java/lang/Throwable" "UNASSIGNED_STACK" "[Ljava/lang/StackTraceElement;")
def m_sup : Cond := .isRef (.static "java/lang/Throwable" "SUPPRESSED_SENTINEL" "Ljava/util/List;")
/-- what is given of the law's first state -/
def m_G (G : mG) : Prop := G.2.2.1 < G.2.1.heap.size ∧ (∀ w ∈ lw_tbl, w.before #[] G.2.1 = true) ∧ va_K G.2.2.2 mCl [] G.2.1 ∧ G.1.stackTraces = false ∧ m_uns.before #[] G.2.1 = true ∧ m_sup.before #[] G.2.1 = true ∧ ∃ a : Nat, vk_R "GridShapes" 172 "no such place" a G.2.1
/-- how a method ends: an answer, or the one exception -/
def m_oc (G : mG) (r : Option (Option Value)) (o : Outcome) (t : State) : Prop := match r with
  | some v => o = .returned (v.map (m_v G))
  | none => ∃ (a : Nat) (cell : Cell), o = .threw a ∧ t.heap[a]? = some cell ∧ G.2.1.vm.findClass RJx00060 = some cell.cls ∧ cell.vm = .none
def m_Q (G : mG) (R : Room) (Q : Option (Option Value) → List mC → Prop) : Array Value → State → Outcome → State → Prop := fun _ st o t =>
  ∃ (r : Option (Option Value)) (w : List mC), Q r w ∧ m_oc G r o t ∧ m_R G w t.heap ∧ st.WarmedH t.vm ∧ ∃ Lc : List Loc, st.sameButNew ({ t with vm := st.vm } : State) Lc R.cells R.slots ∧ ∀ q ∈ Lc, G.2.1.heap.size ≤ q.base
def m_cw (M : mM) : Cond := match M.2.2.2.2 with
  | [] => .code M.1 M.2.1 M.2.2.1 M.2.2.2.1
  | a :: r => .codeWith M.1 M.2.1 M.2.2.1 M.2.2.2.1 (a :: r)
def m_Pc (G : mG) (av : List Value) (w : List mC) : Array Value → State → Prop := fun a U => a = (av.map (m_v G)).toArray ∧ G.2.1.WarmedH U.vm ∧ m_R G w U.heap
/-- a method's contract at these arguments and this heap -/
def m_Ct (G : mG) (M : mM) (R : Room) (av : List Value) (w : List mC) (Q : Option (Option Value) → List mC → Prop) : Prop :=
  MetFree G.1 M.1 (headSpec [m_cw M] R) (m_Pc G av w) (fun _ _ _ _ _ => True) (m_Q G R Q)
/-- the method's own frame -/
def m_Cx (G : mG) (M : mM) (p : Program) (s : State) (m : MethodId) (meth : Method) (c : Code) : Prop :=
  p.tables.exec = Jvm.exec ∧ c.code = M.2.1 ∧ c.maxLocals = M.2.2.1 ∧ meth.sig.returnType = M.2.2.2.1 ∧ meth.locks = false ∧ s.vm.findClass M.1.cls = some m.cls ∧ meth.name = M.1.name ∧ c.exceptionTable.toList = tableOf M.2.2.2.2 ∧ G.2.1.WarmedH s.vm ∧ (∀ (q : Nat) (cell : Cell), G.2.1.heap.size ≤ q → s.heap[q]? = some cell → cell.vm.isStatics = false) ∧ G.2.1.heap.size ≤ s.heap.size ∧ m_G G
def m_lv (G : mG) (ls : Array Slot) (nL : Nat) (L : List (Option Value)) : Prop := ls.size = nL ∧ lv_wf ls ∧ L.length = nL ∧ ∀ (i : Nat) (v : Value), L[i]? = some (some v) → v.category = 1 ∧ ls[i]? = some (.val (m_v G v))
def m_E (G : mG) (R : Room) (Q : Option (Option Value) → List mC → Prop) (args : Array Value) (s : State) (below : List Frame) : State → Prop := fun t => ∃ o : Outcome, t.status = .running ∧ Ended t below o ∧ m_Q G R Q args s o t
/-- from this frame and this heap the method ends as Q says -/
def m_J (G : mG) (M : mM) (R : Room) (Q : Option (Option Value) → List mC → Prop) (n k pc : Nat) (L : List (Option Value)) (st : List Value) (w : List mC) : Prop :=
  ∀ (p : Program) (e : Env) (s : State) (m : MethodId) (args : Array Value) (below : List Frame) (meth : Method) (c : Code), m_Cx G M p s m meth c → ∀ (H : Heap) (locs : List Loc) (ls : Array Slot), m_R G w H → (∀ q ∈ locs, G.2.1.heap.size ≤ q.base) → m_lv G ls M.2.2.1 L →
    W p G.1 e R s m args below meth c H locs n k (m_E G R Q args s below) (F0 m pc ls (st.map (m_v G)))
theorem m_cat (G : mG) (v : Value) : (m_v G v).category = v.category := by cases v <;> rfl
theorem m_inj {G : mG} (hb : G.2.2.1 < G.2.1.heap.size) {i j : Nat} (h : m_a G i = m_a G j) : i = j := by
  cases i <;> cases j <;> simp only [m_a] at h <;> omega
theorem m_R.lt {G : mG} {w : List mC} {H : Heap} (h : m_R G w H) : G.2.1.heap.size ≤ H.size := by
  have := h.1
  have := h.2.1
  omega
/-- a cell is kept where the heap is -/
theorem m_ok.kept {G : mG} {i : Nat} {H H' : Heap} {c : mC} (h : m_ok G i H c) (e : H'[m_a G i]? = H[m_a G i]?) : m_ok G i H' c := by
  obtain ⟨ty, n, f⟩ | ⟨n, f⟩ | ⟨ci, fs⟩ | u := c
  · obtain ⟨cell, h1, h2⟩ := h
    exact ⟨cell, e.trans h1, h2⟩
  · obtain ⟨cell, h1, h2⟩ := h
    exact ⟨cell, e.trans h1, h2⟩
  · obtain ⟨r, h1, h2⟩ := h
    exact ⟨r, h1, h2.kept e⟩
  · obtain ⟨cell, h1, h2⟩ := h
    exact ⟨cell, e.trans h1, h2⟩
/-- one cell is written -/
theorem m_R.set {G : mG} {w : List mC} {H H' : Heap} {i : Nat} {c c' : mC} (h : m_R G w H) (hb : G.2.2.1 < G.2.1.heap.size) (hi : w[i + 1]? = some c) (hz : H'.size = H.size) (hq : ∀ q : Nat, q ≠ m_a G (i + 1) → H'[q]? = H[q]?) (hc : m_ok G (i + 1) H' c') : m_R G (w.set (i + 1) c') H' := by
  obtain ⟨h0, h1, h2, h3⟩ := h
  refine ⟨by simpa using h0, by simpa [hz] using h1, fun q hlt => ?_, fun j d hj => ?_⟩
  · rw [hq q (by simp only [m_a]; omega)]
    exact h2 q hlt
  · by_cases hij : j = i + 1
    · subst hij
      have hl := (List.getElem?_eq_some_iff.mp hi).1
      rw [List.getElem?_set_self hl] at hj
      cases hj
      exact hc
    · rw [List.getElem?_set_ne (Ne.symm hij)] at hj
      exact (h3 j d hj).kept (hq _ (fun q => hij (m_inj hb q)))
/-- one cell comes -/
theorem m_R.push {G : mG} {w : List mC} {H H' : Heap} {c : mC} (h : m_R G w H) (hb : G.2.2.1 < G.2.1.heap.size) (hz : H'.size = H.size + 1) (hq : ∀ q : Nat, q < H.size → H'[q]? = H[q]?) (hc : m_ok G w.length H' c) : m_R G (w ++ [c]) H' := by
  have hlt := h.lt
  obtain ⟨h0, h1, h2, h3⟩ := h
  refine ⟨by simp, by simp; omega, fun q hlt' => ?_, fun j d hj => ?_⟩
  · rw [hq q (by omega)]
    exact h2 q hlt'
  · by_cases hl : j < w.length
    · rw [List.getElem?_append_left hl] at hj
      refine (h3 j d hj).kept (hq _ ?_)
      cases j with
      | zero => simp only [m_a]; omega
      | succ j => simp only [m_a]; omega
    · rw [List.getElem?_append_right (by omega)] at hj
      have hz1 : j - w.length < 1 := (List.getElem?_eq_some_iff.mp hj).1
      have hj0 : j = w.length := by omega
      subst hj0
      rw [Nat.sub_self] at hj
      cases hj
      exact hc
theorem m_at {G : mG} {w : List mC} {H : Heap} (h : m_R G w H) : m_a G w.length = H.size := by
  obtain ⟨h0, h1, -⟩ := h
  obtain ⟨n, hn⟩ : ∃ n, w.length = n + 1 := ⟨w.length - 1, by omega⟩
  rw [hn] at h1 ⊢
  simp only [m_a]
  omega
/-! ## the locals -/
def m_ll (G : mG) (L : List (Option Value)) : List (Nat × Value) := (List.range L.length).filterMap fun i => match L[i]? with
  | some (some v) => some (i, m_v G v)
  | _ => none
theorem m_ll_mem {G : mG} {L : List (Option Value)} {q : Nat × Value} : q ∈ m_ll G L ↔ ∃ v : Value, L[q.1]? = some (some v) ∧ q.2 = m_v G v := by
  unfold m_ll
  rw [List.mem_filterMap]
  constructor
  · rintro ⟨i, -, hi⟩
    split at hi
    · rename_i v hv
      cases hi
      exact ⟨v, hv, rfl⟩
    · cases hi
  · rintro ⟨v, hv, he⟩
    refine ⟨q.1, List.mem_range.mpr (List.getElem?_eq_some_iff.mp hv).1, ?_⟩
    rw [hv]
    simp [← he]
theorem m_lv.has {G : mG} {ls : Array Slot} {nL : Nat} {L : List (Option Value)} (h : m_lv G ls nL L) : lv_has ls nL (m_ll G L) := by
  refine ⟨h.1, h.2.1, fun q hq => ?_⟩
  obtain ⟨v, hv, he⟩ := m_ll_mem.mp hq
  rw [he]
  exact (h.2.2.2 _ _ hv).2
theorem m_lv.stored {G : mG} {ls ls' : Array Slot} {nL i : Nat} {L : List (Option Value)} {v : Value} (h : m_lv G ls nL L) (hc : v.category = 1) (hs : lv_has ls' nL ((i, m_v G v) :: (m_ll G L).filter (fun q => !(q.1 == i) && !(q.1 + 1 == i && q.2.category == 2)))) : m_lv G ls' nL (L.set i (some v)) := by
  refine ⟨hs.1, hs.2.1, by simpa using h.2.2.1, fun j x hj => ?_⟩
  by_cases hij : j = i
  · subst hij
    have hl : j < L.length := by
      have := (List.getElem?_eq_some_iff.mp hj).1
      simpa using this
    rw [List.getElem?_set_self hl] at hj
    cases hj
    exact ⟨hc, hs.2.2 _ List.mem_cons_self⟩
  · rw [List.getElem?_set_ne (Ne.symm hij)] at hj
    refine ⟨(h.2.2.2 _ _ hj).1, hs.2.2 (j, m_v G x) (List.mem_cons_of_mem _ (List.mem_filter.mpr ⟨m_ll_mem.mpr ⟨x, hj, rfl⟩, ?_⟩))⟩
    have h1 := (h.2.2.2 _ _ hj).1
    rw [← m_cat G] at h1
    simp [hij, h1]
/-- a store of what isn't told -/
theorem m_lv.dropped {G : mG} {ls ls' : Array Slot} {nL i : Nat} {L : List (Option Value)} {v : Value} (h : m_lv G ls nL L) (hs : lv_has ls' nL ((i, v) :: (m_ll G L).filter (fun q => !(q.1 == i) && !(q.1 + 1 == i && q.2.category == 2)))) : m_lv G ls' nL (L.set i none) := by
  refine ⟨hs.1, hs.2.1, by simpa using h.2.2.1, fun j x hj => ?_⟩
  by_cases hij : j = i
  · subst hij
    have hl : j < L.length := by
      have := (List.getElem?_eq_some_iff.mp hj).1
      simpa using this
    rw [List.getElem?_set_self hl] at hj
    cases hj
  · rw [List.getElem?_set_ne (Ne.symm hij)] at hj
    refine ⟨(h.2.2.2 _ _ hj).1, hs.2.2 (j, m_v G x) (List.mem_cons_of_mem _ (List.mem_filter.mpr ⟨m_ll_mem.mpr ⟨x, hj, rfl⟩, ?_⟩))⟩
    have h1 := (h.2.2.2 _ _ hj).1
    rw [← m_cat G] at h1
    simp [hij, h1]
