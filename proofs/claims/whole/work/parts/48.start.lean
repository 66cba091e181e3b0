/-! the law's first state -/
section FS
def R_law : String := "GridShapesLaw"
def lw_P (b : Addr) (xs : List Int32) (args : Array Value) (s : State) : Prop := args = #[.ref b] ∧ s.IntsAt b xs ∧ xs.length ≤ 2051 ∧ (Jvm.Cond.and given_1 narrow_1).before args s = true
def lw_Q (_ : Array Value) (s : State) (o : Outcome) (t : State) : Prop := o = .returned (some (.int 1)) ∧ Framed s o t [] 601024 7293000
/-- a word of the tables: it looks at no argument -/
def m_tw : Cond → Bool
  | .arrayClass .. => true
  | .castable .. => true
  | .classLink .. => true
  | .code .. => true
  | .codeSync .. => true
  | .codeWith .. => true
  | .constant .. => true
  | .declares .. => true
  | .fieldLink .. => true
  | .initialized .. => true
  | .instanceMethod .. => true
  | .instantiable .. => true
  | .lays .. => true
  | .laysFinal .. => true
  | .laysStatic .. => true
  | .methodLink .. => true
  | .methodLinkNest .. => true
  | .native .. => true
  | .privateMethod .. => true
  | .sameMethod .. => true
  | .selects .. => true
  | .soleField .. => true
  | .static .. => true
  | .stringRef .. => true
  | .superclass .. => true
  | _ => false
theorem m_tw_any {c : Cond} (h : m_tw c = true) {a a' : Array Value} {s : State} (hb : c.before a s = true) : c.before a' s = true := by
  cases c <;> first | exact hb | cases h
set_option maxRecDepth 100000 in
theorem m_tw_all : lw_tbl.all m_tw = true := by decide +kernel
theorem m_first {s : State} (hts : ∀ w ∈ lw_tbl, w.before #[] s = true) : ∃ D : va_G, va_K D mCl [] s := by
  have hex : ∀ ci : Nat, ∃ (cC : ClassId) (iS : Nat → Nat), ∀ q, mCl[ci]? = some q → u_Kn s q.1 q.2.1 q.2.2 cC iS := by
    intro ci
    match ci with
    | 0 => obtain ⟨c, i, h⟩ := u_known hts inX0 (hts _ ntX0); exact ⟨c, i, fun q hq => by cases hq; exact h⟩
    | 1 => obtain ⟨c, i, h⟩ := u_known hts inX1 (hts _ ntX1); exact ⟨c, i, fun q hq => by cases hq; exact h⟩
    | 2 => obtain ⟨c, i, h⟩ := u_known hts inX2 (hts _ ntX2); exact ⟨c, i, fun q hq => by cases hq; exact h⟩
    | 3 => obtain ⟨c, i, h⟩ := u_known hts inX3 (hts _ ntX3); exact ⟨c, i, fun q hq => by cases hq; exact h⟩
    | 4 => obtain ⟨c, i, h⟩ := u_known hts inX4 (hts _ ntX4); exact ⟨c, i, fun q hq => by cases hq; exact h⟩
    | 5 => obtain ⟨c, i, h⟩ := u_known hts inX5 (hts _ ntX5); exact ⟨c, i, fun q hq => by cases hq; exact h⟩
    | 6 => obtain ⟨c, i, h⟩ := u_known hts inX6 (hts _ ntX6); exact ⟨c, i, fun q hq => by cases hq; exact h⟩
    | 7 => obtain ⟨c, i, h⟩ := u_known hts inX7 (hts _ ntX7); exact ⟨c, i, fun q hq => by cases hq; exact h⟩
    | 8 => obtain ⟨c, i, h⟩ := u_known hts inX8 (hts _ ntX8); exact ⟨c, i, fun q hq => by cases hq; exact h⟩
    | n + 9 => obtain ⟨c, i, h⟩ := u_known hts inX0 (hts _ ntX0); exact ⟨c, i, fun q hq => by cases hq⟩
  refine ⟨(fun ci => (hex ci).choose, fun ci => (hex ci).choose_spec.choose), fun c q hq => (hex c).choose_spec.choose_spec q hq, fun k q hk => by cases hk⟩
theorem m_str {s : State} {a : Array Value} (h1 : ∀ w ∈ lw_tbl, w.before #[] s = true) (h2 : (Jvm.Cond.and given_1 narrow_1).before a s = true) : ∃ q : Nat, vk_R "GridShapes" 172 "no such place" q s := by
  have he : (Cond.exactly (.string "GridShapes" 172) "java/lang/String").before a s = true := flat_of_before _ h2 _ (by decide +kernel)
  obtain ⟨q, _, _, _, hq, -⟩ := Cond.exactly_spec he
  exact ⟨q, h1 _ (by decide +kernel), hq⟩
theorem m_GG {l : Launch} (hst : l.stackTraces = false) {s : State} {b : Nat} (hb : b < s.heap.size) (hts : ∀ w ∈ lw_tbl, w.before #[Value.ref b] s = true) (hg : (Jvm.Cond.and given_1 narrow_1).before #[Value.ref b] s = true) : ∃ D : va_G, m_G (l, s, b, D) := by
  have h1 : ∀ w ∈ lw_tbl, w.before #[] s = true := fun w hw => m_tw_any (List.all_eq_true.mp m_tw_all w hw) (hts w hw)
  obtain ⟨D, hD⟩ := m_first h1
  have hu : m_uns.before #[Value.ref b] s = true := flat_of_before _ hg _ (by decide +kernel)
  have hv : m_sup.before #[Value.ref b] s = true := flat_of_before _ hg _ (by decide +kernel)
  exact ⟨D, hb, h1, hD, hst, hu, hv, m_str h1 hg⟩
theorem m_drop {s s' : State} {Lc : List Loc} {k n : Nat} (h : s.sameButNew s' Lc k n) (hJ : ∀ q ∈ Lc, s.heap.size ≤ q.base) : s.sameButNew s' [] k n := by
  obtain ⟨h1, h2, h3, h4, h5, h6⟩ := h
  refine ⟨h1, h2, h3, h4, h5, fun a c hc => ?_⟩
  obtain ⟨c', e1, e2, e3, e4⟩ := h6 a c hc
  have hlt : a < s.heap.size := (Array.getElem?_eq_some_iff.mp hc).1
  exact ⟨c', e1, e2, e3, fun i _ => e4 i (fun hm => absurd (hJ _ hm) (Nat.not_le.mpr hlt))⟩
theorem lw_walk {l : Launch} (hst : l.stackTraces = false) (b : Addr) (xs : List Int32) : MetFree l x (headSpec (Jvm.Cond.code x code maxLocals ret :: tables_1) room_1) (lw_P b xs) (fun _ _ _ _ _ => True) lw_Q := by
  intro p e ha hc hk s m args below hf happ hP _
  obtain ⟨rfl, hx, hbd, hgv⟩ := hP
  obtain ⟨scr, harrAt, hlist, hof, hsmall⟩ := hx
  obtain ⟨hcb, hkn, -, -⟩ := State.arrayAt?_spec harrAt
  obtain ⟨a1, a2, a3, a4, a5, a6, a7, a8⟩ := (Spec.appliesLoose_iff hf).mp happ
  have hts0 : ∀ c ∈ (Jvm.Cond.code x code maxLocals ret :: tables_1), c.before #[Value.ref b] s = true := atoms_spec (ws := Jvm.Cond.code x code maxLocals ret :: tables_1) a8
  have hts : ∀ w ∈ lw_tbl, w.before #[Value.ref b] s = true := k2_hts_sels lw_privs (fun w hw => hts0 w (List.mem_cons_of_mem _ hw)) lw_privs_ok
  have hsz : scr.slots.size = xs.length := by rw [← Array.length_toList, hlist, List.length_map]
  have hval : ∀ j : Nat, j < xs.length → scr.slots[j]? = some (.int (xs.getD j 0)) := fun j hj => by
    rw [← Array.getElem?_toList, hlist]
    simp [hj]
  have hbl : b < s.heap.size := (Array.getElem?_eq_some_iff.mp hcb).1
  obtain ⟨D, hG⟩ := m_GG hst hbl hts hgv
  have hR : m_R (l, s, b, D) [cI xs.length (fun j => (xs.getD j 0).toInt)] s.heap := by
    refine ⟨Nat.le_refl 1, rfl, fun _ _ => rfl, fun i c hi => ?_⟩
    match i with
    | 0 =>
      cases hi
      refine ⟨scr, hcb, hof, hkn, hsz, fun j hj => ?_⟩
      rw [hval j hj]
      show _ = some (Value.int (iI (xs.getD j 0).toInt))
      unfold iI
      rw [Int32.ofInt_toInt]
    | n + 1 => cases hi
  have happ' : (headSpec [m_cw ML_law] room_1).appliesLoose ML_law.1 e.platform s = true :=
    (Spec.appliesLoose_iff hf).mpr ⟨a1, a2, a3, a4, a5, a6, a7, atoms_intro (fun c hc => by
      rw [List.mem_singleton.mp hc]
      exact hts0 _ List.mem_cons_self)⟩
  obtain ⟨n, o, h1, h2, h3, r, w, hq, ho, -, hW, Lc, hs, hl⟩ := law_all hG hbd (fun j => ⟨Int32.le_toInt _, Int32.toInt_lt _⟩) p e ha hc hk s m #[Value.ref b] below hf happ' ⟨rfl, State.WarmedH.refl _, hR⟩ trivial
  have ho' : o = .returned (some (.int 1)) := by
    rw [hq] at ho
    exact ho
  exact ⟨n, o, h1, h2, h3, ho', ⟨_, ho'⟩, hW, m_drop hs hl⟩
end FS
