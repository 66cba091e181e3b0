/-! Walk: the spreading, the parts; far, parts, without -/
section WS
variable {G : mG} {w : List mC}
theorem m_cVr {G : mG} {M M' : mM} {R R' : Room} {Q Q' : Option (Option Value) → List mC → Prop} {nc ns pc : Nat} {L : List (Option Value)} {st : List Value} {w : List mC} (pc' : Nat) {idx n i ci N : Nat} {T0 : u_T} {fs : List Value} (av : List Value) (hk : Cond.methodLink M.1.cls idx M'.1 ∈ lw_tbl) (hi : Cond.instanceMethod M'.1 ∈ lw_tbl) (hse : Cond.selects M'.1.cls M'.1 M'.1 ∈ lw_tbl) (hcl : m_cl M' n) (hd : decode M.2.1 pc = .ok (.invokevirtual idx, 3)) (hp : pc + 3 = pc') (hn : av.length = n) (hc : mCl[ci]? = some (M'.1.cls, T0, N)) (hw : w[i]? = some (mO ci fs)) (hrm : m_rm R R' M' nc ns st) (hM : m_Ct G M' R' (.ref i :: av) w Q') (ht : ∀ w', ¬ Q' none w')
    (kk : ∀ (v : Option Value) (w' : List mC), Q' (some v) w' → m_J G M R Q (nc + R'.cells) (ns + R'.slots) pc' L (v.toList ++ st) w') : m_J G M R Q nc ns pc L (av.reverse ++ .ref i :: st) w := by
  subst hp
  exact m_invV hk hi hse hcl hd hn hc hw hrm hM kk (fun w2 h => absurd h (ht w2))
/-- q is next to p, by the net -/
def nxC (sl : Nat) (bes : Nat → Int) (wal : Nat → Bool) (p q : Nat) : Prop := ∃ s : Int, 0 ≤ s ∧ s < sl ∧ oAt sl bes wal p s = q
theorem cX.keep {w' : List mC} {k W H : Int} {n sl m : Nat} {col row bes : Nat → Int} {wal : Nat → Bool} (h : cX w k W H n sl m col row bes wal) (hw : ∀ i, i < 9 → w'[i]? = w[i]?) : cX w' k W H n sl m col row bes wal := by
  obtain ⟨h1, h2, h3, h4, h5, h6, h7, h8, h9⟩ := h
  exact ⟨(hw 1 (by decide)).trans h1, (hw 2 (by decide)).trans h2, (hw 3 (by decide)).trans h3, (hw 4 (by decide)).trans h4, (hw 5 (by decide)).trans h5, (hw 6 (by decide)).trans h6, (hw 7 (by decide)).trans h7, (hw 8 (by decide)).trans h8, h9⟩
theorem cX.wW {k W H : Int} {n sl m : Nat} {col row bes : Nat → Int} {wal : Nat → Bool} (h : cX w k W H n sl m col row bes wal) (a b c : mC) : cX (wW w a b c) k W H n sl m col row bes wal := h.keep fun i hi => wW_n (by omega) (by omega) (by omega)
/-- the numbers are small -/
def qB (n L : Nat) (f0 f g : Nat → Int) : Prop := (∀ i, i < L → f (g i).toNat ≤ i) ∧ ∀ q, q < n → -2 ≤ f0 q ∧ f0 q ≤ n
theorem qB_r {nx : Nat → Nat → Prop} {n s h L : Nat} {f0 f g : Nat → Int} (hq : qI nx n f0 s h L f g) (hb : qB n L f0 f g) : ∀ q, q < n → -2 ≤ f q ∧ f q ≤ n := by
  intro q hqn
  by_cases hne : f q = f0 q
  · rw [hne]; exact hb.2 q hqn
  · obtain ⟨i, hi, hgi⟩ := hq.2.2.2.1 q hqn hne
    have a := hb.1 i hi
    have b := qI_at hq hi
    have c := qI_le hq
    rw [show (g i).toNat = q by omega] at a b
    omega
theorem qB_new {nx : Nat → Nat → Prop} {n s h L z : Nat} {f0 f g : Nat → Int} (hq : qI nx n f0 s h L f g) (hb : qB n L f0 f g) (hh : h < L) (hf : f z = -1) : qB n (L + 1) f0 (up f z (f (g h).toNat + 1)) (up g L (z : Int)) := by
  refine ⟨fun i hi => ?_, hb.2⟩
  by_cases hiL : i = L
  · subst hiL
    rw [up_s, Int.toNat_natCast, up_s]
    have := hb.1 h hh
    omega
  · rw [up_n _ _ hiL]
    have hne : (g i).toNat ≠ z := by
      intro he
      have := qI_at hq (show i < L by omega)
      rw [he] at this
      omega
    rw [up_n _ _ hne]
    exact hb.1 i (by omega)

set_option maxHeartbeats 4000000 in
set_option maxRecDepth 100000 in
theorem l_X6_spreadI (hG : m_G G) (d : Nat) {k W H : Int} {n sl m : Nat} {col row bes : Nat → Int} {wal : Nat → Bool} (hX : cX w k W H n sl m col row bes wal) {f0 : Nat → Int} {s : Nat} (hs : s < n) (h9 : w[9]? = some oWalk) (hw : 12 < w.length) {h : Nat} {x1 : Option Value} {Q : Option (Option Value) → List mC → Prop}
    (kk : ∀ (L : Nat) (f g : Nat → Int) (x3 x4 : Option Value), qI (nxC sl bes wal) n f0 s (h + 1) L f g → qB n L f0 f g → m_J G MX6_spreadFrom (m_r (d + 3) 0 0) Q 0 0 15 [some (.ref 9), x1, some (vI ((h : Int) + 1)), x3, x4] [] (wW w (cI n f) (oRow 12 (L : Int)) (cI n g))) :
    ∀ (j : Nat) (c : Int) (L : Nat) (f g : Nat → Int), 0 ≤ c → c + j = sl → qI (nxC sl bes wal) n f0 s h L f g → qB n L f0 f g → h < L → (∀ c' : Int, 0 ≤ c' → c' < c → ∀ q : Nat, oAt sl bes wal (g h) c' = q → q < n → f0 q = -1 → 0 ≤ f q ∧ f q ≤ f (g h).toNat + 1) → m_J G MX6_spreadFrom (m_r (d + 3) 0 0) Q 0 0 47 [some (.ref 9), x1, some (vI h), some (vI (g h)), some (vI c)] [] (wW w (cI n f) (oRow 12 (L : Int)) (cI n g)) := by
  have hXX := hX
  obtain ⟨h1, h2, h3, h4, h5, h6, h7, h8, hF, hN, hsl, hcr, hbs⟩ := hX
  have hFF := hF
  have hNN := hN
  have hnb := hF.n
  obtain ⟨hk0, hk4, hW1, hW2, hH1, hH2, hn, hg4⟩ := hF
  obtain ⟨hn1, hn2, hl1, hl2, hm, hm2⟩ := hN
  intro j
  induction j with
  | zero =>
    intro c L f g hc0 hcj hq hb hhL hpt
    have hat := qI_at hq hhL
    have b9 : (wW w (cI n f) (oRow 12 (L : Int)) (cI n g))[9]? = some oWalk := by rw [wW_n (by decide) (by decide) (by decide)]; exact h9
    have b10 : (wW w (cI n f) (oRow 12 (L : Int)) (cI n g))[10]? = some (cI n f) := wW_a hw
    have b11 : (wW w (cI n f) (oRow 12 (L : Int)) (cI n g))[11]? = some (oRow 12 (L : Int)) := wW_b hw
    have b12 : (wW w (cI n f) (oRow 12 (L : Int)) (cI n g))[12]? = some (cI n g) := wW_c hw
    have bX := hXX.wW (cI n f) (oRow 12 (L : Int)) (cI n g)
    have b5 : (wW w (cI n f) (oRow 12 (L : Int)) (cI n g))[5]? = some (oNet n sl) := bX.2.2.2.2.1
    have b6 : (wW w (cI n f) (oRow 12 (L : Int)) (cI n g))[6]? = some (cI m bes) := bX.2.2.2.2.2.1
    have b7 : (wW w (cI n f) (oRow 12 (L : Int)) (cI n g))[7]? = some (cZ m wal) := bX.2.2.2.2.2.2.1
    refine m_iload 49 dX6_spreadFrom_47 rfl rfl ?_
    refine m_aload_n 50 dX6_spreadFrom_49 rfl rfl ?_
    refine m_getf 53 foX6_7 dX6_spreadFrom_50 rfl (by first | rfl | assumption) (by rfl) ?_
    refine m_getf 56 foX6_50 dX6_spreadFrom_53 rfl (by first | rfl | assumption) (by rfl) ?_
    refine i_icmp_ge 59 86 ⟨by omega, by omega⟩ ⟨by omega, by omega⟩ dX6_spreadFrom_56 rfl (by decide) (fun _ => ?_) (fun h => absurd h (by omega))
    refine i_inc 89 dX6_spreadFrom_86 rfl rfl (by decide) ?_
    refine m_goto 15 dX6_spreadFrom_89 (by decide) ?_
    refine kk _ _ _ _ _ (qI_next hq hhL (fun q hnq hqn hq0 => ?_)) hb
    obtain ⟨c', a1, a2, a3⟩ := hnq
    rw [Int.toNat_of_nonneg hat.1] at a3
    exact hpt c' a1 (by omega) q a3 hqn hq0
  | succ j ih =>
    intro c L f g hc0 hcj hq hb hhL hpt
    have hat := qI_at hq hhL
    have hLn := qI_le hq
    have hrg := qB_r hq hb
    have hs2 : 0 ≤ c ∧ c < (sl : Int) := by omega
    have hor := hXX.oat (p := g h) ⟨hat.1, hat.2.1⟩ hs2.1 hs2.2
    have b9 : (wW w (cI n f) (oRow 12 (L : Int)) (cI n g))[9]? = some oWalk := by rw [wW_n (by decide) (by decide) (by decide)]; exact h9
    have b10 : (wW w (cI n f) (oRow 12 (L : Int)) (cI n g))[10]? = some (cI n f) := wW_a hw
    have b11 : (wW w (cI n f) (oRow 12 (L : Int)) (cI n g))[11]? = some (oRow 12 (L : Int)) := wW_b hw
    have b12 : (wW w (cI n f) (oRow 12 (L : Int)) (cI n g))[12]? = some (cI n g) := wW_c hw
    have bX := hXX.wW (cI n f) (oRow 12 (L : Int)) (cI n g)
    have b5 : (wW w (cI n f) (oRow 12 (L : Int)) (cI n g))[5]? = some (oNet n sl) := bX.2.2.2.2.1
    have b6 : (wW w (cI n f) (oRow 12 (L : Int)) (cI n g))[6]? = some (cI m bes) := bX.2.2.2.2.2.1
    have b7 : (wW w (cI n f) (oRow 12 (L : Int)) (cI n g))[7]? = some (cZ m wal) := bX.2.2.2.2.2.2.1
    refine m_iload 49 dX6_spreadFrom_47 rfl rfl ?_
    refine m_aload_n 50 dX6_spreadFrom_49 rfl rfl ?_
    refine m_getf 53 foX6_7 dX6_spreadFrom_50 rfl (by first | rfl | assumption) (by rfl) ?_
    refine m_getf 56 foX6_50 dX6_spreadFrom_53 rfl (by first | rfl | assumption) (by rfl) ?_
    refine i_icmp_ge 59 86 ⟨by omega, by omega⟩ ⟨by omega, by omega⟩ dX6_spreadFrom_56 rfl (by decide) (fun h => absurd h (by omega)) (fun _ => ?_)
    refine m_aload_n 60 dX6_spreadFrom_59 rfl rfl ?_
    refine m_aload_n 61 dX6_spreadFrom_60 rfl rfl ?_
    refine m_getf 64 foX6_7 dX6_spreadFrom_61 rfl (by first | rfl | assumption) (by rfl) ?_
    refine m_iload_n 65 dX6_spreadFrom_64 rfl rfl ?_
    refine m_iload 67 dX6_spreadFrom_65 rfl rfl ?_
    refine m_cV (M' := MX2_openAt) 70 [_, _] kX6_55 imX2_openAt seX2_openAt clX2_openAt dX6_spreadFrom_67 rfl rfl rfl (by first | rfl | assumption) (m_rmI (by omega) (Nat.le_of_ble_eq_true rfl) (Nat.le_refl _) (Nat.le_refl _)) (c_X2_openAt hG d b5 hNN b6 b7 ⟨hat.1, hat.2.1⟩ hs2) ?_
    refine m_aload_n 71 dX6_spreadFrom_70 rfl rfl ?_
    refine m_iload_n 72 dX6_spreadFrom_71 rfl rfl ?_
    refine m_cV (M' := MX6_stepsTo) 75 [_] kX6_59 imX6_stepsTo seX6_stepsTo clX6_stepsTo dX6_spreadFrom_72 rfl rfl rfl (by first | rfl | assumption) (m_rmI (by omega) (Nat.le_of_ble_eq_true rfl) (Nat.le_refl _) (Nat.le_refl _)) (c_X6_stepsTo hG (d + 2) (by omega) ⟨hat.1, hat.2.1⟩ b9 b10) ?_
    refine i_const 76 dX6_spreadFrom_75 rfl ?_
    refine i_add 77 dX6_spreadFrom_76 rfl ?_
    by_cases hz : 0 ≤ oAt sl bes wal (g h) c ∧ f (oAt sl bes wal (g h) c).toNat = -1
    · have hLt := qI_lt hq (z := (oAt sl bes wal (g h) c).toNat) (by omega) hz.2
      refine m_cV (M' := MX6_reach) 80 [_, _] kX6_38 imX6_reach seX6_reach clX6_reach dX6_spreadFrom_77 rfl rfl rfl (by first | rfl | assumption) (m_rmI (by omega) (Nat.le_of_ble_eq_true rfl) (Nat.le_refl _) (Nat.le_refl _)) (c_X6_reachY hG (d + 1) (by omega) ⟨by omega, by omega⟩ hz.2 ⟨by omega, by omega⟩ hw h9) ?_
      refine i_inc 83 dX6_spreadFrom_80 rfl rfl (by decide) ?_
      refine m_goto 47 dX6_spreadFrom_83 (by decide) ?_
      have e1 : ((L : Int)).toNat = L := Int.toNat_natCast L
      have e2 : (((oAt sl bes wal (g h) c).toNat : Nat) : Int) = oAt sl bes wal (g h) c := Int.toNat_of_nonneg hz.1
      have e3 : ((L + 1 : Nat) : Int) = (L : Int) + 1 := by omega
      have hnx : nxC sl bes wal (g h).toNat (oAt sl bes wal (g h) c).toNat := ⟨c, hs2.1, hs2.2, by rw [e2, Int.toNat_of_nonneg hat.1]⟩
      have n1 := qI_new hq hhL (z := (oAt sl bes wal (g h) c).toNat) (by omega) hz.2 hnx
      have n2 := qB_new hq hb hhL hz.2
      rw [e2] at n1 n2
      have hgh : up g L (oAt sl bes wal (g h) c) h = g h := up_n _ _ (by omega)
      have hfh : up f (oAt sl bes wal (g h) c).toNat (f (g h).toNat + 1) (g h).toNat = f (g h).toNat := by
        refine up_n _ _ (fun he => ?_)
        have := hz.2
        rw [← he] at this
        omega
      have e4 := ih (c + 1) _ _ _ (by omega) (by omega) n1 n2 (by omega) (fun c' hc1 hc2 q hoq hqn hq0 => ?_)
      · rw [hgh] at e4
        rw [e1, ← e3]
        exact e4
      · rw [hgh] at hoq ⊢
        rw [hfh]
        by_cases hcc : c' = c
        · subst hcc
          rw [show q = (oAt sl bes wal (g h) c').toNat by omega, up_s]
          omega
        · have p1 := hpt c' hc1 (by omega) q hoq hqn hq0
          by_cases hqz : q = (oAt sl bes wal (g h) c).toNat
          · rw [hqz] at p1; omega
          · rw [up_n _ _ hqz]; exact p1
    · refine m_cV (M' := MX6_reach) 80 [_, _] kX6_38 imX6_reach seX6_reach clX6_reach dX6_spreadFrom_77 rfl rfl rfl (by first | rfl | assumption) (m_rmI (by omega) (Nat.le_of_ble_eq_true rfl) (Nat.le_refl _) (Nat.le_refl _)) (c_X6_reachN hG (d + 1) (by omega) ⟨by omega, by omega⟩ (fun hz0 => ⟨⟨by have := hrg (oAt sl bes wal (g h) c).toNat (by omega); omega, by have := hrg (oAt sl bes wal (g h) c).toNat (by omega); omega⟩, fun he => hz ⟨hz0, he⟩⟩) b9 b10) ?_
      refine i_inc 83 dX6_spreadFrom_80 rfl rfl (by decide) ?_
      refine m_goto 47 dX6_spreadFrom_83 (by decide) ?_
      refine ih (c + 1) _ _ _ (by omega) (by omega) hq hb hhL (fun c' hc1 hc2 q hoq hqn hq0 => ?_)
      by_cases hcc : c' = c
      · subst hcc
        have e5 : (oAt sl bes wal (g h) c').toNat = q := by omega
        refine qI_old hq hhL hqn (fun he => hz ⟨by omega, by rw [e5]; exact he⟩) hq0
      · exact hpt c' hc1 (by omega) q hoq hqn hq0
set_option maxHeartbeats 4000000 in
set_option maxRecDepth 100000 in
theorem l_X6_spreadO (hG : m_G G) (d : Nat) {k W H : Int} {n sl m : Nat} {col row bes : Nat → Int} {wal : Nat → Bool} (hX : cX w k W H n sl m col row bes wal) {f0 : Nat → Int} {s : Nat} (hs : s < n) (h9 : w[9]? = some oWalk) (hw : 12 < w.length) {x1 : Option Value} {Q : Option (Option Value) → List mC → Prop}
    (kr : ∀ (L : Nat) (f g : Nat → Int), bfs (nxC sl bes wal) n f0 f s → (∀ q, q < n → -2 ≤ f q ∧ f q ≤ n) → Q (some none) (wW w (cI n f) (oRow 12 (L : Int)) (cI n g))) :
    ∀ (j h L : Nat) (f g : Nat → Int) (x3 x4 : Option Value), h + j = n → qI (nxC sl bes wal) n f0 s h L f g → qB n L f0 f g → m_J G MX6_spreadFrom (m_r (d + 3) 0 0) Q 0 0 15 [some (.ref 9), x1, some (vI h), x3, x4] [] (wW w (cI n f) (oRow 12 (L : Int)) (cI n g)) := by
  have hXX := hX
  obtain ⟨h1, h2, h3, h4, h5, h6, h7, h8, hF, hN, hsl, hcr, hbs⟩ := hX
  have hFF := hF
  have hNN := hN
  have hnb := hF.n
  obtain ⟨hk0, hk4, hW1, hW2, hH1, hH2, hn, hg4⟩ := hF
  obtain ⟨hn1, hn2, hl1, hl2, hm, hm2⟩ := hN
  intro j
  induction j with
  | zero =>
    intro h L f g x3 x4 hhj hq hb
    have hLn := qI_le hq
    have hhL := hq.2.1
    have hE : h = L := by omega
    subst hE
    have hrg := qB_r hq hb
    have b9 : (wW w (cI n f) (oRow 12 (h : Int)) (cI n g))[9]? = some oWalk := by rw [wW_n (by decide) (by decide) (by decide)]; exact h9
    have b10 : (wW w (cI n f) (oRow 12 (h : Int)) (cI n g))[10]? = some (cI n f) := wW_a hw
    have b11 : (wW w (cI n f) (oRow 12 (h : Int)) (cI n g))[11]? = some (oRow 12 (h : Int)) := wW_b hw
    have b12 : (wW w (cI n f) (oRow 12 (h : Int)) (cI n g))[12]? = some (cI n g) := wW_c hw
    have bX := hXX.wW (cI n f) (oRow 12 (h : Int)) (cI n g)
    have b5 : (wW w (cI n f) (oRow 12 (h : Int)) (cI n g))[5]? = some (oNet n sl) := bX.2.2.2.2.1
    have b6 : (wW w (cI n f) (oRow 12 (h : Int)) (cI n g))[6]? = some (cI m bes) := bX.2.2.2.2.2.1
    have b7 : (wW w (cI n f) (oRow 12 (h : Int)) (cI n g))[7]? = some (cZ m wal) := bX.2.2.2.2.2.2.1
    refine m_iload_n 16 dX6_spreadFrom_15 rfl rfl ?_
    refine m_aload_n 17 dX6_spreadFrom_16 rfl rfl ?_
    refine m_getf 20 foX6_19 dX6_spreadFrom_17 rfl (by first | rfl | assumption) (by rfl) ?_
    refine i_len 21 dX6_spreadFrom_20 rfl (by first | rfl | assumption) ?_
    refine i_icmp_ge 24 92 ⟨by omega, by omega⟩ ⟨by omega, by omega⟩ dX6_spreadFrom_21 rfl (by decide) (fun _ => ?_) (fun h => absurd h (by omega))
    refine m_vret dX6_spreadFrom_92 rfl ⟨Nat.le_refl _, Nat.le_refl _⟩ ?_
    exact kr _ _ _ (qI_end hs hq) hrg
  | succ j ih =>
    intro h L f g x3 x4 hhj hq hb
    have hLn := qI_le hq
    have hhl := hq.2.1
    have hrg := qB_r hq hb
    have b9 : (wW w (cI n f) (oRow 12 (L : Int)) (cI n g))[9]? = some oWalk := by rw [wW_n (by decide) (by decide) (by decide)]; exact h9
    have b10 : (wW w (cI n f) (oRow 12 (L : Int)) (cI n g))[10]? = some (cI n f) := wW_a hw
    have b11 : (wW w (cI n f) (oRow 12 (L : Int)) (cI n g))[11]? = some (oRow 12 (L : Int)) := wW_b hw
    have b12 : (wW w (cI n f) (oRow 12 (L : Int)) (cI n g))[12]? = some (cI n g) := wW_c hw
    have bX := hXX.wW (cI n f) (oRow 12 (L : Int)) (cI n g)
    have b5 : (wW w (cI n f) (oRow 12 (L : Int)) (cI n g))[5]? = some (oNet n sl) := bX.2.2.2.2.1
    have b6 : (wW w (cI n f) (oRow 12 (L : Int)) (cI n g))[6]? = some (cI m bes) := bX.2.2.2.2.2.1
    have b7 : (wW w (cI n f) (oRow 12 (L : Int)) (cI n g))[7]? = some (cZ m wal) := bX.2.2.2.2.2.2.1
    refine m_iload_n 16 dX6_spreadFrom_15 rfl rfl ?_
    refine m_aload_n 17 dX6_spreadFrom_16 rfl rfl ?_
    refine m_getf 20 foX6_19 dX6_spreadFrom_17 rfl (by first | rfl | assumption) (by rfl) ?_
    refine i_len 21 dX6_spreadFrom_20 rfl (by first | rfl | assumption) ?_
    refine i_icmp_ge 24 92 ⟨by omega, by omega⟩ ⟨by omega, by omega⟩ dX6_spreadFrom_21 rfl (by decide) (fun h => absurd h (by omega)) (fun _ => ?_)
    refine m_iload_n 25 dX6_spreadFrom_24 rfl rfl ?_
    refine m_aload_n 26 dX6_spreadFrom_25 rfl rfl ?_
    refine m_getf 29 foX6_28 dX6_spreadFrom_26 rfl (by first | rfl | assumption) (by rfl) ?_
    refine m_cV (M' := MX3_length) 32 [] kX6_42 imX3_length seX3_length clX3_length dX6_spreadFrom_29 rfl rfl rfl (by first | rfl | assumption) (m_rmI (by omega) (Nat.le_of_ble_eq_true rfl) (Nat.le_refl _) (Nat.le_refl _)) (c_X3_length hG (d + 2) b11) ?_
    refine i_icmp_ge 35 92 ⟨by omega, by omega⟩ ⟨by omega, by omega⟩ dX6_spreadFrom_32 rfl (by decide) (fun q32 => ?_) (fun q32 => ?_)
    · refine m_vret dX6_spreadFrom_92 rfl ⟨Nat.le_refl _, Nat.le_refl _⟩ ?_
      have hE : h = L := by omega
      subst hE
      exact kr _ _ _ (qI_end hs hq) hrg
    · refine m_aload_n 36 dX6_spreadFrom_35 rfl rfl ?_
      refine m_getf 39 foX6_28 dX6_spreadFrom_36 rfl (by first | rfl | assumption) (by rfl) ?_
      refine m_iload_n 40 dX6_spreadFrom_39 rfl rfl ?_
      refine m_cV (M' := MX3_at) 43 [_] kX6_46 imX3_at seX3_at clX3_at dX6_spreadFrom_40 rfl rfl rfl (by first | rfl | assumption) (m_rmI (by omega) (Nat.le_of_ble_eq_true rfl) (Nat.le_refl _) (Nat.le_refl _)) (c_X3_at hG (d + 2) b11 b12 ⟨by omega, by omega⟩ ⟨by omega, by omega⟩ (by omega)) ?_
      have e0 : rAt n (L : Int) g (h : Int) = g h := by
        unfold rAt
        rw [if_pos ⟨by omega, by omega, by omega⟩, Int.toNat_natCast]
      rw [e0]
      refine m_istore_n 44 dX6_spreadFrom_43 rfl (by decide) ?_
      refine i_const 45 dX6_spreadFrom_44 rfl ?_
      refine m_istore 47 dX6_spreadFrom_45 rfl (by decide) ?_
      refine l_X6_spreadI hG d hXX hs h9 hw (fun L f g x3 x4 q1 q2 => ?_) sl 0 L f g (by omega) (by omega) hq hb (by omega) (fun c' a b => by omega)
      exact ih (h + 1) L f g _ _ (by omega) q1 q2
set_option maxHeartbeats 4000000 in
set_option maxRecDepth 100000 in
theorem c_X6_spreadFrom (hG : m_G G) (d : Nat) {k W H : Int} {n sl m : Nat} {col row bes : Nat → Int} {wal : Nat → Bool} (hX : cX w k W H n sl m col row bes wal) {f0 : Nat → Int} {s : Nat} (hs : s < n) (h9 : w[9]? = some oWalk) (hw : 12 < w.length) {l0 : Int} {g0 : Nat → Int} (h10 : w[10]? = some (cI n f0)) (h11 : w[11]? = some (oRow 12 l0)) (h12 : w[12]? = some (cI n g0)) (hf : f0 s = -1) (hr : ∀ q, q < n → -2 ≤ f0 q ∧ f0 q ≤ n) : m_Ct G MX6_spreadFrom (m_r (d + 3) 0 0) [.ref 9, vI (s : Int)] w (fun r x => r = some none ∧ ∃ (L : Nat) (f g : Nat → Int), bfs (nxC sl bes wal) n f0 f s ∧ (∀ q, q < n → -2 ≤ f q ∧ f q ≤ n) ∧ x = (wW w (cI n f) (oRow 12 (L : Int)) (cI n g))) := by
  have hXX := hX
  obtain ⟨h1, h2, h3, h4, h5, h6, h7, h8, hF, hN, hsl, hcr, hbs⟩ := hX
  have hFF := hF
  have hNN := hN
  have hnb := hF.n
  obtain ⟨hk0, hk4, hW1, hW2, hH1, hH2, hn, hg4⟩ := hF
  obtain ⟨hn1, hn2, hl1, hl2, hm, hm2⟩ := hN
  have c0 : w.set 11 (oRow 12 0) = wW w (cI n f0) (oRow 12 0) (cI n g0) := by
    unfold wW
    rw [set_get h10, List.set_comm _ _ (by decide : (11 : Nat) ≠ 12), set_get h12]
  have c9 : (wW w (cI n f0) (oRow 12 0) (cI n g0))[9]? = some oWalk := by rw [wW_n (by decide) (by decide) (by decide)]; exact h9
  have e1 : ((s : Int)).toNat = s := Int.toNat_natCast s
  have hb0 : qB n 1 f0 (up f0 s 0) (up g0 0 (s : Int)) := ⟨fun i hi => by rw [show i = 0 by omega, up_s, Int.toNat_natCast, up_s]; omega, hr⟩
  refine m_enter (L := [some (.ref 9), some (vI (s : Int)), none, none, none]) (by decide) hG (m_c1 rfl) (Nat.le_of_ble_eq_true rfl) rfl ?_
  refine m_aload_n 1 dX6_spreadFrom_0 rfl rfl ?_
  refine m_getf 4 foX6_28 dX6_spreadFrom_1 rfl (by first | rfl | assumption) (by rfl) ?_
  refine m_cV (M' := MX3_clear) 7 [] kX6_35 imX3_clear seX3_clear clX3_clear dX6_spreadFrom_4 rfl rfl rfl (by first | rfl | assumption) (m_rmI (by omega) (Nat.le_of_ble_eq_true rfl) (Nat.le_refl _) (Nat.le_refl _)) (c_X3_clear (i := 10) hG (d + 2) h11) ?_
  rw [c0]
  refine m_aload_n 8 dX6_spreadFrom_7 rfl rfl ?_
  refine m_iload_n 9 dX6_spreadFrom_8 rfl rfl ?_
  refine i_const 10 dX6_spreadFrom_9 rfl ?_
  refine m_cV (M' := MX6_reach) 13 [_, _] kX6_38 imX6_reach seX6_reach clX6_reach dX6_spreadFrom_10 rfl rfl rfl (by first | rfl | assumption) (m_rmI (by omega) (Nat.le_of_ble_eq_true rfl) (Nat.le_refl _) (Nat.le_refl _)) (c_X6_reachY hG (d + 1) (by omega) ⟨by omega, by omega⟩ (by rw [e1]; exact hf) ⟨by omega, by omega⟩ hw h9) ?_
  refine i_const 14 dX6_spreadFrom_13 rfl ?_
  refine m_istore_n 15 dX6_spreadFrom_14 rfl (by decide) ?_
  rw [e1]
  exact l_X6_spreadO hG d hXX hs h9 hw (fun L f g b1 b2 => ⟨rfl, L, f, g, b1, b2, rfl⟩) n 0 1 _ _ _ _ (by omega) (qI_start hs hf) hb0
end WS
