/-! the machine over whole numbers: every int on the stack is iI z -/
def iI (z : Int) : Int32 := Int32.ofInt z
def bi (b : Bool) : Int32 := if b then 1 else 0
abbrev vI (z : Int) : Value := .int (iI z)
abbrev vB (b : Bool) : Value := .int (bi b)
def iR (z : Int) : Prop := -2147483648 ≤ z ∧ z < 2147483648
theorem iI_toInt {z : Int} (h : iR z) : (iI z).toInt = z := by
  unfold iI
  rw [Int32.toInt_ofInt]
  obtain ⟨h1, h2⟩ := h
  have : z.bmod (2 ^ 32) = z := by
    rw [Int.bmod_eq_of_le] <;> omega
  exact this
theorem iI_of (x : Int32) : x = iI x.toInt := by unfold iI; rw [Int32.ofInt_toInt]
theorem iR_toInt (x : Int32) : iR x.toInt := ⟨Int32.le_toInt x, Int32.toInt_lt x⟩
theorem iI_add (a b : Int) : iI a + iI b = iI (a + b) := (Int32.ofInt_add a b).symm
theorem iI_sub (a b : Int) : iI a - iI b = iI (a - b) := (Int32.ofInt_sub a b).symm
theorem iI_mul (a b : Int) : iI a * iI b = iI (a * b) := (Int32.ofInt_mul a b).symm
theorem iI_nI (n : Nat) : iI n = nI n := by unfold iI nI; exact Int32.ofInt_eq_ofNat
theorem iI_lt {a b : Int} (ha : iR a) (hb : iR b) : iI a < iI b ↔ a < b := by rw [Int32.lt_iff_toInt_lt, iI_toInt ha, iI_toInt hb]
theorem iI_le {a b : Int} (ha : iR a) (hb : iR b) : iI a ≤ iI b ↔ a ≤ b := by rw [Int32.le_iff_toInt_le, iI_toInt ha, iI_toInt hb]
theorem iI_eq {a b : Int} (ha : iR a) (hb : iR b) : iI a = iI b ↔ a = b := by
  constructor
  · intro h
    have := congrArg Int32.toInt h
    rwa [iI_toInt ha, iI_toInt hb] at this
  · rintro rfl; rfl
theorem iI_0 : iI 0 = 0 := by decide
theorem iI_1 : iI 1 = 1 := by decide
theorem iR0 : iR 0 := by constructor <;> omega
theorem bi_t : bi true = iI 1 := by decide
theorem bi_f : bi false = iI 0 := by decide
theorem bi_01 (b : Bool) : bi b = 0 ∨ bi b = 1 := by cases b <;> decide
theorem bi_eq0 {b : Bool} : bi b = 0 ↔ b = false := by cases b <;> decide
theorem bi_inj {a b : Bool} : bi a = bi b ↔ a = b := by cases a <;> cases b <;> decide
theorem iI_clamp {z : Int} {n : Nat} (h0 : 0 ≤ z) (h1 : z < n) (hn : n < 2147483648) : (iI z).toNatClampNeg = z.toNat := by
  show (iI z).toInt.toNat = z.toNat
  rw [iI_toInt ⟨by omega, by omega⟩]
theorem iI_in {z : Int} {n : Nat} (h0 : 0 ≤ z) (h1 : z < n) (hn : n < 2147483648) : vp_in (iI z) n := by
  rw [vp_in_iff, iI_toInt ⟨by omega, by omega⟩]
  exact ⟨h0, h1⟩
/-- an int array with these numbers, a boolean array with these truths -/
abbrev cI (n : Nat) (f : Nat → Int) : mC := mI n (fun j => iI (f j))
abbrev cZ (n : Nat) (f : Nat → Bool) : mC := mZ n (fun j => bi (f j))
def up {α : Type} (f : Nat → α) (k : Nat) (x : α) : Nat → α := fun j => if j = k then x else f j
theorem up_I (f : Nat → Int) (k : Nat) (x : Int) : upd (fun j => iI (f j)) k (iI x) = fun j => iI (up f k x j) := by
  funext j
  unfold up
  by_cases h : j = k
  · subst h; simp [upd]
  · simp [upd, h]
theorem up_Z (f : Nat → Bool) (k : Nat) (x : Bool) : upd (fun j => bi (f j)) k (bi x) = fun j => bi (up f k x j) := by
  funext j
  unfold up
  by_cases h : j = k
  · subst h; simp [upd]
  · simp [upd, h]
theorem up_s {α : Type} (f : Nat → α) (k : Nat) (x : α) : up f k x k = x := if_pos rfl
theorem up_n {α : Type} (f : Nat → α) {k j : Nat} (x : α) (h : j ≠ k) : up f k x j = f j := if_neg h
theorem m_c1 {av : List Value} (h : av.all (fun v => v.category == 1) = true) : ∀ v ∈ av, v.category = 1 := fun v hv => by simpa using List.all_eq_true.mp h v hv
section IJ
variable {G : mG} {M : mM} {R : Room} {Q : Option (Option Value) → List mC → Prop} {nc ns pc : Nat} {L : List (Option Value)} {st : List Value} {w : List mC}
theorem i_const (pc' : Nat) {z : Int} (hd : decode M.2.1 pc = .ok (.iconst z, 1)) (hp : pc + 1 = pc') (k : m_J G M R Q nc ns pc' L (vI z :: st) w) : m_J G M R Q nc ns pc L st w := m_iconst pc' hd hp rfl k
theorem i_bipush (pc' : Nat) (v : Int) {z : Int} (hd : decode M.2.1 pc = .ok (.bipush z, 2)) (hp : pc + 2 = pc') (hv : (Int8.ofInt z).toInt32 = iI v) (k : m_J G M R Q nc ns pc' L (vI v :: st) w) : m_J G M R Q nc ns pc L st w := m_bipush pc' hd hp hv k
theorem i_sipush (pc' : Nat) (v : Int) {z : Int} (hd : decode M.2.1 pc = .ok (.sipush z, 3)) (hp : pc + 3 = pc') (hv : (Int16.ofInt z).toInt32 = iI v) (k : m_J G M R Q nc ns pc' L (vI v :: st) w) : m_J G M R Q nc ns pc L st w := m_sipush pc' hd hp hv k
theorem i_inc (pc' : Nat) {i : Nat} {z x : Int} (hd : decode M.2.1 pc = .ok (.iinc i z, 3)) (hp : pc + 3 = pc') (hl : L[i]? = some (some (vI x))) (hi : i < M.2.2.1) (k : m_J G M R Q nc ns pc' (L.set i (some (vI (x + z)))) st w) : m_J G M R Q nc ns pc L st w := m_iinc pc' hd hp hl (iI_add x z) hi k
theorem i_len (pc' : Nat) {i n : Nat} {ty : FieldType} {f : Nat → Int32} (hd : decode M.2.1 pc = .ok (.arraylength, 1)) (hp : pc + 1 = pc') (hw : w[i]? = some (.inl (ty, n, f))) (k : m_J G M R Q nc ns pc' L (vI n :: st) w) : m_J G M R Q nc ns pc L (.ref i :: st) w := m_len (Or.inl ⟨_, _, rfl⟩) pc' hd hp hw (by rw [← iI_nI]; exact k)
theorem i_ald (pc' : Nat) {i n : Nat} {f : Nat → Int} {z : Int} (hd : decode M.2.1 pc = .ok (.iaload, 1)) (hp : pc + 1 = pc') (hw : w[i]? = some (cI n f)) (hz : 0 ≤ z ∧ z < n ∧ n < 2147483648) (k : m_J G M R Q nc ns pc' L (vI (f z.toNat) :: st) w) : m_J G M R Q nc ns pc L (vI z :: .ref i :: st) w := m_iald pc' hd hp hw (iI_in hz.1 hz.2.1 hz.2.2) (by rw [iI_clamp hz.1 hz.2.1 hz.2.2]; exact k)
theorem i_zald (pc' : Nat) {i n : Nat} {f : Nat → Bool} {z : Int} (hd : decode M.2.1 pc = .ok (.baload, 1)) (hp : pc + 1 = pc') (hw : w[i]? = some (cZ n f)) (hz : 0 ≤ z ∧ z < n ∧ n < 2147483648) (k : m_J G M R Q nc ns pc' L (vB (f z.toNat) :: st) w) : m_J G M R Q nc ns pc L (vI z :: .ref i :: st) w := m_zald pc' hd hp hw (iI_in hz.1 hz.2.1 hz.2.2) (by rw [iI_clamp hz.1 hz.2.1 hz.2.2]; exact k)
theorem i_ast (pc' : Nat) {i n : Nat} {f : Nat → Int} {z x : Int} (hd : decode M.2.1 pc = .ok (.iastore, 1)) (hp : pc + 1 = pc') (hw : w[i + 1]? = some (cI n f)) (hz : 0 ≤ z ∧ z < n ∧ n < 2147483648) (k : m_J G M R Q nc ns pc' L st (w.set (i + 1) (cI n (up f z.toNat x)))) : m_J G M R Q nc ns pc L (vI x :: vI z :: .ref (i + 1) :: st) w := m_iast pc' hd hp hw (iI_in hz.1 hz.2.1 hz.2.2) (by rw [iI_clamp hz.1 hz.2.1 hz.2.2, up_I]; exact k)
theorem i_zast (pc' : Nat) {i n : Nat} {f : Nat → Bool} {z : Int} {x : Bool} (hd : decode M.2.1 pc = .ok (.bastore, 1)) (hp : pc + 1 = pc') (hw : w[i + 1]? = some (cZ n f)) (hz : 0 ≤ z ∧ z < n ∧ n < 2147483648) (k : m_J G M R Q nc ns pc' L st (w.set (i + 1) (cZ n (up f z.toNat x)))) : m_J G M R Q nc ns pc L (vB x :: vI z :: .ref (i + 1) :: st) w := m_zast pc' hd hp hw (iI_in hz.1 hz.2.1 hz.2.2) (bi_01 x) (by rw [iI_clamp hz.1 hz.2.1 hz.2.2, up_Z]; exact k)
/-- a 0 or 1 as a truth -/
theorem i_asB (b : Bool) {v : Value} (hv : v = vB b) (k : m_J G M R Q nc ns pc L (vB b :: st) w) : m_J G M R Q nc ns pc L (v :: st) w := hv ▸ k
theorem i_asI (z : Int) {v : Value} (hv : v = vI z) (k : m_J G M R Q nc ns pc L (vI z :: st) w) : m_J G M R Q nc ns pc L (v :: st) w := hv ▸ k
theorem i_tableIn (tgt : Nat) {dflt lo hi : Int} {offs : Array Int} {len : Nat} {z off : Int} (hz : iR z) (hd : decode M.2.1 pc = .ok (.tableswitch dflt lo hi offs, len)) (h1 : ¬ z < lo) (h2 : ¬ hi < z) (ho : offs[(z - lo).toNat]? = some off) (ht : (pc : Int) + off = (tgt : Int))
    (k : m_J G M R Q nc ns tgt L st w) : m_J G M R Q nc ns pc L (vI z :: st) w := m_tableIn tgt hd (by rw [iI_toInt hz]; exact h1) (by rw [iI_toInt hz]; exact h2) (by rw [iI_toInt hz]; exact ho) ht k
theorem i_tableOut (tgt : Nat) {dflt lo hi : Int} {offs : Array Int} {len : Nat} {z : Int} (hz : iR z) (hd : decode M.2.1 pc = .ok (.tableswitch dflt lo hi offs, len)) (h : z < lo ∨ hi < z) (ht : (pc : Int) + dflt = (tgt : Int))
    (k : m_J G M R Q nc ns tgt L st w) : m_J G M R Q nc ns pc L (vI z :: st) w := m_tableOut tgt hd (by rw [iI_toInt hz]; exact h) ht k
theorem i_and (pc' : Nat) (j : Nat) {x y : Int} (hd : decode M.2.1 pc = .ok (.iand, 1)) (hp : pc + 1 = pc') (hx : 0 ≤ x ∧ x < 2147483648) (hy : (iI y).toBitVec.toNat = 2 ^ j - 1) (k : m_J G M R Q nc ns pc' L (vI (x % ((2 ^ j : Nat) : Int)) :: st) w) : m_J G M R Q nc ns pc L (vI y :: vI x :: st) w := by
  refine m_iand pc' hd hp ?_
  have e : iI x &&& iI y = iI (x % ((2 ^ j : Nat) : Int)) := by
    obtain ⟨n, hn⟩ := Int.eq_ofNat_of_zero_le hx.1
    subst hn
    rw [iI_nI, pk_andN (by omega) j hy, ← iI_nI]
    rfl
  rw [e]
  exact k
theorem i_shr1 (pc' : Nat) {x : Int} (hd : decode M.2.1 pc = .ok (.ishr, 1)) (hp : pc + 1 = pc') (hx : 0 ≤ x ∧ x < 2147483648) (k : m_J G M R Q nc ns pc' L (vI (x / 2) :: st) w) : m_J G M R Q nc ns pc L (vI 1 :: vI x :: st) w := by
  refine m_ishr pc' hd hp ?_
  have e : iI x >>> (iI 1 &&& 31) = iI (x / 2) := by
    obtain ⟨n, hn⟩ := Int.eq_ofNat_of_zero_le hx.1
    subst hn
    rw [iI_nI, pk_shrN (by omega) (iI 1 &&& 31) 1 (by decide), ← iI_nI]
    rfl
  rw [e]
  exact k
theorem i_div (pc' : Nat) {x y : Int} (hd : decode M.2.1 pc = .ok (.idiv, 1)) (hp : pc + 1 = pc') (hx : 0 ≤ x ∧ x < 2147483648 ∧ 0 < y ∧ y < 2147483648) (k : m_J G M R Q nc ns pc' L (vI (x / y) :: st) w) : m_J G M R Q nc ns pc L (vI y :: vI x :: st) w := by
  obtain ⟨a, ha⟩ := Int.eq_ofNat_of_zero_le hx.1
  obtain ⟨b, hb⟩ := Int.eq_ofNat_of_zero_le (show 0 ≤ y by omega)
  subst ha; subst hb
  refine m_idiv pc' hd hp ?_ ?_
  · rw [iI_nI]; exact nI_ne0 (by omega) (by omega)
  · rw [iI_nI, iI_nI, pk_div (by omega) (by omega) (by omega), ← iI_nI]
    exact k
theorem i_rem (pc' : Nat) {x y : Int} (hd : decode M.2.1 pc = .ok (.irem, 1)) (hp : pc + 1 = pc') (hx : 0 ≤ x ∧ x < 2147483648 ∧ 0 < y ∧ y < 2147483648) (k : m_J G M R Q nc ns pc' L (vI (x % y) :: st) w) : m_J G M R Q nc ns pc L (vI y :: vI x :: st) w := by
  obtain ⟨a, ha⟩ := Int.eq_ofNat_of_zero_le hx.1
  obtain ⟨b, hb⟩ := Int.eq_ofNat_of_zero_le (show 0 ≤ y by omega)
  subst ha; subst hb
  refine m_irem pc' hd hp ?_ ?_
  · rw [iI_nI]; exact nI_ne0 (by omega) (by omega)
  · rw [iI_nI, iI_nI, pk_rem (by omega) (by omega) (by omega), ← iI_nI]
    exact k
theorem i_ret {z : Int} (t : Int) (hd : decode M.2.1 pc = .ok (.ireturn, 1)) (hr : M.2.2.2.1 = some .int) (hn : nc ≤ R.cells ∧ ns ≤ R.slots) (e : z = t) (hq : Q (some (some (vI t))) w) : m_J G M R Q nc ns pc L [vI z] w := by
  subst e
  exact m_iret hd (Or.inl hr) hn hq
theorem i_retB {v : Value} (b : Bool) (hd : decode M.2.1 pc = .ok (.ireturn, 1)) (hr : M.2.2.2.1 = some .boolean) (hn : nc ≤ R.cells ∧ ns ≤ R.slots) (e : v = vB b) (hq : Q (some (some (vB b))) w) : m_J G M R Q nc ns pc L [v] w := by
  subst e
  exact m_iret hd (Or.inr ⟨hr, bi_01 b⟩) hn hq
theorem i_eq1 {b : Bool} (h : b = true) : vI 1 = vB b := by subst h; rfl
theorem i_eq0 {b : Bool} (h : b = false) : vI 0 = vB b := by subst h; rfl
theorem i_add (pc' : Nat) {x y : Int} (hd : decode M.2.1 pc = .ok (.iadd, 1)) (hp : pc + 1 = pc') (k : m_J G M R Q nc ns pc' L (vI (x + y) :: st) w) : m_J G M R Q nc ns pc L (vI y :: vI x :: st) w := m_iadd pc' hd hp (by rw [iI_add]; exact k)
theorem i_sub (pc' : Nat) {x y : Int} (hd : decode M.2.1 pc = .ok (.isub, 1)) (hp : pc + 1 = pc') (k : m_J G M R Q nc ns pc' L (vI (x - y) :: st) w) : m_J G M R Q nc ns pc L (vI y :: vI x :: st) w := m_isub pc' hd hp (by rw [iI_sub]; exact k)
theorem i_mul (pc' : Nat) {x y : Int} (hd : decode M.2.1 pc = .ok (.imul, 1)) (hp : pc + 1 = pc') (k : m_J G M R Q nc ns pc' L (vI (x * y) :: st) w) : m_J G M R Q nc ns pc L (vI y :: vI x :: st) w := m_imul pc' hd hp (by rw [iI_mul]; exact k)
theorem i_icmp_eq (pc' tgt : Nat) {x y off : Int} (hx : iR x) (hy : iR y) (hd : decode M.2.1 pc = .ok (.if_icmp .eq off, 3)) (hp : pc + 3 = pc') (ht : (pc : Int) + off = (tgt : Int))
    (kt : x = y → m_J G M R Q nc ns tgt L st w) (kf : x ≠ y → m_J G M R Q nc ns pc' L st w) : m_J G M R Q nc ns pc L (vI y :: vI x :: st) w :=
  m_icmp_eq pc' tgt hd hp ht (fun h => kt ((iI_eq hx hy).mp h)) (fun h => kf (fun e => h ((iI_eq hx hy).mpr e)))
theorem i_if_eq (pc' tgt : Nat) {x off : Int} (hx : iR x) (hd : decode M.2.1 pc = .ok (.ifCond .eq off, 3)) (hp : pc + 3 = pc') (ht : (pc : Int) + off = (tgt : Int))
    (kt : x = 0 → m_J G M R Q nc ns tgt L st w) (kf : x ≠ 0 → m_J G M R Q nc ns pc' L st w) : m_J G M R Q nc ns pc L (vI x :: st) w :=
  m_if_eq pc' tgt hd hp ht (fun h => kt ((iI_eq hx iR0).mp h)) (fun h => kf (fun e => h ((iI_eq hx iR0).mpr e)))
theorem i_icmp_ne (pc' tgt : Nat) {x y off : Int} (hx : iR x) (hy : iR y) (hd : decode M.2.1 pc = .ok (.if_icmp .ne off, 3)) (hp : pc + 3 = pc') (ht : (pc : Int) + off = (tgt : Int))
    (kt : x ≠ y → m_J G M R Q nc ns tgt L st w) (kf : x = y → m_J G M R Q nc ns pc' L st w) : m_J G M R Q nc ns pc L (vI y :: vI x :: st) w :=
  m_icmp_ne pc' tgt hd hp ht (fun h => kt (fun e => h ((iI_eq hx hy).mpr e))) (fun h => kf ((iI_eq hx hy).mp h))
theorem i_if_ne (pc' tgt : Nat) {x off : Int} (hx : iR x) (hd : decode M.2.1 pc = .ok (.ifCond .ne off, 3)) (hp : pc + 3 = pc') (ht : (pc : Int) + off = (tgt : Int))
    (kt : x ≠ 0 → m_J G M R Q nc ns tgt L st w) (kf : x = 0 → m_J G M R Q nc ns pc' L st w) : m_J G M R Q nc ns pc L (vI x :: st) w :=
  m_if_ne pc' tgt hd hp ht (fun h => kt (fun e => h ((iI_eq hx iR0).mpr e))) (fun h => kf ((iI_eq hx iR0).mp h))
theorem i_icmp_lt (pc' tgt : Nat) {x y off : Int} (hx : iR x) (hy : iR y) (hd : decode M.2.1 pc = .ok (.if_icmp .lt off, 3)) (hp : pc + 3 = pc') (ht : (pc : Int) + off = (tgt : Int))
    (kt : x < y → m_J G M R Q nc ns tgt L st w) (kf : y ≤ x → m_J G M R Q nc ns pc' L st w) : m_J G M R Q nc ns pc L (vI y :: vI x :: st) w :=
  m_icmp_lt pc' tgt hd hp ht (fun h => kt ((iI_lt hx hy).mp h)) (fun h => kf (Int.not_lt.mp (fun e => h ((iI_lt hx hy).mpr e))))
theorem i_if_lt (pc' tgt : Nat) {x off : Int} (hx : iR x) (hd : decode M.2.1 pc = .ok (.ifCond .lt off, 3)) (hp : pc + 3 = pc') (ht : (pc : Int) + off = (tgt : Int))
    (kt : x < 0 → m_J G M R Q nc ns tgt L st w) (kf : 0 ≤ x → m_J G M R Q nc ns pc' L st w) : m_J G M R Q nc ns pc L (vI x :: st) w :=
  m_if_lt pc' tgt hd hp ht (fun h => kt ((iI_lt hx iR0).mp h)) (fun h => kf (Int.not_lt.mp (fun e => h ((iI_lt hx iR0).mpr e))))
theorem i_icmp_ge (pc' tgt : Nat) {x y off : Int} (hx : iR x) (hy : iR y) (hd : decode M.2.1 pc = .ok (.if_icmp .ge off, 3)) (hp : pc + 3 = pc') (ht : (pc : Int) + off = (tgt : Int))
    (kt : y ≤ x → m_J G M R Q nc ns tgt L st w) (kf : x < y → m_J G M R Q nc ns pc' L st w) : m_J G M R Q nc ns pc L (vI y :: vI x :: st) w :=
  m_icmp_ge pc' tgt hd hp ht (fun h => kt ((iI_le hy hx).mp h)) (fun h => kf (Int.not_le.mp (fun e => h ((iI_le hy hx).mpr e))))
theorem i_if_ge (pc' tgt : Nat) {x off : Int} (hx : iR x) (hd : decode M.2.1 pc = .ok (.ifCond .ge off, 3)) (hp : pc + 3 = pc') (ht : (pc : Int) + off = (tgt : Int))
    (kt : 0 ≤ x → m_J G M R Q nc ns tgt L st w) (kf : x < 0 → m_J G M R Q nc ns pc' L st w) : m_J G M R Q nc ns pc L (vI x :: st) w :=
  m_if_ge pc' tgt hd hp ht (fun h => kt ((iI_le iR0 hx).mp h)) (fun h => kf (Int.not_le.mp (fun e => h ((iI_le iR0 hx).mpr e))))
theorem i_icmp_gt (pc' tgt : Nat) {x y off : Int} (hx : iR x) (hy : iR y) (hd : decode M.2.1 pc = .ok (.if_icmp .gt off, 3)) (hp : pc + 3 = pc') (ht : (pc : Int) + off = (tgt : Int))
    (kt : y < x → m_J G M R Q nc ns tgt L st w) (kf : x ≤ y → m_J G M R Q nc ns pc' L st w) : m_J G M R Q nc ns pc L (vI y :: vI x :: st) w :=
  m_icmp_gt pc' tgt hd hp ht (fun h => kt ((iI_lt hy hx).mp h)) (fun h => kf (Int.not_lt.mp (fun e => h ((iI_lt hy hx).mpr e))))
theorem i_if_gt (pc' tgt : Nat) {x off : Int} (hx : iR x) (hd : decode M.2.1 pc = .ok (.ifCond .gt off, 3)) (hp : pc + 3 = pc') (ht : (pc : Int) + off = (tgt : Int))
    (kt : 0 < x → m_J G M R Q nc ns tgt L st w) (kf : x ≤ 0 → m_J G M R Q nc ns pc' L st w) : m_J G M R Q nc ns pc L (vI x :: st) w :=
  m_if_gt pc' tgt hd hp ht (fun h => kt ((iI_lt iR0 hx).mp h)) (fun h => kf (Int.not_lt.mp (fun e => h ((iI_lt iR0 hx).mpr e))))
theorem i_icmp_le (pc' tgt : Nat) {x y off : Int} (hx : iR x) (hy : iR y) (hd : decode M.2.1 pc = .ok (.if_icmp .le off, 3)) (hp : pc + 3 = pc') (ht : (pc : Int) + off = (tgt : Int))
    (kt : x ≤ y → m_J G M R Q nc ns tgt L st w) (kf : y < x → m_J G M R Q nc ns pc' L st w) : m_J G M R Q nc ns pc L (vI y :: vI x :: st) w :=
  m_icmp_le pc' tgt hd hp ht (fun h => kt ((iI_le hx hy).mp h)) (fun h => kf (Int.not_le.mp (fun e => h ((iI_le hx hy).mpr e))))
theorem i_if_le (pc' tgt : Nat) {x off : Int} (hx : iR x) (hd : decode M.2.1 pc = .ok (.ifCond .le off, 3)) (hp : pc + 3 = pc') (ht : (pc : Int) + off = (tgt : Int))
    (kt : x ≤ 0 → m_J G M R Q nc ns tgt L st w) (kf : 0 < x → m_J G M R Q nc ns pc' L st w) : m_J G M R Q nc ns pc L (vI x :: st) w :=
  m_if_le pc' tgt hd hp ht (fun h => kt ((iI_le hx iR0).mp h)) (fun h => kf (Int.not_le.mp (fun e => h ((iI_le hx iR0).mpr e))))
theorem b_if_eq (pc' tgt : Nat) {b : Bool} {off : Int} (hd : decode M.2.1 pc = .ok (.ifCond .eq off, 3)) (hp : pc + 3 = pc') (ht : (pc : Int) + off = (tgt : Int))
    (kt : b = false → m_J G M R Q nc ns tgt L st w) (kf : b = true → m_J G M R Q nc ns pc' L st w) : m_J G M R Q nc ns pc L (vB b :: st) w :=
  m_if_eq pc' tgt hd hp ht (fun h => kt (bi_eq0.mp h)) (fun h => kf (by cases b with | true => rfl | false => exact absurd rfl h))
theorem b_if_ne (pc' tgt : Nat) {b : Bool} {off : Int} (hd : decode M.2.1 pc = .ok (.ifCond .ne off, 3)) (hp : pc + 3 = pc') (ht : (pc : Int) + off = (tgt : Int))
    (kt : b = true → m_J G M R Q nc ns tgt L st w) (kf : b = false → m_J G M R Q nc ns pc' L st w) : m_J G M R Q nc ns pc L (vB b :: st) w :=
  m_if_ne pc' tgt hd hp ht (fun h => kt (by cases b with | true => rfl | false => exact absurd rfl h)) (fun h => kf (bi_eq0.mp h))
theorem b_icmp_eq (pc' tgt : Nat) {a b : Bool} {off : Int} (hd : decode M.2.1 pc = .ok (.if_icmp .eq off, 3)) (hp : pc + 3 = pc') (ht : (pc : Int) + off = (tgt : Int))
    (kt : a = b → m_J G M R Q nc ns tgt L st w) (kf : a ≠ b → m_J G M R Q nc ns pc' L st w) : m_J G M R Q nc ns pc L (vB b :: vB a :: st) w :=
  m_icmp_eq pc' tgt hd hp ht (fun h => kt (bi_inj.mp h)) (fun h => kf (fun e => h (bi_inj.mpr e)))
theorem b_icmp_ne (pc' tgt : Nat) {a b : Bool} {off : Int} (hd : decode M.2.1 pc = .ok (.if_icmp .ne off, 3)) (hp : pc + 3 = pc') (ht : (pc : Int) + off = (tgt : Int))
    (kt : a ≠ b → m_J G M R Q nc ns tgt L st w) (kf : a = b → m_J G M R Q nc ns pc' L st w) : m_J G M R Q nc ns pc L (vB b :: vB a :: st) w :=
  m_icmp_ne pc' tgt hd hp ht (fun h => kt (fun e => h (bi_inj.mpr e))) (fun h => kf (bi_inj.mp h))
end IJ
