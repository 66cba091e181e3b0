/-! a search in breadth: what it comes to -/
/-- q can be come to from s in m steps -/
def rcN (nx : Nat → Nat → Prop) (A : Nat → Prop) (s : Nat) : Nat → Nat → Prop
  | 0, q => q = s
  | m + 1, q => ∃ p, rcN nx A s m p ∧ nx p q ∧ A q
def adm (n : Nat) (f : Nat → Int) : Nat → Prop := fun q => q < n ∧ f q = -1
/-- f' has, where f has -1, the steps from s; all else is as it was -/
def bfs (nx : Nat → Nat → Prop) (n : Nat) (f f' : Nat → Int) (s : Nat) : Prop :=
  ∀ q, q < n → (f q ≠ -1 → f' q = f q) ∧ (f q = -1 → (∃ m : Nat, f' q = m ∧ rcN nx (adm n f) s m q ∧ ∀ k, rcN nx (adm n f) s k q → m ≤ k) ∨ (f' q = -1 ∧ ∀ k, ¬ rcN nx (adm n f) s k q))
def cN (P : Nat → Bool) : Nat → Nat
  | 0 => 0
  | n + 1 => cN P n + if P n then 1 else 0
theorem cN_le (P : Nat → Bool) : ∀ n, cN P n ≤ n
  | 0 => Nat.le_refl 0
  | n + 1 => by
    have := cN_le P n
    unfold cN
    split <;> omega
theorem cN_lt {P : Nat → Bool} {z : Nat} (hz : P z = false) : ∀ n, z < n → cN P n < n
  | 0, h => absurd h (Nat.not_lt_zero z)
  | n + 1, h => by
    unfold cN
    by_cases hzn : z = n
    · subst hzn
      have := cN_le P z
      rw [hz]
      simp
      omega
    · have := cN_lt hz n (by omega)
      split <;> omega
theorem cN_eq {P P' : Nat → Bool} : ∀ n, (∀ q, q < n → P' q = P q) → cN P' n = cN P n
  | 0, _ => rfl
  | n + 1, h => by
    unfold cN
    rw [cN_eq n (fun q hq => h q (by omega)), h n (by omega)]
theorem cN_up {P P' : Nat → Bool} {z : Nat} (h0 : P z = false) (h1 : P' z = true) (h : ∀ q, q ≠ z → P' q = P q) : ∀ n, z < n → cN P' n = cN P n + 1
  | 0, hz => absurd hz (Nat.not_lt_zero z)
  | n + 1, hz => by
    unfold cN
    by_cases hzn : z = n
    · subst hzn
      rw [cN_eq z (fun q hq => h q (by omega)), h0, h1]
      simp
    · rw [cN_up h0 h1 h n (by omega), h n (Ne.symm hzn)]
      omega
theorem cN_0 {P : Nat → Bool} (h : ∀ q, P q = false) : ∀ n, cN P n = 0
  | 0 => rfl
  | n + 1 => by
    unfold cN
    rw [cN_0 h n, h n]
    rfl
/-- the queue's state: h are done, L were reached -/
def qI (nx : Nat → Nat → Prop) (n : Nat) (f0 : Nat → Int) (s h L : Nat) (f g : Nat → Int) : Prop :=
  1 ≤ L ∧ h ≤ L ∧ (∀ i, i < L → ∃ a : Nat, g i = a ∧ a < n ∧ f0 a = -1 ∧ 0 ≤ f a ∧ rcN nx (adm n f0) s (f a).toNat a) ∧
  (∀ q : Nat, q < n → f q ≠ f0 q → ∃ i, i < L ∧ g i = q) ∧
  (∀ i j, i ≤ j → j < L → f (g i).toNat ≤ f (g j).toNat) ∧
  (∀ i j, h ≤ i → i < L → j < L → f (g j).toNat ≤ f (g i).toNat + 1) ∧
  (∀ i, i < h → ∀ q, nx (g i).toNat q → q < n → f0 q = -1 → 0 ≤ f q ∧ f q ≤ f (g i).toNat + 1) ∧
  L = cN (fun q => f q != f0 q) n ∧ g 0 = s ∧ f s = 0
theorem qI_start {nx : Nat → Nat → Prop} {n s : Nat} {f0 g : Nat → Int} (hs : s < n) (h0 : f0 s = -1) : qI nx n f0 s 0 1 (up f0 s 0) (up g 0 (s : Int)) := by
  have hg : up g 0 (s : Int) 0 = s := up_s _ _ _
  refine ⟨Nat.le_refl 1, Nat.zero_le 1, ?_, ?_, ?_, ?_, ?_, ?_, hg, up_s _ _ _⟩
  · intro i hi
    have : i = 0 := by omega
    subst this
    exact ⟨s, hg, hs, h0, by rw [up_s]; exact Int.le_refl 0, by rw [up_s]; rfl⟩
  · intro q hq hne
    by_cases hqs : q = s
    · subst hqs; exact ⟨0, by omega, hg⟩
    · rw [up_n _ _ hqs] at hne; exact absurd rfl hne
  · intro i j hij hj
    have h1 : i = 0 := by omega
    have h2 : j = 0 := by omega
    subst h1; subst h2
    exact Int.le_refl _
  · intro i j _ hi hj
    have h1 : i = 0 := by omega
    have h2 : j = 0 := by omega
    subst h1; subst h2
    omega
  · intro i hi; omega
  · have := cN_up (P := fun q => f0 q != f0 q) (P' := fun q => up f0 s 0 q != f0 q) (z := s) (by simp) (by simp [up_s, h0]) (fun q hq => by simp [up_n _ _ hq]) n hs
    rw [this, cN_0 (fun q => by simp) n]
/-- where it ends -/
theorem qI_end {nx : Nat → Nat → Prop} {n s L : Nat} {f0 f g : Nat → Int} (hs : s < n) (h : qI nx n f0 s L L f g) : bfs nx n f0 f s := by
  obtain ⟨h1, -, h3, h4, h5, h6, h7, h8, h9, h10⟩ := h
  have key : ∀ (m q : Nat), rcN nx (adm n f0) s m q → 0 ≤ f q ∧ f q ≤ m ∧ ∃ i, i < L ∧ g i = q := by
    intro m
    induction m with
    | zero =>
      intro q hq
      have : q = s := hq
      subst this
      exact ⟨by omega, by omega, 0, by omega, h9⟩
    | succ m ih =>
      rintro q ⟨p, hp, hn, hq1, hq2⟩
      obtain ⟨p1, p2, i, hi, hgi⟩ := ih p hp
      have hgt : (g i).toNat = p := by omega
      obtain ⟨a, b⟩ := h7 i hi q (by rw [hgt]; exact hn) hq1 hq2
      rw [hgt] at b
      exact ⟨a, by omega, h4 q hq1 (by omega)⟩
  intro q hq
  constructor
  · intro hf
    by_cases hne : f q = f0 q
    · exact hne
    · obtain ⟨i, hi, hgi⟩ := h4 q hq hne
      obtain ⟨a, ha, -, ha3, -⟩ := h3 i hi
      have : a = q := by omega
      subst this
      exact absurd ha3 hf
  · intro hf
    by_cases hne : f q = f0 q
    · right
      refine ⟨by omega, fun k hk => ?_⟩
      have := key k q hk
      omega
    · left
      obtain ⟨i, hi, hgi⟩ := h4 q hq hne
      obtain ⟨a, ha, -, -, ha4, ha5⟩ := h3 i hi
      have : a = q := by omega
      subst this
      refine ⟨(f a).toNat, by omega, ha5, fun k hk => ?_⟩
      have := key k a hk
      omega
theorem qI_next {nx : Nat → Nat → Prop} {n s h L : Nat} {f0 f g : Nat → Int} (hq : qI nx n f0 s h L f g) (hh : h < L) (hp : ∀ q, nx (g h).toNat q → q < n → f0 q = -1 → 0 ≤ f q ∧ f q ≤ f (g h).toNat + 1) : qI nx n f0 s (h + 1) L f g := by
  obtain ⟨h1, h2, h3, h4, h5, h6, h7, h8, h9, h10⟩ := hq
  refine ⟨h1, hh, h3, h4, h5, fun i j a b c => h6 i j (by omega) b c, fun i hi => ?_, h8, h9, h10⟩
  by_cases hih : i = h
  · subst hih; exact hp
  · exact h7 i (by omega)
/-- an old one -/
theorem qI_old {nx : Nat → Nat → Prop} {n s h L z : Nat} {f0 f g : Nat → Int} (hq : qI nx n f0 s h L f g) (hh : h < L) (hz : z < n) (hf : f z ≠ -1) (h0 : f0 z = -1) : 0 ≤ f z ∧ f z ≤ f (g h).toNat + 1 := by
  obtain ⟨h1, h2, h3, h4, h5, h6, h7, h8, h9, h10⟩ := hq
  obtain ⟨i, hi, hgi⟩ := h4 z hz (by omega)
  obtain ⟨a, ha, -, -, ha4, -⟩ := h3 i hi
  have : a = z := by omega
  subst this
  have := h6 h i (Nat.le_refl h) hh hi
  rw [show (g i).toNat = a by omega] at this
  exact ⟨ha4, this⟩
theorem qI_f0 {nx : Nat → Nat → Prop} {n s h L z : Nat} {f0 f g : Nat → Int} (hq : qI nx n f0 s h L f g) (hz : z < n) (hf : f z = -1) : f0 z = -1 := by
  obtain ⟨h1, h2, h3, h4, -⟩ := hq
  by_cases hne : f z = f0 z
  · omega
  · obtain ⟨i, hi, hgi⟩ := h4 z hz hne
    obtain ⟨a, ha, -, -, ha4, -⟩ := h3 i hi
    have : a = z := by omega
    subst this
    omega
theorem qI_lt {nx : Nat → Nat → Prop} {n s h L z : Nat} {f0 f g : Nat → Int} (hq : qI nx n f0 s h L f g) (hz : z < n) (hf : f z = -1) : L < n := by
  have h0 := qI_f0 hq hz hf
  obtain ⟨h1, h2, h3, h4, h5, h6, h7, h8, h9, h10⟩ := hq
  rw [h8]
  exact cN_lt (z := z) (by simp [hf, h0]) n hz
theorem qI_le {nx : Nat → Nat → Prop} {n s h L : Nat} {f0 f g : Nat → Int} (hq : qI nx n f0 s h L f g) : L ≤ n := by
  rw [hq.2.2.2.2.2.2.2.1]
  exact cN_le _ n
theorem qI_at {nx : Nat → Nat → Prop} {n s h L i : Nat} {f0 f g : Nat → Int} (hq : qI nx n f0 s h L f g) (hi : i < L) : 0 ≤ g i ∧ g i < n ∧ 0 ≤ f (g i).toNat := by
  obtain ⟨a, ha, h2, -, h4, -⟩ := hq.2.2.1 i hi
  rw [ha]
  exact ⟨by omega, by omega, by simpa using h4⟩
/-- a new one -/
theorem qI_new {nx : Nat → Nat → Prop} {n s h L z : Nat} {f0 f g : Nat → Int} (hq : qI nx n f0 s h L f g) (hh : h < L) (hz : z < n) (hf : f z = -1) (hn : nx (g h).toNat z) : qI nx n f0 s h (L + 1) (up f z (f (g h).toNat + 1)) (up g L (z : Int)) := by
  have h0 := qI_f0 hq hz hf
  obtain ⟨h1, h2, h3, h4, h5, h6, h7, h8, h9, h10⟩ := hq
  have hne : ∀ i, i < L → (g i).toNat ≠ z := by
    intro i hi he
    obtain ⟨a, ha, -, -, ha4, -⟩ := h3 i hi
    have : a = z := by omega
    subst this
    omega
  have hgi : ∀ i, i < L → up g L (z : Int) i = g i := fun i hi => up_n _ _ (by omega)
  have hgL : up g L (z : Int) L = z := up_s _ _ _
  have hfi : ∀ i, i < L → up f z (f (g h).toNat + 1) (g i).toNat = f (g i).toNat := fun i hi => up_n _ _ (hne i hi)
  have hfz : up f z (f (g h).toNat + 1) z = f (g h).toNat + 1 := up_s _ _ _
  obtain ⟨ah, hah, hah2, hah3, hah4, hah5⟩ := h3 h hh
  have hgh : (g h).toNat = ah := by omega
  refine ⟨by omega, by omega, ?_, ?_, ?_, ?_, ?_, ?_, ?_, ?_⟩
  · intro i hi
    by_cases hiL : i = L
    · subst hiL
      refine ⟨z, hgL, hz, h0, by rw [hfz, hgh]; omega, ?_⟩
      rw [hfz, hgh, show (f ah + 1).toNat = (f ah).toNat + 1 by omega]
      exact ⟨ah, hah5, by rw [← hgh]; exact hn, hz, h0⟩
    · have hi' : i < L := by omega
      obtain ⟨a, ha, ha2, ha3, ha4, ha5⟩ := h3 i hi'
      have hfa : up f z (f (g h).toNat + 1) a = f a := by
        have := hfi i hi'
        rwa [show (g i).toNat = a by omega] at this
      exact ⟨a, by rw [hgi i hi']; exact ha, ha2, ha3, by rw [hfa]; exact ha4, by rw [hfa]; exact ha5⟩
  · intro q hqn hqne
    by_cases hqz : q = z
    · subst hqz; exact ⟨L, by omega, hgL⟩
    · rw [up_n _ _ hqz] at hqne
      obtain ⟨i, hi, hgq⟩ := h4 q hqn hqne
      exact ⟨i, by omega, by rw [hgi i hi]; exact hgq⟩
  · intro i j hij hj
    by_cases hjL : j = L
    · subst hjL
      rw [hgL, Int.toNat_natCast, hfz]
      by_cases hiL : i = j
      · subst hiL; rw [hgL, Int.toNat_natCast, hfz]; exact Int.le_refl _
      · rw [hgi i (by omega), hfi i (by omega)]
        exact h6 h i (Nat.le_refl h) hh (by omega)
    · rw [hgi i (by omega), hgi j (by omega), hfi i (by omega), hfi j (by omega)]
      exact h5 i j hij (by omega)
  · intro i j hi hiL hj
    by_cases hi2 : i = L
    · subst hi2
      rw [hgL, Int.toNat_natCast, hfz]
      by_cases hj2 : j = i
      · subst hj2; rw [hgL, Int.toNat_natCast, hfz]; omega
      · rw [hgi j (by omega), hfi j (by omega)]
        have := h6 h j (Nat.le_refl h) hh (by omega)
        omega
    · rw [hgi i (by omega), hfi i (by omega)]
      by_cases hj2 : j = L
      · subst hj2
        rw [hgL, Int.toNat_natCast, hfz]
        have := h5 h i hi (by omega)
        omega
      · rw [hgi j (by omega), hfi j (by omega)]
        exact h6 i j hi (by omega) (by omega)
  · intro i hi q hnq hqn hq0
    rw [hgi i (by omega)] at hnq ⊢
    rw [hfi i (by omega)]
    have := h7 i hi q hnq hqn hq0
    by_cases hqz : q = z
    · subst hqz; omega
    · rw [up_n _ _ hqz]; exact this
  · have := cN_up (P := fun q => f q != f0 q) (P' := fun q => up f z (f (g h).toNat + 1) q != f0 q) (z := z) (by simp [hf, h0]) (bne_iff_ne.mpr (by show up f z (f (g h).toNat + 1) z ≠ f0 z; rw [hfz, h0, hgh]; omega)) (fun q hq => by simp [up_n _ _ hq]) n hz
    rw [this, ← h8]
  · rw [hgi 0 (by omega)]; exact h9
  · have hs : s ≠ z := by
      intro he
      subst he
      omega
    rw [up_n _ _ hs]; exact h10
/-- two searches of one thing come to one end -/
theorem bfs_unique {nx nx' : Nat → Nat → Prop} {n s : Nat} {f f1 f2 : Nat → Int} (hx : ∀ p q, p < n → q < n → (nx p q ↔ nx' p q)) (hs : s < n) (h1 : bfs nx n f f1 s) (h2 : bfs nx' n f f2 s) : ∀ q, q < n → f1 q = f2 q := by
  have key : ∀ (m q : Nat), (rcN nx (adm n f) s m q → q < n) ∧ (rcN nx (adm n f) s m q ↔ rcN nx' (adm n f) s m q) := by
    intro m
    induction m with
    | zero => intro q; exact ⟨fun h => by have : q = s := h; omega, Iff.rfl⟩
    | succ m ih =>
      intro q
      refine ⟨fun ⟨p, _, _, hq, _⟩ => hq, ⟨fun ⟨p, hp, hn, ha⟩ => ?_, fun ⟨p, hp, hn, ha⟩ => ?_⟩⟩
      · exact ⟨p, (ih p).2.mp hp, (hx p q ((ih p).1 hp) ha.1).mp hn, ha⟩
      · have hp' := (ih p).2.mpr hp
        exact ⟨p, hp', (hx p q ((ih p).1 hp') ha.1).mpr hn, ha⟩
  intro q hq
  obtain ⟨a1, a2⟩ := h1 q hq
  obtain ⟨b1, b2⟩ := h2 q hq
  by_cases hf : f q = -1
  · rcases a2 hf with ⟨m, m1, m2, m3⟩ | ⟨m1, m2⟩ <;> rcases b2 hf with ⟨k, k1, k2, k3⟩ | ⟨k1, k2⟩
    · have e1 := m3 k ((key k q).2.mpr k2)
      have e2 := k3 m ((key m q).2.mp m2)
      omega
    · exact absurd ((key m q).2.mp m2) (k2 m)
    · exact absurd ((key k q).2.mpr k2) (m2 k)
    · omega
  · rw [a1 hf, b1 hf]
