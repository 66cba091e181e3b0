/-! the model: pairs, sight, areas, marks, turns -/
section MQ
variable {G : mG} {w : List mC}
def pM (nb wl : Nat → Bool) (wd : Bool) (a : Int) : Int → Bool := fun b => mA nb a b && (!wd || mA wl a b)
def pmI (P : Int → Bool) (c a : Int) (gr : Bool) : Nat → Int → Int → Int ⊕ Int
  | 0, _, f => .inr f
  | j + 1, b, f => if P b then (if f = c then .inl (if gr then b else a) else pmI P c a gr j (b + 1) (f + 1)) else pmI P c a gr j (b + 1) f
def pmO (nb : Nat → Bool) (n : Nat) (c : Int) (gr : Bool) : Nat → Int → Int → Int
  | 0, _, _ => -1
  | j + 1, a, f => match pmI (mA nb a) c a gr (n - 1 - a.toNat) (a + 1) f with
    | .inl v => v
    | .inr f2 => pmO nb n c gr j (a + 1) f2
theorem sumF_b {g : Int → Int} {B : Nat} (h : ∀ i, 0 ≤ g i ∧ g i ≤ B) : ∀ (k : Nat) (i : Int), 0 ≤ sumF g k i ∧ sumF g k i ≤ B * k
  | 0, i => by simp [sumF]
  | k + 1, i => by
    have := sumF_b h k (i + 1)
    have := h i
    unfold sumF
    rw [Int.natCast_add, Int.mul_add]
    omega

set_option maxHeartbeats 4000000 in
set_option maxRecDepth 100000 in
theorem l_X8_pairsI (hG : m_G G) (d : Nat) {k W H : Int} {n : Nat} (hF : fOK k W H n) {t sz pl so bt : Int} {nb wl ou : Nat → Bool} {ar mk rc ip fd : Nat → Int} (hw : 30 < w.length) {a r : Int} {wd : Bool} {Q : Option (Option Value) → List mC → Prop} (ha : 0 ≤ a ∧ a < n)
    (kk : ∀ x4 : Option Value, m_J G MX8_pairs (m_r (d + 3) 0 0) Q 0 0 81 [some (.ref 22), some (vB wd), some (vI r), some (vI a), x4] [] (mw w t k W H sz pl so bt nb wl ar mk rc ou ip fd)) :
    ∀ (j : Nat) (b f : Int), 0 ≤ b → b + j = n → f + cntF (pM nb wl wd a) j b = r → m_J G MX8_pairs (m_r (d + 3) 0 0) Q 0 0 22 [some (.ref 22), some (vB wd), some (vI f), some (vI a), some (vI b)] [] (mw w t k W H sz pl so bt nb wl ar mk rc ou ip fd) := by
  have hFF := hF
  have hnb := hF.n
  obtain ⟨hk0, hk4, hW1, hW2, hH1, hH2, hn, hg4⟩ := hF
  intro j
  induction j with
  | zero =>
    intro b f hb hbj ht
    have e : f = r := by simp only [cntF] at ht; omega
    subst e
    refine m_iload 24 dX8_pairs_22 rfl rfl ?_
    refine m_aload_n 25 dX8_pairs_24 rfl rfl ?_
    refine m_cV (M' := MX8_all) 28 [] kX8_50 imX8_all seX8_all clX8_all dX8_pairs_25 rfl rfl rfl (mw_22 hw) (m_rmI (by omega) (Nat.le_of_ble_eq_true rfl) (Nat.le_refl _) (Nat.le_refl _)) (c_X8_all hG (d + 2) hFF hw) ?_
    refine i_icmp_ge 31 81 ⟨by omega, by omega⟩ ⟨by omega, by omega⟩ dX8_pairs_28 rfl (by decide) (fun _ => ?_) (fun h => absurd h (by omega))
    exact kk _
  | succ j ih =>
    intro b f hb hbj ht
    unfold cntF at ht
    have hb2 : 0 ≤ 256 * a + b ∧ 256 * a + b < 65536 := by omega
    refine m_iload 24 dX8_pairs_22 rfl rfl ?_
    refine m_aload_n 25 dX8_pairs_24 rfl rfl ?_
    refine m_cV (M' := MX8_all) 28 [] kX8_50 imX8_all seX8_all clX8_all dX8_pairs_25 rfl rfl rfl (mw_22 hw) (m_rmI (by omega) (Nat.le_of_ble_eq_true rfl) (Nat.le_refl _) (Nat.le_refl _)) (c_X8_all hG (d + 2) hFF hw) ?_
    refine i_icmp_ge 31 81 ⟨by omega, by omega⟩ ⟨by omega, by omega⟩ dX8_pairs_28 rfl (by decide) (fun h => absurd h (by omega)) (fun _ => ?_)
    refine m_iload_n 32 dX8_pairs_31 rfl rfl ?_
    refine m_aload_n 33 dX8_pairs_32 rfl rfl ?_
    refine m_getf 36 foX8_8 dX8_pairs_33 rfl (mw_22 hw) (by rfl) ?_
    refine i_sipush 39 256 dX8_pairs_36 rfl (by decide) ?_
    refine m_iload_n 40 dX8_pairs_39 rfl rfl ?_
    refine i_mul 41 dX8_pairs_40 rfl ?_
    refine m_iload 43 dX8_pairs_41 rfl rfl ?_
    refine i_add 44 dX8_pairs_43 rfl ?_
    refine i_zald 45 dX8_pairs_44 rfl (mw_23 hw) ⟨by omega, by omega, by omega⟩ ?_
    refine b_if_eq 48 72 dX8_pairs_45 rfl (by decide) (fun q45 => ?_) (fun q45 => ?_)
    · refine i_const 73 dX8_pairs_72 rfl ?_
      refine i_add 74 dX8_pairs_73 rfl ?_
      refine m_istore_n 75 dX8_pairs_74 rfl (by decide) ?_
      refine i_inc 78 dX8_pairs_75 rfl rfl (by decide) ?_
      refine m_goto 22 dX8_pairs_78 (by decide) ?_
      refine ih _ _ (by omega) (by omega) ?_
      first
        | (have hv : pM nb wl wd a b = true := by (unfold pM mA; rw [q45, q49]; rfl)
           rw [if_pos hv] at ht; omega)
        | (have hv : pM nb wl wd a b = true := by (unfold pM mA; rw [q45, q49, q65]; rfl)
           rw [if_pos hv] at ht; omega)
        | (have hv : pM nb wl wd a b = false := by (unfold pM mA; rw [q45]; rfl)
           rw [if_neg (by rw [hv]; decide)] at ht; omega)
        | (have hv : pM nb wl wd a b = false := by (unfold pM mA; rw [q45, q49, q65]; rfl)
           rw [if_neg (by rw [hv]; decide)] at ht; omega)
    · refine m_iload_n 49 dX8_pairs_48 rfl rfl ?_
      refine b_if_eq 52 68 dX8_pairs_49 rfl (by decide) (fun q49 => ?_) (fun q49 => ?_)
      · refine i_const 69 dX8_pairs_68 rfl ?_
        refine m_goto 73 dX8_pairs_69 (by decide) ?_
        refine i_add 74 dX8_pairs_73 rfl ?_
        refine m_istore_n 75 dX8_pairs_74 rfl (by decide) ?_
        refine i_inc 78 dX8_pairs_75 rfl rfl (by decide) ?_
        refine m_goto 22 dX8_pairs_78 (by decide) ?_
        refine ih _ _ (by omega) (by omega) ?_
        first
          | (have hv : pM nb wl wd a b = true := by (unfold pM mA; rw [q45, q49]; rfl)
             rw [if_pos hv] at ht; omega)
          | (have hv : pM nb wl wd a b = true := by (unfold pM mA; rw [q45, q49, q65]; rfl)
             rw [if_pos hv] at ht; omega)
          | (have hv : pM nb wl wd a b = false := by (unfold pM mA; rw [q45]; rfl)
             rw [if_neg (by rw [hv]; decide)] at ht; omega)
          | (have hv : pM nb wl wd a b = false := by (unfold pM mA; rw [q45, q49, q65]; rfl)
             rw [if_neg (by rw [hv]; decide)] at ht; omega)
      · refine m_aload_n 53 dX8_pairs_52 rfl rfl ?_
        refine m_getf 56 foX8_14 dX8_pairs_53 rfl (mw_22 hw) (by rfl) ?_
        refine i_sipush 59 256 dX8_pairs_56 rfl (by decide) ?_
        refine m_iload_n 60 dX8_pairs_59 rfl rfl ?_
        refine i_mul 61 dX8_pairs_60 rfl ?_
        refine m_iload 63 dX8_pairs_61 rfl rfl ?_
        refine i_add 64 dX8_pairs_63 rfl ?_
        refine i_zald 65 dX8_pairs_64 rfl (mw_24 hw) ⟨by omega, by omega, by omega⟩ ?_
        refine b_if_eq 68 72 dX8_pairs_65 rfl (by decide) (fun q65 => ?_) (fun q65 => ?_)
        · refine i_const 73 dX8_pairs_72 rfl ?_
          refine i_add 74 dX8_pairs_73 rfl ?_
          refine m_istore_n 75 dX8_pairs_74 rfl (by decide) ?_
          refine i_inc 78 dX8_pairs_75 rfl rfl (by decide) ?_
          refine m_goto 22 dX8_pairs_78 (by decide) ?_
          refine ih _ _ (by omega) (by omega) ?_
          first
            | (have hv : pM nb wl wd a b = true := by (unfold pM mA; rw [q45, q49]; rfl)
               rw [if_pos hv] at ht; omega)
            | (have hv : pM nb wl wd a b = true := by (unfold pM mA; rw [q45, q49, q65]; rfl)
               rw [if_pos hv] at ht; omega)
            | (have hv : pM nb wl wd a b = false := by (unfold pM mA; rw [q45]; rfl)
               rw [if_neg (by rw [hv]; decide)] at ht; omega)
            | (have hv : pM nb wl wd a b = false := by (unfold pM mA; rw [q45, q49, q65]; rfl)
               rw [if_neg (by rw [hv]; decide)] at ht; omega)
        · refine i_const 69 dX8_pairs_68 rfl ?_
          refine m_goto 73 dX8_pairs_69 (by decide) ?_
          refine i_add 74 dX8_pairs_73 rfl ?_
          refine m_istore_n 75 dX8_pairs_74 rfl (by decide) ?_
          refine i_inc 78 dX8_pairs_75 rfl rfl (by decide) ?_
          refine m_goto 22 dX8_pairs_78 (by decide) ?_
          refine ih _ _ (by omega) (by omega) ?_
          first
            | (have hv : pM nb wl wd a b = true := by (unfold pM mA; rw [q45, q49]; rfl)
               rw [if_pos hv] at ht; omega)
            | (have hv : pM nb wl wd a b = true := by (unfold pM mA; rw [q45, q49, q65]; rfl)
               rw [if_pos hv] at ht; omega)
            | (have hv : pM nb wl wd a b = false := by (unfold pM mA; rw [q45]; rfl)
               rw [if_neg (by rw [hv]; decide)] at ht; omega)
            | (have hv : pM nb wl wd a b = false := by (unfold pM mA; rw [q45, q49, q65]; rfl)
               rw [if_neg (by rw [hv]; decide)] at ht; omega)
set_option maxHeartbeats 4000000 in
set_option maxRecDepth 100000 in
theorem l_X8_pairs (hG : m_G G) (d : Nat) {k W H : Int} {n : Nat} (hF : fOK k W H n) {t sz pl so bt : Int} {nb wl ou : Nat → Bool} {ar mk rc ip fd : Nat → Int} (hw : 30 < w.length) {r : Int} {wd : Bool} :
    ∀ (j : Nat) (a f : Int) (x4 : Option Value), 0 ≤ a → a + j = n → f + sumF (fun a => cntF (pM nb wl wd a) (n - 1 - a.toNat) (a + 1)) j a = r → m_J G MX8_pairs (m_r (d + 3) 0 0) (fun x y => x = some (some (vI r)) ∧ y = (mw w t k W H sz pl so bt nb wl ar mk rc ou ip fd)) 0 0 9 [some (.ref 22), some (vB wd), some (vI f), some (vI a), x4] [] (mw w t k W H sz pl so bt nb wl ar mk rc ou ip fd) := by
  have hFF := hF
  have hnb := hF.n
  obtain ⟨hk0, hk4, hW1, hW2, hH1, hH2, hn, hg4⟩ := hF
  intro j
  induction j with
  | zero =>
    intro a f x4 ha haj ht
    refine m_iload_n 10 dX8_pairs_9 rfl rfl ?_
    refine m_aload_n 11 dX8_pairs_10 rfl rfl ?_
    refine m_cV (M' := MX8_all) 14 [] kX8_50 imX8_all seX8_all clX8_all dX8_pairs_11 rfl rfl rfl (mw_22 hw) (m_rmI (by omega) (Nat.le_of_ble_eq_true rfl) (Nat.le_refl _) (Nat.le_refl _)) (c_X8_all hG (d + 2) hFF hw) ?_
    refine i_icmp_ge 17 87 ⟨by omega, by omega⟩ ⟨by omega, by omega⟩ dX8_pairs_14 rfl (by decide) (fun _ => ?_) (fun h => absurd h (by omega))
    refine m_iload_n 88 dX8_pairs_87 rfl rfl ?_
    refine i_ret _ dX8_pairs_88 rfl ⟨Nat.le_refl _, Nat.le_refl _⟩ ?_ ⟨rfl, rfl⟩
    simp only [sumF] at ht; omega
  | succ j ih =>
    intro a f x4 ha haj ht
    unfold sumF at ht
    refine m_iload_n 10 dX8_pairs_9 rfl rfl ?_
    refine m_aload_n 11 dX8_pairs_10 rfl rfl ?_
    refine m_cV (M' := MX8_all) 14 [] kX8_50 imX8_all seX8_all clX8_all dX8_pairs_11 rfl rfl rfl (mw_22 hw) (m_rmI (by omega) (Nat.le_of_ble_eq_true rfl) (Nat.le_refl _) (Nat.le_refl _)) (c_X8_all hG (d + 2) hFF hw) ?_
    refine i_icmp_ge 17 87 ⟨by omega, by omega⟩ ⟨by omega, by omega⟩ dX8_pairs_14 rfl (by decide) (fun h => absurd h (by omega)) (fun _ => ?_)
    refine m_iload_n 18 dX8_pairs_17 rfl rfl ?_
    refine i_const 19 dX8_pairs_18 rfl ?_
    refine i_add 20 dX8_pairs_19 rfl ?_
    refine m_istore 22 dX8_pairs_20 rfl (by decide) ?_
    refine l_X8_pairsI hG d hFF hw (a := a) ⟨by omega, by omega⟩ (fun x4 => ?_) (n - 1 - a.toNat) (a + 1) f (by omega) (by omega) rfl
    refine i_inc 84 dX8_pairs_81 rfl rfl (by decide) ?_
    refine m_goto 9 dX8_pairs_84 (by decide) ?_
    exact ih _ _ _ (by omega) (by omega) (by omega)
set_option maxHeartbeats 4000000 in
set_option maxRecDepth 100000 in
theorem c_X8_pairs (hG : m_G G) (d : Nat) {k W H : Int} {n : Nat} (hF : fOK k W H n) {t sz pl so bt : Int} {nb wl ou : Nat → Bool} {ar mk rc ip fd : Nat → Int} (hw : 30 < w.length) {wd : Bool} : m_Cv G MX8_pairs (m_r (d + 3) 0 0) [.ref 22, vB wd] (mw w t k W H sz pl so bt nb wl ar mk rc ou ip fd) (some (vI (sumF (fun a => cntF (pM nb wl wd a) (n - 1 - a.toNat) (a + 1)) n 0))) (mw w 0 k W H sz pl so bt nb wl ar mk rc ou ip fd) := by
  have hFF := hF
  have hnb := hF.n
  obtain ⟨hk0, hk4, hW1, hW2, hH1, hH2, hn, hg4⟩ := hF
  refine m_enter (L := [some (.ref 22), some (vB wd), none, none, none]) (by decide) hG (m_c1 rfl) (Nat.le_of_ble_eq_true rfl) rfl ?_
  refine m_aload_n 1 dX8_pairs_0 rfl rfl ?_
  refine i_const 2 dX8_pairs_1 rfl ?_
  refine p8_0 (M := MX8_pairs) 5 rfl dX8_pairs_2 rfl hw ?_
  refine i_const 6 dX8_pairs_5 rfl ?_
  refine m_istore_n 7 dX8_pairs_6 rfl (by decide) ?_
  refine i_const 8 dX8_pairs_7 rfl ?_
  refine m_istore_n 9 dX8_pairs_8 rfl (by decide) ?_
  exact l_X8_pairs hG d hFF hw n 0 0 _ (by omega) (by omega) (by omega)
set_option maxHeartbeats 4000000 in
set_option maxRecDepth 100000 in
theorem l_X8_pairI (hG : m_G G) (d : Nat) {k W H : Int} {n : Nat} (hF : fOK k W H n) {t sz pl so bt : Int} {nb wl ou : Nat → Bool} {ar mk rc ip fd : Nat → Int} (hw : 30 < w.length) {a c : Int} {gr : Bool} {Q : Option (Option Value) → List mC → Prop} (ha : 0 ≤ a ∧ a < n) (hc : iR c) :
    ∀ (j : Nat) (b f : Int), 0 ≤ b → b + j = n → 0 ≤ f → f ≤ 256 * a + b → (∀ (f2 : Int) (x5 : Option Value), 0 ≤ f2 → f2 ≤ 256 * a + n → pmI (mA nb a) c a gr j b f = .inr f2 → m_J G MX8_pair (m_r (d + 3) 0 0) Q 0 0 80 [some (.ref 22), some (vI c), some (vB gr), some (vI f2), some (vI a), x5] [] (mw w t k W H sz pl so bt nb wl ar mk rc ou ip fd)) → (∀ v, pmI (mA nb a) c a gr j b f = .inl v → Q (some (some (vI v))) (mw w t k W H sz pl so bt nb wl ar mk rc ou ip fd)) → m_J G MX8_pair (m_r (d + 3) 0 0) Q 0 0 25 [some (.ref 22), some (vI c), some (vB gr), some (vI f), some (vI a), some (vI b)] [] (mw w t k W H sz pl so bt nb wl ar mk rc ou ip fd) := by
  have hFF := hF
  have hnb := hF.n
  obtain ⟨hk0, hk4, hW1, hW2, hH1, hH2, hn, hg4⟩ := hF
  obtain ⟨hc1, hc2⟩ := hc
  intro j
  induction j with
  | zero =>
    intro b f hb hbj hf hf2 kk kl
    refine m_iload 27 dX8_pair_25 rfl rfl ?_
    refine m_aload_n 28 dX8_pair_27 rfl rfl ?_
    refine m_cV (M' := MX8_all) 31 [] kX8_50 imX8_all seX8_all clX8_all dX8_pair_28 rfl rfl rfl (mw_22 hw) (m_rmI (by omega) (Nat.le_of_ble_eq_true rfl) (Nat.le_refl _) (Nat.le_refl _)) (c_X8_all hG (d + 2) hFF hw) ?_
    refine i_icmp_ge 34 80 ⟨by omega, by omega⟩ ⟨by omega, by omega⟩ dX8_pair_31 rfl (by decide) (fun _ => ?_) (fun h => absurd h (by omega))
    exact kk f _ hf (by omega) rfl
  | succ j ih =>
    intro b f hb hbj hf hf2 kk kl
    have hb2 : 0 ≤ 256 * a + b ∧ 256 * a + b < 65536 := by omega
    refine m_iload 27 dX8_pair_25 rfl rfl ?_
    refine m_aload_n 28 dX8_pair_27 rfl rfl ?_
    refine m_cV (M' := MX8_all) 31 [] kX8_50 imX8_all seX8_all clX8_all dX8_pair_28 rfl rfl rfl (mw_22 hw) (m_rmI (by omega) (Nat.le_of_ble_eq_true rfl) (Nat.le_refl _) (Nat.le_refl _)) (c_X8_all hG (d + 2) hFF hw) ?_
    refine i_icmp_ge 34 80 ⟨by omega, by omega⟩ ⟨by omega, by omega⟩ dX8_pair_31 rfl (by decide) (fun h => absurd h (by omega)) (fun _ => ?_)
    refine m_aload_n 35 dX8_pair_34 rfl rfl ?_
    refine m_getf 38 foX8_8 dX8_pair_35 rfl (mw_22 hw) (by rfl) ?_
    refine i_sipush 41 256 dX8_pair_38 rfl (by decide) ?_
    refine m_iload 43 dX8_pair_41 rfl rfl ?_
    refine i_mul 44 dX8_pair_43 rfl ?_
    refine m_iload 46 dX8_pair_44 rfl rfl ?_
    refine i_add 47 dX8_pair_46 rfl ?_
    refine i_zald 48 dX8_pair_47 rfl (mw_23 hw) ⟨by omega, by omega, by omega⟩ ?_
    refine b_if_ne 51 54 dX8_pair_48 rfl (by decide) (fun q48 => ?_) (fun q48 => ?_)
    · refine m_iload_n 55 dX8_pair_54 rfl rfl ?_
      refine m_iload_n 56 dX8_pair_55 rfl rfl ?_
      refine i_icmp_ne 59 71 ⟨by omega, by omega⟩ ⟨by omega, by omega⟩ dX8_pair_56 rfl (by decide) (fun q56 => ?_) (fun q56 => ?_)
      · have q48 : mA nb a b = true := q48
        have e : pmI (mA nb a) c a gr (j + 1) b f = pmI (mA nb a) c a gr j (b + 1) (f + 1) := by
          show (if mA nb a b = true then _ else _) = _
          rw [if_pos q48, if_neg q56]
        rw [e] at kk kl
        refine i_inc 74 dX8_pair_71 rfl rfl (by decide) ?_
        refine i_inc 77 dX8_pair_74 rfl rfl (by decide) ?_
        refine m_goto 25 dX8_pair_77 (by decide) ?_
        exact ih _ _ (by omega) (by omega) (by omega) (by omega) kk kl
      · refine m_iload_n 60 dX8_pair_59 rfl rfl ?_
        refine b_if_eq 63 68 dX8_pair_60 rfl (by decide) (fun q60 => ?_) (fun q60 => ?_)
        · refine m_iload 70 dX8_pair_68 rfl rfl ?_
          refine i_ret _ dX8_pair_70 rfl ⟨Nat.le_refl _, Nat.le_refl _⟩ ?_ (kl _ (by show (if mA nb a b = true then _ else _) = _; rw [if_pos (show mA nb a b = true from q48), if_pos q56, q60]))
          rfl
        · refine m_iload 65 dX8_pair_63 rfl rfl ?_
          refine m_goto 70 dX8_pair_65 (by decide) ?_
          refine i_ret _ dX8_pair_70 rfl ⟨Nat.le_refl _, Nat.le_refl _⟩ ?_ (kl _ (by show (if mA nb a b = true then _ else _) = _; rw [if_pos (show mA nb a b = true from q48), if_pos q56, q60]))
          rfl
    · refine m_goto 74 dX8_pair_51 (by decide) ?_
      refine i_inc 77 dX8_pair_74 rfl rfl (by decide) ?_
      refine m_goto 25 dX8_pair_77 (by decide) ?_
      have q48 : mA nb a b = false := q48
      have e : pmI (mA nb a) c a gr (j + 1) b f = pmI (mA nb a) c a gr j (b + 1) f := by
        show (if mA nb a b = true then _ else _) = _
        rw [if_neg (by rw [q48]; decide)]
      rw [e] at kk kl
      exact ih _ _ (by omega) (by omega) hf (by omega) kk kl
set_option maxHeartbeats 4000000 in
set_option maxRecDepth 100000 in
theorem l_X8_pair (hG : m_G G) (d : Nat) {k W H : Int} {n : Nat} (hF : fOK k W H n) {t sz pl so bt : Int} {nb wl ou : Nat → Bool} {ar mk rc ip fd : Nat → Int} (hw : 30 < w.length) {c r : Int} {gr : Bool} (hc : iR c) :
    ∀ (j : Nat) (a f : Int) (x5 : Option Value), 0 ≤ a → a + j = n → 0 ≤ f → f ≤ 256 * a → pmO nb n c gr j a f = r → m_J G MX8_pair (m_r (d + 3) 0 0) (fun x y => x = some (some (vI r)) ∧ y = (mw w t k W H sz pl so bt nb wl ar mk rc ou ip fd)) 0 0 10 [some (.ref 22), some (vI c), some (vB gr), some (vI f), some (vI a), x5] [] (mw w t k W H sz pl so bt nb wl ar mk rc ou ip fd) := by
  have hFF := hF
  have hnb := hF.n
  obtain ⟨hk0, hk4, hW1, hW2, hH1, hH2, hn, hg4⟩ := hF
  intro j
  induction j with
  | zero =>
    intro a f x5 ha haj hf hf2 ht
    refine m_iload 12 dX8_pair_10 rfl rfl ?_
    refine m_aload_n 13 dX8_pair_12 rfl rfl ?_
    refine m_cV (M' := MX8_all) 16 [] kX8_50 imX8_all seX8_all clX8_all dX8_pair_13 rfl rfl rfl (mw_22 hw) (m_rmI (by omega) (Nat.le_of_ble_eq_true rfl) (Nat.le_refl _) (Nat.le_refl _)) (c_X8_all hG (d + 2) hFF hw) ?_
    refine i_icmp_ge 19 86 ⟨by omega, by omega⟩ ⟨by omega, by omega⟩ dX8_pair_16 rfl (by decide) (fun _ => ?_) (fun h => absurd h (by omega))
    refine i_const 87 dX8_pair_86 rfl ?_
    refine i_ret _ dX8_pair_87 rfl ⟨Nat.le_refl _, Nat.le_refl _⟩ ?_ ⟨rfl, rfl⟩
    exact ht
  | succ j ih =>
    intro a f x5 ha haj hf hf2 ht
    unfold pmO at ht
    refine m_iload 12 dX8_pair_10 rfl rfl ?_
    refine m_aload_n 13 dX8_pair_12 rfl rfl ?_
    refine m_cV (M' := MX8_all) 16 [] kX8_50 imX8_all seX8_all clX8_all dX8_pair_13 rfl rfl rfl (mw_22 hw) (m_rmI (by omega) (Nat.le_of_ble_eq_true rfl) (Nat.le_refl _) (Nat.le_refl _)) (c_X8_all hG (d + 2) hFF hw) ?_
    refine i_icmp_ge 19 86 ⟨by omega, by omega⟩ ⟨by omega, by omega⟩ dX8_pair_16 rfl (by decide) (fun h => absurd h (by omega)) (fun _ => ?_)
    refine m_iload 21 dX8_pair_19 rfl rfl ?_
    refine i_const 22 dX8_pair_21 rfl ?_
    refine i_add 23 dX8_pair_22 rfl ?_
    refine m_istore 25 dX8_pair_23 rfl (by decide) ?_
    refine l_X8_pairI hG d hFF hw (a := a) ⟨by omega, by omega⟩ hc (n - 1 - a.toNat) (a + 1) f (by omega) (by omega) (by omega) (by omega) (fun f2 x6 g1 g2 e => ?_) (fun v e => ?_)
    · rw [e] at ht
      refine i_inc 83 dX8_pair_80 rfl rfl (by decide) ?_
      refine m_goto 10 dX8_pair_83 (by decide) ?_
      exact ih _ _ _ (by omega) (by omega) (by omega) (by omega) ht
    · rw [e] at ht
      exact ⟨by rw [show v = r from ht], rfl⟩
set_option maxHeartbeats 4000000 in
set_option maxRecDepth 100000 in
theorem c_X8_pair (hG : m_G G) (d : Nat) {k W H : Int} {n : Nat} (hF : fOK k W H n) {t sz pl so bt : Int} {nb wl ou : Nat → Bool} {ar mk rc ip fd : Nat → Int} (hw : 30 < w.length) {c : Int} {gr : Bool} (hc : iR c) : m_Cv G MX8_pair (m_r (d + 3) 0 0) [.ref 22, vI c, vB gr] (mw w t k W H sz pl so bt nb wl ar mk rc ou ip fd) (some (vI (pmO nb n c gr n 0 0))) (mw w 0 k W H sz pl so bt nb wl ar mk rc ou ip fd) := by
  have hFF := hF
  have hnb := hF.n
  obtain ⟨hk0, hk4, hW1, hW2, hH1, hH2, hn, hg4⟩ := hF
  refine m_enter (L := [some (.ref 22), some (vI c), some (vB gr), none, none, none]) (by decide) hG (m_c1 rfl) (Nat.le_of_ble_eq_true rfl) rfl ?_
  refine m_aload_n 1 dX8_pair_0 rfl rfl ?_
  refine i_const 2 dX8_pair_1 rfl ?_
  refine p8_0 (M := MX8_pair) 5 rfl dX8_pair_2 rfl hw ?_
  refine i_const 6 dX8_pair_5 rfl ?_
  refine m_istore_n 7 dX8_pair_6 rfl (by decide) ?_
  refine i_const 8 dX8_pair_7 rfl ?_
  refine m_istore 10 dX8_pair_8 rfl (by decide) ?_
  exact l_X8_pair hG d hFF hw hc n 0 0 _ (by omega) (by omega) (by omega) (by omega) rfl
set_option maxHeartbeats 4000000 in
set_option maxRecDepth 100000 in
theorem c_X8_directions (hG : m_G G) (d : Nat) {k W H : Int} {n : Nat} (hF : fOK k W H n) {t sz pl so bt : Int} {nb wl ou : Nat → Bool} {ar mk rc ip fd : Nat → Int} (hw : 30 < w.length) : m_Cv G MX8_directions (m_r d 0 0) [.ref 22] (mw w t k W H sz pl so bt nb wl ar mk rc ou ip fd) (some (vI (dirN k))) (mw w t k W H sz pl so bt nb wl ar mk rc ou ip fd) := by
  have hFF := hF
  have hnb := hF.n
  obtain ⟨hk0, hk4, hW1, hW2, hH1, hH2, hn, hg4⟩ := hF
  refine m_enter (L := [some (.ref 22)]) (by decide) hG (m_c1 rfl) (Nat.le_of_ble_eq_true rfl) rfl ?_
  refine m_aload_n 1 dX8_directions_0 rfl rfl ?_
  refine m_getf 4 foX8_40 dX8_directions_1 rfl (mw_22 hw) (by rfl) ?_
  refine i_const 5 dX8_directions_4 rfl ?_
  refine i_icmp_ne 8 13 ⟨by omega, by omega⟩ ⟨by omega, by omega⟩ dX8_directions_5 rfl (by decide) (fun q5 => ?_) (fun q5 => ?_)
  · refine m_aload_n 14 dX8_directions_13 rfl rfl ?_
    refine m_getf 17 foX8_40 dX8_directions_14 rfl (mw_22 hw) (by rfl) ?_
    refine i_const 18 dX8_directions_17 rfl ?_
    refine i_icmp_ne 21 25 ⟨by omega, by omega⟩ ⟨by omega, by omega⟩ dX8_directions_18 rfl (by decide) (fun q18 => ?_) (fun q18 => ?_)
    · refine m_aload_n 26 dX8_directions_25 rfl rfl ?_
      refine m_getf 29 foX8_40 dX8_directions_26 rfl (mw_22 hw) (by rfl) ?_
      refine i_const 30 dX8_directions_29 rfl ?_
      refine i_icmp_ne 33 37 ⟨by omega, by omega⟩ ⟨by omega, by omega⟩ dX8_directions_30 rfl (by decide) (fun q30 => ?_) (fun q30 => ?_)
      · refine i_const 38 dX8_directions_37 rfl ?_
        refine i_ret _ dX8_directions_38 rfl ⟨Nat.le_refl _, Nat.le_refl _⟩ ?_ ⟨rfl, rfl⟩
        unfold dirN
        first
          | (rw [if_pos (by omega)]; done)
          | (rw [if_neg (by omega), if_pos (by omega)]; done)
          | (rw [if_neg (by omega), if_neg (by omega), if_pos (by omega)]; done)
          | (rw [if_neg (by omega), if_neg (by omega), if_neg (by omega)]; done)
      · refine i_const 34 dX8_directions_33 rfl ?_
        refine m_goto 38 dX8_directions_34 (by decide) ?_
        refine i_ret _ dX8_directions_38 rfl ⟨Nat.le_refl _, Nat.le_refl _⟩ ?_ ⟨rfl, rfl⟩
        unfold dirN
        first
          | (rw [if_pos (by omega)]; done)
          | (rw [if_neg (by omega), if_pos (by omega)]; done)
          | (rw [if_neg (by omega), if_neg (by omega), if_pos (by omega)]; done)
          | (rw [if_neg (by omega), if_neg (by omega), if_neg (by omega)]; done)
    · refine i_const 22 dX8_directions_21 rfl ?_
      refine m_goto 38 dX8_directions_22 (by decide) ?_
      refine i_ret _ dX8_directions_38 rfl ⟨Nat.le_refl _, Nat.le_refl _⟩ ?_ ⟨rfl, rfl⟩
      unfold dirN
      first
        | (rw [if_pos (by omega)]; done)
        | (rw [if_neg (by omega), if_pos (by omega)]; done)
        | (rw [if_neg (by omega), if_neg (by omega), if_pos (by omega)]; done)
        | (rw [if_neg (by omega), if_neg (by omega), if_neg (by omega)]; done)
  · refine i_bipush 10 6 dX8_directions_8 rfl (by decide) ?_
    refine m_goto 38 dX8_directions_10 (by decide) ?_
    refine i_ret _ dX8_directions_38 rfl ⟨Nat.le_refl _, Nat.le_refl _⟩ ?_ ⟨rfl, rfl⟩
    unfold dirN
    first
      | (rw [if_pos (by omega)]; done)
      | (rw [if_neg (by omega), if_pos (by omega)]; done)
      | (rw [if_neg (by omega), if_neg (by omega), if_pos (by omega)]; done)
      | (rw [if_neg (by omega), if_neg (by omega), if_neg (by omega)]; done)
set_option maxHeartbeats 4000000 in
set_option maxRecDepth 100000 in
theorem c_X8_seenX (hG : m_G G) (d : Nat) {k W H : Int} {n : Nat} (hF : fOK k W H n) {t sz pl so bt : Int} {nb wl ou : Nat → Bool} {ar mk rc ip fd : Nat → Int} (hw : 30 < w.length) {p : Int} {r i : Int} (hp : ¬ (0 ≤ p ∧ p < n)) (hr : iR p) : m_Cv G MX8_seen (m_r (d + 3) 0 0) [.ref 22, vI p, vI r, vI i] (mw w t k W H sz pl so bt nb wl ar mk rc ou ip fd) (some (vI 0)) (mw w 1 k W H sz pl so bt nb wl ar mk rc ou ip fd) := by
  have hFF := hF
  have hnb := hF.n
  obtain ⟨hk0, hk4, hW1, hW2, hH1, hH2, hn, hg4⟩ := hF
  refine m_enter (L := [some (.ref 22), some (vI p), some (vI r), some (vI i), none, none, none]) (by decide) hG (m_c1 rfl) (Nat.le_of_ble_eq_true rfl) rfl ?_
  refine m_aload_n 1 dX8_seen_0 rfl rfl ?_
  refine m_aload_n 2 dX8_seen_1 rfl rfl ?_
  refine m_iload_n 3 dX8_seen_2 rfl rfl ?_
  refine m_cV (M' := MX8_isPlace) 6 [_] kX8_70 imX8_isPlace seX8_isPlace clX8_isPlace dX8_seen_3 rfl rfl rfl (mw_22 hw) (m_rmI (by omega) (Nat.le_of_ble_eq_true rfl) (Nat.le_refl _) (Nat.le_refl _)) (c_X8_isPlace hG d hFF hw hr) ?_
  refine b_if_ne 9 13 dX8_seen_6 rfl (by decide) (fun h => absurd h (by rw [inB_0 hp]; decide)) (fun _ => ?_)
  refine i_const 10 dX8_seen_9 rfl ?_
  refine m_goto 14 dX8_seen_10 (by decide) ?_
  refine i_asB true rfl ?_
  refine m_cV (M' := MX8_fails) 17 [_] kX8_74 imX8_fails seX8_fails clX8_fails dX8_seen_14 rfl rfl rfl (mw_22 hw) (m_rmI (by omega) (Nat.le_of_ble_eq_true rfl) (Nat.le_refl _) (Nat.le_refl _)) (c_X8_fails hG d hFF hw) ?_
  refine b_if_ne 20 36 dX8_seen_17 rfl (by decide) (fun _ => ?_) (fun h => absurd h (by decide))
  refine m_aload_n 37 dX8_seen_36 rfl rfl ?_
  refine m_getf 40 foX8_58 dX8_seen_37 rfl (mw_22 hw) (by rfl) ?_
  refine i_if_le 43 47 ⟨by omega, by omega⟩ dX8_seen_40 rfl (by decide) (fun h => absurd h (by decide)) (fun _ => ?_)
  refine i_const 44 dX8_seen_43 rfl ?_
  refine m_goto 48 dX8_seen_44 (by decide) ?_
  refine i_ret _ dX8_seen_48 rfl ⟨Nat.le_refl _, Nat.le_refl _⟩ ?_ ⟨rfl, rfl⟩
  rfl
def opM (k W H : Int) (wl : Nat → Bool) (r : Int) : Int → Int := fun q => if stp k W H (q % W) (q / W) r = -1 then -1 else if mA wl q (stp k W H (q % W) (q / W) r) then -1 else stp k W H (q % W) (q / W) r
set_option maxHeartbeats 4000000 in
set_option maxRecDepth 100000 in
theorem c_X8_seenN (hG : m_G G) (d : Nat) {k W H : Int} {n : Nat} (hF : fOK k W H n) {t sz pl so bt : Int} {nb wl ou : Nat → Bool} {ar mk rc ip fd : Nat → Int} (hw : 30 < w.length) {p r i : Int} (hp : 0 ≤ p ∧ p < n) (hr : iR r) (hi : iR i) (hno : ¬ (0 ≤ r ∧ r < dirN k ∧ 0 ≤ i)) : m_Cv G MX8_seen (m_r (d + 3) 0 0) [.ref 22, vI p, vI r, vI i] (mw w t k W H sz pl so bt nb wl ar mk rc ou ip fd) (some (vI (-1))) (mw w 0 k W H sz pl so bt nb wl ar mk rc ou ip fd) := by
  have hFF := hF
  have hnb := hF.n
  obtain ⟨hk0, hk4, hW1, hW2, hH1, hH2, hn, hg4⟩ := hF
  obtain ⟨hr1, hr2⟩ := hr
  obtain ⟨hi1, hi2⟩ := hi
  have hdr : 0 ≤ dirN k ∧ dirN k ≤ 6 := by unfold dirN; split <;> first | omega | (split <;> first | omega | (split <;> omega))
  refine m_enter (L := [some (.ref 22), some (vI p), some (vI r), some (vI i), none, none, none]) (by decide) hG (m_c1 rfl) (Nat.le_of_ble_eq_true rfl) rfl ?_
  refine m_aload_n 1 dX8_seen_0 rfl rfl ?_
  refine m_aload_n 2 dX8_seen_1 rfl rfl ?_
  refine m_iload_n 3 dX8_seen_2 rfl rfl ?_
  refine m_cV (M' := MX8_isPlace) 6 [_] kX8_70 imX8_isPlace seX8_isPlace clX8_isPlace dX8_seen_3 rfl rfl rfl (mw_22 hw) (m_rmI (by omega) (Nat.le_of_ble_eq_true rfl) (Nat.le_refl _) (Nat.le_refl _)) (c_X8_isPlace hG d hFF hw ⟨by omega, by omega⟩) ?_
  refine b_if_ne 9 13 dX8_seen_6 rfl (by decide) (fun _ => ?_) (fun h => absurd h (by rw [inB_1 hp]; decide))
  refine i_const 14 dX8_seen_13 rfl ?_
  refine i_asB false rfl ?_
  refine m_cV (M' := MX8_fails) 17 [_] kX8_74 imX8_fails seX8_fails clX8_fails dX8_seen_14 rfl rfl rfl (mw_22 hw) (m_rmI (by omega) (Nat.le_of_ble_eq_true rfl) (Nat.le_refl _) (Nat.le_refl _)) (c_X8_fails hG d hFF hw) ?_
  refine b_if_ne 20 36 dX8_seen_17 rfl (by decide) (fun h => absurd h (by decide)) (fun _ => ?_)
  refine m_iload_n 21 dX8_seen_20 rfl rfl ?_
  refine i_if_lt 24 36 ⟨by omega, by omega⟩ dX8_seen_21 rfl (by decide) (fun q21 => ?_) (fun q21 => ?_)
  · refine m_aload_n 37 dX8_seen_36 rfl rfl ?_
    refine m_getf 40 foX8_58 dX8_seen_37 rfl (mw_22 hw) (by rfl) ?_
    refine i_if_le 43 47 ⟨by omega, by omega⟩ dX8_seen_40 rfl (by decide) (fun _ => ?_) (fun h => absurd h (by decide))
    refine i_const 48 dX8_seen_47 rfl ?_
    refine i_ret _ dX8_seen_48 rfl ⟨Nat.le_refl _, Nat.le_refl _⟩ ?_ ⟨rfl, rfl⟩
    rfl
  · refine m_iload_n 25 dX8_seen_24 rfl rfl ?_
    refine m_aload_n 26 dX8_seen_25 rfl rfl ?_
    refine m_cV (M' := MX8_directions) 29 [] kX8_82 imX8_directions seX8_directions clX8_directions dX8_seen_26 rfl rfl rfl (mw_22 hw) (m_rmI (by omega) (Nat.le_of_ble_eq_true rfl) (Nat.le_refl _) (Nat.le_refl _)) (c_X8_directions hG (d + 2) hFF hw) ?_
    refine i_icmp_ge 32 36 ⟨by omega, by omega⟩ ⟨by omega, by omega⟩ dX8_seen_29 rfl (by decide) (fun q29 => ?_) (fun q29 => ?_)
    · refine m_aload_n 37 dX8_seen_36 rfl rfl ?_
      refine m_getf 40 foX8_58 dX8_seen_37 rfl (mw_22 hw) (by rfl) ?_
      refine i_if_le 43 47 ⟨by omega, by omega⟩ dX8_seen_40 rfl (by decide) (fun _ => ?_) (fun h => absurd h (by decide))
      refine i_const 48 dX8_seen_47 rfl ?_
      refine i_ret _ dX8_seen_48 rfl ⟨Nat.le_refl _, Nat.le_refl _⟩ ?_ ⟨rfl, rfl⟩
      rfl
    · refine m_iload_n 33 dX8_seen_32 rfl rfl ?_
      refine i_if_ge 36 49 ⟨by omega, by omega⟩ dX8_seen_33 rfl (by decide) (fun q33 => ?_) (fun q33 => ?_)
      · exact absurd hno (by omega)
      · refine m_aload_n 37 dX8_seen_36 rfl rfl ?_
        refine m_getf 40 foX8_58 dX8_seen_37 rfl (mw_22 hw) (by rfl) ?_
        refine i_if_le 43 47 ⟨by omega, by omega⟩ dX8_seen_40 rfl (by decide) (fun _ => ?_) (fun h => absurd h (by decide))
        refine i_const 48 dX8_seen_47 rfl ?_
        refine i_ret _ dX8_seen_48 rfl ⟨Nat.le_refl _, Nat.le_refl _⟩ ?_ ⟨rfl, rfl⟩
        rfl
set_option maxHeartbeats 4000000 in
set_option maxRecDepth 100000 in
theorem l_X8_seen (hG : m_G G) (d : Nat) {k W H : Int} {n : Nat} (hF : fOK k W H n) {t sz pl so bt : Int} {nb wl ou : Nat → Bool} {ar mk rc ip fd : Nat → Int} (hw : 30 < w.length) {p r i v : Int} (hp : 0 ≤ p ∧ p < n) (hr : 0 ≤ r ∧ r < 6) (hi : iR i) (φ : Int → Nat) (I : Int → Prop) (hφ : ∀ q : Int, I q → 0 ≤ q → q < n → stp k W H (q % W) (q / W) r ≠ -1 → stp k W H (q % W) (q / W) r ≠ p → I (stp k W H (q % W) (q / W) r) ∧ φ (stp k W H (q % W) (q / W) r) < φ q) :
    ∀ (j : Nat) (c q : Int) (x6 : Option Value), 0 ≤ c → c + j ≤ n → c ≤ i → I q → 0 ≤ q → q < n → φ q < j → seF (opM k W H wl r) p i j c (opM k W H wl r q) = v → m_J G MX8_seen (m_r (d + 3) 0 0) (fun x y => x = some (some (vI v)) ∧ y = (mw w t k W H sz pl so bt nb wl ar mk rc ou ip fd)) 0 0 55 [some (.ref 22), some (vI p), some (vI r), some (vI i), some (vI q), some (vI c), x6] [] (mw w t k W H sz pl so bt nb wl ar mk rc ou ip fd) := by
  have hFF := hF
  have hnb := hF.n
  obtain ⟨hk0, hk4, hW1, hW2, hH1, hH2, hn, hg4⟩ := hF
  obtain ⟨hi1, hi2⟩ := hi
  intro j
  induction j with
  | zero => intro c q x6 hc hcj hci hIq hq hqn hj; omega
  | succ j ih =>
    intro c q x6 hc hcj hci hIq hq hqn hj ht
    have hst := stp_r hFF (q % W) (q / W) r
    have hf := hφ q hIq hq hqn
    unfold seF at ht
    have eo : opM k W H wl r q = if stp k W H (q % W) (q / W) r = -1 then -1 else if mA wl q (stp k W H (q % W) (q / W) r) then -1 else stp k W H (q % W) (q / W) r := rfl
    refine m_iload 57 dX8_seen_55 rfl rfl ?_
    refine m_iload_n 58 dX8_seen_57 rfl rfl ?_
    refine i_icmp_gt 61 110 ⟨by omega, by omega⟩ ⟨by omega, by omega⟩ dX8_seen_58 rfl (by decide) (fun h => absurd h (by omega)) (fun _ => ?_)
    refine m_aload_n 62 dX8_seen_61 rfl rfl ?_
    refine m_iload 64 dX8_seen_62 rfl rfl ?_
    refine m_iload_n 65 dX8_seen_64 rfl rfl ?_
    refine m_cV (M' := MX8_step) 68 [_, _] kX8_54 imX8_step seX8_step clX8_step dX8_seen_65 rfl rfl rfl (mw_22 hw) (m_rmI (by omega) (Nat.le_of_ble_eq_true rfl) (Nat.le_refl _) (Nat.le_refl _)) (c_X8_step hG d hFF hw ⟨hq, hqn⟩ hr) ?_
    refine m_istore 70 dX8_seen_68 rfl (by decide) ?_
    refine m_iload 72 dX8_seen_70 rfl rfl ?_
    refine i_if_lt 75 98 ⟨by omega, by omega⟩ dX8_seen_72 rfl (by decide) (fun q72 => ?_) (fun q72 => ?_)
    · refine i_const 99 dX8_seen_98 rfl ?_
      refine i_ret _ dX8_seen_99 rfl ⟨Nat.le_refl _, Nat.le_refl _⟩ ?_ ⟨rfl, rfl⟩
      first
        | (rw [if_pos (by omega)] at eo; rw [eo, if_pos rfl] at ht; exact ht)
        | (rw [if_neg (by omega)] at eo; rw [q78] at eo; by_cases hm : mA wl q p = true
           · rw [if_pos hm] at eo; rw [eo, if_pos rfl] at ht; exact ht
           · rw [if_neg hm] at eo; rw [eo, if_neg (by omega), if_pos rfl] at ht; exact ht)
        | (rw [if_neg (by omega), if_pos q95] at eo; rw [eo, if_pos rfl] at ht; exact ht)
    · refine m_iload 77 dX8_seen_75 rfl rfl ?_
      refine m_iload_n 78 dX8_seen_77 rfl rfl ?_
      refine i_icmp_eq 81 98 ⟨by omega, by omega⟩ ⟨by omega, by omega⟩ dX8_seen_78 rfl (by decide) (fun q78 => ?_) (fun q78 => ?_)
      · refine i_const 99 dX8_seen_98 rfl ?_
        refine i_ret _ dX8_seen_99 rfl ⟨Nat.le_refl _, Nat.le_refl _⟩ ?_ ⟨rfl, rfl⟩
        first
          | (rw [if_pos (by omega)] at eo; rw [eo, if_pos rfl] at ht; exact ht)
          | (rw [if_neg (by omega)] at eo; rw [q78] at eo; by_cases hm : mA wl q p = true
             · rw [if_pos hm] at eo; rw [eo, if_pos rfl] at ht; exact ht
             · rw [if_neg hm] at eo; rw [eo, if_neg (by omega), if_pos rfl] at ht; exact ht)
          | (rw [if_neg (by omega), if_pos q95] at eo; rw [eo, if_pos rfl] at ht; exact ht)
      · refine m_aload_n 82 dX8_seen_81 rfl rfl ?_
        refine m_getf 85 foX8_14 dX8_seen_82 rfl (mw_22 hw) (by rfl) ?_
        refine i_sipush 88 256 dX8_seen_85 rfl (by decide) ?_
        refine m_iload 90 dX8_seen_88 rfl rfl ?_
        refine i_mul 91 dX8_seen_90 rfl ?_
        refine m_iload 93 dX8_seen_91 rfl rfl ?_
        refine i_add 94 dX8_seen_93 rfl ?_
        refine i_zald 95 dX8_seen_94 rfl (mw_24 hw) ⟨by omega, by omega, by omega⟩ ?_
        refine b_if_eq 98 100 dX8_seen_95 rfl (by decide) (fun q95 => ?_) (fun q95 => ?_)
        · refine m_iload 102 dX8_seen_100 rfl rfl ?_
          refine m_istore 104 dX8_seen_102 rfl (by decide) ?_
          refine i_inc 107 dX8_seen_104 rfl rfl (by decide) ?_
          refine m_goto 55 dX8_seen_107 (by decide) ?_
          have q95 : mA wl q (stp k W H (q % W) (q / W) r) = false := q95
          rw [if_neg (by omega), if_neg (by rw [q95]; decide)] at eo
          rw [eo, if_neg (by omega), if_neg q78] at ht
          obtain ⟨hIs, hf⟩ := hf (by omega) q78
          by_cases hce : c = i
          · rw [if_pos hce] at ht
            refine m_iload 57 dX8_seen_55 rfl rfl ?_
            refine m_iload_n 58 dX8_seen_57 rfl rfl ?_
            refine i_icmp_gt 61 110 ⟨by omega, by omega⟩ ⟨by omega, by omega⟩ dX8_seen_58 rfl (by decide) (fun _ => ?_) (fun h => absurd h (by omega))
            refine m_iload 112 dX8_seen_110 rfl rfl ?_
            refine i_ret _ dX8_seen_112 rfl ⟨Nat.le_refl _, Nat.le_refl _⟩ ?_ ⟨rfl, rfl⟩
            exact ht
          · rw [if_neg hce] at ht
            exact ih _ _ _ (by omega) (by omega) (by omega) hIs (by omega) (by omega) (by omega) ht
        · refine i_const 99 dX8_seen_98 rfl ?_
          refine i_ret _ dX8_seen_99 rfl ⟨Nat.le_refl _, Nat.le_refl _⟩ ?_ ⟨rfl, rfl⟩
          first
            | (rw [if_pos (by omega)] at eo; rw [eo, if_pos rfl] at ht; exact ht)
            | (rw [if_neg (by omega)] at eo; rw [q78] at eo; by_cases hm : mA wl q p = true
               · rw [if_pos hm] at eo; rw [eo, if_pos rfl] at ht; exact ht
               · rw [if_neg hm] at eo; rw [eo, if_neg (by omega), if_pos rfl] at ht; exact ht)
            | (rw [if_neg (by omega), if_pos q95] at eo; rw [eo, if_pos rfl] at ht; exact ht)
set_option maxHeartbeats 4000000 in
set_option maxRecDepth 100000 in
theorem c_X8_seenY (hG : m_G G) (d : Nat) {k W H : Int} {n : Nat} (hF : fOK k W H n) {t sz pl so bt : Int} {nb wl ou : Nat → Bool} {ar mk rc ip fd : Nat → Int} (hw : 30 < w.length) {p r i : Int} (hp : 0 ≤ p ∧ p < n) (hr : 0 ≤ r ∧ r < dirN k) (hi : 0 ≤ i ∧ i < 2147483648) (φ : Int → Nat) (I : Int → Prop) (hφ : ∀ q : Int, I q → 0 ≤ q → q < n → stp k W H (q % W) (q / W) r ≠ -1 → stp k W H (q % W) (q / W) r ≠ p → I (stp k W H (q % W) (q / W) r) ∧ φ (stp k W H (q % W) (q / W) r) < φ q) (hφp : φ p < n) (hIp : I p) : m_Cv G MX8_seen (m_r (d + 3) 0 0) [.ref 22, vI p, vI r, vI i] (mw w t k W H sz pl so bt nb wl ar mk rc ou ip fd) (some (vI (seF (opM k W H wl r) p i n 0 (opM k W H wl r p)))) (mw w 0 k W H sz pl so bt nb wl ar mk rc ou ip fd) := by
  have hFF := hF
  have hnb := hF.n
  obtain ⟨hk0, hk4, hW1, hW2, hH1, hH2, hn, hg4⟩ := hF
  have hdr : 0 ≤ dirN k ∧ dirN k ≤ 6 := by unfold dirN; split <;> first | omega | (split <;> first | omega | (split <;> omega))
  refine m_enter (L := [some (.ref 22), some (vI p), some (vI r), some (vI i), none, none, none]) (by decide) hG (m_c1 rfl) (Nat.le_of_ble_eq_true rfl) rfl ?_
  refine m_aload_n 1 dX8_seen_0 rfl rfl ?_
  refine m_aload_n 2 dX8_seen_1 rfl rfl ?_
  refine m_iload_n 3 dX8_seen_2 rfl rfl ?_
  refine m_cV (M' := MX8_isPlace) 6 [_] kX8_70 imX8_isPlace seX8_isPlace clX8_isPlace dX8_seen_3 rfl rfl rfl (mw_22 hw) (m_rmI (by omega) (Nat.le_of_ble_eq_true rfl) (Nat.le_refl _) (Nat.le_refl _)) (c_X8_isPlace hG d hFF hw ⟨by omega, by omega⟩) ?_
  refine b_if_ne 9 13 dX8_seen_6 rfl (by decide) (fun _ => ?_) (fun h => absurd h (by rw [inB_1 hp]; decide))
  refine i_const 14 dX8_seen_13 rfl ?_
  refine i_asB false rfl ?_
  refine m_cV (M' := MX8_fails) 17 [_] kX8_74 imX8_fails seX8_fails clX8_fails dX8_seen_14 rfl rfl rfl (mw_22 hw) (m_rmI (by omega) (Nat.le_of_ble_eq_true rfl) (Nat.le_refl _) (Nat.le_refl _)) (c_X8_fails hG d hFF hw) ?_
  refine b_if_ne 20 36 dX8_seen_17 rfl (by decide) (fun h => absurd h (by decide)) (fun _ => ?_)
  refine m_iload_n 21 dX8_seen_20 rfl rfl ?_
  refine i_if_lt 24 36 ⟨by omega, by omega⟩ dX8_seen_21 rfl (by decide) (fun h => absurd h (by omega)) (fun _ => ?_)
  refine m_iload_n 25 dX8_seen_24 rfl rfl ?_
  refine m_aload_n 26 dX8_seen_25 rfl rfl ?_
  refine m_cV (M' := MX8_directions) 29 [] kX8_82 imX8_directions seX8_directions clX8_directions dX8_seen_26 rfl rfl rfl (mw_22 hw) (m_rmI (by omega) (Nat.le_of_ble_eq_true rfl) (Nat.le_refl _) (Nat.le_refl _)) (c_X8_directions hG (d + 2) hFF hw) ?_
  refine i_icmp_ge 32 36 ⟨by omega, by omega⟩ ⟨by omega, by omega⟩ dX8_seen_29 rfl (by decide) (fun h => absurd h (by omega)) (fun _ => ?_)
  refine m_iload_n 33 dX8_seen_32 rfl rfl ?_
  refine i_if_ge 36 49 ⟨by omega, by omega⟩ dX8_seen_33 rfl (by decide) (fun _ => ?_) (fun h => absurd h (by omega))
  refine m_iload_n 50 dX8_seen_49 rfl rfl ?_
  refine m_istore 52 dX8_seen_50 rfl (by decide) ?_
  refine i_const 53 dX8_seen_52 rfl ?_
  refine m_istore 55 dX8_seen_53 rfl (by decide) ?_
  exact l_X8_seen hG d hFF hw hp ⟨by omega, by omega⟩ ⟨by omega, by omega⟩ φ I hφ n 0 p _ (by omega) (by omega) (by omega) hIp (by omega) (by omega) hφp rfl
set_option maxHeartbeats 4000000 in
set_option maxRecDepth 100000 in
theorem l_X8_noneOut (hG : m_G G) (d : Nat) {k W H : Int} {n : Nat} (hF : fOK k W H n) {t sz pl so bt : Int} {nb wl ou : Nat → Bool} {ar mk rc ip fd : Nat → Int} (hw : 30 < w.length) : ∀ (j i : Nat), i + j = 256 → m_J G MX8_noneOut (m_r d 0 0) (fun x y => x = some none ∧ y = (mw w t k W H sz pl so bt nb wl ar mk rc (fill 256 (fun _ => false) ou) ip fd)) 0 0 2 [some (.ref 22), some (vI (i : Int))] [] (mw w t k W H sz pl so bt nb wl ar mk rc (fill i (fun _ => false) ou) ip fd) := by
  have hFF := hF
  have hnb := hF.n
  obtain ⟨hk0, hk4, hW1, hW2, hH1, hH2, hn, hg4⟩ := hF
  intro j
  induction j with
  | zero =>
    intro i hi
    have hi : i = 256 := by omega
    subst hi
    refine m_iload_n 3 dX8_noneOut_2 rfl rfl ?_
    refine i_sipush 6 256 dX8_noneOut_3 rfl (by decide) ?_
    refine i_icmp_ge 9 22 ⟨by omega, by omega⟩ ⟨by omega, by omega⟩ dX8_noneOut_6 rfl (by decide) (fun _ => ?_) (fun h => absurd h (by omega))
    refine m_vret dX8_noneOut_22 rfl ⟨Nat.le_refl _, Nat.le_refl _⟩ ?_
    exact ⟨rfl, rfl⟩
  | succ j ih =>
    intro i hi
    refine m_iload_n 3 dX8_noneOut_2 rfl rfl ?_
    refine i_sipush 6 256 dX8_noneOut_3 rfl (by decide) ?_
    refine i_icmp_ge 9 22 ⟨by omega, by omega⟩ ⟨by omega, by omega⟩ dX8_noneOut_6 rfl (by decide) (fun h => absurd h (by omega)) (fun _ => ?_)
    refine m_aload_n 10 dX8_noneOut_9 rfl rfl ?_
    refine m_getf 13 foX8_27 dX8_noneOut_10 rfl (mw_22 hw) (by rfl) ?_
    refine m_iload_n 14 dX8_noneOut_13 rfl rfl ?_
    refine i_const 15 dX8_noneOut_14 rfl ?_
    refine i_asB false rfl ?_
    refine i_zast 16 dX8_noneOut_15 rfl (mw_28 hw) ⟨by omega, by omega, by omega⟩ ?_
    rw [mw_s28]
    refine i_inc 19 dX8_noneOut_16 rfl rfl (by decide) ?_
    refine m_goto 2 dX8_noneOut_19 (by decide) ?_
    rw [Int.toNat_natCast, fill_s]
    exact ih (i + 1) (by omega)
set_option maxHeartbeats 4000000 in
set_option maxRecDepth 100000 in
theorem c_X8_noneOut (hG : m_G G) (d : Nat) {k W H : Int} {n : Nat} (hF : fOK k W H n) {t sz pl so bt : Int} {nb wl ou : Nat → Bool} {ar mk rc ip fd : Nat → Int} (hw : 30 < w.length) : m_Cv G MX8_noneOut (m_r d 0 0) [.ref 22] (mw w t k W H sz pl so bt nb wl ar mk rc ou ip fd) none (mw w t k W H sz pl so bt nb wl ar mk rc (fill 256 (fun _ => false) ou) ip fd) := by
  refine m_enter (L := [some (.ref 22), none]) (by decide) hG (m_c1 rfl) (Nat.le_of_ble_eq_true rfl) rfl ?_
  refine i_const 1 dX8_noneOut_0 rfl ?_
  refine m_istore_n 2 dX8_noneOut_1 rfl (by decide) ?_
  have e := l_X8_noneOut hG d hF hw (t := t) (sz := sz) (pl := pl) (so := so) (bt := bt) (nb := nb) (wl := wl) (ou := ou) (ar := ar) (mk := mk) (rc := rc) (ip := ip) (fd := fd) 256 0 (by omega)
  rw [fill_0] at e
  exact e
set_option maxHeartbeats 4000000 in
set_option maxRecDepth 100000 in
theorem c_X8_areaX (hG : m_G G) (d : Nat) {k W H : Int} {n : Nat} (hF : fOK k W H n) {t sz pl so bt : Int} {nb wl ou : Nat → Bool} {ar mk rc ip fd : Nat → Int} (hw : 30 < w.length) {p : Int} {a : Int} (hp : ¬ (0 ≤ p ∧ p < n)) (hr : iR p) : m_Cv G MX8_area (m_r (d + 3) 0 0) [.ref 22, vI p, vI a] (mw w t k W H sz pl so bt nb wl ar mk rc ou ip fd) (some (vB false)) (mw w 1 k W H sz pl so bt nb wl ar mk rc ou ip fd) := by
  have hFF := hF
  have hnb := hF.n
  obtain ⟨hk0, hk4, hW1, hW2, hH1, hH2, hn, hg4⟩ := hF
  refine m_enter (L := [some (.ref 22), some (vI p), some (vI a)]) (by decide) hG (m_c1 rfl) (Nat.le_of_ble_eq_true rfl) rfl ?_
  refine m_aload_n 1 dX8_area_0 rfl rfl ?_
  refine m_aload_n 2 dX8_area_1 rfl rfl ?_
  refine m_iload_n 3 dX8_area_2 rfl rfl ?_
  refine m_cV (M' := MX8_isPlace) 6 [_] kX8_70 imX8_isPlace seX8_isPlace clX8_isPlace dX8_area_3 rfl rfl rfl (mw_22 hw) (m_rmI (by omega) (Nat.le_of_ble_eq_true rfl) (Nat.le_refl _) (Nat.le_refl _)) (c_X8_isPlace hG d hFF hw hr) ?_
  refine b_if_ne 9 13 dX8_area_6 rfl (by decide) (fun h => absurd h (by rw [inB_0 hp]; decide)) (fun _ => ?_)
  refine i_const 10 dX8_area_9 rfl ?_
  refine m_goto 14 dX8_area_10 (by decide) ?_
  refine i_asB true rfl ?_
  refine m_cV (M' := MX8_fails) 17 [_] kX8_74 imX8_fails seX8_fails clX8_fails dX8_area_14 rfl rfl rfl (mw_22 hw) (m_rmI (by omega) (Nat.le_of_ble_eq_true rfl) (Nat.le_refl _) (Nat.le_refl _)) (c_X8_fails hG d hFF hw) ?_
  refine b_if_ne 20 28 dX8_area_17 rfl (by decide) (fun _ => ?_) (fun h => absurd h (by decide))
  refine i_const 29 dX8_area_28 rfl ?_
  refine i_retB _ dX8_area_29 rfl ⟨Nat.le_refl _, Nat.le_refl _⟩ ?_ ⟨rfl, rfl⟩
  refine i_eq0 ?_
  rfl
set_option maxHeartbeats 4000000 in
set_option maxRecDepth 100000 in
theorem c_X8_areaN (hG : m_G G) (d : Nat) {k W H : Int} {n : Nat} (hF : fOK k W H n) {t sz pl so bt : Int} {nb wl ou : Nat → Bool} {ar mk rc ip fd : Nat → Int} (hw : 30 < w.length) {p a : Int} (hp : 0 ≤ p ∧ p < n) (ha : ¬ (0 ≤ a ∧ a < n)) (hr : iR a) : m_Cv G MX8_area (m_r (d + 3) 0 0) [.ref 22, vI p, vI a] (mw w t k W H sz pl so bt nb wl ar mk rc ou ip fd) (some (vB false)) (mw w 0 k W H sz pl so bt nb wl ar mk rc ou ip fd) := by
  have hFF := hF
  have hnb := hF.n
  obtain ⟨hk0, hk4, hW1, hW2, hH1, hH2, hn, hg4⟩ := hF
  refine m_enter (L := [some (.ref 22), some (vI p), some (vI a)]) (by decide) hG (m_c1 rfl) (Nat.le_of_ble_eq_true rfl) rfl ?_
  refine m_aload_n 1 dX8_area_0 rfl rfl ?_
  refine m_aload_n 2 dX8_area_1 rfl rfl ?_
  refine m_iload_n 3 dX8_area_2 rfl rfl ?_
  refine m_cV (M' := MX8_isPlace) 6 [_] kX8_70 imX8_isPlace seX8_isPlace clX8_isPlace dX8_area_3 rfl rfl rfl (mw_22 hw) (m_rmI (by omega) (Nat.le_of_ble_eq_true rfl) (Nat.le_refl _) (Nat.le_refl _)) (c_X8_isPlace hG d hFF hw ⟨by omega, by omega⟩) ?_
  refine b_if_ne 9 13 dX8_area_6 rfl (by decide) (fun _ => ?_) (fun h => absurd h (by rw [inB_1 hp]; decide))
  refine i_const 14 dX8_area_13 rfl ?_
  refine i_asB false rfl ?_
  refine m_cV (M' := MX8_fails) 17 [_] kX8_74 imX8_fails seX8_fails clX8_fails dX8_area_14 rfl rfl rfl (mw_22 hw) (m_rmI (by omega) (Nat.le_of_ble_eq_true rfl) (Nat.le_refl _) (Nat.le_refl _)) (c_X8_fails hG d hFF hw) ?_
  refine b_if_ne 20 28 dX8_area_17 rfl (by decide) (fun h => absurd h (by decide)) (fun _ => ?_)
  refine m_aload_n 21 dX8_area_20 rfl rfl ?_
  refine m_iload_n 22 dX8_area_21 rfl rfl ?_
  refine m_cV (M' := MX8_isPlace) 25 [_] kX8_70 imX8_isPlace seX8_isPlace clX8_isPlace dX8_area_22 rfl rfl rfl (mw_22 hw) (m_rmI (by omega) (Nat.le_of_ble_eq_true rfl) (Nat.le_refl _) (Nat.le_refl _)) (c_X8_isPlace hG d hFF hw hr) ?_
  refine b_if_ne 28 30 dX8_area_25 rfl (by decide) (fun h => absurd h (by rw [inB_0 ha]; decide)) (fun _ => ?_)
  refine i_const 29 dX8_area_28 rfl ?_
  refine i_retB _ dX8_area_29 rfl ⟨Nat.le_refl _, Nat.le_refl _⟩ ?_ ⟨rfl, rfl⟩
  refine i_eq0 ?_
  rfl
set_option maxHeartbeats 4000000 in
set_option maxRecDepth 100000 in
theorem c_X8_areaY (hG : m_G G) (d : Nat) {k W H : Int} {n : Nat} (hF : fOK k W H n) {t sz pl so bt : Int} {nb wl ou : Nat → Bool} {ar mk rc ip fd : Nat → Int} (hw : 30 < w.length) {p a : Int} (hp : 0 ≤ p ∧ p < n) (ha : 0 ≤ a ∧ a < n) : m_Cv G MX8_area (m_r (d + 3) 0 0) [.ref 22, vI p, vI a] (mw w t k W H sz pl so bt nb wl ar mk rc ou ip fd) (some (vB true)) (mw w 0 k W H sz pl so bt nb wl (up ar p.toNat a) mk rc ou ip fd) := by
  have hFF := hF
  have hnb := hF.n
  obtain ⟨hk0, hk4, hW1, hW2, hH1, hH2, hn, hg4⟩ := hF
  refine m_enter (L := [some (.ref 22), some (vI p), some (vI a)]) (by decide) hG (m_c1 rfl) (Nat.le_of_ble_eq_true rfl) rfl ?_
  refine m_aload_n 1 dX8_area_0 rfl rfl ?_
  refine m_aload_n 2 dX8_area_1 rfl rfl ?_
  refine m_iload_n 3 dX8_area_2 rfl rfl ?_
  refine m_cV (M' := MX8_isPlace) 6 [_] kX8_70 imX8_isPlace seX8_isPlace clX8_isPlace dX8_area_3 rfl rfl rfl (mw_22 hw) (m_rmI (by omega) (Nat.le_of_ble_eq_true rfl) (Nat.le_refl _) (Nat.le_refl _)) (c_X8_isPlace hG d hFF hw ⟨by omega, by omega⟩) ?_
  refine b_if_ne 9 13 dX8_area_6 rfl (by decide) (fun _ => ?_) (fun h => absurd h (by rw [inB_1 hp]; decide))
  refine i_const 14 dX8_area_13 rfl ?_
  refine i_asB false rfl ?_
  refine m_cV (M' := MX8_fails) 17 [_] kX8_74 imX8_fails seX8_fails clX8_fails dX8_area_14 rfl rfl rfl (mw_22 hw) (m_rmI (by omega) (Nat.le_of_ble_eq_true rfl) (Nat.le_refl _) (Nat.le_refl _)) (c_X8_fails hG d hFF hw) ?_
  refine b_if_ne 20 28 dX8_area_17 rfl (by decide) (fun h => absurd h (by decide)) (fun _ => ?_)
  refine m_aload_n 21 dX8_area_20 rfl rfl ?_
  refine m_iload_n 22 dX8_area_21 rfl rfl ?_
  refine m_cV (M' := MX8_isPlace) 25 [_] kX8_70 imX8_isPlace seX8_isPlace clX8_isPlace dX8_area_22 rfl rfl rfl (mw_22 hw) (m_rmI (by omega) (Nat.le_of_ble_eq_true rfl) (Nat.le_refl _) (Nat.le_refl _)) (c_X8_isPlace hG d hFF hw ⟨by omega, by omega⟩) ?_
  refine b_if_ne 28 30 dX8_area_25 rfl (by decide) (fun _ => ?_) (fun h => absurd h (by rw [inB_1 ha]; decide))
  refine m_aload_n 31 dX8_area_30 rfl rfl ?_
  refine m_getf 34 foX8_17 dX8_area_31 rfl (mw_22 hw) (by rfl) ?_
  refine m_iload_n 35 dX8_area_34 rfl rfl ?_
  refine m_iload_n 36 dX8_area_35 rfl rfl ?_
  refine i_ast 37 dX8_area_36 rfl (mw_25 hw) ⟨by omega, by omega, by omega⟩ ?_
  rw [mw_s25]
  refine i_const 38 dX8_area_37 rfl ?_
  refine i_retB _ dX8_area_38 rfl ⟨Nat.le_refl _, Nat.le_refl _⟩ ?_ ⟨rfl, rfl⟩
  refine i_eq1 ?_
  rfl
set_option maxHeartbeats 4000000 in
set_option maxRecDepth 100000 in
theorem l_X8_size (hG : m_G G) (d : Nat) {k W H : Int} {n : Nat} (hF : fOK k W H n) {t sz pl so bt : Int} {nb wl ou : Nat → Bool} {ar mk rc ip fd : Nat → Int} (hw : 30 < w.length) {a r : Int} (ha : iR a) (hA : ∀ j, j < n → iR (ar j)) :
    ∀ (j : Nat) (i f : Int), 0 ≤ i → i + j = n → f + cntF (fun s => ar s.toNat == a) j i = r → m_J G MX8_size (m_r (d + 3) 0 0) (fun x y => x = some (some (vI r)) ∧ y = (mw w t k W H sz pl so bt nb wl ar mk rc ou ip fd)) 0 0 9 [some (.ref 22), some (vI a), some (vI f), some (vI i)] [] (mw w t k W H sz pl so bt nb wl ar mk rc ou ip fd) := by
  have hFF := hF
  have hnb := hF.n
  obtain ⟨hk0, hk4, hW1, hW2, hH1, hH2, hn, hg4⟩ := hF
  obtain ⟨ha1, ha2⟩ := ha
  intro j
  induction j with
  | zero =>
    intro i f hi hij ht
    refine m_iload_n 10 dX8_size_9 rfl rfl ?_
    refine m_aload_n 11 dX8_size_10 rfl rfl ?_
    refine m_cV (M' := MX8_all) 14 [] kX8_50 imX8_all seX8_all clX8_all dX8_size_11 rfl rfl rfl (mw_22 hw) (m_rmI (by omega) (Nat.le_of_ble_eq_true rfl) (Nat.le_refl _) (Nat.le_refl _)) (c_X8_all hG (d + 2) hFF hw) ?_
    refine i_icmp_ge 17 41 ⟨by omega, by omega⟩ ⟨by omega, by omega⟩ dX8_size_14 rfl (by decide) (fun _ => ?_) (fun h => absurd h (by omega))
    refine m_iload_n 42 dX8_size_41 rfl rfl ?_
    refine i_ret _ dX8_size_42 rfl ⟨Nat.le_refl _, Nat.le_refl _⟩ ?_ ⟨rfl, rfl⟩
    simp only [cntF] at ht; omega
  | succ j ih =>
    intro i f hi hij ht
    obtain ⟨hA1, hA2⟩ := hA i.toNat (by omega)
    unfold cntF at ht
    refine m_iload_n 10 dX8_size_9 rfl rfl ?_
    refine m_aload_n 11 dX8_size_10 rfl rfl ?_
    refine m_cV (M' := MX8_all) 14 [] kX8_50 imX8_all seX8_all clX8_all dX8_size_11 rfl rfl rfl (mw_22 hw) (m_rmI (by omega) (Nat.le_of_ble_eq_true rfl) (Nat.le_refl _) (Nat.le_refl _)) (c_X8_all hG (d + 2) hFF hw) ?_
    refine i_icmp_ge 17 41 ⟨by omega, by omega⟩ ⟨by omega, by omega⟩ dX8_size_14 rfl (by decide) (fun h => absurd h (by omega)) (fun _ => ?_)
    refine m_iload_n 18 dX8_size_17 rfl rfl ?_
    refine m_aload_n 19 dX8_size_18 rfl rfl ?_
    refine m_getf 22 foX8_17 dX8_size_19 rfl (mw_22 hw) (by rfl) ?_
    refine m_iload_n 23 dX8_size_22 rfl rfl ?_
    refine i_ald 24 dX8_size_23 rfl (mw_25 hw) ⟨by omega, by omega, by omega⟩ ?_
    refine m_iload_n 25 dX8_size_24 rfl rfl ?_
    refine i_icmp_ne 28 32 ⟨by omega, by omega⟩ ⟨by omega, by omega⟩ dX8_size_25 rfl (by decide) (fun q25 => ?_) (fun q25 => ?_)
    · refine i_const 33 dX8_size_32 rfl ?_
      refine i_add 34 dX8_size_33 rfl ?_
      refine m_istore_n 35 dX8_size_34 rfl (by decide) ?_
      refine i_inc 38 dX8_size_35 rfl rfl (by decide) ?_
      refine m_goto 9 dX8_size_38 (by decide) ?_
      refine ih _ _ (by omega) (by omega) ?_
      first
        | (rw [if_pos (by simpa using q25)] at ht; omega)
        | (rw [if_neg (by simpa using q25)] at ht; omega)
    · refine i_const 29 dX8_size_28 rfl ?_
      refine m_goto 33 dX8_size_29 (by decide) ?_
      refine i_add 34 dX8_size_33 rfl ?_
      refine m_istore_n 35 dX8_size_34 rfl (by decide) ?_
      refine i_inc 38 dX8_size_35 rfl rfl (by decide) ?_
      refine m_goto 9 dX8_size_38 (by decide) ?_
      refine ih _ _ (by omega) (by omega) ?_
      first
        | (rw [if_pos (by simpa using q25)] at ht; omega)
        | (rw [if_neg (by simpa using q25)] at ht; omega)
set_option maxHeartbeats 4000000 in
set_option maxRecDepth 100000 in
theorem c_X8_size (hG : m_G G) (d : Nat) {k W H : Int} {n : Nat} (hF : fOK k W H n) {t sz pl so bt : Int} {nb wl ou : Nat → Bool} {ar mk rc ip fd : Nat → Int} (hw : 30 < w.length) {a : Int} (ha : iR a) (hA : ∀ j, j < n → iR (ar j)) : m_Cv G MX8_size (m_r (d + 3) 0 0) [.ref 22, vI a] (mw w t k W H sz pl so bt nb wl ar mk rc ou ip fd) (some (vI (cntF (fun s => ar s.toNat == a) n 0))) (mw w 0 k W H sz pl so bt nb wl ar mk rc ou ip fd) := by
  have hFF := hF
  have hnb := hF.n
  obtain ⟨hk0, hk4, hW1, hW2, hH1, hH2, hn, hg4⟩ := hF
  refine m_enter (L := [some (.ref 22), some (vI a), none, none]) (by decide) hG (m_c1 rfl) (Nat.le_of_ble_eq_true rfl) rfl ?_
  refine m_aload_n 1 dX8_size_0 rfl rfl ?_
  refine i_const 2 dX8_size_1 rfl ?_
  refine p8_0 (M := MX8_size) 5 rfl dX8_size_2 rfl hw ?_
  refine i_const 6 dX8_size_5 rfl ?_
  refine m_istore_n 7 dX8_size_6 rfl (by decide) ?_
  refine i_const 8 dX8_size_7 rfl ?_
  refine m_istore_n 9 dX8_size_8 rfl (by decide) ?_
  exact l_X8_size hG d hFF hw ha hA n 0 0 (by omega) (by omega) (by omega)
set_option maxHeartbeats 4000000 in
set_option maxRecDepth 100000 in
theorem c_X8_markX (hG : m_G G) (d : Nat) {k W H : Int} {n : Nat} (hF : fOK k W H n) {t sz pl so bt : Int} {nb wl ou : Nat → Bool} {ar mk rc ip fd : Nat → Int} (hw : 30 < w.length) {p : Int} {a : Int} (hp : ¬ (0 ≤ p ∧ p < n)) (hr : iR p) : m_Cv G MX8_mark (m_r (d + 3) 0 0) [.ref 22, vI p, vI a] (mw w t k W H sz pl so bt nb wl ar mk rc ou ip fd) (some (vB false)) (mw w 1 k W H sz pl so bt nb wl ar mk rc ou ip fd) := by
  have hFF := hF
  have hnb := hF.n
  obtain ⟨hk0, hk4, hW1, hW2, hH1, hH2, hn, hg4⟩ := hF
  refine m_enter (L := [some (.ref 22), some (vI p), some (vI a)]) (by decide) hG (m_c1 rfl) (Nat.le_of_ble_eq_true rfl) rfl ?_
  refine m_aload_n 1 dX8_mark_0 rfl rfl ?_
  refine m_aload_n 2 dX8_mark_1 rfl rfl ?_
  refine m_iload_n 3 dX8_mark_2 rfl rfl ?_
  refine m_cV (M' := MX8_isPlace) 6 [_] kX8_70 imX8_isPlace seX8_isPlace clX8_isPlace dX8_mark_3 rfl rfl rfl (mw_22 hw) (m_rmI (by omega) (Nat.le_of_ble_eq_true rfl) (Nat.le_refl _) (Nat.le_refl _)) (c_X8_isPlace hG d hFF hw hr) ?_
  refine b_if_ne 9 13 dX8_mark_6 rfl (by decide) (fun h => absurd h (by rw [inB_0 hp]; decide)) (fun _ => ?_)
  refine i_const 10 dX8_mark_9 rfl ?_
  refine m_goto 14 dX8_mark_10 (by decide) ?_
  refine i_asB true rfl ?_
  refine m_cV (M' := MX8_fails) 17 [_] kX8_74 imX8_fails seX8_fails clX8_fails dX8_mark_14 rfl rfl rfl (mw_22 hw) (m_rmI (by omega) (Nat.le_of_ble_eq_true rfl) (Nat.le_refl _) (Nat.le_refl _)) (c_X8_fails hG d hFF hw) ?_
  refine b_if_ne 20 30 dX8_mark_17 rfl (by decide) (fun _ => ?_) (fun h => absurd h (by decide))
  refine i_const 31 dX8_mark_30 rfl ?_
  refine i_retB _ dX8_mark_31 rfl ⟨Nat.le_refl _, Nat.le_refl _⟩ ?_ ⟨rfl, rfl⟩
  refine i_eq0 ?_
  rfl
set_option maxHeartbeats 4000000 in
set_option maxRecDepth 100000 in
theorem c_X8_markN (hG : m_G G) (d : Nat) {k W H : Int} {n : Nat} (hF : fOK k W H n) {t sz pl so bt : Int} {nb wl ou : Nat → Bool} {ar mk rc ip fd : Nat → Int} (hw : 30 < w.length) {p a : Int} (hp : 0 ≤ p ∧ p < n) (ha : ¬ (0 ≤ a ∧ a ≤ 99)) (hr : iR a) : m_Cv G MX8_mark (m_r (d + 3) 0 0) [.ref 22, vI p, vI a] (mw w t k W H sz pl so bt nb wl ar mk rc ou ip fd) (some (vB false)) (mw w 0 k W H sz pl so bt nb wl ar mk rc ou ip fd) := by
  have hFF := hF
  have hnb := hF.n
  obtain ⟨hk0, hk4, hW1, hW2, hH1, hH2, hn, hg4⟩ := hF
  obtain ⟨hr1, hr2⟩ := hr
  refine m_enter (L := [some (.ref 22), some (vI p), some (vI a)]) (by decide) hG (m_c1 rfl) (Nat.le_of_ble_eq_true rfl) rfl ?_
  refine m_aload_n 1 dX8_mark_0 rfl rfl ?_
  refine m_aload_n 2 dX8_mark_1 rfl rfl ?_
  refine m_iload_n 3 dX8_mark_2 rfl rfl ?_
  refine m_cV (M' := MX8_isPlace) 6 [_] kX8_70 imX8_isPlace seX8_isPlace clX8_isPlace dX8_mark_3 rfl rfl rfl (mw_22 hw) (m_rmI (by omega) (Nat.le_of_ble_eq_true rfl) (Nat.le_refl _) (Nat.le_refl _)) (c_X8_isPlace hG d hFF hw ⟨by omega, by omega⟩) ?_
  refine b_if_ne 9 13 dX8_mark_6 rfl (by decide) (fun _ => ?_) (fun h => absurd h (by rw [inB_1 hp]; decide))
  refine i_const 14 dX8_mark_13 rfl ?_
  refine i_asB false rfl ?_
  refine m_cV (M' := MX8_fails) 17 [_] kX8_74 imX8_fails seX8_fails clX8_fails dX8_mark_14 rfl rfl rfl (mw_22 hw) (m_rmI (by omega) (Nat.le_of_ble_eq_true rfl) (Nat.le_refl _) (Nat.le_refl _)) (c_X8_fails hG d hFF hw) ?_
  refine b_if_ne 20 30 dX8_mark_17 rfl (by decide) (fun h => absurd h (by decide)) (fun _ => ?_)
  refine m_iload_n 21 dX8_mark_20 rfl rfl ?_
  refine i_if_lt 24 30 ⟨by omega, by omega⟩ dX8_mark_21 rfl (by decide) (fun q21 => ?_) (fun q21 => ?_)
  · refine i_const 31 dX8_mark_30 rfl ?_
    refine i_retB _ dX8_mark_31 rfl ⟨Nat.le_refl _, Nat.le_refl _⟩ ?_ ⟨rfl, rfl⟩
    refine i_eq0 ?_
    rfl
  · refine m_iload_n 25 dX8_mark_24 rfl rfl ?_
    refine i_bipush 27 99 dX8_mark_25 rfl (by decide) ?_
    refine i_icmp_le 30 32 ⟨by omega, by omega⟩ ⟨by omega, by omega⟩ dX8_mark_27 rfl (by decide) (fun q27 => ?_) (fun q27 => ?_)
    · exact absurd ha (by omega)
    · refine i_const 31 dX8_mark_30 rfl ?_
      refine i_retB _ dX8_mark_31 rfl ⟨Nat.le_refl _, Nat.le_refl _⟩ ?_ ⟨rfl, rfl⟩
      refine i_eq0 ?_
      rfl
set_option maxHeartbeats 4000000 in
set_option maxRecDepth 100000 in
theorem c_X8_markY (hG : m_G G) (d : Nat) {k W H : Int} {n : Nat} (hF : fOK k W H n) {t sz pl so bt : Int} {nb wl ou : Nat → Bool} {ar mk rc ip fd : Nat → Int} (hw : 30 < w.length) {p a : Int} (hp : 0 ≤ p ∧ p < n) (ha : 0 ≤ a ∧ a ≤ 99) : m_Cv G MX8_mark (m_r (d + 3) 0 0) [.ref 22, vI p, vI a] (mw w t k W H sz pl so bt nb wl ar mk rc ou ip fd) (some (vB true)) (mw w 0 k W H sz pl so bt nb wl ar (up mk p.toNat a) rc ou ip fd) := by
  have hFF := hF
  have hnb := hF.n
  obtain ⟨hk0, hk4, hW1, hW2, hH1, hH2, hn, hg4⟩ := hF
  refine m_enter (L := [some (.ref 22), some (vI p), some (vI a)]) (by decide) hG (m_c1 rfl) (Nat.le_of_ble_eq_true rfl) rfl ?_
  refine m_aload_n 1 dX8_mark_0 rfl rfl ?_
  refine m_aload_n 2 dX8_mark_1 rfl rfl ?_
  refine m_iload_n 3 dX8_mark_2 rfl rfl ?_
  refine m_cV (M' := MX8_isPlace) 6 [_] kX8_70 imX8_isPlace seX8_isPlace clX8_isPlace dX8_mark_3 rfl rfl rfl (mw_22 hw) (m_rmI (by omega) (Nat.le_of_ble_eq_true rfl) (Nat.le_refl _) (Nat.le_refl _)) (c_X8_isPlace hG d hFF hw ⟨by omega, by omega⟩) ?_
  refine b_if_ne 9 13 dX8_mark_6 rfl (by decide) (fun _ => ?_) (fun h => absurd h (by rw [inB_1 hp]; decide))
  refine i_const 14 dX8_mark_13 rfl ?_
  refine i_asB false rfl ?_
  refine m_cV (M' := MX8_fails) 17 [_] kX8_74 imX8_fails seX8_fails clX8_fails dX8_mark_14 rfl rfl rfl (mw_22 hw) (m_rmI (by omega) (Nat.le_of_ble_eq_true rfl) (Nat.le_refl _) (Nat.le_refl _)) (c_X8_fails hG d hFF hw) ?_
  refine b_if_ne 20 30 dX8_mark_17 rfl (by decide) (fun h => absurd h (by decide)) (fun _ => ?_)
  refine m_iload_n 21 dX8_mark_20 rfl rfl ?_
  refine i_if_lt 24 30 ⟨by omega, by omega⟩ dX8_mark_21 rfl (by decide) (fun h => absurd h (by omega)) (fun _ => ?_)
  refine m_iload_n 25 dX8_mark_24 rfl rfl ?_
  refine i_bipush 27 99 dX8_mark_25 rfl (by decide) ?_
  refine i_icmp_le 30 32 ⟨by omega, by omega⟩ ⟨by omega, by omega⟩ dX8_mark_27 rfl (by decide) (fun _ => ?_) (fun h => absurd h (by omega))
  refine m_aload_n 33 dX8_mark_32 rfl rfl ?_
  refine m_getf 36 foX8_21 dX8_mark_33 rfl (mw_22 hw) (by rfl) ?_
  refine m_iload_n 37 dX8_mark_36 rfl rfl ?_
  refine m_iload_n 38 dX8_mark_37 rfl rfl ?_
  refine i_ast 39 dX8_mark_38 rfl (mw_26 hw) ⟨by omega, by omega, by omega⟩ ?_
  rw [mw_s26]
  refine i_const 40 dX8_mark_39 rfl ?_
  refine i_retB _ dX8_mark_40 rfl ⟨Nat.le_refl _, Nat.le_refl _⟩ ?_ ⟨rfl, rfl⟩
  refine i_eq1 ?_
  rfl
set_option maxHeartbeats 4000000 in
set_option maxRecDepth 100000 in
theorem c_X8_isTurn (hG : m_G G) (d : Nat) {k W H : Int} {n : Nat} (hF : fOK k W H n) {t sz pl so bt : Int} {nb wl ou : Nat → Bool} {ar mk rc ip fd : Nat → Int} (hw : 30 < w.length) {z : Int} (hz : iR z) : m_Cv G MX8_isTurn (m_r d 0 0) [.ref 22, vI z] (mw w t k W H sz pl so bt nb wl ar mk rc ou ip fd) (some (vB (inB z (tuN k W H)))) (mw w t k W H sz pl so bt nb wl ar mk rc ou ip fd) := by
  have hFF := hF
  have hnb := hF.n
  obtain ⟨hk0, hk4, hW1, hW2, hH1, hH2, hn, hg4⟩ := hF
  obtain ⟨hz1, hz2⟩ := hz
  have e4 : k = 4 → tuN k W H = 1 := fun h => by unfold tuN; rw [if_pos h]
  have e3 : k ≠ 4 → k = 3 → tuN k W H = 2 * W := fun h1 h2 => by unfold tuN; rw [if_neg h1, if_pos h2]
  have e8 : k ≠ 4 → k ≠ 3 → W = H → tuN k W H = 8 := fun h1 h2 h3 => by unfold tuN; rw [if_neg h1, if_neg h2, if_pos h3]
  have e9 : k ≠ 4 → k ≠ 3 → W ≠ H → tuN k W H = 4 := fun h1 h2 h3 => by unfold tuN; rw [if_neg h1, if_neg h2, if_neg h3]
  refine m_enter (L := [some (.ref 22), some (vI z), none]) (by decide) hG (m_c1 rfl) (Nat.le_of_ble_eq_true rfl) rfl ?_
  refine m_aload_n 1 dX8_isTurn_0 rfl rfl ?_
  refine m_getf 4 foX8_40 dX8_isTurn_1 rfl (mw_22 hw) (by rfl) ?_
  refine i_const 5 dX8_isTurn_4 rfl ?_
  refine i_icmp_ne 8 12 ⟨by omega, by omega⟩ ⟨by omega, by omega⟩ dX8_isTurn_5 rfl (by decide) (fun q5 => ?_) (fun q5 => ?_)
  · refine m_aload_n 13 dX8_isTurn_12 rfl rfl ?_
    refine m_getf 16 foX8_40 dX8_isTurn_13 rfl (mw_22 hw) (by rfl) ?_
    refine i_const 17 dX8_isTurn_16 rfl ?_
    refine i_icmp_ne 20 29 ⟨by omega, by omega⟩ ⟨by omega, by omega⟩ dX8_isTurn_17 rfl (by decide) (fun q17 => ?_) (fun q17 => ?_)
    · refine m_aload_n 30 dX8_isTurn_29 rfl rfl ?_
      refine m_getf 33 foX8_44 dX8_isTurn_30 rfl (mw_22 hw) (by rfl) ?_
      refine m_aload_n 34 dX8_isTurn_33 rfl rfl ?_
      refine m_getf 37 foX8_47 dX8_isTurn_34 rfl (mw_22 hw) (by rfl) ?_
      refine i_icmp_ne 40 45 ⟨by omega, by omega⟩ ⟨by omega, by omega⟩ dX8_isTurn_37 rfl (by decide) (fun q37 => ?_) (fun q37 => ?_)
      · refine i_const 46 dX8_isTurn_45 rfl ?_
        refine m_istore_n 47 dX8_isTurn_46 rfl (by decide) ?_
        refine m_iload_n 48 dX8_isTurn_47 rfl rfl ?_
        refine i_if_lt 51 60 ⟨by omega, by omega⟩ dX8_isTurn_48 rfl (by decide) (fun q48 => ?_) (fun q48 => ?_)
        · refine i_const 61 dX8_isTurn_60 rfl ?_
          refine i_retB _ dX8_isTurn_61 rfl ⟨Nat.le_refl _, Nat.le_refl _⟩ ?_ ⟨rfl, rfl⟩
          refine i_eq0 ?_
          exact inB_0 (by first | (rw [e4 (by omega)]; omega) | (rw [e3 (by omega) (by omega)]; omega) | (rw [e8 (by omega) (by omega) (by omega)]; omega) | (rw [e9 (by omega) (by omega) (by omega)]; omega))
        · refine m_iload_n 52 dX8_isTurn_51 rfl rfl ?_
          refine m_iload_n 53 dX8_isTurn_52 rfl rfl ?_
          refine i_icmp_ge 56 60 ⟨by omega, by omega⟩ ⟨by omega, by omega⟩ dX8_isTurn_53 rfl (by decide) (fun q53 => ?_) (fun q53 => ?_)
          · refine i_const 61 dX8_isTurn_60 rfl ?_
            refine i_retB _ dX8_isTurn_61 rfl ⟨Nat.le_refl _, Nat.le_refl _⟩ ?_ ⟨rfl, rfl⟩
            refine i_eq0 ?_
            exact inB_0 (by first | (rw [e4 (by omega)]; omega) | (rw [e3 (by omega) (by omega)]; omega) | (rw [e8 (by omega) (by omega) (by omega)]; omega) | (rw [e9 (by omega) (by omega) (by omega)]; omega))
          · refine i_const 57 dX8_isTurn_56 rfl ?_
            refine m_goto 61 dX8_isTurn_57 (by decide) ?_
            refine i_retB _ dX8_isTurn_61 rfl ⟨Nat.le_refl _, Nat.le_refl _⟩ ?_ ⟨rfl, rfl⟩
            refine i_eq1 ?_
            exact inB_1 (by first | (rw [e4 (by omega)]; omega) | (rw [e3 (by omega) (by omega)]; omega) | (rw [e8 (by omega) (by omega) (by omega)]; omega) | (rw [e9 (by omega) (by omega) (by omega)]; omega))
      · refine i_bipush 42 8 dX8_isTurn_40 rfl (by decide) ?_
        refine m_goto 46 dX8_isTurn_42 (by decide) ?_
        refine m_istore_n 47 dX8_isTurn_46 rfl (by decide) ?_
        refine m_iload_n 48 dX8_isTurn_47 rfl rfl ?_
        refine i_if_lt 51 60 ⟨by omega, by omega⟩ dX8_isTurn_48 rfl (by decide) (fun q48 => ?_) (fun q48 => ?_)
        · refine i_const 61 dX8_isTurn_60 rfl ?_
          refine i_retB _ dX8_isTurn_61 rfl ⟨Nat.le_refl _, Nat.le_refl _⟩ ?_ ⟨rfl, rfl⟩
          refine i_eq0 ?_
          exact inB_0 (by first | (rw [e4 (by omega)]; omega) | (rw [e3 (by omega) (by omega)]; omega) | (rw [e8 (by omega) (by omega) (by omega)]; omega) | (rw [e9 (by omega) (by omega) (by omega)]; omega))
        · refine m_iload_n 52 dX8_isTurn_51 rfl rfl ?_
          refine m_iload_n 53 dX8_isTurn_52 rfl rfl ?_
          refine i_icmp_ge 56 60 ⟨by omega, by omega⟩ ⟨by omega, by omega⟩ dX8_isTurn_53 rfl (by decide) (fun q53 => ?_) (fun q53 => ?_)
          · refine i_const 61 dX8_isTurn_60 rfl ?_
            refine i_retB _ dX8_isTurn_61 rfl ⟨Nat.le_refl _, Nat.le_refl _⟩ ?_ ⟨rfl, rfl⟩
            refine i_eq0 ?_
            exact inB_0 (by first | (rw [e4 (by omega)]; omega) | (rw [e3 (by omega) (by omega)]; omega) | (rw [e8 (by omega) (by omega) (by omega)]; omega) | (rw [e9 (by omega) (by omega) (by omega)]; omega))
          · refine i_const 57 dX8_isTurn_56 rfl ?_
            refine m_goto 61 dX8_isTurn_57 (by decide) ?_
            refine i_retB _ dX8_isTurn_61 rfl ⟨Nat.le_refl _, Nat.le_refl _⟩ ?_ ⟨rfl, rfl⟩
            refine i_eq1 ?_
            exact inB_1 (by first | (rw [e4 (by omega)]; omega) | (rw [e3 (by omega) (by omega)]; omega) | (rw [e8 (by omega) (by omega) (by omega)]; omega) | (rw [e9 (by omega) (by omega) (by omega)]; omega))
    · refine i_const 21 dX8_isTurn_20 rfl ?_
      refine m_aload_n 22 dX8_isTurn_21 rfl rfl ?_
      refine m_getf 25 foX8_44 dX8_isTurn_22 rfl (mw_22 hw) (by rfl) ?_
      refine i_mul 26 dX8_isTurn_25 rfl ?_
      refine m_goto 46 dX8_isTurn_26 (by decide) ?_
      refine m_istore_n 47 dX8_isTurn_46 rfl (by decide) ?_
      refine m_iload_n 48 dX8_isTurn_47 rfl rfl ?_
      refine i_if_lt 51 60 ⟨by omega, by omega⟩ dX8_isTurn_48 rfl (by decide) (fun q48 => ?_) (fun q48 => ?_)
      · refine i_const 61 dX8_isTurn_60 rfl ?_
        refine i_retB _ dX8_isTurn_61 rfl ⟨Nat.le_refl _, Nat.le_refl _⟩ ?_ ⟨rfl, rfl⟩
        refine i_eq0 ?_
        exact inB_0 (by first | (rw [e4 (by omega)]; omega) | (rw [e3 (by omega) (by omega)]; omega) | (rw [e8 (by omega) (by omega) (by omega)]; omega) | (rw [e9 (by omega) (by omega) (by omega)]; omega))
      · refine m_iload_n 52 dX8_isTurn_51 rfl rfl ?_
        refine m_iload_n 53 dX8_isTurn_52 rfl rfl ?_
        refine i_icmp_ge 56 60 ⟨by omega, by omega⟩ ⟨by omega, by omega⟩ dX8_isTurn_53 rfl (by decide) (fun q53 => ?_) (fun q53 => ?_)
        · refine i_const 61 dX8_isTurn_60 rfl ?_
          refine i_retB _ dX8_isTurn_61 rfl ⟨Nat.le_refl _, Nat.le_refl _⟩ ?_ ⟨rfl, rfl⟩
          refine i_eq0 ?_
          exact inB_0 (by first | (rw [e4 (by omega)]; omega) | (rw [e3 (by omega) (by omega)]; omega) | (rw [e8 (by omega) (by omega) (by omega)]; omega) | (rw [e9 (by omega) (by omega) (by omega)]; omega))
        · refine i_const 57 dX8_isTurn_56 rfl ?_
          refine m_goto 61 dX8_isTurn_57 (by decide) ?_
          refine i_retB _ dX8_isTurn_61 rfl ⟨Nat.le_refl _, Nat.le_refl _⟩ ?_ ⟨rfl, rfl⟩
          refine i_eq1 ?_
          exact inB_1 (by first | (rw [e4 (by omega)]; omega) | (rw [e3 (by omega) (by omega)]; omega) | (rw [e8 (by omega) (by omega) (by omega)]; omega) | (rw [e9 (by omega) (by omega) (by omega)]; omega))
  · refine i_const 9 dX8_isTurn_8 rfl ?_
    refine m_goto 46 dX8_isTurn_9 (by decide) ?_
    refine m_istore_n 47 dX8_isTurn_46 rfl (by decide) ?_
    refine m_iload_n 48 dX8_isTurn_47 rfl rfl ?_
    refine i_if_lt 51 60 ⟨by omega, by omega⟩ dX8_isTurn_48 rfl (by decide) (fun q48 => ?_) (fun q48 => ?_)
    · refine i_const 61 dX8_isTurn_60 rfl ?_
      refine i_retB _ dX8_isTurn_61 rfl ⟨Nat.le_refl _, Nat.le_refl _⟩ ?_ ⟨rfl, rfl⟩
      refine i_eq0 ?_
      exact inB_0 (by first | (rw [e4 (by omega)]; omega) | (rw [e3 (by omega) (by omega)]; omega) | (rw [e8 (by omega) (by omega) (by omega)]; omega) | (rw [e9 (by omega) (by omega) (by omega)]; omega))
    · refine m_iload_n 52 dX8_isTurn_51 rfl rfl ?_
      refine m_iload_n 53 dX8_isTurn_52 rfl rfl ?_
      refine i_icmp_ge 56 60 ⟨by omega, by omega⟩ ⟨by omega, by omega⟩ dX8_isTurn_53 rfl (by decide) (fun q53 => ?_) (fun q53 => ?_)
      · refine i_const 61 dX8_isTurn_60 rfl ?_
        refine i_retB _ dX8_isTurn_61 rfl ⟨Nat.le_refl _, Nat.le_refl _⟩ ?_ ⟨rfl, rfl⟩
        refine i_eq0 ?_
        exact inB_0 (by first | (rw [e4 (by omega)]; omega) | (rw [e3 (by omega) (by omega)]; omega) | (rw [e8 (by omega) (by omega) (by omega)]; omega) | (rw [e9 (by omega) (by omega) (by omega)]; omega))
      · refine i_const 57 dX8_isTurn_56 rfl ?_
        refine m_goto 61 dX8_isTurn_57 (by decide) ?_
        refine i_retB _ dX8_isTurn_61 rfl ⟨Nat.le_refl _, Nat.le_refl _⟩ ?_ ⟨rfl, rfl⟩
        refine i_eq1 ?_
        exact inB_1 (by first | (rw [e4 (by omega)]; omega) | (rw [e3 (by omega) (by omega)]; omega) | (rw [e8 (by omega) (by omega) (by omega)]; omega) | (rw [e9 (by omega) (by omega) (by omega)]; omega))
def TM (k W H t : Int) : Int → Int := fun z => trn k W H t (z % W) (z / W)
end MQ
