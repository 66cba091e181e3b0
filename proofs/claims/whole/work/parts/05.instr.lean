section MJ
variable {G : mG} {M : mM} {R : Room} {Q : Option (Option Value) → List mC → Prop} {nc ns pc : Nat} {L : List (Option Value)} {st : List Value} {w : List mC}
theorem m_word {U : State} (hG : m_G G) (hW : G.2.1.WarmedH U.vm) {x : Cond} (hx : x ∈ lw_tbl) (hg : goodWord x = true) (a : Array Value) : x.before a U = true := word_at hW (good_of_word hg) (hG.2.1 x hx)
theorem m_K {U : State} (hG : m_G G) (hW : G.2.1.WarmedH U.vm) : va_K G.2.2.2 mCl [] U := va_K.moved hW.alike hG.2.2.1
theorem m_iconst (pc' : Nat) {z : Int} {v : Int32} (hd : decode M.2.1 pc = .ok (.iconst z, 1)) (hp : pc + 1 = pc') (hv : Int32.ofInt z = v)
    (k : m_J G M R Q nc ns pc' L (.int v :: st) w) : m_J G M R Q nc ns pc L (st) w := by
  intro p e s m args below meth c C H locs ls hR hlo hL
  subst hp
  exact lv_iconst C.1 C.2.1 hd hv (k p e s m args below meth c C H locs ls hR hlo hL)
theorem m_bipush (pc' : Nat) {z : Int} {v : Int32} (hd : decode M.2.1 pc = .ok (.bipush z, 2)) (hp : pc + 2 = pc') (hv : (Int8.ofInt z).toInt32 = v)
    (k : m_J G M R Q nc ns pc' L (.int v :: st) w) : m_J G M R Q nc ns pc L (st) w := by
  intro p e s m args below meth c C H locs ls hR hlo hL
  subst hp
  exact lv_bipush C.1 C.2.1 hd hv (k p e s m args below meth c C H locs ls hR hlo hL)
theorem m_sipush (pc' : Nat) {z : Int} {v : Int32} (hd : decode M.2.1 pc = .ok (.sipush z, 3)) (hp : pc + 3 = pc') (hv : (Int16.ofInt z).toInt32 = v)
    (k : m_J G M R Q nc ns pc' L (.int v :: st) w) : m_J G M R Q nc ns pc L (st) w := by
  intro p e s m args below meth c C H locs ls hR hlo hL
  subst hp
  exact lv_sipush C.1 C.2.1 hd hv (k p e s m args below meth c C H locs ls hR hlo hL)
theorem m_lconst (pc' : Nat) {z : Fin 2} {v : Int64} (hd : decode M.2.1 pc = .ok (.lconst z, 1)) (hp : pc + 1 = pc') (hv : Int64.ofNat (z : Nat) = v)
    (k : m_J G M R Q nc ns pc' L (.long v :: st) w) : m_J G M R Q nc ns pc L (st) w := by
  intro p e s m args below meth c C H locs ls hR hlo hL
  subst hp
  exact lv_lconst C.1 C.2.1 hd hv (k p e s m args below meth c C H locs ls hR hlo hL)
theorem m_iload_n (pc' : Nat) {z : Fin 4} {x : Int32} (hd : decode M.2.1 pc = .ok (.iload_n z, 1)) (hp : pc + 1 = pc') (hl : L[(z : Nat)]? = some (some (.int x)))
    (k : m_J G M R Q nc ns pc' L (.int x :: st) w) : m_J G M R Q nc ns pc L (st) w := by
  intro p e s m args below meth c C H locs ls hR hlo hL
  subst hp
  exact lv_iload_n C.1 C.2.1 hd rfl ((hL.2.2.2 _ _ hl).2) (k p e s m args below meth c C H locs ls hR hlo hL)
theorem m_iload (pc' : Nat) {i : Nat} {x : Int32} (hd : decode M.2.1 pc = .ok (.iload i, 2)) (hp : pc + 2 = pc') (hl : L[i]? = some (some (.int x)))
    (k : m_J G M R Q nc ns pc' L (.int x :: st) w) : m_J G M R Q nc ns pc L (st) w := by
  intro p e s m args below meth c C H locs ls hR hlo hL
  subst hp
  exact lv_iload C.1 C.2.1 hd ((hL.2.2.2 _ _ hl).2) (k p e s m args below meth c C H locs ls hR hlo hL)
theorem m_aload_n (pc' : Nat) {z : Fin 4} {x : Nat} (hd : decode M.2.1 pc = .ok (.aload_n z, 1)) (hp : pc + 1 = pc') (hl : L[(z : Nat)]? = some (some (.ref x)))
    (k : m_J G M R Q nc ns pc' L (.ref x :: st) w) : m_J G M R Q nc ns pc L (st) w := by
  intro p e s m args below meth c C H locs ls hR hlo hL
  subst hp
  exact lv_aload_n C.1 C.2.1 hd rfl ((hL.2.2.2 _ _ hl).2) (k p e s m args below meth c C H locs ls hR hlo hL)
theorem m_aload (pc' : Nat) {i x : Nat} (hd : decode M.2.1 pc = .ok (.aload i, 2)) (hp : pc + 2 = pc') (hl : L[i]? = some (some (.ref x)))
    (k : m_J G M R Q nc ns pc' L (.ref x :: st) w) : m_J G M R Q nc ns pc L (st) w := by
  intro p e s m args below meth c C H locs ls hR hlo hL
  subst hp
  exact lv_aload C.1 C.2.1 hd ((hL.2.2.2 _ _ hl).2) (k p e s m args below meth c C H locs ls hR hlo hL)
theorem m_iadd (pc' : Nat) {x y : Int32} (hd : decode M.2.1 pc = .ok (.iadd, 1)) (hp : pc + 1 = pc') 
    (k : m_J G M R Q nc ns pc' L (.int (x + y) :: st) w) : m_J G M R Q nc ns pc L (.int y :: .int x :: st) w := by
  intro p e s m args below meth c C H locs ls hR hlo hL
  subst hp
  exact lv_iadd C.1 C.2.1 hd  (k p e s m args below meth c C H locs ls hR hlo hL)
theorem m_isub (pc' : Nat) {x y : Int32} (hd : decode M.2.1 pc = .ok (.isub, 1)) (hp : pc + 1 = pc') 
    (k : m_J G M R Q nc ns pc' L (.int (x - y) :: st) w) : m_J G M R Q nc ns pc L (.int y :: .int x :: st) w := by
  intro p e s m args below meth c C H locs ls hR hlo hL
  subst hp
  exact lv_isub C.1 C.2.1 hd  (k p e s m args below meth c C H locs ls hR hlo hL)
theorem m_imul (pc' : Nat) {x y : Int32} (hd : decode M.2.1 pc = .ok (.imul, 1)) (hp : pc + 1 = pc') 
    (k : m_J G M R Q nc ns pc' L (.int (x * y) :: st) w) : m_J G M R Q nc ns pc L (.int y :: .int x :: st) w := by
  intro p e s m args below meth c C H locs ls hR hlo hL
  subst hp
  exact lv_imul C.1 C.2.1 hd  (k p e s m args below meth c C H locs ls hR hlo hL)
theorem m_iand (pc' : Nat) {x y : Int32} (hd : decode M.2.1 pc = .ok (.iand, 1)) (hp : pc + 1 = pc') 
    (k : m_J G M R Q nc ns pc' L (.int (x &&& y) :: st) w) : m_J G M R Q nc ns pc L (.int y :: .int x :: st) w := by
  intro p e s m args below meth c C H locs ls hR hlo hL
  subst hp
  exact lv_iand C.1 C.2.1 hd  (k p e s m args below meth c C H locs ls hR hlo hL)
theorem m_ior (pc' : Nat) {x y : Int32} (hd : decode M.2.1 pc = .ok (.ior, 1)) (hp : pc + 1 = pc') 
    (k : m_J G M R Q nc ns pc' L (.int (x ||| y) :: st) w) : m_J G M R Q nc ns pc L (.int y :: .int x :: st) w := by
  intro p e s m args below meth c C H locs ls hR hlo hL
  subst hp
  exact lv_ior C.1 C.2.1 hd  (k p e s m args below meth c C H locs ls hR hlo hL)
theorem m_ixor (pc' : Nat) {x y : Int32} (hd : decode M.2.1 pc = .ok (.ixor, 1)) (hp : pc + 1 = pc') 
    (k : m_J G M R Q nc ns pc' L (.int (x ^^^ y) :: st) w) : m_J G M R Q nc ns pc L (.int y :: .int x :: st) w := by
  intro p e s m args below meth c C H locs ls hR hlo hL
  subst hp
  exact lv_ixor C.1 C.2.1 hd  (k p e s m args below meth c C H locs ls hR hlo hL)
theorem m_ishr (pc' : Nat) {x y : Int32} (hd : decode M.2.1 pc = .ok (.ishr, 1)) (hp : pc + 1 = pc') 
    (k : m_J G M R Q nc ns pc' L (.int (x >>> (y &&& 31)) :: st) w) : m_J G M R Q nc ns pc L (.int y :: .int x :: st) w := by
  intro p e s m args below meth c C H locs ls hR hlo hL
  subst hp
  exact lv_ishr C.1 C.2.1 hd  (k p e s m args below meth c C H locs ls hR hlo hL)
theorem m_ishl (pc' : Nat) {x y : Int32} (hd : decode M.2.1 pc = .ok (.ishl, 1)) (hp : pc + 1 = pc') 
    (k : m_J G M R Q nc ns pc' L (.int (x <<< (y &&& 31)) :: st) w) : m_J G M R Q nc ns pc L (.int y :: .int x :: st) w := by
  intro p e s m args below meth c C H locs ls hR hlo hL
  subst hp
  exact lv_ishl C.1 C.2.1 hd  (k p e s m args below meth c C H locs ls hR hlo hL)
theorem m_idiv (pc' : Nat) {x y : Int32} (hd : decode M.2.1 pc = .ok (.idiv, 1)) (hp : pc + 1 = pc') (hne : ¬ y = 0)
    (k : m_J G M R Q nc ns pc' L (.int (x / y) :: st) w) : m_J G M R Q nc ns pc L (.int y :: .int x :: st) w := by
  intro p e s m args below meth c C H locs ls hR hlo hL
  subst hp
  exact lv_idiv C.1 C.2.1 hd hne (k p e s m args below meth c C H locs ls hR hlo hL)
theorem m_irem (pc' : Nat) {x y : Int32} (hd : decode M.2.1 pc = .ok (.irem, 1)) (hp : pc + 1 = pc') (hne : ¬ y = 0)
    (k : m_J G M R Q nc ns pc' L (.int (x - x / y * y) :: st) w) : m_J G M R Q nc ns pc L (.int y :: .int x :: st) w := by
  intro p e s m args below meth c C H locs ls hR hlo hL
  subst hp
  exact lv_irem C.1 C.2.1 hd hne (k p e s m args below meth c C H locs ls hR hlo hL)
theorem m_i2l (pc' : Nat) {x : Int32} (hd : decode M.2.1 pc = .ok (.i2l, 1)) (hp : pc + 1 = pc') 
    (k : m_J G M R Q nc ns pc' L (.long x.toInt64 :: st) w) : m_J G M R Q nc ns pc L (.int x :: st) w := by
  intro p e s m args below meth c C H locs ls hR hlo hL
  subst hp
  exact lv_i2l C.1 C.2.1 hd rfl (k p e s m args below meth c C H locs ls hR hlo hL)
theorem m_dup (pc' : Nat) {v : Value} (hd : decode M.2.1 pc = .ok (.dup, 1)) (hp : pc + 1 = pc') (hv : v.category = 1)
    (k : m_J G M R Q nc ns pc' L (v :: v :: st) w) : m_J G M R Q nc ns pc L (v :: st) w := by
  intro p e s m args below meth c C H locs ls hR hlo hL
  subst hp
  exact lv_dup C.1 C.2.1 hd (by rw [m_cat]; exact hv) (k p e s m args below meth c C H locs ls hR hlo hL)
theorem m_pop (pc' : Nat) {v : Value} (hd : decode M.2.1 pc = .ok (.pop, 1)) (hp : pc + 1 = pc') (hv : v.category = 1)
    (k : m_J G M R Q nc ns pc' L (st) w) : m_J G M R Q nc ns pc L (v :: st) w := by
  intro p e s m args below meth c C H locs ls hR hlo hL
  subst hp
  exact lv_pop C.1 C.2.1 hd (by rw [m_cat]; exact hv) (k p e s m args below meth c C H locs ls hR hlo hL)
theorem m_dup_x1 (pc' : Nat) {v u : Value} (hd : decode M.2.1 pc = .ok (.dup_x1, 1)) (hp : pc + 1 = pc') (hv : v.category = 1) (hu : u.category = 1)
    (k : m_J G M R Q nc ns pc' L (v :: u :: v :: st) w) : m_J G M R Q nc ns pc L (v :: u :: st) w := by
  intro p e s m args below meth c C H locs ls hR hlo hL
  subst hp
  exact lv_dup_x1 C.1 C.2.1 hd (by rw [m_cat]; exact hv) (by rw [m_cat]; exact hu) (k p e s m args below meth c C H locs ls hR hlo hL)
theorem m_dup2 (pc' : Nat) {v u : Value} (hd : decode M.2.1 pc = .ok (.dup2, 1)) (hp : pc + 1 = pc') (hv : v.category = 1) (hu : u.category = 1)
    (k : m_J G M R Q nc ns pc' L (v :: u :: v :: u :: st) w) : m_J G M R Q nc ns pc L (v :: u :: st) w := by
  intro p e s m args below meth c C H locs ls hR hlo hL
  subst hp
  exact lv_dup2_11 C.1 C.2.1 hd (by rw [m_cat]; exact hv) (by rw [m_cat]; exact hu) (k p e s m args below meth c C H locs ls hR hlo hL)
theorem m_istore_n (pc' : Nat) {z : Fin 4} {x : Int32} (hd : decode M.2.1 pc = .ok (.istore_n z, 1)) (hp : pc + 1 = pc') (hi : (z : Nat) < M.2.2.1)
    (k : m_J G M R Q nc ns pc' (L.set (z : Nat) (some (.int x))) st w) : m_J G M R Q nc ns pc L (.int x :: st) w := by
  intro p e s m args below meth c C H locs ls hR hlo hL
  subst hp
  exact lv_istore_n C.1 C.2.1 hd rfl hL.has hi rfl (fun ls' h' => k p e s m args below meth c C H locs ls' hR hlo (hL.stored rfl h'))
theorem m_istore (pc' : Nat) {i : Nat} {x : Int32} (hd : decode M.2.1 pc = .ok (.istore i, 2)) (hp : pc + 2 = pc') (hi : i < M.2.2.1)
    (k : m_J G M R Q nc ns pc' (L.set i (some (.int x))) st w) : m_J G M R Q nc ns pc L (.int x :: st) w := by
  intro p e s m args below meth c C H locs ls hR hlo hL
  subst hp
  exact lv_istore C.1 C.2.1 hd hL.has hi rfl (fun ls' h' => k p e s m args below meth c C H locs ls' hR hlo (hL.stored rfl h'))
theorem m_astore_n (pc' : Nat) {z : Fin 4} {x : Nat} (hd : decode M.2.1 pc = .ok (.astore_n z, 1)) (hp : pc + 1 = pc') (hi : (z : Nat) < M.2.2.1)
    (k : m_J G M R Q nc ns pc' (L.set (z : Nat) (some (.ref x))) st w) : m_J G M R Q nc ns pc L (.ref x :: st) w := by
  intro p e s m args below meth c C H locs ls hR hlo hL
  subst hp
  exact lv_astore_n C.1 C.2.1 hd rfl hL.has hi rfl (fun ls' h' => k p e s m args below meth c C H locs ls' hR hlo (hL.stored rfl h'))
theorem m_astore (pc' : Nat) {i x : Nat} (hd : decode M.2.1 pc = .ok (.astore i, 2)) (hp : pc + 2 = pc') (hi : i < M.2.2.1)
    (k : m_J G M R Q nc ns pc' (L.set i (some (.ref x))) st w) : m_J G M R Q nc ns pc L (.ref x :: st) w := by
  intro p e s m args below meth c C H locs ls hR hlo hL
  subst hp
  exact lv_astore C.1 C.2.1 hd hL.has hi rfl (fun ls' h' => k p e s m args below meth c C H locs ls' hR hlo (hL.stored rfl h'))
theorem m_iinc (pc' : Nat) {i : Nat} {z : Int} {x v : Int32} (hd : decode M.2.1 pc = .ok (.iinc i z, 3)) (hp : pc + 3 = pc') (hl : L[i]? = some (some (.int x))) (hv : x + Int32.ofInt z = v) (hi : i < M.2.2.1)
    (k : m_J G M R Q nc ns pc' (L.set i (some (.int v))) st w) : m_J G M R Q nc ns pc L st w := by
  intro p e s m args below meth c C H locs ls hR hlo hL
  subst hp
  obtain ⟨q, hq⟩ := List.getElem?_of_mem ((m_ll_mem (G := G) (L := L) (q := (i, .int x))).mpr ⟨.int x, hl, rfl⟩)
  exact lv_iinc C.1 C.2.1 hd hL.has hq hv hi rfl (fun ls' h' => k p e s m args below meth c C H locs ls' hR hlo (hL.stored rfl h'))
theorem m_if_eq (pc' tgt : Nat) {x : Int32} {off : Int} (hd : decode M.2.1 pc = .ok (.ifCond .eq off, 3)) (hp : pc + 3 = pc') (ht : (pc : Int) + off = (tgt : Int))
    (kt : x = 0 → m_J G M R Q nc ns tgt L st w) (kf : ¬ x = 0 → m_J G M R Q nc ns pc' L st w) : m_J G M R Q nc ns pc L (.int x :: st) w := by
  intro p e s m args below meth c C H locs ls hR hlo hL
  subst hp
  exact lv_if_eq C.1 C.2.1 hd ht (fun h => kt h p e s m args below meth c C H locs ls hR hlo hL) (fun h => kf h p e s m args below meth c C H locs ls hR hlo hL)
theorem m_icmp_eq (pc' tgt : Nat) {x y : Int32} {off : Int} (hd : decode M.2.1 pc = .ok (.if_icmp .eq off, 3)) (hp : pc + 3 = pc') (ht : (pc : Int) + off = (tgt : Int))
    (kt : x = y → m_J G M R Q nc ns tgt L st w) (kf : ¬ x = y → m_J G M R Q nc ns pc' L st w) : m_J G M R Q nc ns pc L (.int y :: .int x :: st) w := by
  intro p e s m args below meth c C H locs ls hR hlo hL
  subst hp
  exact lv_icmp_eq C.1 C.2.1 hd ht (fun h => kt h p e s m args below meth c C H locs ls hR hlo hL) (fun h => kf h p e s m args below meth c C H locs ls hR hlo hL)
theorem m_if_ne (pc' tgt : Nat) {x : Int32} {off : Int} (hd : decode M.2.1 pc = .ok (.ifCond .ne off, 3)) (hp : pc + 3 = pc') (ht : (pc : Int) + off = (tgt : Int))
    (kt : ¬ x = 0 → m_J G M R Q nc ns tgt L st w) (kf : x = 0 → m_J G M R Q nc ns pc' L st w) : m_J G M R Q nc ns pc L (.int x :: st) w := by
  intro p e s m args below meth c C H locs ls hR hlo hL
  subst hp
  exact lv_if_ne C.1 C.2.1 hd ht (fun h => kt h p e s m args below meth c C H locs ls hR hlo hL) (fun h => kf h p e s m args below meth c C H locs ls hR hlo hL)
theorem m_icmp_ne (pc' tgt : Nat) {x y : Int32} {off : Int} (hd : decode M.2.1 pc = .ok (.if_icmp .ne off, 3)) (hp : pc + 3 = pc') (ht : (pc : Int) + off = (tgt : Int))
    (kt : ¬ x = y → m_J G M R Q nc ns tgt L st w) (kf : x = y → m_J G M R Q nc ns pc' L st w) : m_J G M R Q nc ns pc L (.int y :: .int x :: st) w := by
  intro p e s m args below meth c C H locs ls hR hlo hL
  subst hp
  exact lv_icmp_ne C.1 C.2.1 hd ht (fun h => kt h p e s m args below meth c C H locs ls hR hlo hL) (fun h => kf h p e s m args below meth c C H locs ls hR hlo hL)
theorem m_if_lt (pc' tgt : Nat) {x : Int32} {off : Int} (hd : decode M.2.1 pc = .ok (.ifCond .lt off, 3)) (hp : pc + 3 = pc') (ht : (pc : Int) + off = (tgt : Int))
    (kt : x < 0 → m_J G M R Q nc ns tgt L st w) (kf : ¬ x < 0 → m_J G M R Q nc ns pc' L st w) : m_J G M R Q nc ns pc L (.int x :: st) w := by
  intro p e s m args below meth c C H locs ls hR hlo hL
  subst hp
  exact lv_if_lt C.1 C.2.1 hd ht (fun h => kt h p e s m args below meth c C H locs ls hR hlo hL) (fun h => kf h p e s m args below meth c C H locs ls hR hlo hL)
theorem m_icmp_lt (pc' tgt : Nat) {x y : Int32} {off : Int} (hd : decode M.2.1 pc = .ok (.if_icmp .lt off, 3)) (hp : pc + 3 = pc') (ht : (pc : Int) + off = (tgt : Int))
    (kt : x < y → m_J G M R Q nc ns tgt L st w) (kf : ¬ x < y → m_J G M R Q nc ns pc' L st w) : m_J G M R Q nc ns pc L (.int y :: .int x :: st) w := by
  intro p e s m args below meth c C H locs ls hR hlo hL
  subst hp
  exact lv_icmp_lt C.1 C.2.1 hd ht (fun h => kt h p e s m args below meth c C H locs ls hR hlo hL) (fun h => kf h p e s m args below meth c C H locs ls hR hlo hL)
theorem m_if_ge (pc' tgt : Nat) {x : Int32} {off : Int} (hd : decode M.2.1 pc = .ok (.ifCond .ge off, 3)) (hp : pc + 3 = pc') (ht : (pc : Int) + off = (tgt : Int))
    (kt : 0 ≤ x → m_J G M R Q nc ns tgt L st w) (kf : ¬ 0 ≤ x → m_J G M R Q nc ns pc' L st w) : m_J G M R Q nc ns pc L (.int x :: st) w := by
  intro p e s m args below meth c C H locs ls hR hlo hL
  subst hp
  exact lv_if_ge C.1 C.2.1 hd ht (fun h => kt h p e s m args below meth c C H locs ls hR hlo hL) (fun h => kf h p e s m args below meth c C H locs ls hR hlo hL)
theorem m_icmp_ge (pc' tgt : Nat) {x y : Int32} {off : Int} (hd : decode M.2.1 pc = .ok (.if_icmp .ge off, 3)) (hp : pc + 3 = pc') (ht : (pc : Int) + off = (tgt : Int))
    (kt : y ≤ x → m_J G M R Q nc ns tgt L st w) (kf : ¬ y ≤ x → m_J G M R Q nc ns pc' L st w) : m_J G M R Q nc ns pc L (.int y :: .int x :: st) w := by
  intro p e s m args below meth c C H locs ls hR hlo hL
  subst hp
  exact lv_icmp_ge C.1 C.2.1 hd ht (fun h => kt h p e s m args below meth c C H locs ls hR hlo hL) (fun h => kf h p e s m args below meth c C H locs ls hR hlo hL)
theorem m_if_gt (pc' tgt : Nat) {x : Int32} {off : Int} (hd : decode M.2.1 pc = .ok (.ifCond .gt off, 3)) (hp : pc + 3 = pc') (ht : (pc : Int) + off = (tgt : Int))
    (kt : 0 < x → m_J G M R Q nc ns tgt L st w) (kf : ¬ 0 < x → m_J G M R Q nc ns pc' L st w) : m_J G M R Q nc ns pc L (.int x :: st) w := by
  intro p e s m args below meth c C H locs ls hR hlo hL
  subst hp
  exact lv_if_gt C.1 C.2.1 hd ht (fun h => kt h p e s m args below meth c C H locs ls hR hlo hL) (fun h => kf h p e s m args below meth c C H locs ls hR hlo hL)
theorem m_icmp_gt (pc' tgt : Nat) {x y : Int32} {off : Int} (hd : decode M.2.1 pc = .ok (.if_icmp .gt off, 3)) (hp : pc + 3 = pc') (ht : (pc : Int) + off = (tgt : Int))
    (kt : y < x → m_J G M R Q nc ns tgt L st w) (kf : ¬ y < x → m_J G M R Q nc ns pc' L st w) : m_J G M R Q nc ns pc L (.int y :: .int x :: st) w := by
  intro p e s m args below meth c C H locs ls hR hlo hL
  subst hp
  exact lv_icmp_gt C.1 C.2.1 hd ht (fun h => kt h p e s m args below meth c C H locs ls hR hlo hL) (fun h => kf h p e s m args below meth c C H locs ls hR hlo hL)
theorem m_if_le (pc' tgt : Nat) {x : Int32} {off : Int} (hd : decode M.2.1 pc = .ok (.ifCond .le off, 3)) (hp : pc + 3 = pc') (ht : (pc : Int) + off = (tgt : Int))
    (kt : x ≤ 0 → m_J G M R Q nc ns tgt L st w) (kf : ¬ x ≤ 0 → m_J G M R Q nc ns pc' L st w) : m_J G M R Q nc ns pc L (.int x :: st) w := by
  intro p e s m args below meth c C H locs ls hR hlo hL
  subst hp
  exact lv_if_le C.1 C.2.1 hd ht (fun h => kt h p e s m args below meth c C H locs ls hR hlo hL) (fun h => kf h p e s m args below meth c C H locs ls hR hlo hL)
theorem m_icmp_le (pc' tgt : Nat) {x y : Int32} {off : Int} (hd : decode M.2.1 pc = .ok (.if_icmp .le off, 3)) (hp : pc + 3 = pc') (ht : (pc : Int) + off = (tgt : Int))
    (kt : x ≤ y → m_J G M R Q nc ns tgt L st w) (kf : ¬ x ≤ y → m_J G M R Q nc ns pc' L st w) : m_J G M R Q nc ns pc L (.int y :: .int x :: st) w := by
  intro p e s m args below meth c C H locs ls hR hlo hL
  subst hp
  exact lv_icmp_le C.1 C.2.1 hd ht (fun h => kt h p e s m args below meth c C H locs ls hR hlo hL) (fun h => kf h p e s m args below meth c C H locs ls hR hlo hL)
theorem m_goto (tgt : Nat) {off : Int} (hd : decode M.2.1 pc = .ok (.goto off, 3)) (ht : (pc : Int) + off = (tgt : Int)) (k : m_J G M R Q nc ns tgt L st w) : m_J G M R Q nc ns pc L st w := by
  intro p e s m args below meth c C H locs ls hR hlo hL
  exact lv_goto C.1 C.2.1 hd ht (k p e s m args below meth c C H locs ls hR hlo hL)
theorem m_lcmp (pc' : Nat) {x y : Int64} (hd : decode M.2.1 pc = .ok (.lcmp, 1)) (hp : pc + 1 = pc')
    (k : m_J G M R Q nc ns pc' L (.int (lg_cmp x y) :: st) w) : m_J G M R Q nc ns pc L (.long y :: .long x :: st) w := by
  intro p e s m args below meth c C H locs ls hR hlo hL
  subst hp
  exact W.lcmp C.1 C.2.1 hd (k p e s m args below meth c C H locs ls hR hlo hL)
theorem m_tableOut (tgt : Nat) {dflt lo hi : Int} {offs : Array Int} {len : Nat} {x : Int32} (hd : decode M.2.1 pc = .ok (.tableswitch dflt lo hi offs, len)) (h : x.toInt < lo ∨ hi < x.toInt) (ht : (pc : Int) + dflt = (tgt : Int))
    (k : m_J G M R Q nc ns tgt L st w) : m_J G M R Q nc ns pc L (.int x :: st) w := by
  intro p e s m args below meth c C H locs ls hR hlo hL
  exact lv_tableOut C.1 C.2.1 hd h ht (k p e s m args below meth c C H locs ls hR hlo hL)
theorem m_tableIn (tgt : Nat) {dflt lo hi : Int} {offs : Array Int} {len : Nat} {x : Int32} {off : Int} (hd : decode M.2.1 pc = .ok (.tableswitch dflt lo hi offs, len)) (h1 : ¬ x.toInt < lo) (h2 : ¬ hi < x.toInt) (ho : offs[(x.toInt - lo).toNat]? = some off) (ht : (pc : Int) + off = (tgt : Int))
    (k : m_J G M R Q nc ns tgt L st w) : m_J G M R Q nc ns pc L (.int x :: st) w := by
  intro p e s m args below meth c C H locs ls hR hlo hL
  exact lv_tableIn C.1 C.2.1 hd h1 h2 ho ht (k p e s m args below meth c C H locs ls hR hlo hL)
theorem m_lookup (tgt : Nat) {dflt : Int} {ps : Array (Int × Int)} {len : Nat} {x : Int32} {off : Int} (hd : decode M.2.1 pc = .ok (.lookupswitch dflt ps, len)) (hp : (ps.toList.zip (ps.toList.drop 1)).all (fun (a, next) => a.1 < next.1) = true) (ho : Op.lookupswitch.offset ps.toList dflt x.toInt = off) (ht : (pc : Int) + off = (tgt : Int))
    (k : m_J G M R Q nc ns tgt L st w) : m_J G M R Q nc ns pc L (.int x :: st) w := by
  intro p e s m args below meth c C H locs ls hR hlo hL
  exact lv_lookup C.1 C.2.1 hd hp ho ht (k p e s m args below meth c C H locs ls hR hlo hL)
theorem m_widen {n k : Nat} (h1 : nc ≤ n) (h2 : ns ≤ k) (kk : m_J G M R Q n k pc L st w) : m_J G M R Q nc ns pc L st w := fun p e s m args below meth c C H locs ls hR hlo hL => W.widen h1 h2 (kk p e s m args below meth c C H locs ls hR hlo hL)
/-- forgetting locals -/
theorem m_locs {L' : List (Option Value)} (hn : L'.length = L.length) (h : ∀ (i : Nat) (v : Value), L'[i]? = some (some v) → L[i]? = some (some v)) (kk : m_J G M R Q nc ns pc L' st w) : m_J G M R Q nc ns pc L st w := fun p e s m args below meth c C H locs ls hR hlo hL => kk p e s m args below meth c C H locs ls hR hlo ⟨hL.1, hL.2.1, hn.trans hL.2.2.1, fun i v hv => hL.2.2.2 i v (h i v hv)⟩
theorem m_post {Q' : Option (Option Value) → List mC → Prop} (h : ∀ r w, Q' r w → Q r w) (kk : m_J G M R Q' nc ns pc L st w) : m_J G M R Q nc ns pc L st w := by
  intro p e s m args below meth c C H locs ls hR hlo hL T hT X
  obtain ⟨t, h1, o, h2, h3, r, w', h4, h5⟩ := kk p e s m args below meth c C H locs ls hR hlo hL T hT X
  exact ⟨t, h1, o, h2, h3, r, w', h r w' h4, h5⟩
end MJ
