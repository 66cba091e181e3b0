/-! the law: its cases -/
section LC
variable {G : mG} {w : List mC} {sc : mC}
abbrev ML_law : mM := (yL_law, code, 7, some .boolean, [])
abbrev QL : Option (Option Value) → List mC → Prop := fun r _ => r = some (some (vB true))
theorem m_rmL {b c' k' nc ns : Nat} {M' : mM} {st : List Value} (h1 : b + 1 ≤ 12) (h2 : (st.map fun v => v.category).sum + M'.2.2.1 + 11 + 36 * b ≤ 434) (h3 : nc + c' ≤ 601024) (h4 : ns + k' ≤ 7293000) : m_rm room_1 (m_r b c' k') M' nc ns st := by
  refine ⟨h1, ?_, h3, h4⟩
  show _ + _ + 36 * b ≤ 434
  omega
theorem cmp_self (x : Int64) : lg_cmp x x = 0 := by
  unfold lg_cmp
  simp

set_option maxHeartbeats 4000000 in
set_option maxRecDepth 100000 in
theorem g_join (hG : m_G G) {N i nc ns : Nat} {g : Nat → Int} (hI0 : INV (cI N g) w) (hN : N ≤ 2051) (hi : i + 3 < N) (hg : ∀ j, iR (g j)) (hR : nc + 1 ≤ 601024 ∧ ns + 6 ≤ 7293000) {x5 x6 : Option Value} 
    (hD : stepW G ML_join MX8_join [.ref 1, vI (g (i + 1)), vI (g (i + 2)), .ref 31] [.ref 22, vI (g (i + 1)), vI (g (i + 2))] (cI N g) w vB (fun v : Bool => if v then 1 else 0))
    (kk : ∀ (y : List mC) (nc' ns' : Nat) (x5 x6 : Option Value), INV (cI N g) y → nc' ≤ nc + 1 ∧ ns' ≤ ns + 6 → m_J G ML_law room_1 QL nc' ns' 1174 [some (.ref 0), some (.ref 1), some (.ref 22), some (.ref 31), some (vI (i : Int)), x5, x6] [] y) : m_J G ML_law room_1 QL nc ns 164 [some (.ref 0), some (.ref 1), some (.ref 22), some (.ref 31), some (vI (i : Int)), x5, x6] [] w := by
  have e1 : ((i : Int) + 1).toNat = i + 1 := by omega
  have e2 : ((i : Int) + 2).toNat = i + 2 := by omega
  have e3 : ((i : Int) + 3).toNat = i + 3 := by omega
  have h0 := hI0.c0
  obtain ⟨kr, hk, A, hW, hA⟩ := hD
  refine m_aload_n 165 dL_law_164 rfl rfl ?_
  refine m_aload_n 166 dL_law_165 rfl rfl ?_
  refine m_iload 168 dL_law_166 rfl rfl ?_
  refine i_const 169 dL_law_168 rfl ?_
  refine i_add 170 dL_law_169 rfl ?_
  refine i_ald 171 dL_law_170 rfl (by first | rfl | assumption) ⟨by omega, by omega, by omega⟩ ?_
  rw [e1]
  refine m_aload_n 172 dL_law_171 rfl rfl ?_
  refine m_iload 174 dL_law_172 rfl rfl ?_
  refine i_const 175 dL_law_174 rfl ?_
  refine i_add 176 dL_law_175 rfl ?_
  refine i_ald 177 dL_law_176 rfl (by first | rfl | assumption) ⟨by omega, by omega, by omega⟩ ?_
  rw [e2]
  refine m_aload_n 178 dL_law_177 rfl rfl ?_
  refine m_cSr (M' := ML_join) 181 [_, _, _, _] kL_59 stL_join clL_join dL_law_178 rfl rfl (m_rmL (by decide) (Nat.le_of_ble_eq_true rfl) (by omega) (by omega)) hW (fun w2 h => by cases h.1) (fun v2 w2 h => ?_)
  obtain ⟨hv, hAx⟩ := h
  cases hv
  obtain ⟨hx0, ⟨fs, hx22⟩, hM⟩ := hA _ hAx
  refine m_istore 183 dL_law_181 rfl (by decide) ?_
  refine m_aload_n 184 dL_law_183 rfl rfl ?_
  refine m_aload_n 185 dL_law_184 rfl rfl ?_
  refine m_iload 187 dL_law_185 rfl rfl ?_
  refine i_const 188 dL_law_187 rfl ?_
  refine i_add 189 dL_law_188 rfl ?_
  refine i_ald 190 dL_law_189 rfl hx0 ⟨by omega, by omega, by omega⟩ ?_
  rw [e1]
  refine m_aload_n 191 dL_law_190 rfl rfl ?_
  refine m_iload 193 dL_law_191 rfl rfl ?_
  refine i_const 194 dL_law_193 rfl ?_
  refine i_add 195 dL_law_194 rfl ?_
  refine i_ald 196 dL_law_195 rfl hx0 ⟨by omega, by omega, by omega⟩ ?_
  refine m_cVr (M' := MX8_join) 199 [_, _] kL_62 imX8_join seX8_join clX8_join dL_law_196 rfl rfl rfl hx22 (m_rmL (by decide) (Nat.le_of_ble_eq_true rfl) (by simp only [m_r]; omega) (by simp only [m_r]; omega)) hM (fun w2 h => by obtain ⟨_, h, -⟩ := h; cases h) (fun v3 y h => ?_)
  obtain ⟨v, hv, hI⟩ := h
  cases hv
  obtain ⟨fs2, hy22⟩ := hI.c22
  obtain ⟨o2, h31, hP⟩ := hI.c31
  refine m_istore 201 dL_law_199 rfl (by decide) ?_
  refine m_aload_n 202 dL_law_201 rfl rfl ?_
  refine m_cV (M' := MX8_thrown) 205 [] kL_63 imX8_thrown seX8_thrown clX8_thrown dL_law_202 rfl rfl rfl hy22 (m_rmL (by decide) (Nat.le_of_ble_eq_true rfl) (by simp only [m_r]; omega) (by simp only [m_r]; omega)) (hI.thrown hG 8) ?_
  refine m_iload 207 dL_law_205 rfl rfl ?_
  refine i_icmp_eq 210 212 ⟨by omega, by omega⟩ ⟨by omega, by omega⟩ dL_law_207 rfl (by decide) (fun _ => ?_) (fun h => absurd h (fun e => e rfl))
  refine m_iload 214 dL_law_212 rfl rfl ?_
  rcases hk with rfl | rfl
  · refine i_if_ne 217 236 ⟨by omega, by omega⟩ dL_law_214 rfl (by decide) (fun h => absurd h (by decide)) (fun _ => ?_)
    refine m_aload_n 218 dL_law_217 rfl rfl ?_
    refine i_const 219 dL_law_218 rfl ?_
    refine m_lald 220 dL_law_219 rfl h31 vin0 ?_
    refine m_iload 222 dL_law_220 rfl rfl ?_
    refine b_if_eq 225 229 dL_law_222 rfl (by decide) (fun q222 => ?_) (fun q222 => ?_)
    · refine m_lconst (v := 0) 230 dL_law_229 rfl (by decide) ?_
      have e31 : o2 0 = (if v then 1 else 0) := hP rfl
      rw [if_neg (by rw [q222]; decide)] at e31
      refine m_lcmp 231 dL_law_230 rfl ?_
      rw [show o2 (iI 0).toNatClampNeg = _ from e31, cmp_self]
      refine m_if_eq 234 236 dL_law_231 rfl (by decide) (fun _ => ?_) (fun h => absurd rfl h)
      refine m_goto 1174 dL_law_236 (by decide) ?_
      exact kk y _ _ _ _ hI.inv (by constructor <;> (simp only [m_r]; omega))
    · refine m_lconst (v := 1) 226 dL_law_225 rfl (by decide) ?_
      refine m_goto 230 dL_law_226 (by decide) ?_
      have e31 : o2 0 = (if v then 1 else 0) := hP rfl
      rw [if_pos q222] at e31
      refine m_lcmp 231 dL_law_230 rfl ?_
      rw [show o2 (iI 0).toNatClampNeg = _ from e31, cmp_self]
      refine m_if_eq 234 236 dL_law_231 rfl (by decide) (fun _ => ?_) (fun h => absurd rfl h)
      refine m_goto 1174 dL_law_236 (by decide) ?_
      exact kk y _ _ _ _ hI.inv (by constructor <;> (simp only [m_r]; omega))
  · refine i_if_ne 217 236 ⟨by omega, by omega⟩ dL_law_214 rfl (by decide) (fun _ => ?_) (fun h => absurd h (by decide))
    refine m_goto 1174 dL_law_236 (by decide) ?_
    exact kk y _ _ _ _ hI.inv (by constructor <;> (simp only [m_r]; omega))
set_option maxHeartbeats 4000000 in
set_option maxRecDepth 100000 in
theorem g_degreeT (hG : m_G G) {N i nc ns : Nat} {g : Nat → Int} (hI0 : INV (cI N g) w) (hN : N ≤ 2051) (hi : i + 3 < N) (hg : ∀ j, iR (g j)) (hR : nc + 1 ≤ 601024 ∧ ns + 6 ≤ 7293000) {x5 x6 : Option Value} (hz : g (i + 2) ≠ 0) 
    (hD : stepW G ML_degree MX8_degree [.ref 1, vI (g (i + 1)), vB true, .ref 31] [.ref 22, vI (g (i + 1)), vB true] (cI N g) w vI (fun v : Int => (iI v).toInt64))
    (kk : ∀ (y : List mC) (nc' ns' : Nat) (x5 x6 : Option Value), INV (cI N g) y → nc' ≤ nc + 1 ∧ ns' ≤ ns + 6 → m_J G ML_law room_1 QL nc' ns' 1174 [some (.ref 0), some (.ref 1), some (.ref 22), some (.ref 31), some (vI (i : Int)), x5, x6] [] y) : m_J G ML_law room_1 QL nc ns 252 [some (.ref 0), some (.ref 1), some (.ref 22), some (.ref 31), some (vI (i : Int)), x5, x6] [] w := by
  have e1 : ((i : Int) + 1).toNat = i + 1 := by omega
  have e2 : ((i : Int) + 2).toNat = i + 2 := by omega
  have e3 : ((i : Int) + 3).toNat = i + 3 := by omega
  have h0 := hI0.c0
  obtain ⟨kr, hk, A, hW, hA⟩ := hD
  refine m_aload_n 253 dL_law_252 rfl rfl ?_
  refine m_aload_n 254 dL_law_253 rfl rfl ?_
  refine m_iload 256 dL_law_254 rfl rfl ?_
  refine i_const 257 dL_law_256 rfl ?_
  refine i_add 258 dL_law_257 rfl ?_
  refine i_ald 259 dL_law_258 rfl (by first | rfl | assumption) ⟨by omega, by omega, by omega⟩ ?_
  rw [e1]
  refine m_aload_n 260 dL_law_259 rfl rfl ?_
  refine m_iload 262 dL_law_260 rfl rfl ?_
  refine i_const 263 dL_law_262 rfl ?_
  refine i_add 264 dL_law_263 rfl ?_
  refine i_ald 265 dL_law_264 rfl (by first | rfl | assumption) ⟨by omega, by omega, by omega⟩ ?_
  rw [e2]
  refine i_if_eq 268 272 (hg _) dL_law_265 rfl (by decide) (fun h => absurd h hz) (fun _ => ?_)
  refine i_const 269 dL_law_268 rfl ?_
  refine m_goto 273 dL_law_269 (by decide) ?_
  refine m_aload_n 274 dL_law_273 rfl rfl ?_
  refine m_cSr (M' := ML_degree) 277 [_, _, _, _] kL_71 stL_degree clL_degree dL_law_274 rfl rfl (m_rmL (by decide) (Nat.le_of_ble_eq_true rfl) (by omega) (by omega)) hW (fun w2 h => by cases h.1) (fun v2 w2 h => ?_)
  obtain ⟨hv, hAx⟩ := h
  cases hv
  obtain ⟨hx0, ⟨fs, hx22⟩, hM⟩ := hA _ hAx
  refine m_istore 279 dL_law_277 rfl (by decide) ?_
  refine m_aload_n 280 dL_law_279 rfl rfl ?_
  refine m_aload_n 281 dL_law_280 rfl rfl ?_
  refine m_iload 283 dL_law_281 rfl rfl ?_
  refine i_const 284 dL_law_283 rfl ?_
  refine i_add 285 dL_law_284 rfl ?_
  refine i_ald 286 dL_law_285 rfl hx0 ⟨by omega, by omega, by omega⟩ ?_
  rw [e1]
  refine m_aload_n 287 dL_law_286 rfl rfl ?_
  refine m_iload 289 dL_law_287 rfl rfl ?_
  refine i_const 290 dL_law_289 rfl ?_
  refine i_add 291 dL_law_290 rfl ?_
  refine i_ald 292 dL_law_291 rfl hx0 ⟨by omega, by omega, by omega⟩ ?_
  rw [e2]
  refine i_if_eq 295 299 (hg _) dL_law_292 rfl (by decide) (fun h => absurd h hz) (fun _ => ?_)
  refine i_const 296 dL_law_295 rfl ?_
  refine m_goto 300 dL_law_296 (by decide) ?_
  refine m_cVr (M' := MX8_degree) 303 [_, _] kL_74 imX8_degree seX8_degree clX8_degree dL_law_300 rfl rfl rfl hx22 (m_rmL (by decide) (Nat.le_of_ble_eq_true rfl) (by simp only [m_r]; omega) (by simp only [m_r]; omega)) hM (fun w2 h => by obtain ⟨_, h, -⟩ := h; cases h) (fun v3 y h => ?_)
  obtain ⟨v, hv, hI⟩ := h
  cases hv
  obtain ⟨fs2, hy22⟩ := hI.c22
  obtain ⟨o2, h31, hP⟩ := hI.c31
  refine m_istore 305 dL_law_303 rfl (by decide) ?_
  refine m_aload_n 306 dL_law_305 rfl rfl ?_
  refine m_cV (M' := MX8_thrown) 309 [] kL_63 imX8_thrown seX8_thrown clX8_thrown dL_law_306 rfl rfl rfl hy22 (m_rmL (by decide) (Nat.le_of_ble_eq_true rfl) (by simp only [m_r]; omega) (by simp only [m_r]; omega)) (hI.thrown hG 8) ?_
  refine m_iload 311 dL_law_309 rfl rfl ?_
  refine i_icmp_eq 314 316 ⟨by omega, by omega⟩ ⟨by omega, by omega⟩ dL_law_311 rfl (by decide) (fun _ => ?_) (fun h => absurd h (fun e => e rfl))
  refine m_iload 318 dL_law_316 rfl rfl ?_
  rcases hk with rfl | rfl
  · refine i_if_ne 321 333 ⟨by omega, by omega⟩ dL_law_318 rfl (by decide) (fun h => absurd h (by decide)) (fun _ => ?_)
    refine m_aload_n 322 dL_law_321 rfl rfl ?_
    refine i_const 323 dL_law_322 rfl ?_
    refine m_lald 324 dL_law_323 rfl h31 vin0 ?_
    refine m_iload 326 dL_law_324 rfl rfl ?_
    refine m_i2l 327 dL_law_326 rfl ?_
    have e31 : o2 0 = (iI v).toInt64 := hP rfl
    skip
    refine m_lcmp 328 dL_law_327 rfl ?_
    rw [show o2 (iI 0).toNatClampNeg = _ from e31, cmp_self]
    refine m_if_eq 331 333 dL_law_328 rfl (by decide) (fun _ => ?_) (fun h => absurd rfl h)
    refine m_goto 1174 dL_law_333 (by decide) ?_
    exact kk y _ _ _ _ hI.inv (by constructor <;> (simp only [m_r]; omega))
  · refine i_if_ne 321 333 ⟨by omega, by omega⟩ dL_law_318 rfl (by decide) (fun _ => ?_) (fun h => absurd h (by decide))
    refine m_goto 1174 dL_law_333 (by decide) ?_
    exact kk y _ _ _ _ hI.inv (by constructor <;> (simp only [m_r]; omega))
set_option maxHeartbeats 4000000 in
set_option maxRecDepth 100000 in
theorem g_degreeF (hG : m_G G) {N i nc ns : Nat} {g : Nat → Int} (hI0 : INV (cI N g) w) (hN : N ≤ 2051) (hi : i + 3 < N) (hg : ∀ j, iR (g j)) (hR : nc + 1 ≤ 601024 ∧ ns + 6 ≤ 7293000) {x5 x6 : Option Value} (hz : g (i + 2) = 0) 
    (hD : stepW G ML_degree MX8_degree [.ref 1, vI (g (i + 1)), vB false, .ref 31] [.ref 22, vI (g (i + 1)), vB false] (cI N g) w vI (fun v : Int => (iI v).toInt64))
    (kk : ∀ (y : List mC) (nc' ns' : Nat) (x5 x6 : Option Value), INV (cI N g) y → nc' ≤ nc + 1 ∧ ns' ≤ ns + 6 → m_J G ML_law room_1 QL nc' ns' 1174 [some (.ref 0), some (.ref 1), some (.ref 22), some (.ref 31), some (vI (i : Int)), x5, x6] [] y) : m_J G ML_law room_1 QL nc ns 252 [some (.ref 0), some (.ref 1), some (.ref 22), some (.ref 31), some (vI (i : Int)), x5, x6] [] w := by
  have e1 : ((i : Int) + 1).toNat = i + 1 := by omega
  have e2 : ((i : Int) + 2).toNat = i + 2 := by omega
  have e3 : ((i : Int) + 3).toNat = i + 3 := by omega
  have h0 := hI0.c0
  obtain ⟨kr, hk, A, hW, hA⟩ := hD
  refine m_aload_n 253 dL_law_252 rfl rfl ?_
  refine m_aload_n 254 dL_law_253 rfl rfl ?_
  refine m_iload 256 dL_law_254 rfl rfl ?_
  refine i_const 257 dL_law_256 rfl ?_
  refine i_add 258 dL_law_257 rfl ?_
  refine i_ald 259 dL_law_258 rfl (by first | rfl | assumption) ⟨by omega, by omega, by omega⟩ ?_
  rw [e1]
  refine m_aload_n 260 dL_law_259 rfl rfl ?_
  refine m_iload 262 dL_law_260 rfl rfl ?_
  refine i_const 263 dL_law_262 rfl ?_
  refine i_add 264 dL_law_263 rfl ?_
  refine i_ald 265 dL_law_264 rfl (by first | rfl | assumption) ⟨by omega, by omega, by omega⟩ ?_
  rw [e2]
  refine i_if_eq 268 272 (hg _) dL_law_265 rfl (by decide) (fun _ => ?_) (fun h => absurd h (fun e => e hz))
  refine i_const 273 dL_law_272 rfl ?_
  refine m_aload_n 274 dL_law_273 rfl rfl ?_
  refine m_cSr (M' := ML_degree) 277 [_, _, _, _] kL_71 stL_degree clL_degree dL_law_274 rfl rfl (m_rmL (by decide) (Nat.le_of_ble_eq_true rfl) (by omega) (by omega)) hW (fun w2 h => by cases h.1) (fun v2 w2 h => ?_)
  obtain ⟨hv, hAx⟩ := h
  cases hv
  obtain ⟨hx0, ⟨fs, hx22⟩, hM⟩ := hA _ hAx
  refine m_istore 279 dL_law_277 rfl (by decide) ?_
  refine m_aload_n 280 dL_law_279 rfl rfl ?_
  refine m_aload_n 281 dL_law_280 rfl rfl ?_
  refine m_iload 283 dL_law_281 rfl rfl ?_
  refine i_const 284 dL_law_283 rfl ?_
  refine i_add 285 dL_law_284 rfl ?_
  refine i_ald 286 dL_law_285 rfl hx0 ⟨by omega, by omega, by omega⟩ ?_
  rw [e1]
  refine m_aload_n 287 dL_law_286 rfl rfl ?_
  refine m_iload 289 dL_law_287 rfl rfl ?_
  refine i_const 290 dL_law_289 rfl ?_
  refine i_add 291 dL_law_290 rfl ?_
  refine i_ald 292 dL_law_291 rfl hx0 ⟨by omega, by omega, by omega⟩ ?_
  rw [e2]
  refine i_if_eq 295 299 (hg _) dL_law_292 rfl (by decide) (fun _ => ?_) (fun h => absurd h (fun e => e hz))
  refine i_const 300 dL_law_299 rfl ?_
  refine m_cVr (M' := MX8_degree) 303 [_, _] kL_74 imX8_degree seX8_degree clX8_degree dL_law_300 rfl rfl rfl hx22 (m_rmL (by decide) (Nat.le_of_ble_eq_true rfl) (by simp only [m_r]; omega) (by simp only [m_r]; omega)) hM (fun w2 h => by obtain ⟨_, h, -⟩ := h; cases h) (fun v3 y h => ?_)
  obtain ⟨v, hv, hI⟩ := h
  cases hv
  obtain ⟨fs2, hy22⟩ := hI.c22
  obtain ⟨o2, h31, hP⟩ := hI.c31
  refine m_istore 305 dL_law_303 rfl (by decide) ?_
  refine m_aload_n 306 dL_law_305 rfl rfl ?_
  refine m_cV (M' := MX8_thrown) 309 [] kL_63 imX8_thrown seX8_thrown clX8_thrown dL_law_306 rfl rfl rfl hy22 (m_rmL (by decide) (Nat.le_of_ble_eq_true rfl) (by simp only [m_r]; omega) (by simp only [m_r]; omega)) (hI.thrown hG 8) ?_
  refine m_iload 311 dL_law_309 rfl rfl ?_
  refine i_icmp_eq 314 316 ⟨by omega, by omega⟩ ⟨by omega, by omega⟩ dL_law_311 rfl (by decide) (fun _ => ?_) (fun h => absurd h (fun e => e rfl))
  refine m_iload 318 dL_law_316 rfl rfl ?_
  rcases hk with rfl | rfl
  · refine i_if_ne 321 333 ⟨by omega, by omega⟩ dL_law_318 rfl (by decide) (fun h => absurd h (by decide)) (fun _ => ?_)
    refine m_aload_n 322 dL_law_321 rfl rfl ?_
    refine i_const 323 dL_law_322 rfl ?_
    refine m_lald 324 dL_law_323 rfl h31 vin0 ?_
    refine m_iload 326 dL_law_324 rfl rfl ?_
    refine m_i2l 327 dL_law_326 rfl ?_
    have e31 : o2 0 = (iI v).toInt64 := hP rfl
    skip
    refine m_lcmp 328 dL_law_327 rfl ?_
    rw [show o2 (iI 0).toNatClampNeg = _ from e31, cmp_self]
    refine m_if_eq 331 333 dL_law_328 rfl (by decide) (fun _ => ?_) (fun h => absurd rfl h)
    refine m_goto 1174 dL_law_333 (by decide) ?_
    exact kk y _ _ _ _ hI.inv (by constructor <;> (simp only [m_r]; omega))
  · refine i_if_ne 321 333 ⟨by omega, by omega⟩ dL_law_318 rfl (by decide) (fun _ => ?_) (fun h => absurd h (by decide))
    refine m_goto 1174 dL_law_333 (by decide) ?_
    exact kk y _ _ _ _ hI.inv (by constructor <;> (simp only [m_r]; omega))
set_option maxHeartbeats 4000000 in
set_option maxRecDepth 100000 in
theorem g_neighbour (hG : m_G G) {N i nc ns : Nat} {g : Nat → Int} (hI0 : INV (cI N g) w) (hN : N ≤ 2051) (hi : i + 3 < N) (hg : ∀ j, iR (g j)) (hR : nc + 1 ≤ 601024 ∧ ns + 6 ≤ 7293000) {x5 x6 : Option Value} 
    (hD : stepW G ML_neighbour MX8_neighbour [.ref 1, vI (g (i + 1)), vI (g (i + 2)), .ref 31] [.ref 22, vI (g (i + 1)), vI (g (i + 2))] (cI N g) w vI (fun v : Int => (iI v).toInt64))
    (kk : ∀ (y : List mC) (nc' ns' : Nat) (x5 x6 : Option Value), INV (cI N g) y → nc' ≤ nc + 1 ∧ ns' ≤ ns + 6 → m_J G ML_law room_1 QL nc' ns' 1174 [some (.ref 0), some (.ref 1), some (.ref 22), some (.ref 31), some (vI (i : Int)), x5, x6] [] y) : m_J G ML_law room_1 QL nc ns 336 [some (.ref 0), some (.ref 1), some (.ref 22), some (.ref 31), some (vI (i : Int)), x5, x6] [] w := by
  have e1 : ((i : Int) + 1).toNat = i + 1 := by omega
  have e2 : ((i : Int) + 2).toNat = i + 2 := by omega
  have e3 : ((i : Int) + 3).toNat = i + 3 := by omega
  have h0 := hI0.c0
  obtain ⟨kr, hk, A, hW, hA⟩ := hD
  refine m_aload_n 337 dL_law_336 rfl rfl ?_
  refine m_aload_n 338 dL_law_337 rfl rfl ?_
  refine m_iload 340 dL_law_338 rfl rfl ?_
  refine i_const 341 dL_law_340 rfl ?_
  refine i_add 342 dL_law_341 rfl ?_
  refine i_ald 343 dL_law_342 rfl (by first | rfl | assumption) ⟨by omega, by omega, by omega⟩ ?_
  rw [e1]
  refine m_aload_n 344 dL_law_343 rfl rfl ?_
  refine m_iload 346 dL_law_344 rfl rfl ?_
  refine i_const 347 dL_law_346 rfl ?_
  refine i_add 348 dL_law_347 rfl ?_
  refine i_ald 349 dL_law_348 rfl (by first | rfl | assumption) ⟨by omega, by omega, by omega⟩ ?_
  rw [e2]
  refine m_aload_n 350 dL_law_349 rfl rfl ?_
  refine m_cSr (M' := ML_neighbour) 353 [_, _, _, _] kL_75 stL_neighbour clL_neighbour dL_law_350 rfl rfl (m_rmL (by decide) (Nat.le_of_ble_eq_true rfl) (by omega) (by omega)) hW (fun w2 h => by cases h.1) (fun v2 w2 h => ?_)
  obtain ⟨hv, hAx⟩ := h
  cases hv
  obtain ⟨hx0, ⟨fs, hx22⟩, hM⟩ := hA _ hAx
  refine m_istore 355 dL_law_353 rfl (by decide) ?_
  refine m_aload_n 356 dL_law_355 rfl rfl ?_
  refine m_aload_n 357 dL_law_356 rfl rfl ?_
  refine m_iload 359 dL_law_357 rfl rfl ?_
  refine i_const 360 dL_law_359 rfl ?_
  refine i_add 361 dL_law_360 rfl ?_
  refine i_ald 362 dL_law_361 rfl hx0 ⟨by omega, by omega, by omega⟩ ?_
  rw [e1]
  refine m_aload_n 363 dL_law_362 rfl rfl ?_
  refine m_iload 365 dL_law_363 rfl rfl ?_
  refine i_const 366 dL_law_365 rfl ?_
  refine i_add 367 dL_law_366 rfl ?_
  refine i_ald 368 dL_law_367 rfl hx0 ⟨by omega, by omega, by omega⟩ ?_
  refine m_cVr (M' := MX8_neighbour) 371 [_, _] kL_77 imX8_neighbour seX8_neighbour clX8_neighbour dL_law_368 rfl rfl rfl hx22 (m_rmL (by decide) (Nat.le_of_ble_eq_true rfl) (by simp only [m_r]; omega) (by simp only [m_r]; omega)) hM (fun w2 h => by obtain ⟨_, h, -⟩ := h; cases h) (fun v3 y h => ?_)
  obtain ⟨v, hv, hI⟩ := h
  cases hv
  obtain ⟨fs2, hy22⟩ := hI.c22
  obtain ⟨o2, h31, hP⟩ := hI.c31
  refine m_istore 373 dL_law_371 rfl (by decide) ?_
  refine m_aload_n 374 dL_law_373 rfl rfl ?_
  refine m_cV (M' := MX8_thrown) 377 [] kL_63 imX8_thrown seX8_thrown clX8_thrown dL_law_374 rfl rfl rfl hy22 (m_rmL (by decide) (Nat.le_of_ble_eq_true rfl) (by simp only [m_r]; omega) (by simp only [m_r]; omega)) (hI.thrown hG 8) ?_
  refine m_iload 379 dL_law_377 rfl rfl ?_
  refine i_icmp_eq 382 384 ⟨by omega, by omega⟩ ⟨by omega, by omega⟩ dL_law_379 rfl (by decide) (fun _ => ?_) (fun h => absurd h (fun e => e rfl))
  refine m_iload 386 dL_law_384 rfl rfl ?_
  rcases hk with rfl | rfl
  · refine i_if_ne 389 401 ⟨by omega, by omega⟩ dL_law_386 rfl (by decide) (fun h => absurd h (by decide)) (fun _ => ?_)
    refine m_aload_n 390 dL_law_389 rfl rfl ?_
    refine i_const 391 dL_law_390 rfl ?_
    refine m_lald 392 dL_law_391 rfl h31 vin0 ?_
    refine m_iload 394 dL_law_392 rfl rfl ?_
    refine m_i2l 395 dL_law_394 rfl ?_
    have e31 : o2 0 = (iI v).toInt64 := hP rfl
    skip
    refine m_lcmp 396 dL_law_395 rfl ?_
    rw [show o2 (iI 0).toNatClampNeg = _ from e31, cmp_self]
    refine m_if_eq 399 401 dL_law_396 rfl (by decide) (fun _ => ?_) (fun h => absurd rfl h)
    refine m_goto 1174 dL_law_401 (by decide) ?_
    exact kk y _ _ _ _ hI.inv (by constructor <;> (simp only [m_r]; omega))
  · refine i_if_ne 389 401 ⟨by omega, by omega⟩ dL_law_386 rfl (by decide) (fun _ => ?_) (fun h => absurd h (by decide))
    refine m_goto 1174 dL_law_401 (by decide) ?_
    exact kk y _ _ _ _ hI.inv (by constructor <;> (simp only [m_r]; omega))
set_option maxHeartbeats 4000000 in
set_option maxRecDepth 100000 in
theorem g_wallT (hG : m_G G) {N i nc ns : Nat} {g : Nat → Int} (hI0 : INV (cI N g) w) (hN : N ≤ 2051) (hi : i + 3 < N) (hg : ∀ j, iR (g j)) (hR : nc + 1 ≤ 601024 ∧ ns + 6 ≤ 7293000) {x5 x6 : Option Value} (hz : g (i + 3) ≠ 0) 
    (hD : stepW G ML_wall MX8_wall [.ref 1, vI (g (i + 1)), vI (g (i + 2)), vB true, .ref 31] [.ref 22, vI (g (i + 1)), vI (g (i + 2)), vB true] (cI N g) w vB (fun v : Bool => if v then 1 else 0))
    (kk : ∀ (y : List mC) (nc' ns' : Nat) (x5 x6 : Option Value), INV (cI N g) y → nc' ≤ nc + 1 ∧ ns' ≤ ns + 6 → m_J G ML_law room_1 QL nc' ns' 1174 [some (.ref 0), some (.ref 1), some (.ref 22), some (.ref 31), some (vI (i : Int)), x5, x6] [] y) : m_J G ML_law room_1 QL nc ns 404 [some (.ref 0), some (.ref 1), some (.ref 22), some (.ref 31), some (vI (i : Int)), x5, x6] [] w := by
  have e1 : ((i : Int) + 1).toNat = i + 1 := by omega
  have e2 : ((i : Int) + 2).toNat = i + 2 := by omega
  have e3 : ((i : Int) + 3).toNat = i + 3 := by omega
  have h0 := hI0.c0
  obtain ⟨kr, hk, A, hW, hA⟩ := hD
  refine m_aload_n 405 dL_law_404 rfl rfl ?_
  refine m_aload_n 406 dL_law_405 rfl rfl ?_
  refine m_iload 408 dL_law_406 rfl rfl ?_
  refine i_const 409 dL_law_408 rfl ?_
  refine i_add 410 dL_law_409 rfl ?_
  refine i_ald 411 dL_law_410 rfl (by first | rfl | assumption) ⟨by omega, by omega, by omega⟩ ?_
  rw [e1]
  refine m_aload_n 412 dL_law_411 rfl rfl ?_
  refine m_iload 414 dL_law_412 rfl rfl ?_
  refine i_const 415 dL_law_414 rfl ?_
  refine i_add 416 dL_law_415 rfl ?_
  refine i_ald 417 dL_law_416 rfl (by first | rfl | assumption) ⟨by omega, by omega, by omega⟩ ?_
  rw [e2]
  refine m_aload_n 418 dL_law_417 rfl rfl ?_
  refine m_iload 420 dL_law_418 rfl rfl ?_
  refine i_const 421 dL_law_420 rfl ?_
  refine i_add 422 dL_law_421 rfl ?_
  refine i_ald 423 dL_law_422 rfl (by first | rfl | assumption) ⟨by omega, by omega, by omega⟩ ?_
  rw [e3]
  refine i_if_eq 426 430 (hg _) dL_law_423 rfl (by decide) (fun h => absurd h hz) (fun _ => ?_)
  refine i_const 427 dL_law_426 rfl ?_
  refine m_goto 431 dL_law_427 (by decide) ?_
  refine m_aload_n 432 dL_law_431 rfl rfl ?_
  refine m_cSr (M' := ML_wall) 435 [_, _, _, _, _] kL_78 stL_wall clL_wall dL_law_432 rfl rfl (m_rmL (by decide) (Nat.le_of_ble_eq_true rfl) (by omega) (by omega)) hW (fun w2 h => by cases h.1) (fun v2 w2 h => ?_)
  obtain ⟨hv, hAx⟩ := h
  cases hv
  obtain ⟨hx0, ⟨fs, hx22⟩, hM⟩ := hA _ hAx
  refine m_istore 437 dL_law_435 rfl (by decide) ?_
  refine m_aload_n 438 dL_law_437 rfl rfl ?_
  refine m_aload_n 439 dL_law_438 rfl rfl ?_
  refine m_iload 441 dL_law_439 rfl rfl ?_
  refine i_const 442 dL_law_441 rfl ?_
  refine i_add 443 dL_law_442 rfl ?_
  refine i_ald 444 dL_law_443 rfl hx0 ⟨by omega, by omega, by omega⟩ ?_
  rw [e1]
  refine m_aload_n 445 dL_law_444 rfl rfl ?_
  refine m_iload 447 dL_law_445 rfl rfl ?_
  refine i_const 448 dL_law_447 rfl ?_
  refine i_add 449 dL_law_448 rfl ?_
  refine i_ald 450 dL_law_449 rfl hx0 ⟨by omega, by omega, by omega⟩ ?_
  rw [e2]
  refine m_aload_n 451 dL_law_450 rfl rfl ?_
  refine m_iload 453 dL_law_451 rfl rfl ?_
  refine i_const 454 dL_law_453 rfl ?_
  refine i_add 455 dL_law_454 rfl ?_
  refine i_ald 456 dL_law_455 rfl hx0 ⟨by omega, by omega, by omega⟩ ?_
  rw [e3]
  refine i_if_eq 459 463 (hg _) dL_law_456 rfl (by decide) (fun h => absurd h hz) (fun _ => ?_)
  refine i_const 460 dL_law_459 rfl ?_
  refine m_goto 464 dL_law_460 (by decide) ?_
  refine m_cVr (M' := MX8_wall) 467 [_, _, _] kL_81 imX8_wall seX8_wall clX8_wall dL_law_464 rfl rfl rfl hx22 (m_rmL (by decide) (Nat.le_of_ble_eq_true rfl) (by simp only [m_r]; omega) (by simp only [m_r]; omega)) hM (fun w2 h => by obtain ⟨_, h, -⟩ := h; cases h) (fun v3 y h => ?_)
  obtain ⟨v, hv, hI⟩ := h
  cases hv
  obtain ⟨fs2, hy22⟩ := hI.c22
  obtain ⟨o2, h31, hP⟩ := hI.c31
  refine m_istore 469 dL_law_467 rfl (by decide) ?_
  refine m_aload_n 470 dL_law_469 rfl rfl ?_
  refine m_cV (M' := MX8_thrown) 473 [] kL_63 imX8_thrown seX8_thrown clX8_thrown dL_law_470 rfl rfl rfl hy22 (m_rmL (by decide) (Nat.le_of_ble_eq_true rfl) (by simp only [m_r]; omega) (by simp only [m_r]; omega)) (hI.thrown hG 8) ?_
  refine m_iload 475 dL_law_473 rfl rfl ?_
  refine i_icmp_eq 478 480 ⟨by omega, by omega⟩ ⟨by omega, by omega⟩ dL_law_475 rfl (by decide) (fun _ => ?_) (fun h => absurd h (fun e => e rfl))
  refine m_iload 482 dL_law_480 rfl rfl ?_
  rcases hk with rfl | rfl
  · refine i_if_ne 485 504 ⟨by omega, by omega⟩ dL_law_482 rfl (by decide) (fun h => absurd h (by decide)) (fun _ => ?_)
    refine m_aload_n 486 dL_law_485 rfl rfl ?_
    refine i_const 487 dL_law_486 rfl ?_
    refine m_lald 488 dL_law_487 rfl h31 vin0 ?_
    refine m_iload 490 dL_law_488 rfl rfl ?_
    refine b_if_eq 493 497 dL_law_490 rfl (by decide) (fun q490 => ?_) (fun q490 => ?_)
    · refine m_lconst (v := 0) 498 dL_law_497 rfl (by decide) ?_
      have e31 : o2 0 = (if v then 1 else 0) := hP rfl
      rw [if_neg (by rw [q490]; decide)] at e31
      refine m_lcmp 499 dL_law_498 rfl ?_
      rw [show o2 (iI 0).toNatClampNeg = _ from e31, cmp_self]
      refine m_if_eq 502 504 dL_law_499 rfl (by decide) (fun _ => ?_) (fun h => absurd rfl h)
      refine m_goto 1174 dL_law_504 (by decide) ?_
      exact kk y _ _ _ _ hI.inv (by constructor <;> (simp only [m_r]; omega))
    · refine m_lconst (v := 1) 494 dL_law_493 rfl (by decide) ?_
      refine m_goto 498 dL_law_494 (by decide) ?_
      have e31 : o2 0 = (if v then 1 else 0) := hP rfl
      rw [if_pos q490] at e31
      refine m_lcmp 499 dL_law_498 rfl ?_
      rw [show o2 (iI 0).toNatClampNeg = _ from e31, cmp_self]
      refine m_if_eq 502 504 dL_law_499 rfl (by decide) (fun _ => ?_) (fun h => absurd rfl h)
      refine m_goto 1174 dL_law_504 (by decide) ?_
      exact kk y _ _ _ _ hI.inv (by constructor <;> (simp only [m_r]; omega))
  · refine i_if_ne 485 504 ⟨by omega, by omega⟩ dL_law_482 rfl (by decide) (fun _ => ?_) (fun h => absurd h (by decide))
    refine m_goto 1174 dL_law_504 (by decide) ?_
    exact kk y _ _ _ _ hI.inv (by constructor <;> (simp only [m_r]; omega))
set_option maxHeartbeats 4000000 in
set_option maxRecDepth 100000 in
theorem g_wallF (hG : m_G G) {N i nc ns : Nat} {g : Nat → Int} (hI0 : INV (cI N g) w) (hN : N ≤ 2051) (hi : i + 3 < N) (hg : ∀ j, iR (g j)) (hR : nc + 1 ≤ 601024 ∧ ns + 6 ≤ 7293000) {x5 x6 : Option Value} (hz : g (i + 3) = 0) 
    (hD : stepW G ML_wall MX8_wall [.ref 1, vI (g (i + 1)), vI (g (i + 2)), vB false, .ref 31] [.ref 22, vI (g (i + 1)), vI (g (i + 2)), vB false] (cI N g) w vB (fun v : Bool => if v then 1 else 0))
    (kk : ∀ (y : List mC) (nc' ns' : Nat) (x5 x6 : Option Value), INV (cI N g) y → nc' ≤ nc + 1 ∧ ns' ≤ ns + 6 → m_J G ML_law room_1 QL nc' ns' 1174 [some (.ref 0), some (.ref 1), some (.ref 22), some (.ref 31), some (vI (i : Int)), x5, x6] [] y) : m_J G ML_law room_1 QL nc ns 404 [some (.ref 0), some (.ref 1), some (.ref 22), some (.ref 31), some (vI (i : Int)), x5, x6] [] w := by
  have e1 : ((i : Int) + 1).toNat = i + 1 := by omega
  have e2 : ((i : Int) + 2).toNat = i + 2 := by omega
  have e3 : ((i : Int) + 3).toNat = i + 3 := by omega
  have h0 := hI0.c0
  obtain ⟨kr, hk, A, hW, hA⟩ := hD
  refine m_aload_n 405 dL_law_404 rfl rfl ?_
  refine m_aload_n 406 dL_law_405 rfl rfl ?_
  refine m_iload 408 dL_law_406 rfl rfl ?_
  refine i_const 409 dL_law_408 rfl ?_
  refine i_add 410 dL_law_409 rfl ?_
  refine i_ald 411 dL_law_410 rfl (by first | rfl | assumption) ⟨by omega, by omega, by omega⟩ ?_
  rw [e1]
  refine m_aload_n 412 dL_law_411 rfl rfl ?_
  refine m_iload 414 dL_law_412 rfl rfl ?_
  refine i_const 415 dL_law_414 rfl ?_
  refine i_add 416 dL_law_415 rfl ?_
  refine i_ald 417 dL_law_416 rfl (by first | rfl | assumption) ⟨by omega, by omega, by omega⟩ ?_
  rw [e2]
  refine m_aload_n 418 dL_law_417 rfl rfl ?_
  refine m_iload 420 dL_law_418 rfl rfl ?_
  refine i_const 421 dL_law_420 rfl ?_
  refine i_add 422 dL_law_421 rfl ?_
  refine i_ald 423 dL_law_422 rfl (by first | rfl | assumption) ⟨by omega, by omega, by omega⟩ ?_
  rw [e3]
  refine i_if_eq 426 430 (hg _) dL_law_423 rfl (by decide) (fun _ => ?_) (fun h => absurd h (fun e => e hz))
  refine i_const 431 dL_law_430 rfl ?_
  refine m_aload_n 432 dL_law_431 rfl rfl ?_
  refine m_cSr (M' := ML_wall) 435 [_, _, _, _, _] kL_78 stL_wall clL_wall dL_law_432 rfl rfl (m_rmL (by decide) (Nat.le_of_ble_eq_true rfl) (by omega) (by omega)) hW (fun w2 h => by cases h.1) (fun v2 w2 h => ?_)
  obtain ⟨hv, hAx⟩ := h
  cases hv
  obtain ⟨hx0, ⟨fs, hx22⟩, hM⟩ := hA _ hAx
  refine m_istore 437 dL_law_435 rfl (by decide) ?_
  refine m_aload_n 438 dL_law_437 rfl rfl ?_
  refine m_aload_n 439 dL_law_438 rfl rfl ?_
  refine m_iload 441 dL_law_439 rfl rfl ?_
  refine i_const 442 dL_law_441 rfl ?_
  refine i_add 443 dL_law_442 rfl ?_
  refine i_ald 444 dL_law_443 rfl hx0 ⟨by omega, by omega, by omega⟩ ?_
  rw [e1]
  refine m_aload_n 445 dL_law_444 rfl rfl ?_
  refine m_iload 447 dL_law_445 rfl rfl ?_
  refine i_const 448 dL_law_447 rfl ?_
  refine i_add 449 dL_law_448 rfl ?_
  refine i_ald 450 dL_law_449 rfl hx0 ⟨by omega, by omega, by omega⟩ ?_
  rw [e2]
  refine m_aload_n 451 dL_law_450 rfl rfl ?_
  refine m_iload 453 dL_law_451 rfl rfl ?_
  refine i_const 454 dL_law_453 rfl ?_
  refine i_add 455 dL_law_454 rfl ?_
  refine i_ald 456 dL_law_455 rfl hx0 ⟨by omega, by omega, by omega⟩ ?_
  rw [e3]
  refine i_if_eq 459 463 (hg _) dL_law_456 rfl (by decide) (fun _ => ?_) (fun h => absurd h (fun e => e hz))
  refine i_const 464 dL_law_463 rfl ?_
  refine m_cVr (M' := MX8_wall) 467 [_, _, _] kL_81 imX8_wall seX8_wall clX8_wall dL_law_464 rfl rfl rfl hx22 (m_rmL (by decide) (Nat.le_of_ble_eq_true rfl) (by simp only [m_r]; omega) (by simp only [m_r]; omega)) hM (fun w2 h => by obtain ⟨_, h, -⟩ := h; cases h) (fun v3 y h => ?_)
  obtain ⟨v, hv, hI⟩ := h
  cases hv
  obtain ⟨fs2, hy22⟩ := hI.c22
  obtain ⟨o2, h31, hP⟩ := hI.c31
  refine m_istore 469 dL_law_467 rfl (by decide) ?_
  refine m_aload_n 470 dL_law_469 rfl rfl ?_
  refine m_cV (M' := MX8_thrown) 473 [] kL_63 imX8_thrown seX8_thrown clX8_thrown dL_law_470 rfl rfl rfl hy22 (m_rmL (by decide) (Nat.le_of_ble_eq_true rfl) (by simp only [m_r]; omega) (by simp only [m_r]; omega)) (hI.thrown hG 8) ?_
  refine m_iload 475 dL_law_473 rfl rfl ?_
  refine i_icmp_eq 478 480 ⟨by omega, by omega⟩ ⟨by omega, by omega⟩ dL_law_475 rfl (by decide) (fun _ => ?_) (fun h => absurd h (fun e => e rfl))
  refine m_iload 482 dL_law_480 rfl rfl ?_
  rcases hk with rfl | rfl
  · refine i_if_ne 485 504 ⟨by omega, by omega⟩ dL_law_482 rfl (by decide) (fun h => absurd h (by decide)) (fun _ => ?_)
    refine m_aload_n 486 dL_law_485 rfl rfl ?_
    refine i_const 487 dL_law_486 rfl ?_
    refine m_lald 488 dL_law_487 rfl h31 vin0 ?_
    refine m_iload 490 dL_law_488 rfl rfl ?_
    refine b_if_eq 493 497 dL_law_490 rfl (by decide) (fun q490 => ?_) (fun q490 => ?_)
    · refine m_lconst (v := 0) 498 dL_law_497 rfl (by decide) ?_
      have e31 : o2 0 = (if v then 1 else 0) := hP rfl
      rw [if_neg (by rw [q490]; decide)] at e31
      refine m_lcmp 499 dL_law_498 rfl ?_
      rw [show o2 (iI 0).toNatClampNeg = _ from e31, cmp_self]
      refine m_if_eq 502 504 dL_law_499 rfl (by decide) (fun _ => ?_) (fun h => absurd rfl h)
      refine m_goto 1174 dL_law_504 (by decide) ?_
      exact kk y _ _ _ _ hI.inv (by constructor <;> (simp only [m_r]; omega))
    · refine m_lconst (v := 1) 494 dL_law_493 rfl (by decide) ?_
      refine m_goto 498 dL_law_494 (by decide) ?_
      have e31 : o2 0 = (if v then 1 else 0) := hP rfl
      rw [if_pos q490] at e31
      refine m_lcmp 499 dL_law_498 rfl ?_
      rw [show o2 (iI 0).toNatClampNeg = _ from e31, cmp_self]
      refine m_if_eq 502 504 dL_law_499 rfl (by decide) (fun _ => ?_) (fun h => absurd rfl h)
      refine m_goto 1174 dL_law_504 (by decide) ?_
      exact kk y _ _ _ _ hI.inv (by constructor <;> (simp only [m_r]; omega))
  · refine i_if_ne 485 504 ⟨by omega, by omega⟩ dL_law_482 rfl (by decide) (fun _ => ?_) (fun h => absurd h (by decide))
    refine m_goto 1174 dL_law_504 (by decide) ?_
    exact kk y _ _ _ _ hI.inv (by constructor <;> (simp only [m_r]; omega))
set_option maxHeartbeats 4000000 in
set_option maxRecDepth 100000 in
theorem g_seen (hG : m_G G) {N i nc ns : Nat} {g : Nat → Int} (hI0 : INV (cI N g) w) (hN : N ≤ 2051) (hi : i + 3 < N) (hg : ∀ j, iR (g j)) (hR : nc + 1 ≤ 601024 ∧ ns + 6 ≤ 7293000) {x5 x6 : Option Value} 
    (hD : stepW G ML_seen MX8_seen [.ref 1, vI (g (i + 1)), vI (g (i + 2)), vI (g (i + 3)), .ref 31] [.ref 22, vI (g (i + 1)), vI (g (i + 2)), vI (g (i + 3))] (cI N g) w vI (fun v : Int => (iI v).toInt64))
    (kk : ∀ (y : List mC) (nc' ns' : Nat) (x5 x6 : Option Value), INV (cI N g) y → nc' ≤ nc + 1 ∧ ns' ≤ ns + 6 → m_J G ML_law room_1 QL nc' ns' 1174 [some (.ref 0), some (.ref 1), some (.ref 22), some (.ref 31), some (vI (i : Int)), x5, x6] [] y) : m_J G ML_law room_1 QL nc ns 601 [some (.ref 0), some (.ref 1), some (.ref 22), some (.ref 31), some (vI (i : Int)), x5, x6] [] w := by
  have e1 : ((i : Int) + 1).toNat = i + 1 := by omega
  have e2 : ((i : Int) + 2).toNat = i + 2 := by omega
  have e3 : ((i : Int) + 3).toNat = i + 3 := by omega
  have h0 := hI0.c0
  obtain ⟨kr, hk, A, hW, hA⟩ := hD
  refine m_aload_n 602 dL_law_601 rfl rfl ?_
  refine m_aload_n 603 dL_law_602 rfl rfl ?_
  refine m_iload 605 dL_law_603 rfl rfl ?_
  refine i_const 606 dL_law_605 rfl ?_
  refine i_add 607 dL_law_606 rfl ?_
  refine i_ald 608 dL_law_607 rfl (by first | rfl | assumption) ⟨by omega, by omega, by omega⟩ ?_
  rw [e1]
  refine m_aload_n 609 dL_law_608 rfl rfl ?_
  refine m_iload 611 dL_law_609 rfl rfl ?_
  refine i_const 612 dL_law_611 rfl ?_
  refine i_add 613 dL_law_612 rfl ?_
  refine i_ald 614 dL_law_613 rfl (by first | rfl | assumption) ⟨by omega, by omega, by omega⟩ ?_
  rw [e2]
  refine m_aload_n 615 dL_law_614 rfl rfl ?_
  refine m_iload 617 dL_law_615 rfl rfl ?_
  refine i_const 618 dL_law_617 rfl ?_
  refine i_add 619 dL_law_618 rfl ?_
  refine i_ald 620 dL_law_619 rfl (by first | rfl | assumption) ⟨by omega, by omega, by omega⟩ ?_
  rw [e3]
  refine m_aload_n 621 dL_law_620 rfl rfl ?_
  refine m_cSr (M' := ML_seen) 624 [_, _, _, _, _] kL_91 stL_seen clL_seen dL_law_621 rfl rfl (m_rmL (by decide) (Nat.le_of_ble_eq_true rfl) (by omega) (by omega)) hW (fun w2 h => by cases h.1) (fun v2 w2 h => ?_)
  obtain ⟨hv, hAx⟩ := h
  cases hv
  obtain ⟨hx0, ⟨fs, hx22⟩, hM⟩ := hA _ hAx
  refine m_istore 626 dL_law_624 rfl (by decide) ?_
  refine m_aload_n 627 dL_law_626 rfl rfl ?_
  refine m_aload_n 628 dL_law_627 rfl rfl ?_
  refine m_iload 630 dL_law_628 rfl rfl ?_
  refine i_const 631 dL_law_630 rfl ?_
  refine i_add 632 dL_law_631 rfl ?_
  refine i_ald 633 dL_law_632 rfl hx0 ⟨by omega, by omega, by omega⟩ ?_
  rw [e1]
  refine m_aload_n 634 dL_law_633 rfl rfl ?_
  refine m_iload 636 dL_law_634 rfl rfl ?_
  refine i_const 637 dL_law_636 rfl ?_
  refine i_add 638 dL_law_637 rfl ?_
  refine i_ald 639 dL_law_638 rfl hx0 ⟨by omega, by omega, by omega⟩ ?_
  rw [e2]
  refine m_aload_n 640 dL_law_639 rfl rfl ?_
  refine m_iload 642 dL_law_640 rfl rfl ?_
  refine i_const 643 dL_law_642 rfl ?_
  refine i_add 644 dL_law_643 rfl ?_
  refine i_ald 645 dL_law_644 rfl hx0 ⟨by omega, by omega, by omega⟩ ?_
  refine m_cVr (M' := MX8_seen) 648 [_, _, _] kL_94 imX8_seen seX8_seen clX8_seen dL_law_645 rfl rfl rfl hx22 (m_rmL (by decide) (Nat.le_of_ble_eq_true rfl) (by simp only [m_r]; omega) (by simp only [m_r]; omega)) hM (fun w2 h => by obtain ⟨_, h, -⟩ := h; cases h) (fun v3 y h => ?_)
  obtain ⟨v, hv, hI⟩ := h
  cases hv
  obtain ⟨fs2, hy22⟩ := hI.c22
  obtain ⟨o2, h31, hP⟩ := hI.c31
  refine m_istore 650 dL_law_648 rfl (by decide) ?_
  refine m_aload_n 651 dL_law_650 rfl rfl ?_
  refine m_cV (M' := MX8_thrown) 654 [] kL_63 imX8_thrown seX8_thrown clX8_thrown dL_law_651 rfl rfl rfl hy22 (m_rmL (by decide) (Nat.le_of_ble_eq_true rfl) (by simp only [m_r]; omega) (by simp only [m_r]; omega)) (hI.thrown hG 8) ?_
  refine m_iload 656 dL_law_654 rfl rfl ?_
  refine i_icmp_eq 659 661 ⟨by omega, by omega⟩ ⟨by omega, by omega⟩ dL_law_656 rfl (by decide) (fun _ => ?_) (fun h => absurd h (fun e => e rfl))
  refine m_iload 663 dL_law_661 rfl rfl ?_
  rcases hk with rfl | rfl
  · refine i_if_ne 666 678 ⟨by omega, by omega⟩ dL_law_663 rfl (by decide) (fun h => absurd h (by decide)) (fun _ => ?_)
    refine m_aload_n 667 dL_law_666 rfl rfl ?_
    refine i_const 668 dL_law_667 rfl ?_
    refine m_lald 669 dL_law_668 rfl h31 vin0 ?_
    refine m_iload 671 dL_law_669 rfl rfl ?_
    refine m_i2l 672 dL_law_671 rfl ?_
    have e31 : o2 0 = (iI v).toInt64 := hP rfl
    skip
    refine m_lcmp 673 dL_law_672 rfl ?_
    rw [show o2 (iI 0).toNatClampNeg = _ from e31, cmp_self]
    refine m_if_eq 676 678 dL_law_673 rfl (by decide) (fun _ => ?_) (fun h => absurd rfl h)
    refine m_goto 1174 dL_law_678 (by decide) ?_
    exact kk y _ _ _ _ hI.inv (by constructor <;> (simp only [m_r]; omega))
  · refine i_if_ne 666 678 ⟨by omega, by omega⟩ dL_law_663 rfl (by decide) (fun _ => ?_) (fun h => absurd h (by decide))
    refine m_goto 1174 dL_law_678 (by decide) ?_
    exact kk y _ _ _ _ hI.inv (by constructor <;> (simp only [m_r]; omega))
set_option maxHeartbeats 4000000 in
set_option maxRecDepth 100000 in
theorem g_far (hG : m_G G) {N i nc ns : Nat} {g : Nat → Int} (hI0 : INV (cI N g) w) (hN : N ≤ 2051) (hi : i + 3 < N) (hg : ∀ j, iR (g j)) (hR : nc + 1 ≤ 601024 ∧ ns + 6 ≤ 7293000) {x5 x6 : Option Value} 
    (hD : stepW G ML_far MX8_far [.ref 1, vI (g (i + 1)), vI (g (i + 2)), .ref 31] [.ref 22, vI (g (i + 1)), vI (g (i + 2))] (cI N g) w vI (fun v : Int => (iI v).toInt64))
    (kk : ∀ (y : List mC) (nc' ns' : Nat) (x5 x6 : Option Value), INV (cI N g) y → nc' ≤ nc + 1 ∧ ns' ≤ ns + 6 → m_J G ML_law room_1 QL nc' ns' 1174 [some (.ref 0), some (.ref 1), some (.ref 22), some (.ref 31), some (vI (i : Int)), x5, x6] [] y) : m_J G ML_law room_1 QL nc ns 681 [some (.ref 0), some (.ref 1), some (.ref 22), some (.ref 31), some (vI (i : Int)), x5, x6] [] w := by
  have e1 : ((i : Int) + 1).toNat = i + 1 := by omega
  have e2 : ((i : Int) + 2).toNat = i + 2 := by omega
  have e3 : ((i : Int) + 3).toNat = i + 3 := by omega
  have h0 := hI0.c0
  obtain ⟨kr, hk, A, hW, hA⟩ := hD
  refine m_aload_n 682 dL_law_681 rfl rfl ?_
  refine m_aload_n 683 dL_law_682 rfl rfl ?_
  refine m_iload 685 dL_law_683 rfl rfl ?_
  refine i_const 686 dL_law_685 rfl ?_
  refine i_add 687 dL_law_686 rfl ?_
  refine i_ald 688 dL_law_687 rfl (by first | rfl | assumption) ⟨by omega, by omega, by omega⟩ ?_
  rw [e1]
  refine m_aload_n 689 dL_law_688 rfl rfl ?_
  refine m_iload 691 dL_law_689 rfl rfl ?_
  refine i_const 692 dL_law_691 rfl ?_
  refine i_add 693 dL_law_692 rfl ?_
  refine i_ald 694 dL_law_693 rfl (by first | rfl | assumption) ⟨by omega, by omega, by omega⟩ ?_
  rw [e2]
  refine m_aload_n 695 dL_law_694 rfl rfl ?_
  refine m_cSr (M' := ML_far) 698 [_, _, _, _] kL_95 stL_far clL_far dL_law_695 rfl rfl (m_rmL (by decide) (Nat.le_of_ble_eq_true rfl) (by omega) (by omega)) hW (fun w2 h => by cases h.1) (fun v2 w2 h => ?_)
  obtain ⟨hv, hAx⟩ := h
  cases hv
  obtain ⟨hx0, ⟨fs, hx22⟩, hM⟩ := hA _ hAx
  refine m_istore 700 dL_law_698 rfl (by decide) ?_
  refine m_aload_n 701 dL_law_700 rfl rfl ?_
  refine m_aload_n 702 dL_law_701 rfl rfl ?_
  refine m_iload 704 dL_law_702 rfl rfl ?_
  refine i_const 705 dL_law_704 rfl ?_
  refine i_add 706 dL_law_705 rfl ?_
  refine i_ald 707 dL_law_706 rfl hx0 ⟨by omega, by omega, by omega⟩ ?_
  rw [e1]
  refine m_aload_n 708 dL_law_707 rfl rfl ?_
  refine m_iload 710 dL_law_708 rfl rfl ?_
  refine i_const 711 dL_law_710 rfl ?_
  refine i_add 712 dL_law_711 rfl ?_
  refine i_ald 713 dL_law_712 rfl hx0 ⟨by omega, by omega, by omega⟩ ?_
  refine m_cVr (M' := MX8_far) 716 [_, _] kL_97 imX8_far seX8_far clX8_far dL_law_713 rfl rfl rfl hx22 (m_rmL (by decide) (Nat.le_of_ble_eq_true rfl) (by simp only [m_r]; omega) (by simp only [m_r]; omega)) hM (fun w2 h => by obtain ⟨_, h, -⟩ := h; cases h) (fun v3 y h => ?_)
  obtain ⟨v, hv, hI⟩ := h
  cases hv
  obtain ⟨fs2, hy22⟩ := hI.c22
  obtain ⟨o2, h31, hP⟩ := hI.c31
  refine m_istore 718 dL_law_716 rfl (by decide) ?_
  refine m_aload_n 719 dL_law_718 rfl rfl ?_
  refine m_cV (M' := MX8_thrown) 722 [] kL_63 imX8_thrown seX8_thrown clX8_thrown dL_law_719 rfl rfl rfl hy22 (m_rmL (by decide) (Nat.le_of_ble_eq_true rfl) (by simp only [m_r]; omega) (by simp only [m_r]; omega)) (hI.thrown hG 8) ?_
  refine m_iload 724 dL_law_722 rfl rfl ?_
  refine i_icmp_eq 727 729 ⟨by omega, by omega⟩ ⟨by omega, by omega⟩ dL_law_724 rfl (by decide) (fun _ => ?_) (fun h => absurd h (fun e => e rfl))
  refine m_iload 731 dL_law_729 rfl rfl ?_
  rcases hk with rfl | rfl
  · refine i_if_ne 734 746 ⟨by omega, by omega⟩ dL_law_731 rfl (by decide) (fun h => absurd h (by decide)) (fun _ => ?_)
    refine m_aload_n 735 dL_law_734 rfl rfl ?_
    refine i_const 736 dL_law_735 rfl ?_
    refine m_lald 737 dL_law_736 rfl h31 vin0 ?_
    refine m_iload 739 dL_law_737 rfl rfl ?_
    refine m_i2l 740 dL_law_739 rfl ?_
    have e31 : o2 0 = (iI v).toInt64 := hP rfl
    skip
    refine m_lcmp 741 dL_law_740 rfl ?_
    rw [show o2 (iI 0).toNatClampNeg = _ from e31, cmp_self]
    refine m_if_eq 744 746 dL_law_741 rfl (by decide) (fun _ => ?_) (fun h => absurd rfl h)
    refine m_goto 1174 dL_law_746 (by decide) ?_
    exact kk y _ _ _ _ hI.inv (by constructor <;> (simp only [m_r]; omega))
  · refine i_if_ne 734 746 ⟨by omega, by omega⟩ dL_law_731 rfl (by decide) (fun _ => ?_) (fun h => absurd h (by decide))
    refine m_goto 1174 dL_law_746 (by decide) ?_
    exact kk y _ _ _ _ hI.inv (by constructor <;> (simp only [m_r]; omega))
set_option maxHeartbeats 4000000 in
set_option maxRecDepth 100000 in
theorem g_without (hG : m_G G) {N i nc ns : Nat} {g : Nat → Int} (hI0 : INV (cI N g) w) (hN : N ≤ 2051) (hi : i + 3 < N) (hg : ∀ j, iR (g j)) (hR : nc + 1 ≤ 601024 ∧ ns + 6 ≤ 7293000) {x5 x6 : Option Value} 
    (hD : stepW G ML_without MX8_without [.ref 1, vI (g (i + 1)), .ref 31] [.ref 22, vI (g (i + 1))] (cI N g) w vI (fun v : Int => (iI v).toInt64))
    (kk : ∀ (y : List mC) (nc' ns' : Nat) (x5 x6 : Option Value), INV (cI N g) y → nc' ≤ nc + 1 ∧ ns' ≤ ns + 6 → m_J G ML_law room_1 QL nc' ns' 1174 [some (.ref 0), some (.ref 1), some (.ref 22), some (.ref 31), some (vI (i : Int)), x5, x6] [] y) : m_J G ML_law room_1 QL nc ns 774 [some (.ref 0), some (.ref 1), some (.ref 22), some (.ref 31), some (vI (i : Int)), x5, x6] [] w := by
  have e1 : ((i : Int) + 1).toNat = i + 1 := by omega
  have e2 : ((i : Int) + 2).toNat = i + 2 := by omega
  have e3 : ((i : Int) + 3).toNat = i + 3 := by omega
  have h0 := hI0.c0
  obtain ⟨kr, hk, A, hW, hA⟩ := hD
  refine m_aload_n 775 dL_law_774 rfl rfl ?_
  refine m_aload_n 776 dL_law_775 rfl rfl ?_
  refine m_iload 778 dL_law_776 rfl rfl ?_
  refine i_const 779 dL_law_778 rfl ?_
  refine i_add 780 dL_law_779 rfl ?_
  refine i_ald 781 dL_law_780 rfl (by first | rfl | assumption) ⟨by omega, by omega, by omega⟩ ?_
  rw [e1]
  refine m_aload_n 782 dL_law_781 rfl rfl ?_
  refine m_cSr (M' := ML_without) 785 [_, _, _] kL_102 stL_without clL_without dL_law_782 rfl rfl (m_rmL (by decide) (Nat.le_of_ble_eq_true rfl) (by omega) (by omega)) hW (fun w2 h => by cases h.1) (fun v2 w2 h => ?_)
  obtain ⟨hv, hAx⟩ := h
  cases hv
  obtain ⟨hx0, ⟨fs, hx22⟩, hM⟩ := hA _ hAx
  refine m_istore 787 dL_law_785 rfl (by decide) ?_
  refine m_aload_n 788 dL_law_787 rfl rfl ?_
  refine m_aload_n 789 dL_law_788 rfl rfl ?_
  refine m_iload 791 dL_law_789 rfl rfl ?_
  refine i_const 792 dL_law_791 rfl ?_
  refine i_add 793 dL_law_792 rfl ?_
  refine i_ald 794 dL_law_793 rfl hx0 ⟨by omega, by omega, by omega⟩ ?_
  refine m_cVr (M' := MX8_without) 797 [_] kL_105 imX8_without seX8_without clX8_without dL_law_794 rfl rfl rfl hx22 (m_rmL (by decide) (Nat.le_of_ble_eq_true rfl) (by simp only [m_r]; omega) (by simp only [m_r]; omega)) hM (fun w2 h => by obtain ⟨_, h, -⟩ := h; cases h) (fun v3 y h => ?_)
  obtain ⟨v, hv, hI⟩ := h
  cases hv
  obtain ⟨fs2, hy22⟩ := hI.c22
  obtain ⟨o2, h31, hP⟩ := hI.c31
  refine m_istore 799 dL_law_797 rfl (by decide) ?_
  refine m_aload_n 800 dL_law_799 rfl rfl ?_
  refine m_cV (M' := MX8_thrown) 803 [] kL_63 imX8_thrown seX8_thrown clX8_thrown dL_law_800 rfl rfl rfl hy22 (m_rmL (by decide) (Nat.le_of_ble_eq_true rfl) (by simp only [m_r]; omega) (by simp only [m_r]; omega)) (hI.thrown hG 8) ?_
  refine m_iload 805 dL_law_803 rfl rfl ?_
  refine i_icmp_eq 808 810 ⟨by omega, by omega⟩ ⟨by omega, by omega⟩ dL_law_805 rfl (by decide) (fun _ => ?_) (fun h => absurd h (fun e => e rfl))
  refine m_iload 812 dL_law_810 rfl rfl ?_
  rcases hk with rfl | rfl
  · refine i_if_ne 815 827 ⟨by omega, by omega⟩ dL_law_812 rfl (by decide) (fun h => absurd h (by decide)) (fun _ => ?_)
    refine m_aload_n 816 dL_law_815 rfl rfl ?_
    refine i_const 817 dL_law_816 rfl ?_
    refine m_lald 818 dL_law_817 rfl h31 vin0 ?_
    refine m_iload 820 dL_law_818 rfl rfl ?_
    refine m_i2l 821 dL_law_820 rfl ?_
    have e31 : o2 0 = (iI v).toInt64 := hP rfl
    skip
    refine m_lcmp 822 dL_law_821 rfl ?_
    rw [show o2 (iI 0).toNatClampNeg = _ from e31, cmp_self]
    refine m_if_eq 825 827 dL_law_822 rfl (by decide) (fun _ => ?_) (fun h => absurd rfl h)
    refine m_goto 1174 dL_law_827 (by decide) ?_
    exact kk y _ _ _ _ hI.inv (by constructor <;> (simp only [m_r]; omega))
  · refine i_if_ne 815 827 ⟨by omega, by omega⟩ dL_law_812 rfl (by decide) (fun _ => ?_) (fun h => absurd h (by decide))
    refine m_goto 1174 dL_law_827 (by decide) ?_
    exact kk y _ _ _ _ hI.inv (by constructor <;> (simp only [m_r]; omega))
set_option maxHeartbeats 4000000 in
set_option maxRecDepth 100000 in
theorem g_area (hG : m_G G) {N i nc ns : Nat} {g : Nat → Int} (hI0 : INV (cI N g) w) (hN : N ≤ 2051) (hi : i + 3 < N) (hg : ∀ j, iR (g j)) (hR : nc + 1 ≤ 601024 ∧ ns + 6 ≤ 7293000) {x5 x6 : Option Value} 
    (hD : stepW G ML_area MX8_area [.ref 1, vI (g (i + 1)), vI (g (i + 2)), .ref 31] [.ref 22, vI (g (i + 1)), vI (g (i + 2))] (cI N g) w vB (fun v : Bool => if v then 1 else 0))
    (kk : ∀ (y : List mC) (nc' ns' : Nat) (x5 x6 : Option Value), INV (cI N g) y → nc' ≤ nc + 1 ∧ ns' ≤ ns + 6 → m_J G ML_law room_1 QL nc' ns' 1174 [some (.ref 0), some (.ref 1), some (.ref 22), some (.ref 31), some (vI (i : Int)), x5, x6] [] y) : m_J G ML_law room_1 QL nc ns 830 [some (.ref 0), some (.ref 1), some (.ref 22), some (.ref 31), some (vI (i : Int)), x5, x6] [] w := by
  have e1 : ((i : Int) + 1).toNat = i + 1 := by omega
  have e2 : ((i : Int) + 2).toNat = i + 2 := by omega
  have e3 : ((i : Int) + 3).toNat = i + 3 := by omega
  have h0 := hI0.c0
  obtain ⟨kr, hk, A, hW, hA⟩ := hD
  refine m_aload_n 831 dL_law_830 rfl rfl ?_
  refine m_aload_n 832 dL_law_831 rfl rfl ?_
  refine m_iload 834 dL_law_832 rfl rfl ?_
  refine i_const 835 dL_law_834 rfl ?_
  refine i_add 836 dL_law_835 rfl ?_
  refine i_ald 837 dL_law_836 rfl (by first | rfl | assumption) ⟨by omega, by omega, by omega⟩ ?_
  rw [e1]
  refine m_aload_n 838 dL_law_837 rfl rfl ?_
  refine m_iload 840 dL_law_838 rfl rfl ?_
  refine i_const 841 dL_law_840 rfl ?_
  refine i_add 842 dL_law_841 rfl ?_
  refine i_ald 843 dL_law_842 rfl (by first | rfl | assumption) ⟨by omega, by omega, by omega⟩ ?_
  rw [e2]
  refine m_aload_n 844 dL_law_843 rfl rfl ?_
  refine m_cSr (M' := ML_area) 847 [_, _, _, _] kL_106 stL_area clL_area dL_law_844 rfl rfl (m_rmL (by decide) (Nat.le_of_ble_eq_true rfl) (by omega) (by omega)) hW (fun w2 h => by cases h.1) (fun v2 w2 h => ?_)
  obtain ⟨hv, hAx⟩ := h
  cases hv
  obtain ⟨hx0, ⟨fs, hx22⟩, hM⟩ := hA _ hAx
  refine m_istore 849 dL_law_847 rfl (by decide) ?_
  refine m_aload_n 850 dL_law_849 rfl rfl ?_
  refine m_aload_n 851 dL_law_850 rfl rfl ?_
  refine m_iload 853 dL_law_851 rfl rfl ?_
  refine i_const 854 dL_law_853 rfl ?_
  refine i_add 855 dL_law_854 rfl ?_
  refine i_ald 856 dL_law_855 rfl hx0 ⟨by omega, by omega, by omega⟩ ?_
  rw [e1]
  refine m_aload_n 857 dL_law_856 rfl rfl ?_
  refine m_iload 859 dL_law_857 rfl rfl ?_
  refine i_const 860 dL_law_859 rfl ?_
  refine i_add 861 dL_law_860 rfl ?_
  refine i_ald 862 dL_law_861 rfl hx0 ⟨by omega, by omega, by omega⟩ ?_
  refine m_cVr (M' := MX8_area) 865 [_, _] kL_108 imX8_area seX8_area clX8_area dL_law_862 rfl rfl rfl hx22 (m_rmL (by decide) (Nat.le_of_ble_eq_true rfl) (by simp only [m_r]; omega) (by simp only [m_r]; omega)) hM (fun w2 h => by obtain ⟨_, h, -⟩ := h; cases h) (fun v3 y h => ?_)
  obtain ⟨v, hv, hI⟩ := h
  cases hv
  obtain ⟨fs2, hy22⟩ := hI.c22
  obtain ⟨o2, h31, hP⟩ := hI.c31
  refine m_istore 867 dL_law_865 rfl (by decide) ?_
  refine m_aload_n 868 dL_law_867 rfl rfl ?_
  refine m_cV (M' := MX8_thrown) 871 [] kL_63 imX8_thrown seX8_thrown clX8_thrown dL_law_868 rfl rfl rfl hy22 (m_rmL (by decide) (Nat.le_of_ble_eq_true rfl) (by simp only [m_r]; omega) (by simp only [m_r]; omega)) (hI.thrown hG 8) ?_
  refine m_iload 873 dL_law_871 rfl rfl ?_
  refine i_icmp_eq 876 878 ⟨by omega, by omega⟩ ⟨by omega, by omega⟩ dL_law_873 rfl (by decide) (fun _ => ?_) (fun h => absurd h (fun e => e rfl))
  refine m_iload 880 dL_law_878 rfl rfl ?_
  rcases hk with rfl | rfl
  · refine i_if_ne 883 902 ⟨by omega, by omega⟩ dL_law_880 rfl (by decide) (fun h => absurd h (by decide)) (fun _ => ?_)
    refine m_aload_n 884 dL_law_883 rfl rfl ?_
    refine i_const 885 dL_law_884 rfl ?_
    refine m_lald 886 dL_law_885 rfl h31 vin0 ?_
    refine m_iload 888 dL_law_886 rfl rfl ?_
    refine b_if_eq 891 895 dL_law_888 rfl (by decide) (fun q888 => ?_) (fun q888 => ?_)
    · refine m_lconst (v := 0) 896 dL_law_895 rfl (by decide) ?_
      have e31 : o2 0 = (if v then 1 else 0) := hP rfl
      rw [if_neg (by rw [q888]; decide)] at e31
      refine m_lcmp 897 dL_law_896 rfl ?_
      rw [show o2 (iI 0).toNatClampNeg = _ from e31, cmp_self]
      refine m_if_eq 900 902 dL_law_897 rfl (by decide) (fun _ => ?_) (fun h => absurd rfl h)
      refine m_goto 1174 dL_law_902 (by decide) ?_
      exact kk y _ _ _ _ hI.inv (by constructor <;> (simp only [m_r]; omega))
    · refine m_lconst (v := 1) 892 dL_law_891 rfl (by decide) ?_
      refine m_goto 896 dL_law_892 (by decide) ?_
      have e31 : o2 0 = (if v then 1 else 0) := hP rfl
      rw [if_pos q888] at e31
      refine m_lcmp 897 dL_law_896 rfl ?_
      rw [show o2 (iI 0).toNatClampNeg = _ from e31, cmp_self]
      refine m_if_eq 900 902 dL_law_897 rfl (by decide) (fun _ => ?_) (fun h => absurd rfl h)
      refine m_goto 1174 dL_law_902 (by decide) ?_
      exact kk y _ _ _ _ hI.inv (by constructor <;> (simp only [m_r]; omega))
  · refine i_if_ne 883 902 ⟨by omega, by omega⟩ dL_law_880 rfl (by decide) (fun _ => ?_) (fun h => absurd h (by decide))
    refine m_goto 1174 dL_law_902 (by decide) ?_
    exact kk y _ _ _ _ hI.inv (by constructor <;> (simp only [m_r]; omega))
set_option maxHeartbeats 4000000 in
set_option maxRecDepth 100000 in
theorem g_mark (hG : m_G G) {N i nc ns : Nat} {g : Nat → Int} (hI0 : INV (cI N g) w) (hN : N ≤ 2051) (hi : i + 3 < N) (hg : ∀ j, iR (g j)) (hR : nc + 1 ≤ 601024 ∧ ns + 6 ≤ 7293000) {x5 x6 : Option Value} 
    (hD : stepW G ML_mark MX8_mark [.ref 1, vI (g (i + 1)), vI (g (i + 2)), .ref 31] [.ref 22, vI (g (i + 1)), vI (g (i + 2))] (cI N g) w vB (fun v : Bool => if v then 1 else 0))
    (kk : ∀ (y : List mC) (nc' ns' : Nat) (x5 x6 : Option Value), INV (cI N g) y → nc' ≤ nc + 1 ∧ ns' ≤ ns + 6 → m_J G ML_law room_1 QL nc' ns' 1174 [some (.ref 0), some (.ref 1), some (.ref 22), some (.ref 31), some (vI (i : Int)), x5, x6] [] y) : m_J G ML_law room_1 QL nc ns 930 [some (.ref 0), some (.ref 1), some (.ref 22), some (.ref 31), some (vI (i : Int)), x5, x6] [] w := by
  have e1 : ((i : Int) + 1).toNat = i + 1 := by omega
  have e2 : ((i : Int) + 2).toNat = i + 2 := by omega
  have e3 : ((i : Int) + 3).toNat = i + 3 := by omega
  have h0 := hI0.c0
  obtain ⟨kr, hk, A, hW, hA⟩ := hD
  refine m_aload_n 931 dL_law_930 rfl rfl ?_
  refine m_aload_n 932 dL_law_931 rfl rfl ?_
  refine m_iload 934 dL_law_932 rfl rfl ?_
  refine i_const 935 dL_law_934 rfl ?_
  refine i_add 936 dL_law_935 rfl ?_
  refine i_ald 937 dL_law_936 rfl (by first | rfl | assumption) ⟨by omega, by omega, by omega⟩ ?_
  rw [e1]
  refine m_aload_n 938 dL_law_937 rfl rfl ?_
  refine m_iload 940 dL_law_938 rfl rfl ?_
  refine i_const 941 dL_law_940 rfl ?_
  refine i_add 942 dL_law_941 rfl ?_
  refine i_ald 943 dL_law_942 rfl (by first | rfl | assumption) ⟨by omega, by omega, by omega⟩ ?_
  rw [e2]
  refine m_aload_n 944 dL_law_943 rfl rfl ?_
  refine m_cSr (M' := ML_mark) 947 [_, _, _, _] kL_113 stL_mark clL_mark dL_law_944 rfl rfl (m_rmL (by decide) (Nat.le_of_ble_eq_true rfl) (by omega) (by omega)) hW (fun w2 h => by cases h.1) (fun v2 w2 h => ?_)
  obtain ⟨hv, hAx⟩ := h
  cases hv
  obtain ⟨hx0, ⟨fs, hx22⟩, hM⟩ := hA _ hAx
  refine m_istore 949 dL_law_947 rfl (by decide) ?_
  refine m_aload_n 950 dL_law_949 rfl rfl ?_
  refine m_aload_n 951 dL_law_950 rfl rfl ?_
  refine m_iload 953 dL_law_951 rfl rfl ?_
  refine i_const 954 dL_law_953 rfl ?_
  refine i_add 955 dL_law_954 rfl ?_
  refine i_ald 956 dL_law_955 rfl hx0 ⟨by omega, by omega, by omega⟩ ?_
  rw [e1]
  refine m_aload_n 957 dL_law_956 rfl rfl ?_
  refine m_iload 959 dL_law_957 rfl rfl ?_
  refine i_const 960 dL_law_959 rfl ?_
  refine i_add 961 dL_law_960 rfl ?_
  refine i_ald 962 dL_law_961 rfl hx0 ⟨by omega, by omega, by omega⟩ ?_
  refine m_cVr (M' := MX8_mark) 965 [_, _] kL_115 imX8_mark seX8_mark clX8_mark dL_law_962 rfl rfl rfl hx22 (m_rmL (by decide) (Nat.le_of_ble_eq_true rfl) (by simp only [m_r]; omega) (by simp only [m_r]; omega)) hM (fun w2 h => by obtain ⟨_, h, -⟩ := h; cases h) (fun v3 y h => ?_)
  obtain ⟨v, hv, hI⟩ := h
  cases hv
  obtain ⟨fs2, hy22⟩ := hI.c22
  obtain ⟨o2, h31, hP⟩ := hI.c31
  refine m_istore 967 dL_law_965 rfl (by decide) ?_
  refine m_aload_n 968 dL_law_967 rfl rfl ?_
  refine m_cV (M' := MX8_thrown) 971 [] kL_63 imX8_thrown seX8_thrown clX8_thrown dL_law_968 rfl rfl rfl hy22 (m_rmL (by decide) (Nat.le_of_ble_eq_true rfl) (by simp only [m_r]; omega) (by simp only [m_r]; omega)) (hI.thrown hG 8) ?_
  refine m_iload 973 dL_law_971 rfl rfl ?_
  refine i_icmp_eq 976 978 ⟨by omega, by omega⟩ ⟨by omega, by omega⟩ dL_law_973 rfl (by decide) (fun _ => ?_) (fun h => absurd h (fun e => e rfl))
  refine m_iload 980 dL_law_978 rfl rfl ?_
  rcases hk with rfl | rfl
  · refine i_if_ne 983 1002 ⟨by omega, by omega⟩ dL_law_980 rfl (by decide) (fun h => absurd h (by decide)) (fun _ => ?_)
    refine m_aload_n 984 dL_law_983 rfl rfl ?_
    refine i_const 985 dL_law_984 rfl ?_
    refine m_lald 986 dL_law_985 rfl h31 vin0 ?_
    refine m_iload 988 dL_law_986 rfl rfl ?_
    refine b_if_eq 991 995 dL_law_988 rfl (by decide) (fun q988 => ?_) (fun q988 => ?_)
    · refine m_lconst (v := 0) 996 dL_law_995 rfl (by decide) ?_
      have e31 : o2 0 = (if v then 1 else 0) := hP rfl
      rw [if_neg (by rw [q988]; decide)] at e31
      refine m_lcmp 997 dL_law_996 rfl ?_
      rw [show o2 (iI 0).toNatClampNeg = _ from e31, cmp_self]
      refine m_if_eq 1000 1002 dL_law_997 rfl (by decide) (fun _ => ?_) (fun h => absurd rfl h)
      refine m_goto 1174 dL_law_1002 (by decide) ?_
      exact kk y _ _ _ _ hI.inv (by constructor <;> (simp only [m_r]; omega))
    · refine m_lconst (v := 1) 992 dL_law_991 rfl (by decide) ?_
      refine m_goto 996 dL_law_992 (by decide) ?_
      have e31 : o2 0 = (if v then 1 else 0) := hP rfl
      rw [if_pos q988] at e31
      refine m_lcmp 997 dL_law_996 rfl ?_
      rw [show o2 (iI 0).toNatClampNeg = _ from e31, cmp_self]
      refine m_if_eq 1000 1002 dL_law_997 rfl (by decide) (fun _ => ?_) (fun h => absurd rfl h)
      refine m_goto 1174 dL_law_1002 (by decide) ?_
      exact kk y _ _ _ _ hI.inv (by constructor <;> (simp only [m_r]; omega))
  · refine i_if_ne 983 1002 ⟨by omega, by omega⟩ dL_law_980 rfl (by decide) (fun _ => ?_) (fun h => absurd h (by decide))
    refine m_goto 1174 dL_law_1002 (by decide) ?_
    exact kk y _ _ _ _ hI.inv (by constructor <;> (simp only [m_r]; omega))
set_option maxHeartbeats 4000000 in
set_option maxRecDepth 100000 in
theorem g_image (hG : m_G G) {N i nc ns : Nat} {g : Nat → Int} (hI0 : INV (cI N g) w) (hN : N ≤ 2051) (hi : i + 3 < N) (hg : ∀ j, iR (g j)) (hR : nc + 1 ≤ 601024 ∧ ns + 6 ≤ 7293000) {x5 x6 : Option Value} 
    (hD : stepW G ML_image MX8_image [.ref 1, vI (g (i + 1)), vI (g (i + 2)), .ref 31] [.ref 22, vI (g (i + 1)), vI (g (i + 2))] (cI N g) w vI (fun v : Int => (iI v).toInt64))
    (kk : ∀ (y : List mC) (nc' ns' : Nat) (x5 x6 : Option Value), INV (cI N g) y → nc' ≤ nc + 1 ∧ ns' ≤ ns + 6 → m_J G ML_law room_1 QL nc' ns' 1174 [some (.ref 0), some (.ref 1), some (.ref 22), some (.ref 31), some (vI (i : Int)), x5, x6] [] y) : m_J G ML_law room_1 QL nc ns 1005 [some (.ref 0), some (.ref 1), some (.ref 22), some (.ref 31), some (vI (i : Int)), x5, x6] [] w := by
  have e1 : ((i : Int) + 1).toNat = i + 1 := by omega
  have e2 : ((i : Int) + 2).toNat = i + 2 := by omega
  have e3 : ((i : Int) + 3).toNat = i + 3 := by omega
  have h0 := hI0.c0
  obtain ⟨kr, hk, A, hW, hA⟩ := hD
  refine m_aload_n 1006 dL_law_1005 rfl rfl ?_
  refine m_aload_n 1007 dL_law_1006 rfl rfl ?_
  refine m_iload 1009 dL_law_1007 rfl rfl ?_
  refine i_const 1010 dL_law_1009 rfl ?_
  refine i_add 1011 dL_law_1010 rfl ?_
  refine i_ald 1012 dL_law_1011 rfl (by first | rfl | assumption) ⟨by omega, by omega, by omega⟩ ?_
  rw [e1]
  refine m_aload_n 1013 dL_law_1012 rfl rfl ?_
  refine m_iload 1015 dL_law_1013 rfl rfl ?_
  refine i_const 1016 dL_law_1015 rfl ?_
  refine i_add 1017 dL_law_1016 rfl ?_
  refine i_ald 1018 dL_law_1017 rfl (by first | rfl | assumption) ⟨by omega, by omega, by omega⟩ ?_
  rw [e2]
  refine m_aload_n 1019 dL_law_1018 rfl rfl ?_
  refine m_cSr (M' := ML_image) 1022 [_, _, _, _] kL_116 stL_image clL_image dL_law_1019 rfl rfl (m_rmL (by decide) (Nat.le_of_ble_eq_true rfl) (by omega) (by omega)) hW (fun w2 h => by cases h.1) (fun v2 w2 h => ?_)
  obtain ⟨hv, hAx⟩ := h
  cases hv
  obtain ⟨hx0, ⟨fs, hx22⟩, hM⟩ := hA _ hAx
  refine m_istore 1024 dL_law_1022 rfl (by decide) ?_
  refine m_aload_n 1025 dL_law_1024 rfl rfl ?_
  refine m_aload_n 1026 dL_law_1025 rfl rfl ?_
  refine m_iload 1028 dL_law_1026 rfl rfl ?_
  refine i_const 1029 dL_law_1028 rfl ?_
  refine i_add 1030 dL_law_1029 rfl ?_
  refine i_ald 1031 dL_law_1030 rfl hx0 ⟨by omega, by omega, by omega⟩ ?_
  rw [e1]
  refine m_aload_n 1032 dL_law_1031 rfl rfl ?_
  refine m_iload 1034 dL_law_1032 rfl rfl ?_
  refine i_const 1035 dL_law_1034 rfl ?_
  refine i_add 1036 dL_law_1035 rfl ?_
  refine i_ald 1037 dL_law_1036 rfl hx0 ⟨by omega, by omega, by omega⟩ ?_
  refine m_cVr (M' := MX8_image) 1040 [_, _] kL_118 imX8_image seX8_image clX8_image dL_law_1037 rfl rfl rfl hx22 (m_rmL (by decide) (Nat.le_of_ble_eq_true rfl) (by simp only [m_r]; omega) (by simp only [m_r]; omega)) hM (fun w2 h => by obtain ⟨_, h, -⟩ := h; cases h) (fun v3 y h => ?_)
  obtain ⟨v, hv, hI⟩ := h
  cases hv
  obtain ⟨fs2, hy22⟩ := hI.c22
  obtain ⟨o2, h31, hP⟩ := hI.c31
  refine m_istore 1042 dL_law_1040 rfl (by decide) ?_
  refine m_aload_n 1043 dL_law_1042 rfl rfl ?_
  refine m_cV (M' := MX8_thrown) 1046 [] kL_63 imX8_thrown seX8_thrown clX8_thrown dL_law_1043 rfl rfl rfl hy22 (m_rmL (by decide) (Nat.le_of_ble_eq_true rfl) (by simp only [m_r]; omega) (by simp only [m_r]; omega)) (hI.thrown hG 8) ?_
  refine m_iload 1048 dL_law_1046 rfl rfl ?_
  refine i_icmp_eq 1051 1053 ⟨by omega, by omega⟩ ⟨by omega, by omega⟩ dL_law_1048 rfl (by decide) (fun _ => ?_) (fun h => absurd h (fun e => e rfl))
  refine m_iload 1055 dL_law_1053 rfl rfl ?_
  rcases hk with rfl | rfl
  · refine i_if_ne 1058 1070 ⟨by omega, by omega⟩ dL_law_1055 rfl (by decide) (fun h => absurd h (by decide)) (fun _ => ?_)
    refine m_aload_n 1059 dL_law_1058 rfl rfl ?_
    refine i_const 1060 dL_law_1059 rfl ?_
    refine m_lald 1061 dL_law_1060 rfl h31 vin0 ?_
    refine m_iload 1063 dL_law_1061 rfl rfl ?_
    refine m_i2l 1064 dL_law_1063 rfl ?_
    have e31 : o2 0 = (iI v).toInt64 := hP rfl
    skip
    refine m_lcmp 1065 dL_law_1064 rfl ?_
    rw [show o2 (iI 0).toNatClampNeg = _ from e31, cmp_self]
    refine m_if_eq 1068 1070 dL_law_1065 rfl (by decide) (fun _ => ?_) (fun h => absurd rfl h)
    refine m_goto 1174 dL_law_1070 (by decide) ?_
    exact kk y _ _ _ _ hI.inv (by constructor <;> (simp only [m_r]; omega))
  · refine i_if_ne 1058 1070 ⟨by omega, by omega⟩ dL_law_1055 rfl (by decide) (fun _ => ?_) (fun h => absurd h (by decide))
    refine m_goto 1174 dL_law_1070 (by decide) ?_
    exact kk y _ _ _ _ hI.inv (by constructor <;> (simp only [m_r]; omega))
set_option maxHeartbeats 4000000 in
set_option maxRecDepth 100000 in
theorem g_places (hG : m_G G) {N i nc ns : Nat} {g : Nat → Int} (hI0 : INV (cI N g) w) (hN : N ≤ 2051) (hi : i + 3 < N) (hg : ∀ j, iR (g j)) (hR : nc + 1 ≤ 601024 ∧ ns + 6 ≤ 7293000) {x5 x6 : Option Value} 
    (hD : stepD G MX7_places MX8_places [.ref 1] [.ref 22] (cI N g) w vI)
    (kk : ∀ (y : List mC) (nc' ns' : Nat) (x5 x6 : Option Value), INV (cI N g) y → nc' ≤ nc + 1 ∧ ns' ≤ ns + 6 → m_J G ML_law room_1 QL nc' ns' 1174 [some (.ref 0), some (.ref 1), some (.ref 22), some (.ref 31), some (vI (i : Int)), x5, x6] [] y) : m_J G ML_law room_1 QL nc ns 239 [some (.ref 0), some (.ref 1), some (.ref 22), some (.ref 31), some (vI (i : Int)), x5, x6] [] w := by
  have e1 : ((i : Int) + 1).toNat = i + 1 := by omega
  have e2 : ((i : Int) + 2).toNat = i + 2 := by omega
  have e3 : ((i : Int) + 3).toNat = i + 3 := by omega
  have h0 := hI0.c0
  obtain ⟨A, hW, hA⟩ := hD
  refine m_aload_n 240 dL_law_239 rfl rfl ?_
  refine m_cVr (M' := MX7_places) 243 [] kL_67 imX7_places seX7_places clX7_places dL_law_240 rfl rfl rfl hI0.c1 (m_rmL (by decide) (Nat.le_of_ble_eq_true rfl) (by omega) (by omega)) hW (fun w2 h => by obtain ⟨_, h, -⟩ := h; cases h) (fun v2 w2 h => ?_)
  obtain ⟨v, hv, hAx⟩ := h
  cases hv
  obtain ⟨hx0, ⟨fs, hx22⟩, hM⟩ := hA _ _ hAx
  refine m_aload_n 244 dL_law_243 rfl rfl ?_
  refine m_cVr (M' := MX8_places) 247 [] kL_70 imX8_places seX8_places clX8_places dL_law_244 rfl rfl rfl hx22 (m_rmL (by decide) (Nat.le_of_ble_eq_true rfl) (by simp only [m_r]; omega) (by simp only [m_r]; omega)) hM (fun w2 h => by cases h.1) (fun v3 y h => ?_)
  obtain ⟨hv, hI⟩ := h
  cases hv
  refine m_icmp_eq 250 1174 dL_law_247 rfl (by decide) (fun _ => ?_) (fun h => absurd rfl h)
  exact kk y _ _ _ _ hI (by constructor <;> (simp only [m_r]; omega))
set_option maxHeartbeats 4000000 in
set_option maxRecDepth 100000 in
theorem g_pairsT (hG : m_G G) {N i nc ns : Nat} {g : Nat → Int} (hI0 : INV (cI N g) w) (hN : N ≤ 2051) (hi : i + 3 < N) (hg : ∀ j, iR (g j)) (hR : nc + 1 ≤ 601024 ∧ ns + 6 ≤ 7293000) {x5 x6 : Option Value} (hz : g (i + 1) ≠ 0) 
    (hD : stepD G MX7_pairs MX8_pairs [.ref 1, vB true] [.ref 22, vB true] (cI N g) w vI)
    (kk : ∀ (y : List mC) (nc' ns' : Nat) (x5 x6 : Option Value), INV (cI N g) y → nc' ≤ nc + 1 ∧ ns' ≤ ns + 6 → m_J G ML_law room_1 QL nc' ns' 1174 [some (.ref 0), some (.ref 1), some (.ref 22), some (.ref 31), some (vI (i : Int)), x5, x6] [] y) : m_J G ML_law room_1 QL nc ns 507 [some (.ref 0), some (.ref 1), some (.ref 22), some (.ref 31), some (vI (i : Int)), x5, x6] [] w := by
  have e1 : ((i : Int) + 1).toNat = i + 1 := by omega
  have e2 : ((i : Int) + 2).toNat = i + 2 := by omega
  have e3 : ((i : Int) + 3).toNat = i + 3 := by omega
  have h0 := hI0.c0
  obtain ⟨A, hW, hA⟩ := hD
  refine m_aload_n 508 dL_law_507 rfl rfl ?_
  refine m_aload_n 509 dL_law_508 rfl rfl ?_
  refine m_iload 511 dL_law_509 rfl rfl ?_
  refine i_const 512 dL_law_511 rfl ?_
  refine i_add 513 dL_law_512 rfl ?_
  refine i_ald 514 dL_law_513 rfl (by first | rfl | assumption) ⟨by omega, by omega, by omega⟩ ?_
  rw [e1]
  refine i_if_eq 517 521 (hg _) dL_law_514 rfl (by decide) (fun h => absurd h hz) (fun _ => ?_)
  refine i_const 518 dL_law_517 rfl ?_
  refine m_goto 522 dL_law_518 (by decide) ?_
  refine m_cVr (M' := MX7_pairs) 525 [_] kL_82 imX7_pairs seX7_pairs clX7_pairs dL_law_522 rfl rfl rfl hI0.c1 (m_rmL (by decide) (Nat.le_of_ble_eq_true rfl) (by omega) (by omega)) hW (fun w2 h => by obtain ⟨_, h, -⟩ := h; cases h) (fun v2 w2 h => ?_)
  obtain ⟨v, hv, hAx⟩ := h
  cases hv
  obtain ⟨hx0, ⟨fs, hx22⟩, hM⟩ := hA _ _ hAx
  refine m_aload_n 526 dL_law_525 rfl rfl ?_
  refine m_aload_n 527 dL_law_526 rfl rfl ?_
  refine m_iload 529 dL_law_527 rfl rfl ?_
  refine i_const 530 dL_law_529 rfl ?_
  refine i_add 531 dL_law_530 rfl ?_
  refine i_ald 532 dL_law_531 rfl hx0 ⟨by omega, by omega, by omega⟩ ?_
  rw [e1]
  refine i_if_eq 535 539 (hg _) dL_law_532 rfl (by decide) (fun h => absurd h hz) (fun _ => ?_)
  refine i_const 536 dL_law_535 rfl ?_
  refine m_goto 540 dL_law_536 (by decide) ?_
  refine m_cVr (M' := MX8_pairs) 543 [_] kL_86 imX8_pairs seX8_pairs clX8_pairs dL_law_540 rfl rfl rfl hx22 (m_rmL (by decide) (Nat.le_of_ble_eq_true rfl) (by simp only [m_r]; omega) (by simp only [m_r]; omega)) hM (fun w2 h => by cases h.1) (fun v3 y h => ?_)
  obtain ⟨hv, hI⟩ := h
  cases hv
  refine m_icmp_eq 546 1174 dL_law_543 rfl (by decide) (fun _ => ?_) (fun h => absurd rfl h)
  exact kk y _ _ _ _ hI (by constructor <;> (simp only [m_r]; omega))
set_option maxHeartbeats 4000000 in
set_option maxRecDepth 100000 in
theorem g_pairsF (hG : m_G G) {N i nc ns : Nat} {g : Nat → Int} (hI0 : INV (cI N g) w) (hN : N ≤ 2051) (hi : i + 3 < N) (hg : ∀ j, iR (g j)) (hR : nc + 1 ≤ 601024 ∧ ns + 6 ≤ 7293000) {x5 x6 : Option Value} (hz : g (i + 1) = 0) 
    (hD : stepD G MX7_pairs MX8_pairs [.ref 1, vB false] [.ref 22, vB false] (cI N g) w vI)
    (kk : ∀ (y : List mC) (nc' ns' : Nat) (x5 x6 : Option Value), INV (cI N g) y → nc' ≤ nc + 1 ∧ ns' ≤ ns + 6 → m_J G ML_law room_1 QL nc' ns' 1174 [some (.ref 0), some (.ref 1), some (.ref 22), some (.ref 31), some (vI (i : Int)), x5, x6] [] y) : m_J G ML_law room_1 QL nc ns 507 [some (.ref 0), some (.ref 1), some (.ref 22), some (.ref 31), some (vI (i : Int)), x5, x6] [] w := by
  have e1 : ((i : Int) + 1).toNat = i + 1 := by omega
  have e2 : ((i : Int) + 2).toNat = i + 2 := by omega
  have e3 : ((i : Int) + 3).toNat = i + 3 := by omega
  have h0 := hI0.c0
  obtain ⟨A, hW, hA⟩ := hD
  refine m_aload_n 508 dL_law_507 rfl rfl ?_
  refine m_aload_n 509 dL_law_508 rfl rfl ?_
  refine m_iload 511 dL_law_509 rfl rfl ?_
  refine i_const 512 dL_law_511 rfl ?_
  refine i_add 513 dL_law_512 rfl ?_
  refine i_ald 514 dL_law_513 rfl (by first | rfl | assumption) ⟨by omega, by omega, by omega⟩ ?_
  rw [e1]
  refine i_if_eq 517 521 (hg _) dL_law_514 rfl (by decide) (fun _ => ?_) (fun h => absurd h (fun e => e hz))
  refine i_const 522 dL_law_521 rfl ?_
  refine m_cVr (M' := MX7_pairs) 525 [_] kL_82 imX7_pairs seX7_pairs clX7_pairs dL_law_522 rfl rfl rfl hI0.c1 (m_rmL (by decide) (Nat.le_of_ble_eq_true rfl) (by omega) (by omega)) hW (fun w2 h => by obtain ⟨_, h, -⟩ := h; cases h) (fun v2 w2 h => ?_)
  obtain ⟨v, hv, hAx⟩ := h
  cases hv
  obtain ⟨hx0, ⟨fs, hx22⟩, hM⟩ := hA _ _ hAx
  refine m_aload_n 526 dL_law_525 rfl rfl ?_
  refine m_aload_n 527 dL_law_526 rfl rfl ?_
  refine m_iload 529 dL_law_527 rfl rfl ?_
  refine i_const 530 dL_law_529 rfl ?_
  refine i_add 531 dL_law_530 rfl ?_
  refine i_ald 532 dL_law_531 rfl hx0 ⟨by omega, by omega, by omega⟩ ?_
  rw [e1]
  refine i_if_eq 535 539 (hg _) dL_law_532 rfl (by decide) (fun _ => ?_) (fun h => absurd h (fun e => e hz))
  refine i_const 540 dL_law_539 rfl ?_
  refine m_cVr (M' := MX8_pairs) 543 [_] kL_86 imX8_pairs seX8_pairs clX8_pairs dL_law_540 rfl rfl rfl hx22 (m_rmL (by decide) (Nat.le_of_ble_eq_true rfl) (by simp only [m_r]; omega) (by simp only [m_r]; omega)) hM (fun w2 h => by cases h.1) (fun v3 y h => ?_)
  obtain ⟨hv, hI⟩ := h
  cases hv
  refine m_icmp_eq 546 1174 dL_law_543 rfl (by decide) (fun _ => ?_) (fun h => absurd rfl h)
  exact kk y _ _ _ _ hI (by constructor <;> (simp only [m_r]; omega))
set_option maxHeartbeats 4000000 in
set_option maxRecDepth 100000 in
theorem g_pairT (hG : m_G G) {N i nc ns : Nat} {g : Nat → Int} (hI0 : INV (cI N g) w) (hN : N ≤ 2051) (hi : i + 3 < N) (hg : ∀ j, iR (g j)) (hR : nc + 1 ≤ 601024 ∧ ns + 6 ≤ 7293000) {x5 x6 : Option Value} (hz : g (i + 2) ≠ 0) 
    (hD : stepD G MX7_pair MX8_pair [.ref 1, vI (g (i + 1)), vB true] [.ref 22, vI (g (i + 1)), vB true] (cI N g) w vI)
    (kk : ∀ (y : List mC) (nc' ns' : Nat) (x5 x6 : Option Value), INV (cI N g) y → nc' ≤ nc + 1 ∧ ns' ≤ ns + 6 → m_J G ML_law room_1 QL nc' ns' 1174 [some (.ref 0), some (.ref 1), some (.ref 22), some (.ref 31), some (vI (i : Int)), x5, x6] [] y) : m_J G ML_law room_1 QL nc ns 548 [some (.ref 0), some (.ref 1), some (.ref 22), some (.ref 31), some (vI (i : Int)), x5, x6] [] w := by
  have e1 : ((i : Int) + 1).toNat = i + 1 := by omega
  have e2 : ((i : Int) + 2).toNat = i + 2 := by omega
  have e3 : ((i : Int) + 3).toNat = i + 3 := by omega
  have h0 := hI0.c0
  obtain ⟨A, hW, hA⟩ := hD
  refine m_aload_n 549 dL_law_548 rfl rfl ?_
  refine m_aload_n 550 dL_law_549 rfl rfl ?_
  refine m_iload 552 dL_law_550 rfl rfl ?_
  refine i_const 553 dL_law_552 rfl ?_
  refine i_add 554 dL_law_553 rfl ?_
  refine i_ald 555 dL_law_554 rfl (by first | rfl | assumption) ⟨by omega, by omega, by omega⟩ ?_
  rw [e1]
  refine m_aload_n 556 dL_law_555 rfl rfl ?_
  refine m_iload 558 dL_law_556 rfl rfl ?_
  refine i_const 559 dL_law_558 rfl ?_
  refine i_add 560 dL_law_559 rfl ?_
  refine i_ald 561 dL_law_560 rfl (by first | rfl | assumption) ⟨by omega, by omega, by omega⟩ ?_
  rw [e2]
  refine i_if_eq 564 568 (hg _) dL_law_561 rfl (by decide) (fun h => absurd h hz) (fun _ => ?_)
  refine i_const 565 dL_law_564 rfl ?_
  refine m_goto 569 dL_law_565 (by decide) ?_
  refine m_cVr (M' := MX7_pair) 572 [_, _] kL_87 imX7_pair seX7_pair clX7_pair dL_law_569 rfl rfl rfl hI0.c1 (m_rmL (by decide) (Nat.le_of_ble_eq_true rfl) (by omega) (by omega)) hW (fun w2 h => by obtain ⟨_, h, -⟩ := h; cases h) (fun v2 w2 h => ?_)
  obtain ⟨v, hv, hAx⟩ := h
  cases hv
  obtain ⟨hx0, ⟨fs, hx22⟩, hM⟩ := hA _ _ hAx
  refine m_aload_n 573 dL_law_572 rfl rfl ?_
  refine m_aload_n 574 dL_law_573 rfl rfl ?_
  refine m_iload 576 dL_law_574 rfl rfl ?_
  refine i_const 577 dL_law_576 rfl ?_
  refine i_add 578 dL_law_577 rfl ?_
  refine i_ald 579 dL_law_578 rfl hx0 ⟨by omega, by omega, by omega⟩ ?_
  rw [e1]
  refine m_aload_n 580 dL_law_579 rfl rfl ?_
  refine m_iload 582 dL_law_580 rfl rfl ?_
  refine i_const 583 dL_law_582 rfl ?_
  refine i_add 584 dL_law_583 rfl ?_
  refine i_ald 585 dL_law_584 rfl hx0 ⟨by omega, by omega, by omega⟩ ?_
  rw [e2]
  refine i_if_eq 588 592 (hg _) dL_law_585 rfl (by decide) (fun h => absurd h hz) (fun _ => ?_)
  refine i_const 589 dL_law_588 rfl ?_
  refine m_goto 593 dL_law_589 (by decide) ?_
  refine m_cVr (M' := MX8_pair) 596 [_, _] kL_90 imX8_pair seX8_pair clX8_pair dL_law_593 rfl rfl rfl hx22 (m_rmL (by decide) (Nat.le_of_ble_eq_true rfl) (by simp only [m_r]; omega) (by simp only [m_r]; omega)) hM (fun w2 h => by cases h.1) (fun v3 y h => ?_)
  obtain ⟨hv, hI⟩ := h
  cases hv
  refine m_icmp_eq 599 1174 dL_law_596 rfl (by decide) (fun _ => ?_) (fun h => absurd rfl h)
  exact kk y _ _ _ _ hI (by constructor <;> (simp only [m_r]; omega))
set_option maxHeartbeats 4000000 in
set_option maxRecDepth 100000 in
theorem g_pairF (hG : m_G G) {N i nc ns : Nat} {g : Nat → Int} (hI0 : INV (cI N g) w) (hN : N ≤ 2051) (hi : i + 3 < N) (hg : ∀ j, iR (g j)) (hR : nc + 1 ≤ 601024 ∧ ns + 6 ≤ 7293000) {x5 x6 : Option Value} (hz : g (i + 2) = 0) 
    (hD : stepD G MX7_pair MX8_pair [.ref 1, vI (g (i + 1)), vB false] [.ref 22, vI (g (i + 1)), vB false] (cI N g) w vI)
    (kk : ∀ (y : List mC) (nc' ns' : Nat) (x5 x6 : Option Value), INV (cI N g) y → nc' ≤ nc + 1 ∧ ns' ≤ ns + 6 → m_J G ML_law room_1 QL nc' ns' 1174 [some (.ref 0), some (.ref 1), some (.ref 22), some (.ref 31), some (vI (i : Int)), x5, x6] [] y) : m_J G ML_law room_1 QL nc ns 548 [some (.ref 0), some (.ref 1), some (.ref 22), some (.ref 31), some (vI (i : Int)), x5, x6] [] w := by
  have e1 : ((i : Int) + 1).toNat = i + 1 := by omega
  have e2 : ((i : Int) + 2).toNat = i + 2 := by omega
  have e3 : ((i : Int) + 3).toNat = i + 3 := by omega
  have h0 := hI0.c0
  obtain ⟨A, hW, hA⟩ := hD
  refine m_aload_n 549 dL_law_548 rfl rfl ?_
  refine m_aload_n 550 dL_law_549 rfl rfl ?_
  refine m_iload 552 dL_law_550 rfl rfl ?_
  refine i_const 553 dL_law_552 rfl ?_
  refine i_add 554 dL_law_553 rfl ?_
  refine i_ald 555 dL_law_554 rfl (by first | rfl | assumption) ⟨by omega, by omega, by omega⟩ ?_
  rw [e1]
  refine m_aload_n 556 dL_law_555 rfl rfl ?_
  refine m_iload 558 dL_law_556 rfl rfl ?_
  refine i_const 559 dL_law_558 rfl ?_
  refine i_add 560 dL_law_559 rfl ?_
  refine i_ald 561 dL_law_560 rfl (by first | rfl | assumption) ⟨by omega, by omega, by omega⟩ ?_
  rw [e2]
  refine i_if_eq 564 568 (hg _) dL_law_561 rfl (by decide) (fun _ => ?_) (fun h => absurd h (fun e => e hz))
  refine i_const 569 dL_law_568 rfl ?_
  refine m_cVr (M' := MX7_pair) 572 [_, _] kL_87 imX7_pair seX7_pair clX7_pair dL_law_569 rfl rfl rfl hI0.c1 (m_rmL (by decide) (Nat.le_of_ble_eq_true rfl) (by omega) (by omega)) hW (fun w2 h => by obtain ⟨_, h, -⟩ := h; cases h) (fun v2 w2 h => ?_)
  obtain ⟨v, hv, hAx⟩ := h
  cases hv
  obtain ⟨hx0, ⟨fs, hx22⟩, hM⟩ := hA _ _ hAx
  refine m_aload_n 573 dL_law_572 rfl rfl ?_
  refine m_aload_n 574 dL_law_573 rfl rfl ?_
  refine m_iload 576 dL_law_574 rfl rfl ?_
  refine i_const 577 dL_law_576 rfl ?_
  refine i_add 578 dL_law_577 rfl ?_
  refine i_ald 579 dL_law_578 rfl hx0 ⟨by omega, by omega, by omega⟩ ?_
  rw [e1]
  refine m_aload_n 580 dL_law_579 rfl rfl ?_
  refine m_iload 582 dL_law_580 rfl rfl ?_
  refine i_const 583 dL_law_582 rfl ?_
  refine i_add 584 dL_law_583 rfl ?_
  refine i_ald 585 dL_law_584 rfl hx0 ⟨by omega, by omega, by omega⟩ ?_
  rw [e2]
  refine i_if_eq 588 592 (hg _) dL_law_585 rfl (by decide) (fun _ => ?_) (fun h => absurd h (fun e => e hz))
  refine i_const 593 dL_law_592 rfl ?_
  refine m_cVr (M' := MX8_pair) 596 [_, _] kL_90 imX8_pair seX8_pair clX8_pair dL_law_593 rfl rfl rfl hx22 (m_rmL (by decide) (Nat.le_of_ble_eq_true rfl) (by simp only [m_r]; omega) (by simp only [m_r]; omega)) hM (fun w2 h => by cases h.1) (fun v3 y h => ?_)
  obtain ⟨hv, hI⟩ := h
  cases hv
  refine m_icmp_eq 599 1174 dL_law_596 rfl (by decide) (fun _ => ?_) (fun h => absurd rfl h)
  exact kk y _ _ _ _ hI (by constructor <;> (simp only [m_r]; omega))
set_option maxHeartbeats 4000000 in
set_option maxRecDepth 100000 in
theorem g_parts (hG : m_G G) {N i nc ns : Nat} {g : Nat → Int} (hI0 : INV (cI N g) w) (hN : N ≤ 2051) (hi : i + 3 < N) (hg : ∀ j, iR (g j)) (hR : nc + 1 ≤ 601024 ∧ ns + 6 ≤ 7293000) {x5 x6 : Option Value} 
    (hD : stepD G MX7_parts MX8_parts [.ref 1, vI (g (i + 1))] [.ref 22, vI (g (i + 1))] (cI N g) w vI)
    (kk : ∀ (y : List mC) (nc' ns' : Nat) (x5 x6 : Option Value), INV (cI N g) y → nc' ≤ nc + 1 ∧ ns' ≤ ns + 6 → m_J G ML_law room_1 QL nc' ns' 1174 [some (.ref 0), some (.ref 1), some (.ref 22), some (.ref 31), some (vI (i : Int)), x5, x6] [] y) : m_J G ML_law room_1 QL nc ns 749 [some (.ref 0), some (.ref 1), some (.ref 22), some (.ref 31), some (vI (i : Int)), x5, x6] [] w := by
  have e1 : ((i : Int) + 1).toNat = i + 1 := by omega
  have e2 : ((i : Int) + 2).toNat = i + 2 := by omega
  have e3 : ((i : Int) + 3).toNat = i + 3 := by omega
  have h0 := hI0.c0
  obtain ⟨A, hW, hA⟩ := hD
  refine m_aload_n 750 dL_law_749 rfl rfl ?_
  refine m_aload_n 751 dL_law_750 rfl rfl ?_
  refine m_iload 753 dL_law_751 rfl rfl ?_
  refine i_const 754 dL_law_753 rfl ?_
  refine i_add 755 dL_law_754 rfl ?_
  refine i_ald 756 dL_law_755 rfl (by first | rfl | assumption) ⟨by omega, by omega, by omega⟩ ?_
  refine m_cVr (M' := MX7_parts) 759 [_] kL_98 imX7_parts seX7_parts clX7_parts dL_law_756 rfl rfl rfl hI0.c1 (m_rmL (by decide) (Nat.le_of_ble_eq_true rfl) (by omega) (by omega)) hW (fun w2 h => by obtain ⟨_, h, -⟩ := h; cases h) (fun v2 w2 h => ?_)
  obtain ⟨v, hv, hAx⟩ := h
  cases hv
  obtain ⟨hx0, ⟨fs, hx22⟩, hM⟩ := hA _ _ hAx
  refine m_aload_n 760 dL_law_759 rfl rfl ?_
  refine m_aload_n 761 dL_law_760 rfl rfl ?_
  refine m_iload 763 dL_law_761 rfl rfl ?_
  refine i_const 764 dL_law_763 rfl ?_
  refine i_add 765 dL_law_764 rfl ?_
  refine i_ald 766 dL_law_765 rfl hx0 ⟨by omega, by omega, by omega⟩ ?_
  refine m_cVr (M' := MX8_parts) 769 [_] kL_101 imX8_parts seX8_parts clX8_parts dL_law_766 rfl rfl rfl hx22 (m_rmL (by decide) (Nat.le_of_ble_eq_true rfl) (by simp only [m_r]; omega) (by simp only [m_r]; omega)) hM (fun w2 h => by cases h.1) (fun v3 y h => ?_)
  obtain ⟨hv, hI⟩ := h
  cases hv
  refine m_icmp_eq 772 1174 dL_law_769 rfl (by decide) (fun _ => ?_) (fun h => absurd rfl h)
  exact kk y _ _ _ _ hI (by constructor <;> (simp only [m_r]; omega))
set_option maxHeartbeats 4000000 in
set_option maxRecDepth 100000 in
theorem g_size (hG : m_G G) {N i nc ns : Nat} {g : Nat → Int} (hI0 : INV (cI N g) w) (hN : N ≤ 2051) (hi : i + 3 < N) (hg : ∀ j, iR (g j)) (hR : nc + 1 ≤ 601024 ∧ ns + 6 ≤ 7293000) {x5 x6 : Option Value} 
    (hD : stepD G MX7_size MX8_size [.ref 1, vI (g (i + 1))] [.ref 22, vI (g (i + 1))] (cI N g) w vI)
    (kk : ∀ (y : List mC) (nc' ns' : Nat) (x5 x6 : Option Value), INV (cI N g) y → nc' ≤ nc + 1 ∧ ns' ≤ ns + 6 → m_J G ML_law room_1 QL nc' ns' 1174 [some (.ref 0), some (.ref 1), some (.ref 22), some (.ref 31), some (vI (i : Int)), x5, x6] [] y) : m_J G ML_law room_1 QL nc ns 905 [some (.ref 0), some (.ref 1), some (.ref 22), some (.ref 31), some (vI (i : Int)), x5, x6] [] w := by
  have e1 : ((i : Int) + 1).toNat = i + 1 := by omega
  have e2 : ((i : Int) + 2).toNat = i + 2 := by omega
  have e3 : ((i : Int) + 3).toNat = i + 3 := by omega
  have h0 := hI0.c0
  obtain ⟨A, hW, hA⟩ := hD
  refine m_aload_n 906 dL_law_905 rfl rfl ?_
  refine m_aload_n 907 dL_law_906 rfl rfl ?_
  refine m_iload 909 dL_law_907 rfl rfl ?_
  refine i_const 910 dL_law_909 rfl ?_
  refine i_add 911 dL_law_910 rfl ?_
  refine i_ald 912 dL_law_911 rfl (by first | rfl | assumption) ⟨by omega, by omega, by omega⟩ ?_
  refine m_cVr (M' := MX7_size) 915 [_] kL_109 imX7_size seX7_size clX7_size dL_law_912 rfl rfl rfl hI0.c1 (m_rmL (by decide) (Nat.le_of_ble_eq_true rfl) (by omega) (by omega)) hW (fun w2 h => by obtain ⟨_, h, -⟩ := h; cases h) (fun v2 w2 h => ?_)
  obtain ⟨v, hv, hAx⟩ := h
  cases hv
  obtain ⟨hx0, ⟨fs, hx22⟩, hM⟩ := hA _ _ hAx
  refine m_aload_n 916 dL_law_915 rfl rfl ?_
  refine m_aload_n 917 dL_law_916 rfl rfl ?_
  refine m_iload 919 dL_law_917 rfl rfl ?_
  refine i_const 920 dL_law_919 rfl ?_
  refine i_add 921 dL_law_920 rfl ?_
  refine i_ald 922 dL_law_921 rfl hx0 ⟨by omega, by omega, by omega⟩ ?_
  refine m_cVr (M' := MX8_size) 925 [_] kL_112 imX8_size seX8_size clX8_size dL_law_922 rfl rfl rfl hx22 (m_rmL (by decide) (Nat.le_of_ble_eq_true rfl) (by simp only [m_r]; omega) (by simp only [m_r]; omega)) hM (fun w2 h => by cases h.1) (fun v3 y h => ?_)
  obtain ⟨hv, hI⟩ := h
  cases hv
  refine m_icmp_eq 928 1174 dL_law_925 rfl (by decide) (fun _ => ?_) (fun h => absurd rfl h)
  exact kk y _ _ _ _ hI (by constructor <;> (simp only [m_r]; omega))
set_option maxHeartbeats 4000000 in
set_option maxRecDepth 100000 in
theorem g_keeps (hG : m_G G) {N i nc ns : Nat} {g : Nat → Int} (hI0 : INV (cI N g) w) (hN : N ≤ 2051) (hi : i + 3 < N) (hg : ∀ j, iR (g j)) (hR : nc + 1 ≤ 601024 ∧ ns + 6 ≤ 7293000) {x5 x6 : Option Value} 
    (hD : stepD G MX7_keeps MX8_keeps [.ref 1, vI (g (i + 1))] [.ref 22, vI (g (i + 1))] (cI N g) w vB)
    (kk : ∀ (y : List mC) (nc' ns' : Nat) (x5 x6 : Option Value), INV (cI N g) y → nc' ≤ nc + 1 ∧ ns' ≤ ns + 6 → m_J G ML_law room_1 QL nc' ns' 1174 [some (.ref 0), some (.ref 1), some (.ref 22), some (.ref 31), some (vI (i : Int)), x5, x6] [] y) : m_J G ML_law room_1 QL nc ns 1073 [some (.ref 0), some (.ref 1), some (.ref 22), some (.ref 31), some (vI (i : Int)), x5, x6] [] w := by
  have e1 : ((i : Int) + 1).toNat = i + 1 := by omega
  have e2 : ((i : Int) + 2).toNat = i + 2 := by omega
  have e3 : ((i : Int) + 3).toNat = i + 3 := by omega
  have h0 := hI0.c0
  obtain ⟨A, hW, hA⟩ := hD
  refine m_aload_n 1074 dL_law_1073 rfl rfl ?_
  refine m_aload_n 1075 dL_law_1074 rfl rfl ?_
  refine m_iload 1077 dL_law_1075 rfl rfl ?_
  refine i_const 1078 dL_law_1077 rfl ?_
  refine i_add 1079 dL_law_1078 rfl ?_
  refine i_ald 1080 dL_law_1079 rfl (by first | rfl | assumption) ⟨by omega, by omega, by omega⟩ ?_
  refine m_cVr (M' := MX7_keeps) 1083 [_] kL_119 imX7_keeps seX7_keeps clX7_keeps dL_law_1080 rfl rfl rfl hI0.c1 (m_rmL (by decide) (Nat.le_of_ble_eq_true rfl) (by omega) (by omega)) hW (fun w2 h => by obtain ⟨_, h, -⟩ := h; cases h) (fun v2 w2 h => ?_)
  obtain ⟨v, hv, hAx⟩ := h
  cases hv
  obtain ⟨hx0, ⟨fs, hx22⟩, hM⟩ := hA _ _ hAx
  refine m_aload_n 1084 dL_law_1083 rfl rfl ?_
  refine m_aload_n 1085 dL_law_1084 rfl rfl ?_
  refine m_iload 1087 dL_law_1085 rfl rfl ?_
  refine i_const 1088 dL_law_1087 rfl ?_
  refine i_add 1089 dL_law_1088 rfl ?_
  refine i_ald 1090 dL_law_1089 rfl hx0 ⟨by omega, by omega, by omega⟩ ?_
  refine m_cVr (M' := MX8_keeps) 1093 [_] kL_123 imX8_keeps seX8_keeps clX8_keeps dL_law_1090 rfl rfl rfl hx22 (m_rmL (by decide) (Nat.le_of_ble_eq_true rfl) (by simp only [m_r]; omega) (by simp only [m_r]; omega)) hM (fun w2 h => by cases h.1) (fun v3 y h => ?_)
  obtain ⟨hv, hI⟩ := h
  cases hv
  refine m_icmp_eq 1096 1174 dL_law_1093 rfl (by decide) (fun _ => ?_) (fun h => absurd rfl h)
  exact kk y _ _ _ _ hI (by constructor <;> (simp only [m_r]; omega))
set_option maxHeartbeats 4000000 in
set_option maxRecDepth 100000 in
theorem g_keeping (hG : m_G G) {N i nc ns : Nat} {g : Nat → Int} (hI0 : INV (cI N g) w) (hN : N ≤ 2051) (hi : i + 3 < N) (hg : ∀ j, iR (g j)) (hR : nc + 1 ≤ 601024 ∧ ns + 6 ≤ 7293000) {x5 x6 : Option Value} 
    (hD : stepD G MX7_keeping MX8_keeping [.ref 1] [.ref 22] (cI N g) w vI)
    (kk : ∀ (y : List mC) (nc' ns' : Nat) (x5 x6 : Option Value), INV (cI N g) y → nc' ≤ nc + 1 ∧ ns' ≤ ns + 6 → m_J G ML_law room_1 QL nc' ns' 1174 [some (.ref 0), some (.ref 1), some (.ref 22), some (.ref 31), some (vI (i : Int)), x5, x6] [] y) : m_J G ML_law room_1 QL nc ns 1098 [some (.ref 0), some (.ref 1), some (.ref 22), some (.ref 31), some (vI (i : Int)), x5, x6] [] w := by
  have e1 : ((i : Int) + 1).toNat = i + 1 := by omega
  have e2 : ((i : Int) + 2).toNat = i + 2 := by omega
  have e3 : ((i : Int) + 3).toNat = i + 3 := by omega
  have h0 := hI0.c0
  obtain ⟨A, hW, hA⟩ := hD
  refine m_aload_n 1099 dL_law_1098 rfl rfl ?_
  refine m_cVr (M' := MX7_keeping) 1102 [] kL_124 imX7_keeping seX7_keeping clX7_keeping dL_law_1099 rfl rfl rfl hI0.c1 (m_rmL (by decide) (Nat.le_of_ble_eq_true rfl) (by omega) (by omega)) hW (fun w2 h => by obtain ⟨_, h, -⟩ := h; cases h) (fun v2 w2 h => ?_)
  obtain ⟨v, hv, hAx⟩ := h
  cases hv
  obtain ⟨hx0, ⟨fs, hx22⟩, hM⟩ := hA _ _ hAx
  refine m_aload_n 1103 dL_law_1102 rfl rfl ?_
  refine m_cVr (M' := MX8_keeping) 1106 [] kL_127 imX8_keeping seX8_keeping clX8_keeping dL_law_1103 rfl rfl rfl hx22 (m_rmL (by decide) (Nat.le_of_ble_eq_true rfl) (by simp only [m_r]; omega) (by simp only [m_r]; omega)) hM (fun w2 h => by cases h.1) (fun v3 y h => ?_)
  obtain ⟨hv, hI⟩ := h
  cases hv
  refine m_icmp_eq 1109 1174 dL_law_1106 rfl (by decide) (fun _ => ?_) (fun h => absurd rfl h)
  exact kk y _ _ _ _ hI (by constructor <;> (simp only [m_r]; omega))
set_option maxHeartbeats 4000000 in
set_option maxRecDepth 100000 in
theorem g_text (hG : m_G G) {N i nc ns : Nat} {g : Nat → Int} (hI0 : INV (cI N g) w) (hN : N ≤ 2051) (hi : i + 3 < N) (hg : ∀ j, iR (g j)) (hR : nc + 1 ≤ 601024 ∧ ns + 6 ≤ 7293000) {x5 x6 : Option Value} 
    (hD : stepD G MX7_text MX8_text [.ref 1, vI (g (i + 1))] [.ref 22, vI (g (i + 1))] (cI N g) w vI)
    (kk : ∀ (y : List mC) (nc' ns' : Nat) (x5 x6 : Option Value), INV (cI N g) y → nc' ≤ nc + 1 ∧ ns' ≤ ns + 6 → m_J G ML_law room_1 QL nc' ns' 1174 [some (.ref 0), some (.ref 1), some (.ref 22), some (.ref 31), some (vI (i : Int)), x5, x6] [] y) : m_J G ML_law room_1 QL nc ns 1111 [some (.ref 0), some (.ref 1), some (.ref 22), some (.ref 31), some (vI (i : Int)), x5, x6] [] w := by
  have e1 : ((i : Int) + 1).toNat = i + 1 := by omega
  have e2 : ((i : Int) + 2).toNat = i + 2 := by omega
  have e3 : ((i : Int) + 3).toNat = i + 3 := by omega
  have h0 := hI0.c0
  obtain ⟨A, hW, hA⟩ := hD
  refine m_aload_n 1112 dL_law_1111 rfl rfl ?_
  refine m_aload_n 1113 dL_law_1112 rfl rfl ?_
  refine m_iload 1115 dL_law_1113 rfl rfl ?_
  refine i_const 1116 dL_law_1115 rfl ?_
  refine i_add 1117 dL_law_1116 rfl ?_
  refine i_ald 1118 dL_law_1117 rfl (by first | rfl | assumption) ⟨by omega, by omega, by omega⟩ ?_
  refine m_cVr (M' := MX7_text) 1121 [_] kL_128 imX7_text seX7_text clX7_text dL_law_1118 rfl rfl rfl hI0.c1 (m_rmL (by decide) (Nat.le_of_ble_eq_true rfl) (by omega) (by omega)) hW (fun w2 h => by obtain ⟨_, h, -⟩ := h; cases h) (fun v2 w2 h => ?_)
  obtain ⟨v, hv, hAx⟩ := h
  cases hv
  obtain ⟨hx0, ⟨fs, hx22⟩, hM⟩ := hA _ _ hAx
  refine m_aload_n 1122 dL_law_1121 rfl rfl ?_
  refine m_aload_n 1123 dL_law_1122 rfl rfl ?_
  refine m_iload 1125 dL_law_1123 rfl rfl ?_
  refine i_const 1126 dL_law_1125 rfl ?_
  refine i_add 1127 dL_law_1126 rfl ?_
  refine i_ald 1128 dL_law_1127 rfl hx0 ⟨by omega, by omega, by omega⟩ ?_
  refine m_cVr (M' := MX8_text) 1131 [_] kL_131 imX8_text seX8_text clX8_text dL_law_1128 rfl rfl rfl hx22 (m_rmL (by decide) (Nat.le_of_ble_eq_true rfl) (by simp only [m_r]; omega) (by simp only [m_r]; omega)) hM (fun w2 h => by cases h.1) (fun v3 y h => ?_)
  obtain ⟨hv, hI⟩ := h
  cases hv
  refine m_icmp_eq 1134 1174 dL_law_1131 rfl (by decide) (fun _ => ?_) (fun h => absurd rfl h)
  exact kk y _ _ _ _ hI (by constructor <;> (simp only [m_r]; omega))
set_option maxHeartbeats 4000000 in
set_option maxRecDepth 100000 in
theorem g_unit (hG : m_G G) {N i nc ns : Nat} {g : Nat → Int} (hI0 : INV (cI N g) w) (hN : N ≤ 2051) (hi : i + 3 < N) (hg : ∀ j, iR (g j)) (hR : nc + 1 ≤ 601024 ∧ ns + 6 ≤ 7293000) {x5 x6 : Option Value} 
    (hD : stepD G MX7_unit MX8_unit [.ref 1, vI (g (i + 1))] [.ref 22, vI (g (i + 1))] (cI N g) w vB)
    (kk : ∀ (y : List mC) (nc' ns' : Nat) (x5 x6 : Option Value), INV (cI N g) y → nc' ≤ nc + 1 ∧ ns' ≤ ns + 6 → m_J G ML_law room_1 QL nc' ns' 1174 [some (.ref 0), some (.ref 1), some (.ref 22), some (.ref 31), some (vI (i : Int)), x5, x6] [] y) : m_J G ML_law room_1 QL nc ns 1136 [some (.ref 0), some (.ref 1), some (.ref 22), some (.ref 31), some (vI (i : Int)), x5, x6] [] w := by
  have e1 : ((i : Int) + 1).toNat = i + 1 := by omega
  have e2 : ((i : Int) + 2).toNat = i + 2 := by omega
  have e3 : ((i : Int) + 3).toNat = i + 3 := by omega
  have h0 := hI0.c0
  obtain ⟨A, hW, hA⟩ := hD
  refine m_aload_n 1137 dL_law_1136 rfl rfl ?_
  refine m_aload_n 1138 dL_law_1137 rfl rfl ?_
  refine m_iload 1140 dL_law_1138 rfl rfl ?_
  refine i_const 1141 dL_law_1140 rfl ?_
  refine i_add 1142 dL_law_1141 rfl ?_
  refine i_ald 1143 dL_law_1142 rfl (by first | rfl | assumption) ⟨by omega, by omega, by omega⟩ ?_
  refine m_cVr (M' := MX7_unit) 1146 [_] kL_132 imX7_unit seX7_unit clX7_unit dL_law_1143 rfl rfl rfl hI0.c1 (m_rmL (by decide) (Nat.le_of_ble_eq_true rfl) (by omega) (by omega)) hW (fun w2 h => by obtain ⟨_, h, -⟩ := h; cases h) (fun v2 w2 h => ?_)
  obtain ⟨v, hv, hAx⟩ := h
  cases hv
  obtain ⟨hx0, ⟨fs, hx22⟩, hM⟩ := hA _ _ hAx
  refine m_aload_n 1147 dL_law_1146 rfl rfl ?_
  refine m_aload_n 1148 dL_law_1147 rfl rfl ?_
  refine m_iload 1150 dL_law_1148 rfl rfl ?_
  refine i_const 1151 dL_law_1150 rfl ?_
  refine i_add 1152 dL_law_1151 rfl ?_
  refine i_ald 1153 dL_law_1152 rfl hx0 ⟨by omega, by omega, by omega⟩ ?_
  refine m_cVr (M' := MX8_unit) 1156 [_] kL_135 imX8_unit seX8_unit clX8_unit dL_law_1153 rfl rfl rfl hx22 (m_rmL (by decide) (Nat.le_of_ble_eq_true rfl) (by simp only [m_r]; omega) (by simp only [m_r]; omega)) hM (fun w2 h => by cases h.1) (fun v3 y h => ?_)
  obtain ⟨hv, hI⟩ := h
  cases hv
  refine m_icmp_eq 1159 1174 dL_law_1156 rfl (by decide) (fun _ => ?_) (fun h => absurd rfl h)
  exact kk y _ _ _ _ hI (by constructor <;> (simp only [m_r]; omega))
set_option maxHeartbeats 4000000 in
set_option maxRecDepth 100000 in
theorem g_read (hG : m_G G) {N i nc ns : Nat} {g : Nat → Int} (hI0 : INV (cI N g) w) (hN : N ≤ 2051) (hi : i + 3 < N) (hg : ∀ j, iR (g j)) (hR : nc + 1 ≤ 601024 ∧ ns + 6 ≤ 7293000) {x5 x6 : Option Value} 
    (hD : stepD G MX7_read MX8_read [.ref 1] [.ref 22] (cI N g) w vI)
    (kk : ∀ (y : List mC) (nc' ns' : Nat) (x5 x6 : Option Value), INV (cI N g) y → nc' ≤ nc + 1 ∧ ns' ≤ ns + 6 → m_J G ML_law room_1 QL nc' ns' 1174 [some (.ref 0), some (.ref 1), some (.ref 22), some (.ref 31), some (vI (i : Int)), x5, x6] [] y) : m_J G ML_law room_1 QL nc ns 1161 [some (.ref 0), some (.ref 1), some (.ref 22), some (.ref 31), some (vI (i : Int)), x5, x6] [] w := by
  have e1 : ((i : Int) + 1).toNat = i + 1 := by omega
  have e2 : ((i : Int) + 2).toNat = i + 2 := by omega
  have e3 : ((i : Int) + 3).toNat = i + 3 := by omega
  have h0 := hI0.c0
  obtain ⟨A, hW, hA⟩ := hD
  refine m_aload_n 1162 dL_law_1161 rfl rfl ?_
  refine m_cVr (M' := MX7_read) 1165 [] kL_136 imX7_read seX7_read clX7_read dL_law_1162 rfl rfl rfl hI0.c1 (m_rmL (by decide) (Nat.le_of_ble_eq_true rfl) (by omega) (by omega)) hW (fun w2 h => by obtain ⟨_, h, -⟩ := h; cases h) (fun v2 w2 h => ?_)
  obtain ⟨v, hv, hAx⟩ := h
  cases hv
  obtain ⟨hx0, ⟨fs, hx22⟩, hM⟩ := hA _ _ hAx
  refine m_aload_n 1166 dL_law_1165 rfl rfl ?_
  refine m_cVr (M' := MX8_read) 1169 [] kL_139 imX8_read seX8_read clX8_read dL_law_1166 rfl rfl rfl hx22 (m_rmL (by decide) (Nat.le_of_ble_eq_true rfl) (by simp only [m_r]; omega) (by simp only [m_r]; omega)) hM (fun w2 h => by cases h.1) (fun v3 y h => ?_)
  obtain ⟨hv, hI⟩ := h
  cases hv
  refine m_icmp_eq 1172 1174 dL_law_1169 rfl (by decide) (fun _ => ?_) (fun h => absurd rfl h)
  exact kk y _ _ _ _ hI (by constructor <;> (simp only [m_r]; omega))
end LC
