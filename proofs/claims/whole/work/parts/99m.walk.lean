/-! the law's walk -/
abbrev mLaw : MD := (x, cL_law, 10, ret, RL, 13, 478, 601024, 7293034, false, [])
/-- the script's number j -/
def sv (w : Wd) (j : Nat) : Int := (scrW w j).toInt
/-- how many there are -/
def sL (w : Wd) : Nat := w.2.1 301
theorem sv_r {w : Wd} {j : Nat} : R32 (sv w j) := i32_rng _
section JS
variable {w : Wd} {Y : MD} {pc : Nat} {L : List (Nat × Value)} {S : List Value} {sh : Shp} {g : Mem} {kc ks : Nat} {Q : Post}
theorem j_slenL (n : Nat) (hd : decode (md_c Y) pc = .ok (.arraylength, 1)) (hn : pc + 1 = n) (kk : J w Y n L (.int (i32 ((sL w : Nat) : Int)) :: S) sh g kc ks Q) : J w Y pc L (.ref (w.2.1 300) :: S) sh g kc ks Q := by
  subst hn
  intro p l e s m args below meth c H locs cells slots Z ls C hZ hR hlo hcl hsl hl
  obtain ⟨-, -, -, -, -, -, -, -, -, -, hb, ⟨scr, h1, h2, h3, h4, h5⟩, -⟩ := C.2.2.2.2.2.1
  exact W.alen (n := Int32.ofNat (w.2.1 301)) C.1 C.2.1 (by rw [hR.2.2.1 _ hb]; exact h1) h2 (by rw [h4]) rfl rfl hd (kk p l e s m args below meth c H locs cells slots Z ls C hZ hR hlo hcl hsl hl)
theorem j_scr (n : Nat) {x : Int} {k : Nat} (hd : decode (md_c Y) pc = .ok (.iaload, 1)) (hn : pc + 1 = n) (hx : x = (k : Int)) (hk : k < sL w) (h3 : sL w ≤ 3072) (kk : J w Y n L (.int (i32 (sv w k)) :: S) sh g kc ks Q) : J w Y pc L (.int (i32 x) :: .ref (w.2.1 300) :: S) sh g kc ks Q := by
  subst hn
  intro p l e s m args below meth c H locs cells slots Z ls C hZ hR hlo hcl hsl hl
  obtain ⟨-, -, -, -, -, -, -, -, -, -, hb, ⟨scr, h1, h2, h9, h4, h5⟩, -⟩ := C.2.2.2.2.2.1
  have hin := i32_in hx hk (by omega)
  have h6 := h5 k hk
  refine W.iald (v := .int (scrW w k)) C.1 C.2.1 (by rw [hR.2.2.1 _ hb]; exact h1) h2 h9 (by rw [h4]; exact hin) (by rw [i32_clamp hx (by omega)]; exact h6) rfl rfl hd ?_
  have key := kk p l e s m args below meth c H locs cells slots Z ls C hZ hR hlo hcl hsl hl
  unfold sv at key
  rw [i32_asI] at key
  exact key
/-- script[i + k] -/
theorem j_arg (n k q0 q5 : Nat) {i : Nat} (hn : pc + 6 = n) (d0 : decode (md_c Y) pc = .ok (.aload_n 0, 1)) (d1 : decode (md_c Y) (pc + 1) = .ok (.iload 5, 2)) (d3 : decode (md_c Y) (pc + 3) = .ok (.iconst (k : Int), 1)) (d4 : decode (md_c Y) (pc + 4) = .ok (.iadd, 1)) (d5 : decode (md_c Y) (pc + 5) = .ok (.iaload, 1))
    (h0 : L[q0]? = some (0, .ref (w.2.1 300))) (h5 : L[q5]? = some (5, .int (i32 ((i : Nat) : Int)))) (hk : i + k < sL w) (h3 : sL w ≤ 3072) (kk : J w Y n L (.int (i32 (sv w (i + k))) :: S) sh g kc ks Q) : J w Y pc L S sh g kc ks Q := by
  subst hn
  refine j_aload_n (pc + 1) q0 d0 rfl h0 ?_
  refine j_iload (pc + 3) q5 d1 rfl h5 ?_
  refine j_iconst (pc + 4) d3 rfl ?_
  refine j_iadd (pc + 5) d4 rfl ?_
  exact j_scr (pc + 6) d5 rfl (k := i + k) (by omega) hk h3 kk
/-- numbers of an int[] are ints -/
theorem j_pi {a : Nat} {kd : Kd} (hs : sh.1 a = some kd) (hc : kd.1 = 10) (kk : R9 (g a) → J w Y pc L S sh g kc ks Q) : J w Y pc L S sh g kc ks Q := j_rgi hs hc fun h => kk fun c => h _
end JS
theorem and31 (a : Int32) : ∃ v : Nat, v ≤ 31 ∧ a &&& i32 31 = i32 (v : Int) := by
  have h : (a &&& i32 31).toBitVec.toNat ≤ 31 := by
    show (a.toBitVec &&& (i32 31).toBitVec).toNat ≤ 31
    rw [BitVec.toNat_and]
    exact Nat.and_le_right
  refine ⟨(a &&& i32 31).toBitVec.toNat, h, ?_⟩
  apply Int32.toInt_inj.mp
  rw [i32_toInt ⟨by omega, by omega⟩]
  show (a &&& i32 31).toBitVec.toInt = _
  exact BitVec.toInt_eq_toNat_of_lt (by omega)
theorem lcmp_rf (x : Int64) : lg_cmp x x = i32 0 := by
  unfold lg_cmp
  rw [if_neg Int64.lt_irrefl, if_pos rfl]
  rfl
def QL : Post := fun r _ _ => r = .inl (some (.int (i32 1)))
/-- the law's locals between two draws -/
def LL (w : Wd) (B i : Nat) : List (Nat × Value) := [(0, .ref (w.2.1 300)), (1, .ref B), (2, .ref (B + 831)), (3, .ref (B + 845)), (4, .ref (B + 846)), (5, .int (i32 ((i : Nat) : Int)))]
theorem stL_load : Cond.static yL_load ∈ lw_good := by decide +kernel
theorem stL_state : Cond.static yL_state ∈ lw_good := by decide +kernel
theorem stL_line : Cond.static yL_line ∈ lw_good := by decide +kernel
theorem stL_group : Cond.static yL_group ∈ lw_good := by decide +kernel
theorem stL_register : Cond.static yL_register ∈ lw_good := by decide +kernel
theorem stL_marker : Cond.static yL_marker ∈ lw_good := by decide +kernel
theorem stL_call : Cond.static yL_call ∈ lw_good := by decide +kernel
theorem stL_digit : Cond.static yL_digit ∈ lw_good := by decide +kernel
theorem stL_look : Cond.static yL_look ∈ lw_good := by decide +kernel
theorem stL_overIn : Cond.static yL_overIn ∈ lw_good := by decide +kernel
theorem stL_foretold : Cond.static yL_foretold ∈ lw_good := by decide +kernel
theorem stL_traffic : Cond.static yL_traffic ∈ lw_good := by decide +kernel
theorem stL_dial : Cond.static yL_dial ∈ lw_good := by decide +kernel
theorem stL_hang : Cond.static yL_hang ∈ lw_good := by decide +kernel
theorem stL_rule : Cond.static yL_rule ∈ lw_good := by decide +kernel
theorem stL_pass : Cond.static yL_pass ∈ lw_good := by decide +kernel
section WALK
variable {w : Wd} {B n i kc ks : Nat} {sh : Shp} {g : Mem}

theorem w_load (hO : OPH w mL_load mX10_load [.int (i32 (sv w (i + 1)))] B n sh g) (hi : i + 6 ≤ sL w) (h3 : sL w ≤ 3072) (kk : ∀ sh2 g2, LI B n sh2 g2 → J w mLaw 1412 (LL w B i) [] sh2 g2 kc ks QL) : J w mLaw 225 (LL w B i) [] sh g (kc + 600) (ks + 4000) QL := by
  show J w mLaw 225 [(0, .ref (w.2.1 300)), (1, .ref B), (2, .ref (B + 831)), (3, .ref (B + 845)), (4, .ref (B + 846)), (5, .int (i32 ((i : Nat) : Int)))] [] sh g (kc + 600) (ks + 4000) QL
  obtain ⟨Q1, c1, x1, h1⟩ := hO
  refine j_aload_n 226 1 dL_law_225 rfl rfl ?_
  refine j_arg 232 1 0 5 (i := i) rfl dL_law_226 dL_law_227 dL_law_229 dL_law_230 dL_law_231 rfl rfl (by omega) h3 ?_
  refine j_aload_n 233 3 dL_law_232 rfl rfl ?_
  refine j_callSH 236 (As := [.ref B, .int (i32 (sv w (i + 1))), .ref (B + 845)]) (kc2 := kc) (ks2 := ks) dL_law_233 rfl mkL_load stL_load rfl lk_L_78 rfl rfl (Nat.le_of_ble_eq_true rfl) ⟨Nat.le_of_ble_eq_true rfl, Nat.le_of_ble_eq_true rfl⟩ ⟨(by show 1 + kc ≤ kc + 600; omega), (by show 6 + ks ≤ ks + 4000; omega)⟩ c1 x1 (fun v1 sh1 g1 q1 => ?_)
  obtain ⟨k, hk, rfl, hS1, Q2, c2, x2, h2⟩ := h1 v1 sh1 g1 q1
  refine j_istore 238 (L2 := [(6, .int (i32 k)), (0, .ref (w.2.1 300)), (1, .ref B), (2, .ref (B + 831)), (3, .ref (B + 845)), (4, .ref (B + 846)), (5, .int (i32 ((i : Nat) : Int)))]) dL_law_236 rfl (Nat.le_of_ble_eq_true rfl) rfl ?_
  refine j_aload_n 239 3 dL_law_238 rfl rfl ?_
  refine j_arg 245 1 1 6 (i := i) rfl dL_law_239 dL_law_240 dL_law_242 dL_law_243 dL_law_244 rfl rfl (by omega) h3 ?_
  refine j_callV 248 (As := [.int (i32 (sv w (i + 1)))]) (kc2 := kc) (ks2 := ks) dL_law_245 rfl mvX10_load lk_L_83 (lsMd hS1).md rfl ⟨Nat.le_of_ble_eq_true rfl, rfl⟩ rfl rfl (Nat.le_of_ble_eq_true rfl) ⟨Nat.le_of_ble_eq_true rfl, Nat.le_of_ble_eq_true rfl⟩ ⟨(by show 0 + kc ≤ kc; omega), (by show 0 + ks ≤ ks; omega)⟩ c2 x2 (fun v2 sh2 g2 q2 => ?_)
  obtain ⟨z, rfl, b2, b3, hI2⟩ := h2 v2 sh2 g2 q2
  have hS2 := hI2.1
  refine j_istore 250 (L2 := [(7, .int z), (6, .int (i32 k)), (0, .ref (w.2.1 300)), (1, .ref B), (2, .ref (B + 831)), (3, .ref (B + 845)), (4, .ref (B + 846)), (5, .int (i32 ((i : Nat) : Int)))]) dL_law_248 rfl (Nat.le_of_ble_eq_true rfl) rfl ?_
  refine j_aload_n 251 4 dL_law_250 rfl rfl ?_
  refine j_callV 254 (As := []) (kc2 := kc) (ks2 := ks) dL_law_251 rfl mvX10_thrown lk_L_84 (lsMd hS2).md rfl ⟨Nat.le_of_ble_eq_true rfl, rfl⟩ rfl rfl (Nat.le_of_ble_eq_true rfl) ⟨Nat.le_of_ble_eq_true rfl, Nat.le_of_ble_eq_true rfl⟩ ⟨(by show 0 + kc ≤ kc; omega), (by show 0 + ks ≤ ks; omega)⟩ (r_thrown (lsMd hS2)) x_d (k_d1 ?_)
  rw [b2]
  refine j_iload 256 1 dL_law_254 rfl rfl ?_
  refine j_icmp_eq 259 261 dL_law_256 rfl rfl (r32 (by omega) (by omega)) (r32 (by omega) (by omega)) (fun _ => ?_) (fun q => absurd rfl q)
  refine j_iload 263 1 dL_law_261 rfl rfl ?_
  refine j_if_ne 266 278 dL_law_263 rfl rfl (r32 (by omega) (by omega)) (fun hk0 => ?_) (fun hk0 => ?_)
  · refine j_goto 1412 dL_law_278 rfl ?_
    exact j_sub [2, 3, 4, 5, 6, 7] rfl (kk _ _ hI2)
  · refine j_aload_n 267 5 dL_law_266 rfl rfl ?_
    refine j_iconst 268 dL_law_267 rfl ?_
    refine j_lald 269 0 dL_law_268 rfl hS2.2.2.2.2.1 rfl rfl (by decide) ?_
    refine j_iload 271 0 dL_law_269 rfl rfl ?_
    refine j_topI (y := z.toInt) (i32_asI z).symm ?_
    refine j_i2l 272 dL_law_271 rfl (i32_rng z) ?_
    rw [b3 hk0]
    refine j_lcmp 273 dL_law_272 rfl ?_
    rw [lcmp_rf]
    refine j_if_eq 276 278 dL_law_273 rfl rfl (r32 (by decide) (by decide)) (fun _ => ?_) (fun q => absurd rfl q)
    refine j_goto 1412 dL_law_278 rfl ?_
    exact j_sub [2, 3, 4, 5, 6, 7] rfl (kk _ _ hI2)

theorem w_state (hO : OPH w mL_state mX10_state [.int (i32 (sv w (i + 1)))] B n sh g) (hi : i + 6 ≤ sL w) (h3 : sL w ≤ 3072) (kk : ∀ sh2 g2, LI B n sh2 g2 → J w mLaw 1412 (LL w B i) [] sh2 g2 kc ks QL) : J w mLaw 294 (LL w B i) [] sh g (kc + 600) (ks + 4000) QL := by
  show J w mLaw 294 [(0, .ref (w.2.1 300)), (1, .ref B), (2, .ref (B + 831)), (3, .ref (B + 845)), (4, .ref (B + 846)), (5, .int (i32 ((i : Nat) : Int)))] [] sh g (kc + 600) (ks + 4000) QL
  obtain ⟨Q1, c1, x1, h1⟩ := hO
  refine j_aload_n 295 1 dL_law_294 rfl rfl ?_
  refine j_arg 301 1 0 5 (i := i) rfl dL_law_295 dL_law_296 dL_law_298 dL_law_299 dL_law_300 rfl rfl (by omega) h3 ?_
  refine j_aload_n 302 3 dL_law_301 rfl rfl ?_
  refine j_callSH 305 (As := [.ref B, .int (i32 (sv w (i + 1))), .ref (B + 845)]) (kc2 := kc) (ks2 := ks) dL_law_302 rfl mkL_state stL_state rfl lk_L_92 rfl rfl (Nat.le_of_ble_eq_true rfl) ⟨Nat.le_of_ble_eq_true rfl, Nat.le_of_ble_eq_true rfl⟩ ⟨(by show 1 + kc ≤ kc + 600; omega), (by show 6 + ks ≤ ks + 4000; omega)⟩ c1 x1 (fun v1 sh1 g1 q1 => ?_)
  obtain ⟨k, hk, rfl, hS1, Q2, c2, x2, h2⟩ := h1 v1 sh1 g1 q1
  refine j_istore 307 (L2 := [(6, .int (i32 k)), (0, .ref (w.2.1 300)), (1, .ref B), (2, .ref (B + 831)), (3, .ref (B + 845)), (4, .ref (B + 846)), (5, .int (i32 ((i : Nat) : Int)))]) dL_law_305 rfl (Nat.le_of_ble_eq_true rfl) rfl ?_
  refine j_aload_n 308 3 dL_law_307 rfl rfl ?_
  refine j_arg 314 1 1 6 (i := i) rfl dL_law_308 dL_law_309 dL_law_311 dL_law_312 dL_law_313 rfl rfl (by omega) h3 ?_
  refine j_callV 317 (As := [.int (i32 (sv w (i + 1)))]) (kc2 := kc) (ks2 := ks) dL_law_314 rfl mvX10_state lk_L_94 (lsMd hS1).md rfl ⟨Nat.le_of_ble_eq_true rfl, rfl⟩ rfl rfl (Nat.le_of_ble_eq_true rfl) ⟨Nat.le_of_ble_eq_true rfl, Nat.le_of_ble_eq_true rfl⟩ ⟨(by show 0 + kc ≤ kc; omega), (by show 0 + ks ≤ ks; omega)⟩ c2 x2 (fun v2 sh2 g2 q2 => ?_)
  obtain ⟨z, rfl, b2, b3, hI2⟩ := h2 v2 sh2 g2 q2
  have hS2 := hI2.1
  refine j_istore 319 (L2 := [(7, .int z), (6, .int (i32 k)), (0, .ref (w.2.1 300)), (1, .ref B), (2, .ref (B + 831)), (3, .ref (B + 845)), (4, .ref (B + 846)), (5, .int (i32 ((i : Nat) : Int)))]) dL_law_317 rfl (Nat.le_of_ble_eq_true rfl) rfl ?_
  refine j_aload_n 320 4 dL_law_319 rfl rfl ?_
  refine j_callV 323 (As := []) (kc2 := kc) (ks2 := ks) dL_law_320 rfl mvX10_thrown lk_L_84 (lsMd hS2).md rfl ⟨Nat.le_of_ble_eq_true rfl, rfl⟩ rfl rfl (Nat.le_of_ble_eq_true rfl) ⟨Nat.le_of_ble_eq_true rfl, Nat.le_of_ble_eq_true rfl⟩ ⟨(by show 0 + kc ≤ kc; omega), (by show 0 + ks ≤ ks; omega)⟩ (r_thrown (lsMd hS2)) x_d (k_d1 ?_)
  rw [b2]
  refine j_iload 325 1 dL_law_323 rfl rfl ?_
  refine j_icmp_eq 328 330 dL_law_325 rfl rfl (r32 (by omega) (by omega)) (r32 (by omega) (by omega)) (fun _ => ?_) (fun q => absurd rfl q)
  refine j_iload 332 1 dL_law_330 rfl rfl ?_
  refine j_if_ne 335 347 dL_law_332 rfl rfl (r32 (by omega) (by omega)) (fun hk0 => ?_) (fun hk0 => ?_)
  · refine j_goto 1412 dL_law_347 rfl ?_
    exact j_sub [2, 3, 4, 5, 6, 7] rfl (kk _ _ hI2)
  · refine j_aload_n 336 5 dL_law_335 rfl rfl ?_
    refine j_iconst 337 dL_law_336 rfl ?_
    refine j_lald 338 0 dL_law_337 rfl hS2.2.2.2.2.1 rfl rfl (by decide) ?_
    refine j_iload 340 0 dL_law_338 rfl rfl ?_
    refine j_topI (y := z.toInt) (i32_asI z).symm ?_
    refine j_i2l 341 dL_law_340 rfl (i32_rng z) ?_
    rw [b3 hk0]
    refine j_lcmp 342 dL_law_341 rfl ?_
    rw [lcmp_rf]
    refine j_if_eq 345 347 dL_law_342 rfl rfl (r32 (by decide) (by decide)) (fun _ => ?_) (fun q => absurd rfl q)
    refine j_goto 1412 dL_law_347 rfl ?_
    exact j_sub [2, 3, 4, 5, 6, 7] rfl (kk _ _ hI2)

theorem w_line (hO : OPH w mL_line mX10_line [.int (i32 (sv w (i + 1))), .int (i32 (sv w (i + 2)))] B n sh g) (hi : i + 6 ≤ sL w) (h3 : sL w ≤ 3072) (kk : ∀ sh2 g2, LI B n sh2 g2 → J w mLaw 1412 (LL w B i) [] sh2 g2 kc ks QL) : J w mLaw 350 (LL w B i) [] sh g (kc + 600) (ks + 4000) QL := by
  show J w mLaw 350 [(0, .ref (w.2.1 300)), (1, .ref B), (2, .ref (B + 831)), (3, .ref (B + 845)), (4, .ref (B + 846)), (5, .int (i32 ((i : Nat) : Int)))] [] sh g (kc + 600) (ks + 4000) QL
  obtain ⟨Q1, c1, x1, h1⟩ := hO
  refine j_aload_n 351 1 dL_law_350 rfl rfl ?_
  refine j_arg 357 1 0 5 (i := i) rfl dL_law_351 dL_law_352 dL_law_354 dL_law_355 dL_law_356 rfl rfl (by omega) h3 ?_
  refine j_arg 363 2 0 5 (i := i) rfl dL_law_357 dL_law_358 dL_law_360 dL_law_361 dL_law_362 rfl rfl (by omega) h3 ?_
  refine j_aload_n 364 3 dL_law_363 rfl rfl ?_
  refine j_callSH 367 (As := [.ref B, .int (i32 (sv w (i + 1))), .int (i32 (sv w (i + 2))), .ref (B + 845)]) (kc2 := kc) (ks2 := ks) dL_law_364 rfl mkL_line stL_line rfl lk_L_95 rfl rfl (Nat.le_of_ble_eq_true rfl) ⟨Nat.le_of_ble_eq_true rfl, Nat.le_of_ble_eq_true rfl⟩ ⟨(by show 1 + kc ≤ kc + 600; omega), (by show 6 + ks ≤ ks + 4000; omega)⟩ c1 x1 (fun v1 sh1 g1 q1 => ?_)
  obtain ⟨k, hk, rfl, hS1, Q2, c2, x2, h2⟩ := h1 v1 sh1 g1 q1
  refine j_istore 369 (L2 := [(6, .int (i32 k)), (0, .ref (w.2.1 300)), (1, .ref B), (2, .ref (B + 831)), (3, .ref (B + 845)), (4, .ref (B + 846)), (5, .int (i32 ((i : Nat) : Int)))]) dL_law_367 rfl (Nat.le_of_ble_eq_true rfl) rfl ?_
  refine j_aload_n 370 3 dL_law_369 rfl rfl ?_
  refine j_arg 376 1 1 6 (i := i) rfl dL_law_370 dL_law_371 dL_law_373 dL_law_374 dL_law_375 rfl rfl (by omega) h3 ?_
  refine j_arg 382 2 1 6 (i := i) rfl dL_law_376 dL_law_377 dL_law_379 dL_law_380 dL_law_381 rfl rfl (by omega) h3 ?_
  refine j_callV 385 (As := [.int (i32 (sv w (i + 1))), .int (i32 (sv w (i + 2)))]) (kc2 := kc) (ks2 := ks) dL_law_382 rfl mvX10_line lk_L_98 (lsMd hS1).md rfl ⟨Nat.le_of_ble_eq_true rfl, rfl⟩ rfl rfl (Nat.le_of_ble_eq_true rfl) ⟨Nat.le_of_ble_eq_true rfl, Nat.le_of_ble_eq_true rfl⟩ ⟨(by show 0 + kc ≤ kc; omega), (by show 0 + ks ≤ ks; omega)⟩ c2 x2 (fun v2 sh2 g2 q2 => ?_)
  obtain ⟨z, rfl, b2, b3, hI2⟩ := h2 v2 sh2 g2 q2
  have hS2 := hI2.1
  refine j_istore 387 (L2 := [(7, .int z), (6, .int (i32 k)), (0, .ref (w.2.1 300)), (1, .ref B), (2, .ref (B + 831)), (3, .ref (B + 845)), (4, .ref (B + 846)), (5, .int (i32 ((i : Nat) : Int)))]) dL_law_385 rfl (Nat.le_of_ble_eq_true rfl) rfl ?_
  refine j_aload_n 388 4 dL_law_387 rfl rfl ?_
  refine j_callV 391 (As := []) (kc2 := kc) (ks2 := ks) dL_law_388 rfl mvX10_thrown lk_L_84 (lsMd hS2).md rfl ⟨Nat.le_of_ble_eq_true rfl, rfl⟩ rfl rfl (Nat.le_of_ble_eq_true rfl) ⟨Nat.le_of_ble_eq_true rfl, Nat.le_of_ble_eq_true rfl⟩ ⟨(by show 0 + kc ≤ kc; omega), (by show 0 + ks ≤ ks; omega)⟩ (r_thrown (lsMd hS2)) x_d (k_d1 ?_)
  rw [b2]
  refine j_iload 393 1 dL_law_391 rfl rfl ?_
  refine j_icmp_eq 396 398 dL_law_393 rfl rfl (r32 (by omega) (by omega)) (r32 (by omega) (by omega)) (fun _ => ?_) (fun q => absurd rfl q)
  refine j_iload 400 1 dL_law_398 rfl rfl ?_
  refine j_if_ne 403 415 dL_law_400 rfl rfl (r32 (by omega) (by omega)) (fun hk0 => ?_) (fun hk0 => ?_)
  · refine j_goto 1412 dL_law_415 rfl ?_
    exact j_sub [2, 3, 4, 5, 6, 7] rfl (kk _ _ hI2)
  · refine j_aload_n 404 5 dL_law_403 rfl rfl ?_
    refine j_iconst 405 dL_law_404 rfl ?_
    refine j_lald 406 0 dL_law_405 rfl hS2.2.2.2.2.1 rfl rfl (by decide) ?_
    refine j_iload 408 0 dL_law_406 rfl rfl ?_
    refine j_topI (y := z.toInt) (i32_asI z).symm ?_
    refine j_i2l 409 dL_law_408 rfl (i32_rng z) ?_
    rw [b3 hk0]
    refine j_lcmp 410 dL_law_409 rfl ?_
    rw [lcmp_rf]
    refine j_if_eq 413 415 dL_law_410 rfl rfl (r32 (by decide) (by decide)) (fun _ => ?_) (fun q => absurd rfl q)
    refine j_goto 1412 dL_law_415 rfl ?_
    exact j_sub [2, 3, 4, 5, 6, 7] rfl (kk _ _ hI2)

theorem w_group (hO : OPH w mL_group mX10_group [.int (i32 (sv w (i + 1))), .int (i32 (sv w (i + 2)))] B n sh g) (hi : i + 6 ≤ sL w) (h3 : sL w ≤ 3072) (kk : ∀ sh2 g2, LI B n sh2 g2 → J w mLaw 1412 (LL w B i) [] sh2 g2 kc ks QL) : J w mLaw 418 (LL w B i) [] sh g (kc + 600) (ks + 4000) QL := by
  show J w mLaw 418 [(0, .ref (w.2.1 300)), (1, .ref B), (2, .ref (B + 831)), (3, .ref (B + 845)), (4, .ref (B + 846)), (5, .int (i32 ((i : Nat) : Int)))] [] sh g (kc + 600) (ks + 4000) QL
  obtain ⟨Q1, c1, x1, h1⟩ := hO
  refine j_aload_n 419 1 dL_law_418 rfl rfl ?_
  refine j_arg 425 1 0 5 (i := i) rfl dL_law_419 dL_law_420 dL_law_422 dL_law_423 dL_law_424 rfl rfl (by omega) h3 ?_
  refine j_arg 431 2 0 5 (i := i) rfl dL_law_425 dL_law_426 dL_law_428 dL_law_429 dL_law_430 rfl rfl (by omega) h3 ?_
  refine j_aload_n 432 3 dL_law_431 rfl rfl ?_
  refine j_callSH 435 (As := [.ref B, .int (i32 (sv w (i + 1))), .int (i32 (sv w (i + 2))), .ref (B + 845)]) (kc2 := kc) (ks2 := ks) dL_law_432 rfl mkL_group stL_group rfl lk_L_99 rfl rfl (Nat.le_of_ble_eq_true rfl) ⟨Nat.le_of_ble_eq_true rfl, Nat.le_of_ble_eq_true rfl⟩ ⟨(by show 1 + kc ≤ kc + 600; omega), (by show 6 + ks ≤ ks + 4000; omega)⟩ c1 x1 (fun v1 sh1 g1 q1 => ?_)
  obtain ⟨k, hk, rfl, hS1, Q2, c2, x2, h2⟩ := h1 v1 sh1 g1 q1
  refine j_istore 437 (L2 := [(6, .int (i32 k)), (0, .ref (w.2.1 300)), (1, .ref B), (2, .ref (B + 831)), (3, .ref (B + 845)), (4, .ref (B + 846)), (5, .int (i32 ((i : Nat) : Int)))]) dL_law_435 rfl (Nat.le_of_ble_eq_true rfl) rfl ?_
  refine j_aload_n 438 3 dL_law_437 rfl rfl ?_
  refine j_arg 444 1 1 6 (i := i) rfl dL_law_438 dL_law_439 dL_law_441 dL_law_442 dL_law_443 rfl rfl (by omega) h3 ?_
  refine j_arg 450 2 1 6 (i := i) rfl dL_law_444 dL_law_445 dL_law_447 dL_law_448 dL_law_449 rfl rfl (by omega) h3 ?_
  refine j_callV 453 (As := [.int (i32 (sv w (i + 1))), .int (i32 (sv w (i + 2)))]) (kc2 := kc) (ks2 := ks) dL_law_450 rfl mvX10_group lk_L_101 (lsMd hS1).md rfl ⟨Nat.le_of_ble_eq_true rfl, rfl⟩ rfl rfl (Nat.le_of_ble_eq_true rfl) ⟨Nat.le_of_ble_eq_true rfl, Nat.le_of_ble_eq_true rfl⟩ ⟨(by show 0 + kc ≤ kc; omega), (by show 0 + ks ≤ ks; omega)⟩ c2 x2 (fun v2 sh2 g2 q2 => ?_)
  obtain ⟨z, rfl, b2, b3, hI2⟩ := h2 v2 sh2 g2 q2
  have hS2 := hI2.1
  refine j_istore 455 (L2 := [(7, .int z), (6, .int (i32 k)), (0, .ref (w.2.1 300)), (1, .ref B), (2, .ref (B + 831)), (3, .ref (B + 845)), (4, .ref (B + 846)), (5, .int (i32 ((i : Nat) : Int)))]) dL_law_453 rfl (Nat.le_of_ble_eq_true rfl) rfl ?_
  refine j_aload_n 456 4 dL_law_455 rfl rfl ?_
  refine j_callV 459 (As := []) (kc2 := kc) (ks2 := ks) dL_law_456 rfl mvX10_thrown lk_L_84 (lsMd hS2).md rfl ⟨Nat.le_of_ble_eq_true rfl, rfl⟩ rfl rfl (Nat.le_of_ble_eq_true rfl) ⟨Nat.le_of_ble_eq_true rfl, Nat.le_of_ble_eq_true rfl⟩ ⟨(by show 0 + kc ≤ kc; omega), (by show 0 + ks ≤ ks; omega)⟩ (r_thrown (lsMd hS2)) x_d (k_d1 ?_)
  rw [b2]
  refine j_iload 461 1 dL_law_459 rfl rfl ?_
  refine j_icmp_eq 464 466 dL_law_461 rfl rfl (r32 (by omega) (by omega)) (r32 (by omega) (by omega)) (fun _ => ?_) (fun q => absurd rfl q)
  refine j_iload 468 1 dL_law_466 rfl rfl ?_
  refine j_if_ne 471 483 dL_law_468 rfl rfl (r32 (by omega) (by omega)) (fun hk0 => ?_) (fun hk0 => ?_)
  · refine j_goto 1412 dL_law_483 rfl ?_
    exact j_sub [2, 3, 4, 5, 6, 7] rfl (kk _ _ hI2)
  · refine j_aload_n 472 5 dL_law_471 rfl rfl ?_
    refine j_iconst 473 dL_law_472 rfl ?_
    refine j_lald 474 0 dL_law_473 rfl hS2.2.2.2.2.1 rfl rfl (by decide) ?_
    refine j_iload 476 0 dL_law_474 rfl rfl ?_
    refine j_topI (y := z.toInt) (i32_asI z).symm ?_
    refine j_i2l 477 dL_law_476 rfl (i32_rng z) ?_
    rw [b3 hk0]
    refine j_lcmp 478 dL_law_477 rfl ?_
    rw [lcmp_rf]
    refine j_if_eq 481 483 dL_law_478 rfl rfl (r32 (by decide) (by decide)) (fun _ => ?_) (fun q => absurd rfl q)
    refine j_goto 1412 dL_law_483 rfl ?_
    exact j_sub [2, 3, 4, 5, 6, 7] rfl (kk _ _ hI2)

theorem w_register (hO : OPH w mL_register mX10_register [.int (i32 (sv w (i + 1))), .int (i32 (sv w (i + 2)))] B n sh g) (hi : i + 6 ≤ sL w) (h3 : sL w ≤ 3072) (kk : ∀ sh2 g2, LI B n sh2 g2 → J w mLaw 1412 (LL w B i) [] sh2 g2 kc ks QL) : J w mLaw 486 (LL w B i) [] sh g (kc + 600) (ks + 4000) QL := by
  show J w mLaw 486 [(0, .ref (w.2.1 300)), (1, .ref B), (2, .ref (B + 831)), (3, .ref (B + 845)), (4, .ref (B + 846)), (5, .int (i32 ((i : Nat) : Int)))] [] sh g (kc + 600) (ks + 4000) QL
  obtain ⟨Q1, c1, x1, h1⟩ := hO
  refine j_aload_n 487 1 dL_law_486 rfl rfl ?_
  refine j_arg 493 1 0 5 (i := i) rfl dL_law_487 dL_law_488 dL_law_490 dL_law_491 dL_law_492 rfl rfl (by omega) h3 ?_
  refine j_arg 499 2 0 5 (i := i) rfl dL_law_493 dL_law_494 dL_law_496 dL_law_497 dL_law_498 rfl rfl (by omega) h3 ?_
  refine j_aload_n 500 3 dL_law_499 rfl rfl ?_
  refine j_callSH 503 (As := [.ref B, .int (i32 (sv w (i + 1))), .int (i32 (sv w (i + 2))), .ref (B + 845)]) (kc2 := kc) (ks2 := ks) dL_law_500 rfl mkL_register stL_register rfl lk_L_102 rfl rfl (Nat.le_of_ble_eq_true rfl) ⟨Nat.le_of_ble_eq_true rfl, Nat.le_of_ble_eq_true rfl⟩ ⟨(by show 1 + kc ≤ kc + 600; omega), (by show 6 + ks ≤ ks + 4000; omega)⟩ c1 x1 (fun v1 sh1 g1 q1 => ?_)
  obtain ⟨k, hk, rfl, hS1, Q2, c2, x2, h2⟩ := h1 v1 sh1 g1 q1
  refine j_istore 505 (L2 := [(6, .int (i32 k)), (0, .ref (w.2.1 300)), (1, .ref B), (2, .ref (B + 831)), (3, .ref (B + 845)), (4, .ref (B + 846)), (5, .int (i32 ((i : Nat) : Int)))]) dL_law_503 rfl (Nat.le_of_ble_eq_true rfl) rfl ?_
  refine j_aload_n 506 3 dL_law_505 rfl rfl ?_
  refine j_arg 512 1 1 6 (i := i) rfl dL_law_506 dL_law_507 dL_law_509 dL_law_510 dL_law_511 rfl rfl (by omega) h3 ?_
  refine j_arg 518 2 1 6 (i := i) rfl dL_law_512 dL_law_513 dL_law_515 dL_law_516 dL_law_517 rfl rfl (by omega) h3 ?_
  refine j_callV 521 (As := [.int (i32 (sv w (i + 1))), .int (i32 (sv w (i + 2)))]) (kc2 := kc) (ks2 := ks) dL_law_518 rfl mvX10_register lk_L_104 (lsMd hS1).md rfl ⟨Nat.le_of_ble_eq_true rfl, rfl⟩ rfl rfl (Nat.le_of_ble_eq_true rfl) ⟨Nat.le_of_ble_eq_true rfl, Nat.le_of_ble_eq_true rfl⟩ ⟨(by show 0 + kc ≤ kc; omega), (by show 0 + ks ≤ ks; omega)⟩ c2 x2 (fun v2 sh2 g2 q2 => ?_)
  obtain ⟨z, rfl, b2, b3, hI2⟩ := h2 v2 sh2 g2 q2
  have hS2 := hI2.1
  refine j_istore 523 (L2 := [(7, .int z), (6, .int (i32 k)), (0, .ref (w.2.1 300)), (1, .ref B), (2, .ref (B + 831)), (3, .ref (B + 845)), (4, .ref (B + 846)), (5, .int (i32 ((i : Nat) : Int)))]) dL_law_521 rfl (Nat.le_of_ble_eq_true rfl) rfl ?_
  refine j_aload_n 524 4 dL_law_523 rfl rfl ?_
  refine j_callV 527 (As := []) (kc2 := kc) (ks2 := ks) dL_law_524 rfl mvX10_thrown lk_L_84 (lsMd hS2).md rfl ⟨Nat.le_of_ble_eq_true rfl, rfl⟩ rfl rfl (Nat.le_of_ble_eq_true rfl) ⟨Nat.le_of_ble_eq_true rfl, Nat.le_of_ble_eq_true rfl⟩ ⟨(by show 0 + kc ≤ kc; omega), (by show 0 + ks ≤ ks; omega)⟩ (r_thrown (lsMd hS2)) x_d (k_d1 ?_)
  rw [b2]
  refine j_iload 529 1 dL_law_527 rfl rfl ?_
  refine j_icmp_eq 532 534 dL_law_529 rfl rfl (r32 (by omega) (by omega)) (r32 (by omega) (by omega)) (fun _ => ?_) (fun q => absurd rfl q)
  refine j_iload 536 1 dL_law_534 rfl rfl ?_
  refine j_if_ne 539 551 dL_law_536 rfl rfl (r32 (by omega) (by omega)) (fun hk0 => ?_) (fun hk0 => ?_)
  · refine j_goto 1412 dL_law_551 rfl ?_
    exact j_sub [2, 3, 4, 5, 6, 7] rfl (kk _ _ hI2)
  · refine j_aload_n 540 5 dL_law_539 rfl rfl ?_
    refine j_iconst 541 dL_law_540 rfl ?_
    refine j_lald 542 0 dL_law_541 rfl hS2.2.2.2.2.1 rfl rfl (by decide) ?_
    refine j_iload 544 0 dL_law_542 rfl rfl ?_
    refine j_topI (y := z.toInt) (i32_asI z).symm ?_
    refine j_i2l 545 dL_law_544 rfl (i32_rng z) ?_
    rw [b3 hk0]
    refine j_lcmp 546 dL_law_545 rfl ?_
    rw [lcmp_rf]
    refine j_if_eq 549 551 dL_law_546 rfl rfl (r32 (by decide) (by decide)) (fun _ => ?_) (fun q => absurd rfl q)
    refine j_goto 1412 dL_law_551 rfl ?_
    exact j_sub [2, 3, 4, 5, 6, 7] rfl (kk _ _ hI2)

theorem w_marker (hO : OPH w mL_marker mX10_marker [.int (i32 (sv w (i + 1))), .int (i32 (sv w (i + 2)))] B n sh g) (hi : i + 6 ≤ sL w) (h3 : sL w ≤ 3072) (kk : ∀ sh2 g2, LI B n sh2 g2 → J w mLaw 1412 (LL w B i) [] sh2 g2 kc ks QL) : J w mLaw 554 (LL w B i) [] sh g (kc + 600) (ks + 4000) QL := by
  show J w mLaw 554 [(0, .ref (w.2.1 300)), (1, .ref B), (2, .ref (B + 831)), (3, .ref (B + 845)), (4, .ref (B + 846)), (5, .int (i32 ((i : Nat) : Int)))] [] sh g (kc + 600) (ks + 4000) QL
  obtain ⟨Q1, c1, x1, h1⟩ := hO
  refine j_aload_n 555 1 dL_law_554 rfl rfl ?_
  refine j_arg 561 1 0 5 (i := i) rfl dL_law_555 dL_law_556 dL_law_558 dL_law_559 dL_law_560 rfl rfl (by omega) h3 ?_
  refine j_arg 567 2 0 5 (i := i) rfl dL_law_561 dL_law_562 dL_law_564 dL_law_565 dL_law_566 rfl rfl (by omega) h3 ?_
  refine j_aload_n 568 3 dL_law_567 rfl rfl ?_
  refine j_callSH 571 (As := [.ref B, .int (i32 (sv w (i + 1))), .int (i32 (sv w (i + 2))), .ref (B + 845)]) (kc2 := kc) (ks2 := ks) dL_law_568 rfl mkL_marker stL_marker rfl lk_L_105 rfl rfl (Nat.le_of_ble_eq_true rfl) ⟨Nat.le_of_ble_eq_true rfl, Nat.le_of_ble_eq_true rfl⟩ ⟨(by show 1 + kc ≤ kc + 600; omega), (by show 6 + ks ≤ ks + 4000; omega)⟩ c1 x1 (fun v1 sh1 g1 q1 => ?_)
  obtain ⟨k, hk, rfl, hS1, Q2, c2, x2, h2⟩ := h1 v1 sh1 g1 q1
  refine j_istore 573 (L2 := [(6, .int (i32 k)), (0, .ref (w.2.1 300)), (1, .ref B), (2, .ref (B + 831)), (3, .ref (B + 845)), (4, .ref (B + 846)), (5, .int (i32 ((i : Nat) : Int)))]) dL_law_571 rfl (Nat.le_of_ble_eq_true rfl) rfl ?_
  refine j_aload_n 574 3 dL_law_573 rfl rfl ?_
  refine j_arg 580 1 1 6 (i := i) rfl dL_law_574 dL_law_575 dL_law_577 dL_law_578 dL_law_579 rfl rfl (by omega) h3 ?_
  refine j_arg 586 2 1 6 (i := i) rfl dL_law_580 dL_law_581 dL_law_583 dL_law_584 dL_law_585 rfl rfl (by omega) h3 ?_
  refine j_callV 589 (As := [.int (i32 (sv w (i + 1))), .int (i32 (sv w (i + 2)))]) (kc2 := kc) (ks2 := ks) dL_law_586 rfl mvX10_marker lk_L_107 (lsMd hS1).md rfl ⟨Nat.le_of_ble_eq_true rfl, rfl⟩ rfl rfl (Nat.le_of_ble_eq_true rfl) ⟨Nat.le_of_ble_eq_true rfl, Nat.le_of_ble_eq_true rfl⟩ ⟨(by show 0 + kc ≤ kc; omega), (by show 0 + ks ≤ ks; omega)⟩ c2 x2 (fun v2 sh2 g2 q2 => ?_)
  obtain ⟨z, rfl, b2, b3, hI2⟩ := h2 v2 sh2 g2 q2
  have hS2 := hI2.1
  refine j_istore 591 (L2 := [(7, .int z), (6, .int (i32 k)), (0, .ref (w.2.1 300)), (1, .ref B), (2, .ref (B + 831)), (3, .ref (B + 845)), (4, .ref (B + 846)), (5, .int (i32 ((i : Nat) : Int)))]) dL_law_589 rfl (Nat.le_of_ble_eq_true rfl) rfl ?_
  refine j_aload_n 592 4 dL_law_591 rfl rfl ?_
  refine j_callV 595 (As := []) (kc2 := kc) (ks2 := ks) dL_law_592 rfl mvX10_thrown lk_L_84 (lsMd hS2).md rfl ⟨Nat.le_of_ble_eq_true rfl, rfl⟩ rfl rfl (Nat.le_of_ble_eq_true rfl) ⟨Nat.le_of_ble_eq_true rfl, Nat.le_of_ble_eq_true rfl⟩ ⟨(by show 0 + kc ≤ kc; omega), (by show 0 + ks ≤ ks; omega)⟩ (r_thrown (lsMd hS2)) x_d (k_d1 ?_)
  rw [b2]
  refine j_iload 597 1 dL_law_595 rfl rfl ?_
  refine j_icmp_eq 600 602 dL_law_597 rfl rfl (r32 (by omega) (by omega)) (r32 (by omega) (by omega)) (fun _ => ?_) (fun q => absurd rfl q)
  refine j_iload 604 1 dL_law_602 rfl rfl ?_
  refine j_if_ne 607 619 dL_law_604 rfl rfl (r32 (by omega) (by omega)) (fun hk0 => ?_) (fun hk0 => ?_)
  · refine j_goto 1412 dL_law_619 rfl ?_
    exact j_sub [2, 3, 4, 5, 6, 7] rfl (kk _ _ hI2)
  · refine j_aload_n 608 5 dL_law_607 rfl rfl ?_
    refine j_iconst 609 dL_law_608 rfl ?_
    refine j_lald 610 0 dL_law_609 rfl hS2.2.2.2.2.1 rfl rfl (by decide) ?_
    refine j_iload 612 0 dL_law_610 rfl rfl ?_
    refine j_topI (y := z.toInt) (i32_asI z).symm ?_
    refine j_i2l 613 dL_law_612 rfl (i32_rng z) ?_
    rw [b3 hk0]
    refine j_lcmp 614 dL_law_613 rfl ?_
    rw [lcmp_rf]
    refine j_if_eq 617 619 dL_law_614 rfl rfl (r32 (by decide) (by decide)) (fun _ => ?_) (fun q => absurd rfl q)
    refine j_goto 1412 dL_law_619 rfl ?_
    exact j_sub [2, 3, 4, 5, 6, 7] rfl (kk _ _ hI2)

theorem w_call (hO : OPH w mL_call mX10_call [.int (i32 (sv w (i + 1))), .int (i32 (sv w (i + 2)))] B n sh g) (hi : i + 6 ≤ sL w) (h3 : sL w ≤ 3072) (kk : ∀ sh2 g2, LI B n sh2 g2 → J w mLaw 1412 (LL w B i) [] sh2 g2 kc ks QL) : J w mLaw 622 (LL w B i) [] sh g (kc + 600) (ks + 4000) QL := by
  show J w mLaw 622 [(0, .ref (w.2.1 300)), (1, .ref B), (2, .ref (B + 831)), (3, .ref (B + 845)), (4, .ref (B + 846)), (5, .int (i32 ((i : Nat) : Int)))] [] sh g (kc + 600) (ks + 4000) QL
  obtain ⟨Q1, c1, x1, h1⟩ := hO
  refine j_aload_n 623 1 dL_law_622 rfl rfl ?_
  refine j_arg 629 1 0 5 (i := i) rfl dL_law_623 dL_law_624 dL_law_626 dL_law_627 dL_law_628 rfl rfl (by omega) h3 ?_
  refine j_arg 635 2 0 5 (i := i) rfl dL_law_629 dL_law_630 dL_law_632 dL_law_633 dL_law_634 rfl rfl (by omega) h3 ?_
  refine j_aload_n 636 3 dL_law_635 rfl rfl ?_
  refine j_callSH 639 (As := [.ref B, .int (i32 (sv w (i + 1))), .int (i32 (sv w (i + 2))), .ref (B + 845)]) (kc2 := kc) (ks2 := ks) dL_law_636 rfl mkL_call stL_call rfl lk_L_108 rfl rfl (Nat.le_of_ble_eq_true rfl) ⟨Nat.le_of_ble_eq_true rfl, Nat.le_of_ble_eq_true rfl⟩ ⟨(by show 1 + kc ≤ kc + 600; omega), (by show 6 + ks ≤ ks + 4000; omega)⟩ c1 x1 (fun v1 sh1 g1 q1 => ?_)
  obtain ⟨k, hk, rfl, hS1, Q2, c2, x2, h2⟩ := h1 v1 sh1 g1 q1
  refine j_istore 641 (L2 := [(6, .int (i32 k)), (0, .ref (w.2.1 300)), (1, .ref B), (2, .ref (B + 831)), (3, .ref (B + 845)), (4, .ref (B + 846)), (5, .int (i32 ((i : Nat) : Int)))]) dL_law_639 rfl (Nat.le_of_ble_eq_true rfl) rfl ?_
  refine j_aload_n 642 3 dL_law_641 rfl rfl ?_
  refine j_arg 648 1 1 6 (i := i) rfl dL_law_642 dL_law_643 dL_law_645 dL_law_646 dL_law_647 rfl rfl (by omega) h3 ?_
  refine j_arg 654 2 1 6 (i := i) rfl dL_law_648 dL_law_649 dL_law_651 dL_law_652 dL_law_653 rfl rfl (by omega) h3 ?_
  refine j_callV 657 (As := [.int (i32 (sv w (i + 1))), .int (i32 (sv w (i + 2)))]) (kc2 := kc) (ks2 := ks) dL_law_654 rfl mvX10_call lk_L_110 (lsMd hS1).md rfl ⟨Nat.le_of_ble_eq_true rfl, rfl⟩ rfl rfl (Nat.le_of_ble_eq_true rfl) ⟨Nat.le_of_ble_eq_true rfl, Nat.le_of_ble_eq_true rfl⟩ ⟨(by show 0 + kc ≤ kc; omega), (by show 0 + ks ≤ ks; omega)⟩ c2 x2 (fun v2 sh2 g2 q2 => ?_)
  obtain ⟨z, rfl, b2, b3, hI2⟩ := h2 v2 sh2 g2 q2
  have hS2 := hI2.1
  refine j_istore 659 (L2 := [(7, .int z), (6, .int (i32 k)), (0, .ref (w.2.1 300)), (1, .ref B), (2, .ref (B + 831)), (3, .ref (B + 845)), (4, .ref (B + 846)), (5, .int (i32 ((i : Nat) : Int)))]) dL_law_657 rfl (Nat.le_of_ble_eq_true rfl) rfl ?_
  refine j_aload_n 660 4 dL_law_659 rfl rfl ?_
  refine j_callV 663 (As := []) (kc2 := kc) (ks2 := ks) dL_law_660 rfl mvX10_thrown lk_L_84 (lsMd hS2).md rfl ⟨Nat.le_of_ble_eq_true rfl, rfl⟩ rfl rfl (Nat.le_of_ble_eq_true rfl) ⟨Nat.le_of_ble_eq_true rfl, Nat.le_of_ble_eq_true rfl⟩ ⟨(by show 0 + kc ≤ kc; omega), (by show 0 + ks ≤ ks; omega)⟩ (r_thrown (lsMd hS2)) x_d (k_d1 ?_)
  rw [b2]
  refine j_iload 665 1 dL_law_663 rfl rfl ?_
  refine j_icmp_eq 668 670 dL_law_665 rfl rfl (r32 (by omega) (by omega)) (r32 (by omega) (by omega)) (fun _ => ?_) (fun q => absurd rfl q)
  refine j_iload 672 1 dL_law_670 rfl rfl ?_
  refine j_if_ne 675 687 dL_law_672 rfl rfl (r32 (by omega) (by omega)) (fun hk0 => ?_) (fun hk0 => ?_)
  · refine j_goto 1412 dL_law_687 rfl ?_
    exact j_sub [2, 3, 4, 5, 6, 7] rfl (kk _ _ hI2)
  · refine j_aload_n 676 5 dL_law_675 rfl rfl ?_
    refine j_iconst 677 dL_law_676 rfl ?_
    refine j_lald 678 0 dL_law_677 rfl hS2.2.2.2.2.1 rfl rfl (by decide) ?_
    refine j_iload 680 0 dL_law_678 rfl rfl ?_
    refine j_topI (y := z.toInt) (i32_asI z).symm ?_
    refine j_i2l 681 dL_law_680 rfl (i32_rng z) ?_
    rw [b3 hk0]
    refine j_lcmp 682 dL_law_681 rfl ?_
    rw [lcmp_rf]
    refine j_if_eq 685 687 dL_law_682 rfl rfl (r32 (by decide) (by decide)) (fun _ => ?_) (fun q => absurd rfl q)
    refine j_goto 1412 dL_law_687 rfl ?_
    exact j_sub [2, 3, 4, 5, 6, 7] rfl (kk _ _ hI2)

theorem w_digit (hO : OPH w mL_digit mX10_digit [.int (i32 (sv w (i + 1))), .int (i32 (sv w (i + 2)))] B n sh g) (hi : i + 6 ≤ sL w) (h3 : sL w ≤ 3072) (kk : ∀ sh2 g2, LI B n sh2 g2 → J w mLaw 1412 (LL w B i) [] sh2 g2 kc ks QL) : J w mLaw 690 (LL w B i) [] sh g (kc + 600) (ks + 4000) QL := by
  show J w mLaw 690 [(0, .ref (w.2.1 300)), (1, .ref B), (2, .ref (B + 831)), (3, .ref (B + 845)), (4, .ref (B + 846)), (5, .int (i32 ((i : Nat) : Int)))] [] sh g (kc + 600) (ks + 4000) QL
  obtain ⟨Q1, c1, x1, h1⟩ := hO
  refine j_aload_n 691 1 dL_law_690 rfl rfl ?_
  refine j_arg 697 1 0 5 (i := i) rfl dL_law_691 dL_law_692 dL_law_694 dL_law_695 dL_law_696 rfl rfl (by omega) h3 ?_
  refine j_arg 703 2 0 5 (i := i) rfl dL_law_697 dL_law_698 dL_law_700 dL_law_701 dL_law_702 rfl rfl (by omega) h3 ?_
  refine j_aload_n 704 3 dL_law_703 rfl rfl ?_
  refine j_callSH 707 (As := [.ref B, .int (i32 (sv w (i + 1))), .int (i32 (sv w (i + 2))), .ref (B + 845)]) (kc2 := kc) (ks2 := ks) dL_law_704 rfl mkL_digit stL_digit rfl lk_L_111 rfl rfl (Nat.le_of_ble_eq_true rfl) ⟨Nat.le_of_ble_eq_true rfl, Nat.le_of_ble_eq_true rfl⟩ ⟨(by show 1 + kc ≤ kc + 600; omega), (by show 6 + ks ≤ ks + 4000; omega)⟩ c1 x1 (fun v1 sh1 g1 q1 => ?_)
  obtain ⟨k, hk, rfl, hS1, Q2, c2, x2, h2⟩ := h1 v1 sh1 g1 q1
  refine j_istore 709 (L2 := [(6, .int (i32 k)), (0, .ref (w.2.1 300)), (1, .ref B), (2, .ref (B + 831)), (3, .ref (B + 845)), (4, .ref (B + 846)), (5, .int (i32 ((i : Nat) : Int)))]) dL_law_707 rfl (Nat.le_of_ble_eq_true rfl) rfl ?_
  refine j_aload_n 710 3 dL_law_709 rfl rfl ?_
  refine j_arg 716 1 1 6 (i := i) rfl dL_law_710 dL_law_711 dL_law_713 dL_law_714 dL_law_715 rfl rfl (by omega) h3 ?_
  refine j_arg 722 2 1 6 (i := i) rfl dL_law_716 dL_law_717 dL_law_719 dL_law_720 dL_law_721 rfl rfl (by omega) h3 ?_
  refine j_callV 725 (As := [.int (i32 (sv w (i + 1))), .int (i32 (sv w (i + 2)))]) (kc2 := kc) (ks2 := ks) dL_law_722 rfl mvX10_digit lk_L_113 (lsMd hS1).md rfl ⟨Nat.le_of_ble_eq_true rfl, rfl⟩ rfl rfl (Nat.le_of_ble_eq_true rfl) ⟨Nat.le_of_ble_eq_true rfl, Nat.le_of_ble_eq_true rfl⟩ ⟨(by show 0 + kc ≤ kc; omega), (by show 0 + ks ≤ ks; omega)⟩ c2 x2 (fun v2 sh2 g2 q2 => ?_)
  obtain ⟨z, rfl, b2, b3, hI2⟩ := h2 v2 sh2 g2 q2
  have hS2 := hI2.1
  refine j_istore 727 (L2 := [(7, .int z), (6, .int (i32 k)), (0, .ref (w.2.1 300)), (1, .ref B), (2, .ref (B + 831)), (3, .ref (B + 845)), (4, .ref (B + 846)), (5, .int (i32 ((i : Nat) : Int)))]) dL_law_725 rfl (Nat.le_of_ble_eq_true rfl) rfl ?_
  refine j_aload_n 728 4 dL_law_727 rfl rfl ?_
  refine j_callV 731 (As := []) (kc2 := kc) (ks2 := ks) dL_law_728 rfl mvX10_thrown lk_L_84 (lsMd hS2).md rfl ⟨Nat.le_of_ble_eq_true rfl, rfl⟩ rfl rfl (Nat.le_of_ble_eq_true rfl) ⟨Nat.le_of_ble_eq_true rfl, Nat.le_of_ble_eq_true rfl⟩ ⟨(by show 0 + kc ≤ kc; omega), (by show 0 + ks ≤ ks; omega)⟩ (r_thrown (lsMd hS2)) x_d (k_d1 ?_)
  rw [b2]
  refine j_iload 733 1 dL_law_731 rfl rfl ?_
  refine j_icmp_eq 736 738 dL_law_733 rfl rfl (r32 (by omega) (by omega)) (r32 (by omega) (by omega)) (fun _ => ?_) (fun q => absurd rfl q)
  refine j_iload 740 1 dL_law_738 rfl rfl ?_
  refine j_if_ne 743 755 dL_law_740 rfl rfl (r32 (by omega) (by omega)) (fun hk0 => ?_) (fun hk0 => ?_)
  · refine j_goto 1412 dL_law_755 rfl ?_
    exact j_sub [2, 3, 4, 5, 6, 7] rfl (kk _ _ hI2)
  · refine j_aload_n 744 5 dL_law_743 rfl rfl ?_
    refine j_iconst 745 dL_law_744 rfl ?_
    refine j_lald 746 0 dL_law_745 rfl hS2.2.2.2.2.1 rfl rfl (by decide) ?_
    refine j_iload 748 0 dL_law_746 rfl rfl ?_
    refine j_topI (y := z.toInt) (i32_asI z).symm ?_
    refine j_i2l 749 dL_law_748 rfl (i32_rng z) ?_
    rw [b3 hk0]
    refine j_lcmp 750 dL_law_749 rfl ?_
    rw [lcmp_rf]
    refine j_if_eq 753 755 dL_law_750 rfl rfl (r32 (by decide) (by decide)) (fun _ => ?_) (fun q => absurd rfl q)
    refine j_goto 1412 dL_law_755 rfl ?_
    exact j_sub [2, 3, 4, 5, 6, 7] rfl (kk _ _ hI2)

theorem w_look (hO : OPH w mL_look mX10_look [.int (i32 (sv w (i + 1))), .int (i32 (sv w (i + 2)))] B n sh g) (hi : i + 6 ≤ sL w) (h3 : sL w ≤ 3072) (kk : ∀ sh2 g2, LI B n sh2 g2 → J w mLaw 1412 (LL w B i) [] sh2 g2 kc ks QL) : J w mLaw 758 (LL w B i) [] sh g (kc + 600) (ks + 4000) QL := by
  show J w mLaw 758 [(0, .ref (w.2.1 300)), (1, .ref B), (2, .ref (B + 831)), (3, .ref (B + 845)), (4, .ref (B + 846)), (5, .int (i32 ((i : Nat) : Int)))] [] sh g (kc + 600) (ks + 4000) QL
  obtain ⟨Q1, c1, x1, h1⟩ := hO
  refine j_aload_n 759 1 dL_law_758 rfl rfl ?_
  refine j_arg 765 1 0 5 (i := i) rfl dL_law_759 dL_law_760 dL_law_762 dL_law_763 dL_law_764 rfl rfl (by omega) h3 ?_
  refine j_arg 771 2 0 5 (i := i) rfl dL_law_765 dL_law_766 dL_law_768 dL_law_769 dL_law_770 rfl rfl (by omega) h3 ?_
  refine j_aload_n 772 3 dL_law_771 rfl rfl ?_
  refine j_callSH 775 (As := [.ref B, .int (i32 (sv w (i + 1))), .int (i32 (sv w (i + 2))), .ref (B + 845)]) (kc2 := kc) (ks2 := ks) dL_law_772 rfl mkL_look stL_look rfl lk_L_114 rfl rfl (Nat.le_of_ble_eq_true rfl) ⟨Nat.le_of_ble_eq_true rfl, Nat.le_of_ble_eq_true rfl⟩ ⟨(by show 1 + kc ≤ kc + 600; omega), (by show 6 + ks ≤ ks + 4000; omega)⟩ c1 x1 (fun v1 sh1 g1 q1 => ?_)
  obtain ⟨k, hk, rfl, hS1, Q2, c2, x2, h2⟩ := h1 v1 sh1 g1 q1
  refine j_istore 777 (L2 := [(6, .int (i32 k)), (0, .ref (w.2.1 300)), (1, .ref B), (2, .ref (B + 831)), (3, .ref (B + 845)), (4, .ref (B + 846)), (5, .int (i32 ((i : Nat) : Int)))]) dL_law_775 rfl (Nat.le_of_ble_eq_true rfl) rfl ?_
  refine j_aload_n 778 3 dL_law_777 rfl rfl ?_
  refine j_arg 784 1 1 6 (i := i) rfl dL_law_778 dL_law_779 dL_law_781 dL_law_782 dL_law_783 rfl rfl (by omega) h3 ?_
  refine j_arg 790 2 1 6 (i := i) rfl dL_law_784 dL_law_785 dL_law_787 dL_law_788 dL_law_789 rfl rfl (by omega) h3 ?_
  refine j_callV 793 (As := [.int (i32 (sv w (i + 1))), .int (i32 (sv w (i + 2)))]) (kc2 := kc) (ks2 := ks) dL_law_790 rfl mvX10_look lk_L_116 (lsMd hS1).md rfl ⟨Nat.le_of_ble_eq_true rfl, rfl⟩ rfl rfl (Nat.le_of_ble_eq_true rfl) ⟨Nat.le_of_ble_eq_true rfl, Nat.le_of_ble_eq_true rfl⟩ ⟨(by show 0 + kc ≤ kc; omega), (by show 0 + ks ≤ ks; omega)⟩ c2 x2 (fun v2 sh2 g2 q2 => ?_)
  obtain ⟨z, rfl, b2, b3, hI2⟩ := h2 v2 sh2 g2 q2
  have hS2 := hI2.1
  refine j_istore 795 (L2 := [(7, .int z), (6, .int (i32 k)), (0, .ref (w.2.1 300)), (1, .ref B), (2, .ref (B + 831)), (3, .ref (B + 845)), (4, .ref (B + 846)), (5, .int (i32 ((i : Nat) : Int)))]) dL_law_793 rfl (Nat.le_of_ble_eq_true rfl) rfl ?_
  refine j_aload_n 796 4 dL_law_795 rfl rfl ?_
  refine j_callV 799 (As := []) (kc2 := kc) (ks2 := ks) dL_law_796 rfl mvX10_thrown lk_L_84 (lsMd hS2).md rfl ⟨Nat.le_of_ble_eq_true rfl, rfl⟩ rfl rfl (Nat.le_of_ble_eq_true rfl) ⟨Nat.le_of_ble_eq_true rfl, Nat.le_of_ble_eq_true rfl⟩ ⟨(by show 0 + kc ≤ kc; omega), (by show 0 + ks ≤ ks; omega)⟩ (r_thrown (lsMd hS2)) x_d (k_d1 ?_)
  rw [b2]
  refine j_iload 801 1 dL_law_799 rfl rfl ?_
  refine j_icmp_eq 804 806 dL_law_801 rfl rfl (r32 (by omega) (by omega)) (r32 (by omega) (by omega)) (fun _ => ?_) (fun q => absurd rfl q)
  refine j_iload 808 1 dL_law_806 rfl rfl ?_
  refine j_if_ne 811 823 dL_law_808 rfl rfl (r32 (by omega) (by omega)) (fun hk0 => ?_) (fun hk0 => ?_)
  · refine j_goto 1412 dL_law_823 rfl ?_
    exact j_sub [2, 3, 4, 5, 6, 7] rfl (kk _ _ hI2)
  · refine j_aload_n 812 5 dL_law_811 rfl rfl ?_
    refine j_iconst 813 dL_law_812 rfl ?_
    refine j_lald 814 0 dL_law_813 rfl hS2.2.2.2.2.1 rfl rfl (by decide) ?_
    refine j_iload 816 0 dL_law_814 rfl rfl ?_
    refine j_topI (y := z.toInt) (i32_asI z).symm ?_
    refine j_i2l 817 dL_law_816 rfl (i32_rng z) ?_
    rw [b3 hk0]
    refine j_lcmp 818 dL_law_817 rfl ?_
    rw [lcmp_rf]
    refine j_if_eq 821 823 dL_law_818 rfl rfl (r32 (by decide) (by decide)) (fun _ => ?_) (fun q => absurd rfl q)
    refine j_goto 1412 dL_law_823 rfl ?_
    exact j_sub [2, 3, 4, 5, 6, 7] rfl (kk _ _ hI2)

theorem w_overIn (hO : OPH w mL_overIn mX10_overIn [.int (i32 (sv w (i + 1)))] B n sh g) (hi : i + 6 ≤ sL w) (h3 : sL w ≤ 3072) (kk : ∀ sh2 g2, LI B n sh2 g2 → J w mLaw 1412 (LL w B i) [] sh2 g2 kc ks QL) : J w mLaw 867 (LL w B i) [] sh g (kc + 600) (ks + 4000) QL := by
  show J w mLaw 867 [(0, .ref (w.2.1 300)), (1, .ref B), (2, .ref (B + 831)), (3, .ref (B + 845)), (4, .ref (B + 846)), (5, .int (i32 ((i : Nat) : Int)))] [] sh g (kc + 600) (ks + 4000) QL
  obtain ⟨Q1, c1, x1, h1⟩ := hO
  refine j_aload_n 868 1 dL_law_867 rfl rfl ?_
  refine j_arg 874 1 0 5 (i := i) rfl dL_law_868 dL_law_869 dL_law_871 dL_law_872 dL_law_873 rfl rfl (by omega) h3 ?_
  refine j_aload_n 875 3 dL_law_874 rfl rfl ?_
  refine j_callSH 878 (As := [.ref B, .int (i32 (sv w (i + 1))), .ref (B + 845)]) (kc2 := kc) (ks2 := ks) dL_law_875 rfl mkL_overIn stL_overIn rfl lk_L_122 rfl rfl (Nat.le_of_ble_eq_true rfl) ⟨Nat.le_of_ble_eq_true rfl, Nat.le_of_ble_eq_true rfl⟩ ⟨(by show 1 + kc ≤ kc + 600; omega), (by show 6 + ks ≤ ks + 4000; omega)⟩ c1 x1 (fun v1 sh1 g1 q1 => ?_)
  obtain ⟨k, hk, rfl, hS1, Q2, c2, x2, h2⟩ := h1 v1 sh1 g1 q1
  refine j_istore 880 (L2 := [(6, .int (i32 k)), (0, .ref (w.2.1 300)), (1, .ref B), (2, .ref (B + 831)), (3, .ref (B + 845)), (4, .ref (B + 846)), (5, .int (i32 ((i : Nat) : Int)))]) dL_law_878 rfl (Nat.le_of_ble_eq_true rfl) rfl ?_
  refine j_aload_n 881 3 dL_law_880 rfl rfl ?_
  refine j_arg 887 1 1 6 (i := i) rfl dL_law_881 dL_law_882 dL_law_884 dL_law_885 dL_law_886 rfl rfl (by omega) h3 ?_
  refine j_callV 890 (As := [.int (i32 (sv w (i + 1)))]) (kc2 := kc) (ks2 := ks) dL_law_887 rfl mvX10_overIn lk_L_124 (lsMd hS1).md rfl ⟨Nat.le_of_ble_eq_true rfl, rfl⟩ rfl rfl (Nat.le_of_ble_eq_true rfl) ⟨Nat.le_of_ble_eq_true rfl, Nat.le_of_ble_eq_true rfl⟩ ⟨(by show 0 + kc ≤ kc; omega), (by show 0 + ks ≤ ks; omega)⟩ c2 x2 (fun v2 sh2 g2 q2 => ?_)
  obtain ⟨z, rfl, b2, b3, hI2⟩ := h2 v2 sh2 g2 q2
  have hS2 := hI2.1
  refine j_istore 892 (L2 := [(7, .int z), (6, .int (i32 k)), (0, .ref (w.2.1 300)), (1, .ref B), (2, .ref (B + 831)), (3, .ref (B + 845)), (4, .ref (B + 846)), (5, .int (i32 ((i : Nat) : Int)))]) dL_law_890 rfl (Nat.le_of_ble_eq_true rfl) rfl ?_
  refine j_aload_n 893 4 dL_law_892 rfl rfl ?_
  refine j_callV 896 (As := []) (kc2 := kc) (ks2 := ks) dL_law_893 rfl mvX10_thrown lk_L_84 (lsMd hS2).md rfl ⟨Nat.le_of_ble_eq_true rfl, rfl⟩ rfl rfl (Nat.le_of_ble_eq_true rfl) ⟨Nat.le_of_ble_eq_true rfl, Nat.le_of_ble_eq_true rfl⟩ ⟨(by show 0 + kc ≤ kc; omega), (by show 0 + ks ≤ ks; omega)⟩ (r_thrown (lsMd hS2)) x_d (k_d1 ?_)
  rw [b2]
  refine j_iload 898 1 dL_law_896 rfl rfl ?_
  refine j_icmp_eq 901 903 dL_law_898 rfl rfl (r32 (by omega) (by omega)) (r32 (by omega) (by omega)) (fun _ => ?_) (fun q => absurd rfl q)
  refine j_iload 905 1 dL_law_903 rfl rfl ?_
  refine j_if_ne 908 920 dL_law_905 rfl rfl (r32 (by omega) (by omega)) (fun hk0 => ?_) (fun hk0 => ?_)
  · refine j_goto 1412 dL_law_920 rfl ?_
    exact j_sub [2, 3, 4, 5, 6, 7] rfl (kk _ _ hI2)
  · refine j_aload_n 909 5 dL_law_908 rfl rfl ?_
    refine j_iconst 910 dL_law_909 rfl ?_
    refine j_lald 911 0 dL_law_910 rfl hS2.2.2.2.2.1 rfl rfl (by decide) ?_
    refine j_iload 913 0 dL_law_911 rfl rfl ?_
    refine j_topI (y := z.toInt) (i32_asI z).symm ?_
    refine j_i2l 914 dL_law_913 rfl (i32_rng z) ?_
    rw [b3 hk0]
    refine j_lcmp 915 dL_law_914 rfl ?_
    rw [lcmp_rf]
    refine j_if_eq 918 920 dL_law_915 rfl rfl (r32 (by decide) (by decide)) (fun _ => ?_) (fun q => absurd rfl q)
    refine j_goto 1412 dL_law_920 rfl ?_
    exact j_sub [2, 3, 4, 5, 6, 7] rfl (kk _ _ hI2)

theorem w_foretold (hO : OPH w mL_foretold mX10_foretold [.int (i32 (sv w (i + 1))), .int (i32 (sv w (i + 2)))] B n sh g) (hi : i + 6 ≤ sL w) (h3 : sL w ≤ 3072) (kk : ∀ sh2 g2, LI B n sh2 g2 → J w mLaw 1412 (LL w B i) [] sh2 g2 kc ks QL) : J w mLaw 923 (LL w B i) [] sh g (kc + 600) (ks + 4000) QL := by
  show J w mLaw 923 [(0, .ref (w.2.1 300)), (1, .ref B), (2, .ref (B + 831)), (3, .ref (B + 845)), (4, .ref (B + 846)), (5, .int (i32 ((i : Nat) : Int)))] [] sh g (kc + 600) (ks + 4000) QL
  obtain ⟨Q1, c1, x1, h1⟩ := hO
  refine j_aload_n 924 1 dL_law_923 rfl rfl ?_
  refine j_arg 930 1 0 5 (i := i) rfl dL_law_924 dL_law_925 dL_law_927 dL_law_928 dL_law_929 rfl rfl (by omega) h3 ?_
  refine j_arg 936 2 0 5 (i := i) rfl dL_law_930 dL_law_931 dL_law_933 dL_law_934 dL_law_935 rfl rfl (by omega) h3 ?_
  refine j_aload_n 937 3 dL_law_936 rfl rfl ?_
  refine j_callSH 940 (As := [.ref B, .int (i32 (sv w (i + 1))), .int (i32 (sv w (i + 2))), .ref (B + 845)]) (kc2 := kc) (ks2 := ks) dL_law_937 rfl mkL_foretold stL_foretold rfl lk_L_125 rfl rfl (Nat.le_of_ble_eq_true rfl) ⟨Nat.le_of_ble_eq_true rfl, Nat.le_of_ble_eq_true rfl⟩ ⟨(by show 1 + kc ≤ kc + 600; omega), (by show 6 + ks ≤ ks + 4000; omega)⟩ c1 x1 (fun v1 sh1 g1 q1 => ?_)
  obtain ⟨k, hk, rfl, hS1, Q2, c2, x2, h2⟩ := h1 v1 sh1 g1 q1
  refine j_istore 942 (L2 := [(6, .int (i32 k)), (0, .ref (w.2.1 300)), (1, .ref B), (2, .ref (B + 831)), (3, .ref (B + 845)), (4, .ref (B + 846)), (5, .int (i32 ((i : Nat) : Int)))]) dL_law_940 rfl (Nat.le_of_ble_eq_true rfl) rfl ?_
  refine j_aload_n 943 3 dL_law_942 rfl rfl ?_
  refine j_arg 949 1 1 6 (i := i) rfl dL_law_943 dL_law_944 dL_law_946 dL_law_947 dL_law_948 rfl rfl (by omega) h3 ?_
  refine j_arg 955 2 1 6 (i := i) rfl dL_law_949 dL_law_950 dL_law_952 dL_law_953 dL_law_954 rfl rfl (by omega) h3 ?_
  refine j_callV 958 (As := [.int (i32 (sv w (i + 1))), .int (i32 (sv w (i + 2)))]) (kc2 := kc) (ks2 := ks) dL_law_955 rfl mvX10_foretold lk_L_127 (lsMd hS1).md rfl ⟨Nat.le_of_ble_eq_true rfl, rfl⟩ rfl rfl (Nat.le_of_ble_eq_true rfl) ⟨Nat.le_of_ble_eq_true rfl, Nat.le_of_ble_eq_true rfl⟩ ⟨(by show 0 + kc ≤ kc; omega), (by show 0 + ks ≤ ks; omega)⟩ c2 x2 (fun v2 sh2 g2 q2 => ?_)
  obtain ⟨z, rfl, b2, b3, hI2⟩ := h2 v2 sh2 g2 q2
  have hS2 := hI2.1
  refine j_istore 960 (L2 := [(7, .int z), (6, .int (i32 k)), (0, .ref (w.2.1 300)), (1, .ref B), (2, .ref (B + 831)), (3, .ref (B + 845)), (4, .ref (B + 846)), (5, .int (i32 ((i : Nat) : Int)))]) dL_law_958 rfl (Nat.le_of_ble_eq_true rfl) rfl ?_
  refine j_aload_n 961 4 dL_law_960 rfl rfl ?_
  refine j_callV 964 (As := []) (kc2 := kc) (ks2 := ks) dL_law_961 rfl mvX10_thrown lk_L_84 (lsMd hS2).md rfl ⟨Nat.le_of_ble_eq_true rfl, rfl⟩ rfl rfl (Nat.le_of_ble_eq_true rfl) ⟨Nat.le_of_ble_eq_true rfl, Nat.le_of_ble_eq_true rfl⟩ ⟨(by show 0 + kc ≤ kc; omega), (by show 0 + ks ≤ ks; omega)⟩ (r_thrown (lsMd hS2)) x_d (k_d1 ?_)
  rw [b2]
  refine j_iload 966 1 dL_law_964 rfl rfl ?_
  refine j_icmp_eq 969 971 dL_law_966 rfl rfl (r32 (by omega) (by omega)) (r32 (by omega) (by omega)) (fun _ => ?_) (fun q => absurd rfl q)
  refine j_iload 973 1 dL_law_971 rfl rfl ?_
  refine j_if_ne 976 988 dL_law_973 rfl rfl (r32 (by omega) (by omega)) (fun hk0 => ?_) (fun hk0 => ?_)
  · refine j_goto 1412 dL_law_988 rfl ?_
    exact j_sub [2, 3, 4, 5, 6, 7] rfl (kk _ _ hI2)
  · refine j_aload_n 977 5 dL_law_976 rfl rfl ?_
    refine j_iconst 978 dL_law_977 rfl ?_
    refine j_lald 979 0 dL_law_978 rfl hS2.2.2.2.2.1 rfl rfl (by decide) ?_
    refine j_iload 981 0 dL_law_979 rfl rfl ?_
    refine j_topI (y := z.toInt) (i32_asI z).symm ?_
    refine j_i2l 982 dL_law_981 rfl (i32_rng z) ?_
    rw [b3 hk0]
    refine j_lcmp 983 dL_law_982 rfl ?_
    rw [lcmp_rf]
    refine j_if_eq 986 988 dL_law_983 rfl rfl (r32 (by decide) (by decide)) (fun _ => ?_) (fun q => absurd rfl q)
    refine j_goto 1412 dL_law_988 rfl ?_
    exact j_sub [2, 3, 4, 5, 6, 7] rfl (kk _ _ hI2)

theorem w_dial (hO : OPH w mL_dial mX10_dial [.int (i32 (sv w (i + 1))), .int (i32 (sv w (i + 2))), .int (i32 (sv w (i + 3)))] B n sh g) (hi : i + 6 ≤ sL w) (h3 : sL w ≤ 3072) (kk : ∀ sh2 g2, LI B n sh2 g2 → J w mLaw 1412 (LL w B i) [] sh2 g2 kc ks QL) : J w mLaw 1125 (LL w B i) [] sh g (kc + 600) (ks + 4000) QL := by
  show J w mLaw 1125 [(0, .ref (w.2.1 300)), (1, .ref B), (2, .ref (B + 831)), (3, .ref (B + 845)), (4, .ref (B + 846)), (5, .int (i32 ((i : Nat) : Int)))] [] sh g (kc + 600) (ks + 4000) QL
  obtain ⟨Q1, c1, x1, h1⟩ := hO
  refine j_aload_n 1126 1 dL_law_1125 rfl rfl ?_
  refine j_arg 1132 1 0 5 (i := i) rfl dL_law_1126 dL_law_1127 dL_law_1129 dL_law_1130 dL_law_1131 rfl rfl (by omega) h3 ?_
  refine j_arg 1138 2 0 5 (i := i) rfl dL_law_1132 dL_law_1133 dL_law_1135 dL_law_1136 dL_law_1137 rfl rfl (by omega) h3 ?_
  refine j_arg 1144 3 0 5 (i := i) rfl dL_law_1138 dL_law_1139 dL_law_1141 dL_law_1142 dL_law_1143 rfl rfl (by omega) h3 ?_
  refine j_aload_n 1145 3 dL_law_1144 rfl rfl ?_
  refine j_callSH 1148 (As := [.ref B, .int (i32 (sv w (i + 1))), .int (i32 (sv w (i + 2))), .int (i32 (sv w (i + 3))), .ref (B + 845)]) (kc2 := kc) (ks2 := ks) dL_law_1145 rfl mkL_dial stL_dial rfl lk_L_141 rfl rfl (Nat.le_of_ble_eq_true rfl) ⟨Nat.le_of_ble_eq_true rfl, Nat.le_of_ble_eq_true rfl⟩ ⟨(by show 1 + kc ≤ kc + 600; omega), (by show 6 + ks ≤ ks + 4000; omega)⟩ c1 x1 (fun v1 sh1 g1 q1 => ?_)
  obtain ⟨k, hk, rfl, hS1, Q2, c2, x2, h2⟩ := h1 v1 sh1 g1 q1
  refine j_istore 1150 (L2 := [(6, .int (i32 k)), (0, .ref (w.2.1 300)), (1, .ref B), (2, .ref (B + 831)), (3, .ref (B + 845)), (4, .ref (B + 846)), (5, .int (i32 ((i : Nat) : Int)))]) dL_law_1148 rfl (Nat.le_of_ble_eq_true rfl) rfl ?_
  refine j_aload_n 1151 3 dL_law_1150 rfl rfl ?_
  refine j_arg 1157 1 1 6 (i := i) rfl dL_law_1151 dL_law_1152 dL_law_1154 dL_law_1155 dL_law_1156 rfl rfl (by omega) h3 ?_
  refine j_arg 1163 2 1 6 (i := i) rfl dL_law_1157 dL_law_1158 dL_law_1160 dL_law_1161 dL_law_1162 rfl rfl (by omega) h3 ?_
  refine j_arg 1169 3 1 6 (i := i) rfl dL_law_1163 dL_law_1164 dL_law_1166 dL_law_1167 dL_law_1168 rfl rfl (by omega) h3 ?_
  refine j_callV 1172 (As := [.int (i32 (sv w (i + 1))), .int (i32 (sv w (i + 2))), .int (i32 (sv w (i + 3)))]) (kc2 := kc) (ks2 := ks) dL_law_1169 rfl mvX10_dial lk_L_144 (lsMd hS1).md rfl ⟨Nat.le_of_ble_eq_true rfl, rfl⟩ rfl rfl (Nat.le_of_ble_eq_true rfl) ⟨Nat.le_of_ble_eq_true rfl, Nat.le_of_ble_eq_true rfl⟩ ⟨(by show 0 + kc ≤ kc; omega), (by show 0 + ks ≤ ks; omega)⟩ c2 x2 (fun v2 sh2 g2 q2 => ?_)
  obtain ⟨z, rfl, b2, b3, hI2⟩ := h2 v2 sh2 g2 q2
  have hS2 := hI2.1
  refine j_istore 1174 (L2 := [(7, .int z), (6, .int (i32 k)), (0, .ref (w.2.1 300)), (1, .ref B), (2, .ref (B + 831)), (3, .ref (B + 845)), (4, .ref (B + 846)), (5, .int (i32 ((i : Nat) : Int)))]) dL_law_1172 rfl (Nat.le_of_ble_eq_true rfl) rfl ?_
  refine j_aload_n 1175 4 dL_law_1174 rfl rfl ?_
  refine j_callV 1178 (As := []) (kc2 := kc) (ks2 := ks) dL_law_1175 rfl mvX10_thrown lk_L_84 (lsMd hS2).md rfl ⟨Nat.le_of_ble_eq_true rfl, rfl⟩ rfl rfl (Nat.le_of_ble_eq_true rfl) ⟨Nat.le_of_ble_eq_true rfl, Nat.le_of_ble_eq_true rfl⟩ ⟨(by show 0 + kc ≤ kc; omega), (by show 0 + ks ≤ ks; omega)⟩ (r_thrown (lsMd hS2)) x_d (k_d1 ?_)
  rw [b2]
  refine j_iload 1180 1 dL_law_1178 rfl rfl ?_
  refine j_icmp_eq 1183 1185 dL_law_1180 rfl rfl (r32 (by omega) (by omega)) (r32 (by omega) (by omega)) (fun _ => ?_) (fun q => absurd rfl q)
  refine j_iload 1187 1 dL_law_1185 rfl rfl ?_
  refine j_if_ne 1190 1202 dL_law_1187 rfl rfl (r32 (by omega) (by omega)) (fun hk0 => ?_) (fun hk0 => ?_)
  · refine j_goto 1412 dL_law_1202 rfl ?_
    exact j_sub [2, 3, 4, 5, 6, 7] rfl (kk _ _ hI2)
  · refine j_aload_n 1191 5 dL_law_1190 rfl rfl ?_
    refine j_iconst 1192 dL_law_1191 rfl ?_
    refine j_lald 1193 0 dL_law_1192 rfl hS2.2.2.2.2.1 rfl rfl (by decide) ?_
    refine j_iload 1195 0 dL_law_1193 rfl rfl ?_
    refine j_topI (y := z.toInt) (i32_asI z).symm ?_
    refine j_i2l 1196 dL_law_1195 rfl (i32_rng z) ?_
    rw [b3 hk0]
    refine j_lcmp 1197 dL_law_1196 rfl ?_
    rw [lcmp_rf]
    refine j_if_eq 1200 1202 dL_law_1197 rfl rfl (r32 (by decide) (by decide)) (fun _ => ?_) (fun q => absurd rfl q)
    refine j_goto 1412 dL_law_1202 rfl ?_
    exact j_sub [2, 3, 4, 5, 6, 7] rfl (kk _ _ hI2)

theorem w_hang (hO : OPH w mL_hang mX10_hang [.int (i32 (sv w (i + 1)))] B n sh g) (hi : i + 6 ≤ sL w) (h3 : sL w ≤ 3072) (kk : ∀ sh2 g2, LI B n sh2 g2 → J w mLaw 1412 (LL w B i) [] sh2 g2 kc ks QL) : J w mLaw 1205 (LL w B i) [] sh g (kc + 600) (ks + 4000) QL := by
  show J w mLaw 1205 [(0, .ref (w.2.1 300)), (1, .ref B), (2, .ref (B + 831)), (3, .ref (B + 845)), (4, .ref (B + 846)), (5, .int (i32 ((i : Nat) : Int)))] [] sh g (kc + 600) (ks + 4000) QL
  obtain ⟨Q1, c1, x1, h1⟩ := hO
  refine j_aload_n 1206 1 dL_law_1205 rfl rfl ?_
  refine j_arg 1212 1 0 5 (i := i) rfl dL_law_1206 dL_law_1207 dL_law_1209 dL_law_1210 dL_law_1211 rfl rfl (by omega) h3 ?_
  refine j_aload_n 1213 3 dL_law_1212 rfl rfl ?_
  refine j_callSH 1216 (As := [.ref B, .int (i32 (sv w (i + 1))), .ref (B + 845)]) (kc2 := kc) (ks2 := ks) dL_law_1213 rfl mkL_hang stL_hang rfl lk_L_145 rfl rfl (Nat.le_of_ble_eq_true rfl) ⟨Nat.le_of_ble_eq_true rfl, Nat.le_of_ble_eq_true rfl⟩ ⟨(by show 1 + kc ≤ kc + 600; omega), (by show 6 + ks ≤ ks + 4000; omega)⟩ c1 x1 (fun v1 sh1 g1 q1 => ?_)
  obtain ⟨k, hk, rfl, hS1, Q2, c2, x2, h2⟩ := h1 v1 sh1 g1 q1
  refine j_istore 1218 (L2 := [(6, .int (i32 k)), (0, .ref (w.2.1 300)), (1, .ref B), (2, .ref (B + 831)), (3, .ref (B + 845)), (4, .ref (B + 846)), (5, .int (i32 ((i : Nat) : Int)))]) dL_law_1216 rfl (Nat.le_of_ble_eq_true rfl) rfl ?_
  refine j_aload_n 1219 3 dL_law_1218 rfl rfl ?_
  refine j_arg 1225 1 1 6 (i := i) rfl dL_law_1219 dL_law_1220 dL_law_1222 dL_law_1223 dL_law_1224 rfl rfl (by omega) h3 ?_
  refine j_callV 1228 (As := [.int (i32 (sv w (i + 1)))]) (kc2 := kc) (ks2 := ks) dL_law_1225 rfl mvX10_hang lk_L_147 (lsMd hS1).md rfl ⟨Nat.le_of_ble_eq_true rfl, rfl⟩ rfl rfl (Nat.le_of_ble_eq_true rfl) ⟨Nat.le_of_ble_eq_true rfl, Nat.le_of_ble_eq_true rfl⟩ ⟨(by show 0 + kc ≤ kc; omega), (by show 0 + ks ≤ ks; omega)⟩ c2 x2 (fun v2 sh2 g2 q2 => ?_)
  obtain ⟨z, rfl, b2, b3, hI2⟩ := h2 v2 sh2 g2 q2
  have hS2 := hI2.1
  refine j_istore 1230 (L2 := [(7, .int z), (6, .int (i32 k)), (0, .ref (w.2.1 300)), (1, .ref B), (2, .ref (B + 831)), (3, .ref (B + 845)), (4, .ref (B + 846)), (5, .int (i32 ((i : Nat) : Int)))]) dL_law_1228 rfl (Nat.le_of_ble_eq_true rfl) rfl ?_
  refine j_aload_n 1231 4 dL_law_1230 rfl rfl ?_
  refine j_callV 1234 (As := []) (kc2 := kc) (ks2 := ks) dL_law_1231 rfl mvX10_thrown lk_L_84 (lsMd hS2).md rfl ⟨Nat.le_of_ble_eq_true rfl, rfl⟩ rfl rfl (Nat.le_of_ble_eq_true rfl) ⟨Nat.le_of_ble_eq_true rfl, Nat.le_of_ble_eq_true rfl⟩ ⟨(by show 0 + kc ≤ kc; omega), (by show 0 + ks ≤ ks; omega)⟩ (r_thrown (lsMd hS2)) x_d (k_d1 ?_)
  rw [b2]
  refine j_iload 1236 1 dL_law_1234 rfl rfl ?_
  refine j_icmp_eq 1239 1241 dL_law_1236 rfl rfl (r32 (by omega) (by omega)) (r32 (by omega) (by omega)) (fun _ => ?_) (fun q => absurd rfl q)
  refine j_iload 1243 1 dL_law_1241 rfl rfl ?_
  refine j_if_ne 1246 1258 dL_law_1243 rfl rfl (r32 (by omega) (by omega)) (fun hk0 => ?_) (fun hk0 => ?_)
  · refine j_goto 1412 dL_law_1258 rfl ?_
    exact j_sub [2, 3, 4, 5, 6, 7] rfl (kk _ _ hI2)
  · refine j_aload_n 1247 5 dL_law_1246 rfl rfl ?_
    refine j_iconst 1248 dL_law_1247 rfl ?_
    refine j_lald 1249 0 dL_law_1248 rfl hS2.2.2.2.2.1 rfl rfl (by decide) ?_
    refine j_iload 1251 0 dL_law_1249 rfl rfl ?_
    refine j_topI (y := z.toInt) (i32_asI z).symm ?_
    refine j_i2l 1252 dL_law_1251 rfl (i32_rng z) ?_
    rw [b3 hk0]
    refine j_lcmp 1253 dL_law_1252 rfl ?_
    rw [lcmp_rf]
    refine j_if_eq 1256 1258 dL_law_1253 rfl rfl (r32 (by decide) (by decide)) (fun _ => ?_) (fun q => absurd rfl q)
    refine j_goto 1412 dL_law_1258 rfl ?_
    exact j_sub [2, 3, 4, 5, 6, 7] rfl (kk _ _ hI2)

theorem w_rule (hO : OPH w mL_rule mX10_rule [.int (i32 (sv w (i + 1))), .int (i32 (sv w (i + 2)))] B n sh g) (hi : i + 6 ≤ sL w) (h3 : sL w ≤ 3072) (kk : ∀ sh2 g2, LI B n sh2 g2 → J w mLaw 1412 (LL w B i) [] sh2 g2 kc ks QL) : J w mLaw 1261 (LL w B i) [] sh g (kc + 600) (ks + 4000) QL := by
  show J w mLaw 1261 [(0, .ref (w.2.1 300)), (1, .ref B), (2, .ref (B + 831)), (3, .ref (B + 845)), (4, .ref (B + 846)), (5, .int (i32 ((i : Nat) : Int)))] [] sh g (kc + 600) (ks + 4000) QL
  obtain ⟨Q1, c1, x1, h1⟩ := hO
  refine j_aload_n 1262 1 dL_law_1261 rfl rfl ?_
  refine j_arg 1268 1 0 5 (i := i) rfl dL_law_1262 dL_law_1263 dL_law_1265 dL_law_1266 dL_law_1267 rfl rfl (by omega) h3 ?_
  refine j_arg 1274 2 0 5 (i := i) rfl dL_law_1268 dL_law_1269 dL_law_1271 dL_law_1272 dL_law_1273 rfl rfl (by omega) h3 ?_
  refine j_aload_n 1275 3 dL_law_1274 rfl rfl ?_
  refine j_callSH 1278 (As := [.ref B, .int (i32 (sv w (i + 1))), .int (i32 (sv w (i + 2))), .ref (B + 845)]) (kc2 := kc) (ks2 := ks) dL_law_1275 rfl mkL_rule stL_rule rfl lk_L_148 rfl rfl (Nat.le_of_ble_eq_true rfl) ⟨Nat.le_of_ble_eq_true rfl, Nat.le_of_ble_eq_true rfl⟩ ⟨(by show 1 + kc ≤ kc + 600; omega), (by show 6 + ks ≤ ks + 4000; omega)⟩ c1 x1 (fun v1 sh1 g1 q1 => ?_)
  obtain ⟨k, hk, rfl, hS1, Q2, c2, x2, h2⟩ := h1 v1 sh1 g1 q1
  refine j_istore 1280 (L2 := [(6, .int (i32 k)), (0, .ref (w.2.1 300)), (1, .ref B), (2, .ref (B + 831)), (3, .ref (B + 845)), (4, .ref (B + 846)), (5, .int (i32 ((i : Nat) : Int)))]) dL_law_1278 rfl (Nat.le_of_ble_eq_true rfl) rfl ?_
  refine j_aload_n 1281 3 dL_law_1280 rfl rfl ?_
  refine j_arg 1287 1 1 6 (i := i) rfl dL_law_1281 dL_law_1282 dL_law_1284 dL_law_1285 dL_law_1286 rfl rfl (by omega) h3 ?_
  refine j_arg 1293 2 1 6 (i := i) rfl dL_law_1287 dL_law_1288 dL_law_1290 dL_law_1291 dL_law_1292 rfl rfl (by omega) h3 ?_
  refine j_callV 1296 (As := [.int (i32 (sv w (i + 1))), .int (i32 (sv w (i + 2)))]) (kc2 := kc) (ks2 := ks) dL_law_1293 rfl mvX10_rule lk_L_150 (lsMd hS1).md rfl ⟨Nat.le_of_ble_eq_true rfl, rfl⟩ rfl rfl (Nat.le_of_ble_eq_true rfl) ⟨Nat.le_of_ble_eq_true rfl, Nat.le_of_ble_eq_true rfl⟩ ⟨(by show 0 + kc ≤ kc; omega), (by show 0 + ks ≤ ks; omega)⟩ c2 x2 (fun v2 sh2 g2 q2 => ?_)
  obtain ⟨z, rfl, b2, b3, hI2⟩ := h2 v2 sh2 g2 q2
  have hS2 := hI2.1
  refine j_istore 1298 (L2 := [(7, .int z), (6, .int (i32 k)), (0, .ref (w.2.1 300)), (1, .ref B), (2, .ref (B + 831)), (3, .ref (B + 845)), (4, .ref (B + 846)), (5, .int (i32 ((i : Nat) : Int)))]) dL_law_1296 rfl (Nat.le_of_ble_eq_true rfl) rfl ?_
  refine j_aload_n 1299 4 dL_law_1298 rfl rfl ?_
  refine j_callV 1302 (As := []) (kc2 := kc) (ks2 := ks) dL_law_1299 rfl mvX10_thrown lk_L_84 (lsMd hS2).md rfl ⟨Nat.le_of_ble_eq_true rfl, rfl⟩ rfl rfl (Nat.le_of_ble_eq_true rfl) ⟨Nat.le_of_ble_eq_true rfl, Nat.le_of_ble_eq_true rfl⟩ ⟨(by show 0 + kc ≤ kc; omega), (by show 0 + ks ≤ ks; omega)⟩ (r_thrown (lsMd hS2)) x_d (k_d1 ?_)
  rw [b2]
  refine j_iload 1304 1 dL_law_1302 rfl rfl ?_
  refine j_icmp_eq 1307 1309 dL_law_1304 rfl rfl (r32 (by omega) (by omega)) (r32 (by omega) (by omega)) (fun _ => ?_) (fun q => absurd rfl q)
  refine j_iload 1311 1 dL_law_1309 rfl rfl ?_
  refine j_if_ne 1314 1326 dL_law_1311 rfl rfl (r32 (by omega) (by omega)) (fun hk0 => ?_) (fun hk0 => ?_)
  · refine j_goto 1412 dL_law_1326 rfl ?_
    exact j_sub [2, 3, 4, 5, 6, 7] rfl (kk _ _ hI2)
  · refine j_aload_n 1315 5 dL_law_1314 rfl rfl ?_
    refine j_iconst 1316 dL_law_1315 rfl ?_
    refine j_lald 1317 0 dL_law_1316 rfl hS2.2.2.2.2.1 rfl rfl (by decide) ?_
    refine j_iload 1319 0 dL_law_1317 rfl rfl ?_
    refine j_topI (y := z.toInt) (i32_asI z).symm ?_
    refine j_i2l 1320 dL_law_1319 rfl (i32_rng z) ?_
    rw [b3 hk0]
    refine j_lcmp 1321 dL_law_1320 rfl ?_
    rw [lcmp_rf]
    refine j_if_eq 1324 1326 dL_law_1321 rfl rfl (r32 (by decide) (by decide)) (fun _ => ?_) (fun q => absurd rfl q)
    refine j_goto 1412 dL_law_1326 rfl ?_
    exact j_sub [2, 3, 4, 5, 6, 7] rfl (kk _ _ hI2)

theorem w_pass (hO : OPH w mL_pass mX10_pass [.int (i32 (sv w (i + 1)))] B n sh g) (hi : i + 6 ≤ sL w) (h3 : sL w ≤ 3072) (kk : ∀ sh2 g2, LI B n sh2 g2 → J w mLaw 1412 (LL w B i) [] sh2 g2 kc ks QL) : J w mLaw 1329 (LL w B i) [] sh g (kc + 600) (ks + 4000) QL := by
  show J w mLaw 1329 [(0, .ref (w.2.1 300)), (1, .ref B), (2, .ref (B + 831)), (3, .ref (B + 845)), (4, .ref (B + 846)), (5, .int (i32 ((i : Nat) : Int)))] [] sh g (kc + 600) (ks + 4000) QL
  obtain ⟨Q1, c1, x1, h1⟩ := hO
  refine j_aload_n 1330 1 dL_law_1329 rfl rfl ?_
  refine j_arg 1336 1 0 5 (i := i) rfl dL_law_1330 dL_law_1331 dL_law_1333 dL_law_1334 dL_law_1335 rfl rfl (by omega) h3 ?_
  refine j_aload_n 1337 3 dL_law_1336 rfl rfl ?_
  refine j_callSH 1340 (As := [.ref B, .int (i32 (sv w (i + 1))), .ref (B + 845)]) (kc2 := kc) (ks2 := ks) dL_law_1337 rfl mkL_pass stL_pass rfl lk_L_151 rfl rfl (Nat.le_of_ble_eq_true rfl) ⟨Nat.le_of_ble_eq_true rfl, Nat.le_of_ble_eq_true rfl⟩ ⟨(by show 1 + kc ≤ kc + 600; omega), (by show 6 + ks ≤ ks + 4000; omega)⟩ c1 x1 (fun v1 sh1 g1 q1 => ?_)
  obtain ⟨k, hk, rfl, hS1, Q2, c2, x2, h2⟩ := h1 v1 sh1 g1 q1
  refine j_istore 1342 (L2 := [(6, .int (i32 k)), (0, .ref (w.2.1 300)), (1, .ref B), (2, .ref (B + 831)), (3, .ref (B + 845)), (4, .ref (B + 846)), (5, .int (i32 ((i : Nat) : Int)))]) dL_law_1340 rfl (Nat.le_of_ble_eq_true rfl) rfl ?_
  refine j_aload_n 1343 3 dL_law_1342 rfl rfl ?_
  refine j_arg 1349 1 1 6 (i := i) rfl dL_law_1343 dL_law_1344 dL_law_1346 dL_law_1347 dL_law_1348 rfl rfl (by omega) h3 ?_
  refine j_callV 1352 (As := [.int (i32 (sv w (i + 1)))]) (kc2 := kc) (ks2 := ks) dL_law_1349 rfl mvX10_pass lk_L_153 (lsMd hS1).md rfl ⟨Nat.le_of_ble_eq_true rfl, rfl⟩ rfl rfl (Nat.le_of_ble_eq_true rfl) ⟨Nat.le_of_ble_eq_true rfl, Nat.le_of_ble_eq_true rfl⟩ ⟨(by show 0 + kc ≤ kc; omega), (by show 0 + ks ≤ ks; omega)⟩ c2 x2 (fun v2 sh2 g2 q2 => ?_)
  obtain ⟨z, rfl, b2, b3, hI2⟩ := h2 v2 sh2 g2 q2
  have hS2 := hI2.1
  refine j_istore 1354 (L2 := [(7, .int z), (6, .int (i32 k)), (0, .ref (w.2.1 300)), (1, .ref B), (2, .ref (B + 831)), (3, .ref (B + 845)), (4, .ref (B + 846)), (5, .int (i32 ((i : Nat) : Int)))]) dL_law_1352 rfl (Nat.le_of_ble_eq_true rfl) rfl ?_
  refine j_aload_n 1355 4 dL_law_1354 rfl rfl ?_
  refine j_callV 1358 (As := []) (kc2 := kc) (ks2 := ks) dL_law_1355 rfl mvX10_thrown lk_L_84 (lsMd hS2).md rfl ⟨Nat.le_of_ble_eq_true rfl, rfl⟩ rfl rfl (Nat.le_of_ble_eq_true rfl) ⟨Nat.le_of_ble_eq_true rfl, Nat.le_of_ble_eq_true rfl⟩ ⟨(by show 0 + kc ≤ kc; omega), (by show 0 + ks ≤ ks; omega)⟩ (r_thrown (lsMd hS2)) x_d (k_d1 ?_)
  rw [b2]
  refine j_iload 1360 1 dL_law_1358 rfl rfl ?_
  refine j_icmp_eq 1363 1365 dL_law_1360 rfl rfl (r32 (by omega) (by omega)) (r32 (by omega) (by omega)) (fun _ => ?_) (fun q => absurd rfl q)
  refine j_iload 1367 1 dL_law_1365 rfl rfl ?_
  refine j_if_ne 1370 1382 dL_law_1367 rfl rfl (r32 (by omega) (by omega)) (fun hk0 => ?_) (fun hk0 => ?_)
  · refine j_goto 1412 dL_law_1382 rfl ?_
    exact j_sub [2, 3, 4, 5, 6, 7] rfl (kk _ _ hI2)
  · refine j_aload_n 1371 5 dL_law_1370 rfl rfl ?_
    refine j_iconst 1372 dL_law_1371 rfl ?_
    refine j_lald 1373 0 dL_law_1372 rfl hS2.2.2.2.2.1 rfl rfl (by decide) ?_
    refine j_iload 1375 0 dL_law_1373 rfl rfl ?_
    refine j_topI (y := z.toInt) (i32_asI z).symm ?_
    refine j_i2l 1376 dL_law_1375 rfl (i32_rng z) ?_
    rw [b3 hk0]
    refine j_lcmp 1377 dL_law_1376 rfl ?_
    rw [lcmp_rf]
    refine j_if_eq 1380 1382 dL_law_1377 rfl rfl (r32 (by decide) (by decide)) (fun _ => ?_) (fun q => absurd rfl q)
    refine j_goto 1412 dL_law_1382 rfl ?_
    exact j_sub [2, 3, 4, 5, 6, 7] rfl (kk _ _ hI2)

theorem w_append (hS : LSh B sh) (hO : OPN w mX9_append mX10_append [.int (i32 (sv w (i + 1))), .int (i32 (sv w (i + 2))), .int (i32 (sv w (i + 3))), .int (i32 (sv w (i + 4))), .int (i32 (sv w (i + 5)))] VI B n sh g) (hi : i + 6 ≤ sL w) (h3 : sL w ≤ 3072) (kk : ∀ sh2 g2, LI B n sh2 g2 → J w mLaw 1412 (LL w B i) [] sh2 g2 kc ks QL) : J w mLaw 152 (LL w B i) [] sh g (kc + 600) (ks + 4000) QL := by
  show J w mLaw 152 [(0, .ref (w.2.1 300)), (1, .ref B), (2, .ref (B + 831)), (3, .ref (B + 845)), (4, .ref (B + 846)), (5, .int (i32 ((i : Nat) : Int)))] [] sh g (kc + 600) (ks + 4000) QL
  obtain ⟨Q1, c1, x1, h1⟩ := hO
  refine j_aload_n 153 1 dL_law_152 rfl rfl ?_
  refine j_arg 159 1 0 5 (i := i) rfl dL_law_153 dL_law_154 dL_law_156 dL_law_157 dL_law_158 rfl rfl (by omega) h3 ?_
  refine j_arg 165 2 0 5 (i := i) rfl dL_law_159 dL_law_160 dL_law_162 dL_law_163 dL_law_164 rfl rfl (by omega) h3 ?_
  refine j_arg 171 3 0 5 (i := i) rfl dL_law_165 dL_law_166 dL_law_168 dL_law_169 dL_law_170 rfl rfl (by omega) h3 ?_
  refine j_arg 177 4 0 5 (i := i) rfl dL_law_171 dL_law_172 dL_law_174 dL_law_175 dL_law_176 rfl rfl (by omega) h3 ?_
  refine j_arg 183 5 0 5 (i := i) rfl dL_law_177 dL_law_178 dL_law_180 dL_law_181 dL_law_182 rfl rfl (by omega) h3 ?_
  refine j_callV 186 (As := [.int (i32 (sv w (i + 1))), .int (i32 (sv w (i + 2))), .int (i32 (sv w (i + 3))), .int (i32 (sv w (i + 4))), .int (i32 (sv w (i + 5)))]) (kc2 := kc) (ks2 := ks) dL_law_183 rfl mvX9_append lk_L_73 hS.1.1 rfl ⟨Nat.le_of_ble_eq_true rfl, rfl⟩ rfl rfl (Nat.le_of_ble_eq_true rfl) ⟨Nat.le_of_ble_eq_true rfl, Nat.le_of_ble_eq_true rfl⟩ ⟨(by show 0 + kc ≤ kc + 600; omega), (by show 0 + ks ≤ ks + 4000; omega)⟩ c1 x1 (fun v1 sh1 g1 q1 => ?_)
  obtain ⟨x, hV, rfl, hS1, Q2, c2, x2, h2⟩ := h1 v1 sh1 g1 q1
  obtain ⟨z, rfl⟩ := hV
  refine j_aload_n 187 2 dL_law_186 rfl rfl ?_
  refine j_arg 193 1 0 5 (i := i) rfl dL_law_187 dL_law_188 dL_law_190 dL_law_191 dL_law_192 rfl rfl (by omega) h3 ?_
  refine j_arg 199 2 0 5 (i := i) rfl dL_law_193 dL_law_194 dL_law_196 dL_law_197 dL_law_198 rfl rfl (by omega) h3 ?_
  refine j_arg 205 3 0 5 (i := i) rfl dL_law_199 dL_law_200 dL_law_202 dL_law_203 dL_law_204 rfl rfl (by omega) h3 ?_
  refine j_arg 211 4 0 5 (i := i) rfl dL_law_205 dL_law_206 dL_law_208 dL_law_209 dL_law_210 rfl rfl (by omega) h3 ?_
  refine j_arg 217 5 0 5 (i := i) rfl dL_law_211 dL_law_212 dL_law_214 dL_law_215 dL_law_216 rfl rfl (by omega) h3 ?_
  refine j_callV 220 (As := [.int (i32 (sv w (i + 1))), .int (i32 (sv w (i + 2))), .int (i32 (sv w (i + 3))), .int (i32 (sv w (i + 4))), .int (i32 (sv w (i + 5)))]) (kc2 := kc) (ks2 := ks) dL_law_217 rfl mvX10_append lk_L_77 (lsMd hS1).md rfl ⟨Nat.le_of_ble_eq_true rfl, rfl⟩ rfl rfl (Nat.le_of_ble_eq_true rfl) ⟨Nat.le_of_ble_eq_true rfl, Nat.le_of_ble_eq_true rfl⟩ ⟨(by show 0 + kc ≤ kc; omega), (by show 0 + ks ≤ ks; omega)⟩ c2 x2 (fun v2 sh2 g2 q2 => ?_)
  obtain ⟨rfl, hI2⟩ := h2 v2 sh2 g2 q2
  show J w mLaw 220 [(0, .ref (w.2.1 300)), (1, .ref B), (2, .ref (B + 831)), (3, .ref (B + 845)), (4, .ref (B + 846)), (5, .int (i32 ((i : Nat) : Int)))] [.int z, .int z] sh2 g2 kc ks QL
  rw [← i32_asI z]
  refine j_icmp_eq 223 1412 dL_law_220 rfl rfl (i32_rng z) (i32_rng z) (fun _ => ?_) (fun q => absurd rfl q)
  exact j_sub [0, 1, 2, 3, 4, 5] rfl (kk _ _ hI2)

theorem w_errorOffset (hS : LSh B sh) (hO : OPN w mX9_errorOffset mX10_errorOffset [] VI B n sh g) (hi : i + 6 ≤ sL w) (h3 : sL w ≤ 3072) (kk : ∀ sh2 g2, LI B n sh2 g2 → J w mLaw 1412 (LL w B i) [] sh2 g2 kc ks QL) : J w mLaw 281 (LL w B i) [] sh g (kc + 600) (ks + 4000) QL := by
  show J w mLaw 281 [(0, .ref (w.2.1 300)), (1, .ref B), (2, .ref (B + 831)), (3, .ref (B + 845)), (4, .ref (B + 846)), (5, .int (i32 ((i : Nat) : Int)))] [] sh g (kc + 600) (ks + 4000) QL
  obtain ⟨Q1, c1, x1, h1⟩ := hO
  refine j_aload_n 282 1 dL_law_281 rfl rfl ?_
  refine j_callV 285 (As := []) (kc2 := kc) (ks2 := ks) dL_law_282 rfl mvX9_errorOffset lk_L_88 hS.1.1 rfl ⟨Nat.le_of_ble_eq_true rfl, rfl⟩ rfl rfl (Nat.le_of_ble_eq_true rfl) ⟨Nat.le_of_ble_eq_true rfl, Nat.le_of_ble_eq_true rfl⟩ ⟨(by show 0 + kc ≤ kc + 600; omega), (by show 0 + ks ≤ ks + 4000; omega)⟩ c1 x1 (fun v1 sh1 g1 q1 => ?_)
  obtain ⟨x, hV, rfl, hS1, Q2, c2, x2, h2⟩ := h1 v1 sh1 g1 q1
  obtain ⟨z, rfl⟩ := hV
  refine j_aload_n 286 2 dL_law_285 rfl rfl ?_
  refine j_callV 289 (As := []) (kc2 := kc) (ks2 := ks) dL_law_286 rfl mvX10_errorOffset lk_L_91 (lsMd hS1).md rfl ⟨Nat.le_of_ble_eq_true rfl, rfl⟩ rfl rfl (Nat.le_of_ble_eq_true rfl) ⟨Nat.le_of_ble_eq_true rfl, Nat.le_of_ble_eq_true rfl⟩ ⟨(by show 0 + kc ≤ kc; omega), (by show 0 + ks ≤ ks; omega)⟩ c2 x2 (fun v2 sh2 g2 q2 => ?_)
  obtain ⟨rfl, hI2⟩ := h2 v2 sh2 g2 q2
  show J w mLaw 289 [(0, .ref (w.2.1 300)), (1, .ref B), (2, .ref (B + 831)), (3, .ref (B + 845)), (4, .ref (B + 846)), (5, .int (i32 ((i : Nat) : Int)))] [.int z, .int z] sh2 g2 kc ks QL
  rw [← i32_asI z]
  refine j_icmp_eq 292 1412 dL_law_289 rfl rfl (i32_rng z) (i32_rng z) (fun _ => ?_) (fun q => absurd rfl q)
  exact j_sub [0, 1, 2, 3, 4, 5] rfl (kk _ _ hI2)

theorem w_bestGuard (hS : LSh B sh) (hO : OPN w mX9_bestGuard mX10_bestGuard [] VI B n sh g) (hi : i + 6 ≤ sL w) (h3 : sL w ≤ 3072) (kk : ∀ sh2 g2, LI B n sh2 g2 → J w mLaw 1412 (LL w B i) [] sh2 g2 kc ks QL) : J w mLaw 991 (LL w B i) [] sh g (kc + 600) (ks + 4000) QL := by
  show J w mLaw 991 [(0, .ref (w.2.1 300)), (1, .ref B), (2, .ref (B + 831)), (3, .ref (B + 845)), (4, .ref (B + 846)), (5, .int (i32 ((i : Nat) : Int)))] [] sh g (kc + 600) (ks + 4000) QL
  obtain ⟨Q1, c1, x1, h1⟩ := hO
  refine j_aload_n 992 1 dL_law_991 rfl rfl ?_
  refine j_callV 995 (As := []) (kc2 := kc) (ks2 := ks) dL_law_992 rfl mvX9_bestGuard lk_L_128 hS.1.1 rfl ⟨Nat.le_of_ble_eq_true rfl, rfl⟩ rfl rfl (Nat.le_of_ble_eq_true rfl) ⟨Nat.le_of_ble_eq_true rfl, Nat.le_of_ble_eq_true rfl⟩ ⟨(by show 0 + kc ≤ kc + 600; omega), (by show 0 + ks ≤ ks + 4000; omega)⟩ c1 x1 (fun v1 sh1 g1 q1 => ?_)
  obtain ⟨x, hV, rfl, hS1, Q2, c2, x2, h2⟩ := h1 v1 sh1 g1 q1
  obtain ⟨z, rfl⟩ := hV
  refine j_aload_n 996 2 dL_law_995 rfl rfl ?_
  refine j_callV 999 (As := []) (kc2 := kc) (ks2 := ks) dL_law_996 rfl mvX10_bestGuard lk_L_131 (lsMd hS1).md rfl ⟨Nat.le_of_ble_eq_true rfl, rfl⟩ rfl rfl (Nat.le_of_ble_eq_true rfl) ⟨Nat.le_of_ble_eq_true rfl, Nat.le_of_ble_eq_true rfl⟩ ⟨(by show 0 + kc ≤ kc; omega), (by show 0 + ks ≤ ks; omega)⟩ c2 x2 (fun v2 sh2 g2 q2 => ?_)
  obtain ⟨rfl, hI2⟩ := h2 v2 sh2 g2 q2
  show J w mLaw 999 [(0, .ref (w.2.1 300)), (1, .ref B), (2, .ref (B + 831)), (3, .ref (B + 845)), (4, .ref (B + 846)), (5, .int (i32 ((i : Nat) : Int)))] [.int z, .int z] sh2 g2 kc ks QL
  rw [← i32_asI z]
  refine j_icmp_eq 1002 1412 dL_law_999 rfl rfl (i32_rng z) (i32_rng z) (fun _ => ?_) (fun q => absurd rfl q)
  exact j_sub [0, 1, 2, 3, 4, 5] rfl (kk _ _ hI2)

theorem w_undo (hS : LSh B sh) (hO : OPN w mX9_undo mX10_undo [] VI B n sh g) (hi : i + 6 ≤ sL w) (h3 : sL w ≤ 3072) (kk : ∀ sh2 g2, LI B n sh2 g2 → J w mLaw 1412 (LL w B i) [] sh2 g2 kc ks QL) : J w mLaw 1385 (LL w B i) [] sh g (kc + 600) (ks + 4000) QL := by
  show J w mLaw 1385 [(0, .ref (w.2.1 300)), (1, .ref B), (2, .ref (B + 831)), (3, .ref (B + 845)), (4, .ref (B + 846)), (5, .int (i32 ((i : Nat) : Int)))] [] sh g (kc + 600) (ks + 4000) QL
  obtain ⟨Q1, c1, x1, h1⟩ := hO
  refine j_aload_n 1386 1 dL_law_1385 rfl rfl ?_
  refine j_callV 1389 (As := []) (kc2 := kc) (ks2 := ks) dL_law_1386 rfl mvX9_undo lk_L_154 hS.1.1 rfl ⟨Nat.le_of_ble_eq_true rfl, rfl⟩ rfl rfl (Nat.le_of_ble_eq_true rfl) ⟨Nat.le_of_ble_eq_true rfl, Nat.le_of_ble_eq_true rfl⟩ ⟨(by show 0 + kc ≤ kc + 600; omega), (by show 0 + ks ≤ ks + 4000; omega)⟩ c1 x1 (fun v1 sh1 g1 q1 => ?_)
  obtain ⟨x, hV, rfl, hS1, Q2, c2, x2, h2⟩ := h1 v1 sh1 g1 q1
  obtain ⟨z, rfl⟩ := hV
  refine j_aload_n 1390 2 dL_law_1389 rfl rfl ?_
  refine j_callV 1393 (As := []) (kc2 := kc) (ks2 := ks) dL_law_1390 rfl mvX10_undo lk_L_157 (lsMd hS1).md rfl ⟨Nat.le_of_ble_eq_true rfl, rfl⟩ rfl rfl (Nat.le_of_ble_eq_true rfl) ⟨Nat.le_of_ble_eq_true rfl, Nat.le_of_ble_eq_true rfl⟩ ⟨(by show 0 + kc ≤ kc; omega), (by show 0 + ks ≤ ks; omega)⟩ c2 x2 (fun v2 sh2 g2 q2 => ?_)
  obtain ⟨rfl, hI2⟩ := h2 v2 sh2 g2 q2
  show J w mLaw 1393 [(0, .ref (w.2.1 300)), (1, .ref B), (2, .ref (B + 831)), (3, .ref (B + 845)), (4, .ref (B + 846)), (5, .int (i32 ((i : Nat) : Int)))] [.int z, .int z] sh2 g2 kc ks QL
  rw [← i32_asI z]
  refine j_icmp_eq 1396 1412 dL_law_1393 rfl rfl (i32_rng z) (i32_rng z) (fun _ => ?_) (fun q => absurd rfl q)
  exact j_sub [0, 1, 2, 3, 4, 5] rfl (kk _ _ hI2)

theorem w_foremost0 (hS : LSh B sh) (hz : sv w (i + 1) = 0) (hO : OPN w mX9_foremost mX10_foremost [.int (i32 0)] VI B n sh g) (hi : i + 6 ≤ sL w) (h3 : sL w ≤ 3072) (kk : ∀ sh2 g2, LI B n sh2 g2 → J w mLaw 1412 (LL w B i) [] sh2 g2 kc ks QL) : J w mLaw 826 (LL w B i) [] sh g (kc + 600) (ks + 4000) QL := by
  show J w mLaw 826 [(0, .ref (w.2.1 300)), (1, .ref B), (2, .ref (B + 831)), (3, .ref (B + 845)), (4, .ref (B + 846)), (5, .int (i32 ((i : Nat) : Int)))] [] sh g (kc + 600) (ks + 4000) QL
  obtain ⟨Q1, c1, x1, h1⟩ := hO
  refine j_aload_n 827 1 dL_law_826 rfl rfl ?_
  refine j_arg 833 1 0 5 (i := i) rfl dL_law_827 dL_law_828 dL_law_830 dL_law_831 dL_law_832 rfl rfl (by omega) h3 ?_
  refine j_if_eq 836 840 dL_law_833 rfl rfl sv_r (fun _ => ?_) (fun q => absurd hz q)
  refine j_iconst 841 dL_law_840 rfl ?_
  refine j_callV 844 (As := [.int (i32 0)]) (kc2 := kc) (ks2 := ks) dL_law_841 rfl mvX9_foremost lk_L_117 hS.1.1 rfl ⟨Nat.le_of_ble_eq_true rfl, rfl⟩ rfl rfl (Nat.le_of_ble_eq_true rfl) ⟨Nat.le_of_ble_eq_true rfl, Nat.le_of_ble_eq_true rfl⟩ ⟨(by show 0 + kc ≤ kc + 600; omega), (by show 0 + ks ≤ ks + 4000; omega)⟩ c1 x1 (fun v1 sh1 g1 q1 => ?_)
  obtain ⟨x, hV, rfl, hS1, Q2, c2, x2, h2⟩ := h1 v1 sh1 g1 q1
  obtain ⟨z, rfl⟩ := hV
  refine j_aload_n 845 2 dL_law_844 rfl rfl ?_
  refine j_arg 851 1 0 5 (i := i) rfl dL_law_845 dL_law_846 dL_law_848 dL_law_849 dL_law_850 rfl rfl (by omega) h3 ?_
  refine j_if_eq 854 858 dL_law_851 rfl rfl sv_r (fun _ => ?_) (fun q => absurd hz q)
  refine j_iconst 859 dL_law_858 rfl ?_
  refine j_callV 862 (As := [.int (i32 0)]) (kc2 := kc) (ks2 := ks) dL_law_859 rfl mvX10_foremost lk_L_121 (lsMd hS1).md rfl ⟨Nat.le_of_ble_eq_true rfl, rfl⟩ rfl rfl (Nat.le_of_ble_eq_true rfl) ⟨Nat.le_of_ble_eq_true rfl, Nat.le_of_ble_eq_true rfl⟩ ⟨(by show 0 + kc ≤ kc; omega), (by show 0 + ks ≤ ks; omega)⟩ c2 x2 (fun v2 sh2 g2 q2 => ?_)
  obtain ⟨rfl, hI2⟩ := h2 v2 sh2 g2 q2
  show J w mLaw 862 [(0, .ref (w.2.1 300)), (1, .ref B), (2, .ref (B + 831)), (3, .ref (B + 845)), (4, .ref (B + 846)), (5, .int (i32 ((i : Nat) : Int)))] [.int z, .int z] sh2 g2 kc ks QL
  rw [← i32_asI z]
  refine j_icmp_eq 865 1412 dL_law_862 rfl rfl (i32_rng z) (i32_rng z) (fun _ => ?_) (fun q => absurd rfl q)
  exact j_sub [0, 1, 2, 3, 4, 5] rfl (kk _ _ hI2)

theorem w_foremost1 (hS : LSh B sh) (hz : sv w (i + 1) ≠ 0) (hO : OPN w mX9_foremost mX10_foremost [.int (i32 1)] VI B n sh g) (hi : i + 6 ≤ sL w) (h3 : sL w ≤ 3072) (kk : ∀ sh2 g2, LI B n sh2 g2 → J w mLaw 1412 (LL w B i) [] sh2 g2 kc ks QL) : J w mLaw 826 (LL w B i) [] sh g (kc + 600) (ks + 4000) QL := by
  show J w mLaw 826 [(0, .ref (w.2.1 300)), (1, .ref B), (2, .ref (B + 831)), (3, .ref (B + 845)), (4, .ref (B + 846)), (5, .int (i32 ((i : Nat) : Int)))] [] sh g (kc + 600) (ks + 4000) QL
  obtain ⟨Q1, c1, x1, h1⟩ := hO
  refine j_aload_n 827 1 dL_law_826 rfl rfl ?_
  refine j_arg 833 1 0 5 (i := i) rfl dL_law_827 dL_law_828 dL_law_830 dL_law_831 dL_law_832 rfl rfl (by omega) h3 ?_
  refine j_if_eq 836 840 dL_law_833 rfl rfl sv_r (fun q => absurd q hz) (fun _ => ?_)
  refine j_iconst 837 dL_law_836 rfl ?_
  refine j_goto 841 dL_law_837 rfl ?_
  refine j_callV 844 (As := [.int (i32 1)]) (kc2 := kc) (ks2 := ks) dL_law_841 rfl mvX9_foremost lk_L_117 hS.1.1 rfl ⟨Nat.le_of_ble_eq_true rfl, rfl⟩ rfl rfl (Nat.le_of_ble_eq_true rfl) ⟨Nat.le_of_ble_eq_true rfl, Nat.le_of_ble_eq_true rfl⟩ ⟨(by show 0 + kc ≤ kc + 600; omega), (by show 0 + ks ≤ ks + 4000; omega)⟩ c1 x1 (fun v1 sh1 g1 q1 => ?_)
  obtain ⟨x, hV, rfl, hS1, Q2, c2, x2, h2⟩ := h1 v1 sh1 g1 q1
  obtain ⟨z, rfl⟩ := hV
  refine j_aload_n 845 2 dL_law_844 rfl rfl ?_
  refine j_arg 851 1 0 5 (i := i) rfl dL_law_845 dL_law_846 dL_law_848 dL_law_849 dL_law_850 rfl rfl (by omega) h3 ?_
  refine j_if_eq 854 858 dL_law_851 rfl rfl sv_r (fun q => absurd q hz) (fun _ => ?_)
  refine j_iconst 855 dL_law_854 rfl ?_
  refine j_goto 859 dL_law_855 rfl ?_
  refine j_callV 862 (As := [.int (i32 1)]) (kc2 := kc) (ks2 := ks) dL_law_859 rfl mvX10_foremost lk_L_121 (lsMd hS1).md rfl ⟨Nat.le_of_ble_eq_true rfl, rfl⟩ rfl rfl (Nat.le_of_ble_eq_true rfl) ⟨Nat.le_of_ble_eq_true rfl, Nat.le_of_ble_eq_true rfl⟩ ⟨(by show 0 + kc ≤ kc; omega), (by show 0 + ks ≤ ks; omega)⟩ c2 x2 (fun v2 sh2 g2 q2 => ?_)
  obtain ⟨rfl, hI2⟩ := h2 v2 sh2 g2 q2
  show J w mLaw 862 [(0, .ref (w.2.1 300)), (1, .ref B), (2, .ref (B + 831)), (3, .ref (B + 845)), (4, .ref (B + 846)), (5, .int (i32 ((i : Nat) : Int)))] [.int z, .int z] sh2 g2 kc ks QL
  rw [← i32_asI z]
  refine j_icmp_eq 865 1412 dL_law_862 rfl rfl (i32_rng z) (i32_rng z) (fun _ => ?_) (fun q => absurd rfl q)
  exact j_sub [0, 1, 2, 3, 4, 5] rfl (kk _ _ hI2)

theorem w_checksum (hS : LSh B sh) (hO : OPN w mX9_checksum mX10_checksum [] VL B n sh g) (hi : i + 6 ≤ sL w) (h3 : sL w ≤ 3072) (kk : ∀ sh2 g2, LI B n sh2 g2 → J w mLaw 1412 (LL w B i) [] sh2 g2 kc ks QL) : J w mLaw 1398 (LL w B i) [] sh g (kc + 600) (ks + 4000) QL := by
  show J w mLaw 1398 [(0, .ref (w.2.1 300)), (1, .ref B), (2, .ref (B + 831)), (3, .ref (B + 845)), (4, .ref (B + 846)), (5, .int (i32 ((i : Nat) : Int)))] [] sh g (kc + 600) (ks + 4000) QL
  obtain ⟨Q1, c1, x1, h1⟩ := hO
  refine j_aload_n 1399 1 dL_law_1398 rfl rfl ?_
  refine j_callV 1402 (As := []) (kc2 := kc) (ks2 := ks) dL_law_1399 rfl mvX9_checksum lk_L_158 hS.1.1 rfl ⟨Nat.le_of_ble_eq_true rfl, rfl⟩ rfl rfl (Nat.le_of_ble_eq_true rfl) ⟨Nat.le_of_ble_eq_true rfl, Nat.le_of_ble_eq_true rfl⟩ ⟨(by show 578 + kc ≤ kc + 600; omega), (by show 3468 + ks ≤ ks + 4000; omega)⟩ c1 x1 (fun v1 sh1 g1 q1 => ?_)
  obtain ⟨x, hV, rfl, hS1, Q2, c2, x2, h2⟩ := h1 v1 sh1 g1 q1
  obtain ⟨z, rfl⟩ := hV
  refine j_aload_n 1403 2 dL_law_1402 rfl rfl ?_
  refine j_callV 1406 (As := []) (kc2 := kc) (ks2 := ks) dL_law_1403 rfl mvX10_checksum lk_L_162 (lsMd hS1).md rfl ⟨Nat.le_of_ble_eq_true rfl, rfl⟩ rfl rfl (Nat.le_of_ble_eq_true rfl) ⟨Nat.le_of_ble_eq_true rfl, Nat.le_of_ble_eq_true rfl⟩ ⟨(by show 0 + kc ≤ kc; omega), (by show 0 + ks ≤ ks; omega)⟩ c2 x2 (fun v2 sh2 g2 q2 => ?_)
  obtain ⟨rfl, hI2⟩ := h2 v2 sh2 g2 q2
  show J w mLaw 1406 [(0, .ref (w.2.1 300)), (1, .ref B), (2, .ref (B + 831)), (3, .ref (B + 845)), (4, .ref (B + 846)), (5, .int (i32 ((i : Nat) : Int)))] [.long z, .long z] sh2 g2 kc ks QL
  refine j_lcmp 1407 dL_law_1406 rfl ?_
  rw [lcmp_rf]
  refine j_if_eq 1410 1412 dL_law_1407 rfl rfl (r32 (by decide) (by decide)) (fun _ => ?_) (fun q => absurd rfl q)
  exact j_sub [0, 1, 2, 3, 4, 5] rfl (kk _ _ hI2)

theorem w_service (hS : LSh B sh) (hO : OPN w mX9_service mX10_service [] VF B n sh g) (hi : i + 6 ≤ sL w) (h3 : sL w ≤ 3072) (kk : ∀ sh2 g2, LI B n sh2 g2 → J w mLaw 1412 (LL w B i) [] sh2 g2 kc ks QL) : J w mLaw 1004 (LL w B i) [] sh g (kc + 600) (ks + 4000) QL := by
  show J w mLaw 1004 [(0, .ref (w.2.1 300)), (1, .ref B), (2, .ref (B + 831)), (3, .ref (B + 845)), (4, .ref (B + 846)), (5, .int (i32 ((i : Nat) : Int)))] [] sh g (kc + 600) (ks + 4000) QL
  obtain ⟨Q1, c1, x1, h1⟩ := hO
  refine j_aload_n 1005 1 dL_law_1004 rfl rfl ?_
  refine j_callV 1008 (As := []) (kc2 := kc) (ks2 := ks) dL_law_1005 rfl mvX9_service lk_L_132 hS.1.1 rfl ⟨Nat.le_of_ble_eq_true rfl, rfl⟩ rfl rfl (Nat.le_of_ble_eq_true rfl) ⟨Nat.le_of_ble_eq_true rfl, Nat.le_of_ble_eq_true rfl⟩ ⟨(by show 0 + kc ≤ kc + 600; omega), (by show 0 + ks ≤ ks + 4000; omega)⟩ c1 x1 (fun v1 sh1 g1 q1 => ?_)
  obtain ⟨x, hV, rfl, hS1, Q2, c2, x2, h2⟩ := h1 v1 sh1 g1 q1
  obtain ⟨z, rfl, hz⟩ := hV
  show J w mLaw 1008 [(0, .ref (w.2.1 300)), (1, .ref B), (2, .ref (B + 831)), (3, .ref (B + 845)), (4, .ref (B + 846)), (5, .int (i32 ((i : Nat) : Int)))] [.float z] sh1 g1 kc ks QL
  refine j_f2d 1009 dL_law_1008 rfl (vn_f hz) ?_
  refine j_dstore 1011 (L2 := [(6, .double (FP.f2d z)), (0, .ref (w.2.1 300)), (1, .ref B), (2, .ref (B + 831)), (3, .ref (B + 845)), (4, .ref (B + 846)), (5, .int (i32 ((i : Nat) : Int)))]) dL_law_1009 rfl (Nat.le_of_ble_eq_true rfl) rfl ?_
  refine j_aload_n 1012 3 dL_law_1011 rfl rfl ?_
  refine j_callV 1015 (As := []) (kc2 := kc) (ks2 := ks) dL_law_1012 rfl mvX10_service lk_L_136 (lsMd hS1).md rfl ⟨Nat.le_of_ble_eq_true rfl, rfl⟩ rfl rfl (Nat.le_of_ble_eq_true rfl) ⟨Nat.le_of_ble_eq_true rfl, Nat.le_of_ble_eq_true rfl⟩ ⟨(by show 0 + kc ≤ kc; omega), (by show 0 + ks ≤ ks; omega)⟩ c2 x2 (fun v2 sh2 g2 q2 => ?_)
  obtain ⟨rfl, hI2⟩ := h2 v2 sh2 g2 q2
  show J w mLaw 1015 [(6, .double (FP.f2d z)), (0, .ref (w.2.1 300)), (1, .ref B), (2, .ref (B + 831)), (3, .ref (B + 845)), (4, .ref (B + 846)), (5, .int (i32 ((i : Nat) : Int)))] [.float z] sh2 g2 kc ks QL
  refine j_f2d 1016 dL_law_1015 rfl (vn_f hz) ?_
  refine j_dstore 1018 (L2 := [(8, .double (FP.f2d z)), (6, .double (FP.f2d z)), (0, .ref (w.2.1 300)), (1, .ref B), (2, .ref (B + 831)), (3, .ref (B + 845)), (4, .ref (B + 846)), (5, .int (i32 ((i : Nat) : Int)))]) dL_law_1016 rfl (Nat.le_of_ble_eq_true rfl) rfl ?_
  refine j_dload 1020 1 dL_law_1018 rfl rfl ?_
  refine j_dload 1022 0 dL_law_1020 rfl rfl ?_
  refine j_dcmp 1023 dL_law_1022 rfl ?_
  rw [vn_c hz]
  refine j_if_eq 1026 1044 dL_law_1023 rfl rfl (r32 (by decide) (by decide)) (fun _ => ?_) (fun q => absurd rfl q)
  refine j_goto 1412 dL_law_1044 rfl ?_
  exact j_sub [2, 3, 4, 5, 6, 7] rfl (kk _ _ hI2)

theorem w_traffic (hO : OPT w (sv w (i + 1)) B n sh g) (hi : i + 6 ≤ sL w) (h3 : sL w ≤ 3072) (kk : ∀ sh2 g2, LI B n sh2 g2 → J w mLaw 1412 (LL w B i) [] sh2 g2 kc ks QL) : J w mLaw 1047 (LL w B i) [] sh g (kc + 600) (ks + 4000) QL := by
  show J w mLaw 1047 [(0, .ref (w.2.1 300)), (1, .ref B), (2, .ref (B + 831)), (3, .ref (B + 845)), (4, .ref (B + 846)), (5, .int (i32 ((i : Nat) : Int)))] [] sh g (kc + 600) (ks + 4000) QL
  obtain ⟨Q1, c1, x1, h1⟩ := hO
  refine j_aload_n 1048 1 dL_law_1047 rfl rfl ?_
  refine j_arg 1054 1 0 5 (i := i) rfl dL_law_1048 dL_law_1049 dL_law_1051 dL_law_1052 dL_law_1053 rfl rfl (by omega) h3 ?_
  refine j_aload 1056 4 dL_law_1054 rfl rfl ?_
  refine j_callSH 1059 (As := [.ref B, .int (i32 (sv w (i + 1))), .ref (B + 846)]) (kc2 := kc) (ks2 := ks) dL_law_1056 rfl mkL_traffic stL_traffic rfl lk_L_137 rfl rfl (Nat.le_of_ble_eq_true rfl) ⟨Nat.le_of_ble_eq_true rfl, Nat.le_of_ble_eq_true rfl⟩ ⟨(by show 1 + kc ≤ kc + 600; omega), (by show 6 + ks ≤ ks + 4000; omega)⟩ c1 x1 (fun v1 sh1 g1 q1 => ?_)
  obtain ⟨k, hk, rfl, hS1, Q2, c2, x2, h2⟩ := h1 v1 sh1 g1 q1
  refine j_istore 1061 (L2 := [(6, .int (i32 k)), (0, .ref (w.2.1 300)), (1, .ref B), (2, .ref (B + 831)), (3, .ref (B + 845)), (4, .ref (B + 846)), (5, .int (i32 ((i : Nat) : Int)))]) dL_law_1059 rfl (Nat.le_of_ble_eq_true rfl) rfl ?_
  refine j_aload_n 1062 3 dL_law_1061 rfl rfl ?_
  refine j_arg 1068 1 1 6 (i := i) rfl dL_law_1062 dL_law_1063 dL_law_1065 dL_law_1066 dL_law_1067 rfl rfl (by omega) h3 ?_
  refine j_callV 1071 (As := [.int (i32 (sv w (i + 1)))]) (kc2 := kc) (ks2 := ks) dL_law_1068 rfl mvX10_traffic lk_L_140 (lsMd hS1).md rfl ⟨Nat.le_of_ble_eq_true rfl, rfl⟩ rfl rfl (Nat.le_of_ble_eq_true rfl) ⟨Nat.le_of_ble_eq_true rfl, Nat.le_of_ble_eq_true rfl⟩ ⟨(by show 0 + kc ≤ kc; omega), (by show 0 + ks ≤ ks; omega)⟩ c2 x2 (fun v2 sh2 g2 q2 => ?_)
  obtain ⟨z, rfl, b2, b3, hI2⟩ := h2 v2 sh2 g2 q2
  have hS2 := hI2.1
  refine j_fstore 1073 (L2 := [(7, .float z), (6, .int (i32 k)), (0, .ref (w.2.1 300)), (1, .ref B), (2, .ref (B + 831)), (3, .ref (B + 845)), (4, .ref (B + 846)), (5, .int (i32 ((i : Nat) : Int)))]) dL_law_1071 rfl (Nat.le_of_ble_eq_true rfl) rfl ?_
  refine j_aload_n 1074 4 dL_law_1073 rfl rfl ?_
  refine j_callV 1077 (As := []) (kc2 := kc) (ks2 := ks) dL_law_1074 rfl mvX10_thrown lk_L_84 (lsMd hS2).md rfl ⟨Nat.le_of_ble_eq_true rfl, rfl⟩ rfl rfl (Nat.le_of_ble_eq_true rfl) ⟨Nat.le_of_ble_eq_true rfl, Nat.le_of_ble_eq_true rfl⟩ ⟨(by show 0 + kc ≤ kc; omega), (by show 0 + ks ≤ ks; omega)⟩ (r_thrown (lsMd hS2)) x_d (k_d1 ?_)
  rw [b2]
  refine j_iload 1079 1 dL_law_1077 rfl rfl ?_
  refine j_icmp_eq 1082 1084 dL_law_1079 rfl rfl (r32 (by omega) (by omega)) (r32 (by omega) (by omega)) (fun _ => ?_) (fun q => absurd rfl q)
  refine j_iload 1086 1 dL_law_1084 rfl rfl ?_
  refine j_if_ne 1089 1122 dL_law_1086 rfl rfl (r32 (by omega) (by omega)) (fun hk0 => ?_) (fun hk0 => ?_)
  · refine j_goto 1412 dL_law_1122 rfl ?_
    exact j_sub [2, 3, 4, 5, 6, 7] rfl (kk _ _ hI2)
  · obtain ⟨hz, b4⟩ := b3 hk0
    refine j_aload 1091 6 dL_law_1089 rfl rfl ?_
    refine j_iconst 1092 dL_law_1091 rfl ?_
    refine j_dald 1093 0 dL_law_1092 rfl hS2.2.2.2.2.2 rfl rfl (by decide) ?_
    refine j_fload 1095 0 dL_law_1093 rfl rfl ?_
    refine j_f2d 1096 dL_law_1095 rfl (vn_f hz) ?_
    rw [b4, Int.toNat_natCast, UInt64.ofNat_toNat]
    refine j_dcmp 1097 dL_law_1096 rfl ?_
    rw [vn_c hz]
    refine j_if_eq 1100 1122 dL_law_1097 rfl rfl (r32 (by decide) (by decide)) (fun _ => ?_) (fun q => absurd rfl q)
    refine j_goto 1412 dL_law_1122 rfl ?_
    exact j_sub [2, 3, 4, 5, 6, 7] rfl (kk _ _ hI2)

end WALK
