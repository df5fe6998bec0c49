/-! the reference's checksum -/
theorem k31r : Cond.constantLong RX10 300 (i64 31) ∈ lw_good := by decide +kernel

set_option maxRecDepth 20000 in
theorem r_checksum {w : Wd} {sh : Shp} {g : Mem} {d : Nat → Int} {m : Nat} (hM : MdS sh.1 m) (hI : Inv d)  : CT w mX10_checksum [.ref (m)] sh (upR g (m + 2) d) (dQ (some (.long (i64 (s_sum d)))) sh (upR (up2 g m 0 0) (m + 2) d)) := by
  have hb := hI.1
  have hb0 := hb.1
  have hb1 := hb.2.1
  have hb2 := hb.2.2.1
  have hb3 := hb.2.2.2.1
  have hb4 := hb.2.2.2.2.1
  have hb5 := hb.2.2.2.2.2.1
  refine j_entry (by decide) rfl (Nat.le_of_ble_eq_true rfl) (fun h => by cases h) rfl ?_
  show J w mX10_checksum 0 [(0, .ref (m))] [] sh (upR g (m + 2) d) 0 0 _
  refine j_aload_n 1 0 dX10_checksum_0 rfl rfl ?_
  refine j_iconst 2 dX10_checksum_1 rfl ?_
  refine j_puti 5 dX10_checksum_2 rfl fl_X10_35 hM.md rfl rfl rfl (r32 (by decide) (by decide)) ?_
  refine j_mem (up2_upR_n (by omega)) ?_
  refine j_lconst 6 dX10_checksum_5 rfl (x := 0) rfl ?_
  refine j_lstore_n 7 (L2 := [(1, .long (i64 (0))), (0, .ref (m))]) dX10_checksum_6 rfl rfl (Nat.le_of_ble_eq_true rfl) rfl ?_
  refine j_iconst 8 dX10_checksum_7 rfl ?_
  refine j_istore_n 9 (L2 := [(3, .int (i32 (0))), (1, .long (i64 (0))), (0, .ref (m))]) dX10_checksum_8 rfl rfl (Nat.le_of_ble_eq_true rfl) rfl ?_
  suffices lp_9 : ∀ (n_9 : Nat) (q : Nat) (s : Int), 25 - q < n_9 → q ≤ 25 → s = hsF (s_told d) q 0 → J w mX10_checksum 9 [(3, .int (i32 ((q : Int)))), (1, .long (i64 (s))), (0, .ref (m))] [] sh (upR (up2 g (m) 0 (0)) (m + 2) d) 0 0 (dQ (some (.long (i64 (s_sum d)))) sh (upR (up2 g m 0 0) (m + 2) d)) by
    exact lp_9 _ 0 0 (Nat.lt_succ_self _) (by omega) rfl
  intro n_9
  induction n_9 with
  | zero => intro q s h_; exact absurd h_ (Nat.not_lt_zero _)
  | succ n_9 ih_9 =>
    intro q s hn_9 hq hs
    refine j_iload_n 10 0 dX10_checksum_9 rfl rfl ?_
    refine j_bipush 12 dX10_checksum_10 rfl (by decide) ?_
    refine j_icmp_ge 15 34 dX10_checksum_12 rfl rfl (r32 (by omega) (by omega)) (r32 (by decide) (by decide)) (fun c_12 => ?_) (fun c_12 => ?_)
    · refine j_iconst 35 dX10_checksum_34 rfl ?_
      refine j_istore_n 36 (L2 := [(3, .int (i32 (0))), (1, .long (i64 (s))), (0, .ref (m))]) dX10_checksum_35 rfl rfl (Nat.le_of_ble_eq_true rfl) rfl ?_
      suffices lp_36 : ∀ (n_36 : Nat) (i1 : Nat) (s1 : Int), (d 2).toNat - i1 < n_36 → (i1 : Int) ≤ d 2 → s1 = hsR (fun i q => s_lineV d (i : Int) q) 5 i1 (hsF (s_told d) 25 0) → J w mX10_checksum 36 [(3, .int (i32 ((i1 : Int)))), (1, .long (i64 (s1))), (0, .ref (m))] [] sh (upR (up2 g (m) 0 (0)) (m + 2) d) 0 0 (dQ (some (.long (i64 (s_sum d)))) sh (upR (up2 g m 0 0) (m + 2) d)) by
        exact lp_36 _ 0 _ (Nat.lt_succ_self _) (by omega) (by rw [hs, show q = 25 by omega]; rfl)
      intro n_36
      induction n_36 with
      | zero => intro i1 s1 h_; exact absurd h_ (Nat.not_lt_zero _)
      | succ n_36 ih_36 =>
        intro i1 s1 hn_36 hi1 hs1
        refine j_iload_n 37 0 dX10_checksum_36 rfl rfl ?_
        refine j_aload_n 38 2 dX10_checksum_37 rfl rfl ?_
        refine j_getr 41 dX10_checksum_38 rfl fl_X10_17 hM.md rfl (fun _ _ => rfl) rfl ?_
        refine j_iconst 42 dX10_checksum_41 rfl ?_
        refine j_iald_d 43 2 dX10_checksum_42 rfl hM.dat rfl rfl (show 2 < 729 by omega) (fun r_42 => ?_)
        refine j_icmp_ge 46 82 dX10_checksum_43 rfl rfl (r32 (by omega) (by omega)) r_42 (fun c_43 => ?_) (fun c_43 => ?_)
        · refine j_iconst 83 dX10_checksum_82 rfl ?_
          refine j_istore_n 84 (L2 := [(3, .int (i32 (0))), (1, .long (i64 (s1))), (0, .ref (m))]) dX10_checksum_83 rfl rfl (Nat.le_of_ble_eq_true rfl) rfl ?_
          suffices lp_84 : ∀ (n_84 : Nat) (i2 : Nat) (s2 : Int), (d 3).toNat - i2 < n_84 → (i2 : Int) ≤ d 3 → s2 = hsR (fun i q => s_grV d i q) 7 i2 ((hsR (fun i q => s_lineV d (i : Int) q) 5 (d 2).toNat (hsF (s_told d) 25 0))) → J w mX10_checksum 84 [(3, .int (i32 ((i2 : Int)))), (1, .long (i64 (s2))), (0, .ref (m))] [] sh (upR (up2 g (m) 0 (0)) (m + 2) d) 0 0 (dQ (some (.long (i64 (s_sum d)))) sh (upR (up2 g m 0 0) (m + 2) d)) by
            exact lp_84 _ 0 _ (Nat.lt_succ_self _) (by omega) (by rw [hs1, show i1 = (d 2).toNat by omega]; rfl)
          intro n_84
          induction n_84 with
          | zero => intro i2 s2 h_; exact absurd h_ (Nat.not_lt_zero _)
          | succ n_84 ih_84 =>
            intro i2 s2 hn_84 hi2 hs2
            refine j_iload_n 85 0 dX10_checksum_84 rfl rfl ?_
            refine j_aload_n 86 2 dX10_checksum_85 rfl rfl ?_
            refine j_getr 89 dX10_checksum_86 rfl fl_X10_17 hM.md rfl (fun _ _ => rfl) rfl ?_
            refine j_iconst 90 dX10_checksum_89 rfl ?_
            refine j_iald_d 91 3 dX10_checksum_90 rfl hM.dat rfl rfl (show 3 < 729 by omega) (fun r_90 => ?_)
            refine j_icmp_ge 94 131 dX10_checksum_91 rfl rfl (r32 (by omega) (by omega)) r_90 (fun c_91 => ?_) (fun c_91 => ?_)
            · refine j_iconst 132 dX10_checksum_131 rfl ?_
              refine j_istore_n 133 (L2 := [(3, .int (i32 (0))), (1, .long (i64 (s2))), (0, .ref (m))]) dX10_checksum_132 rfl rfl (Nat.le_of_ble_eq_true rfl) rfl ?_
              suffices lp_133 : ∀ (n_133 : Nat) (i3 : Nat) (s3 : Int), (d 0).toNat - i3 < n_133 → (i3 : Int) ≤ d 0 → s3 = hsR (fun i q => d (151 + 3 * i + q)) 3 i3 ((hsR (fun i q => s_grV d i q) 7 (d 3).toNat ((hsR (fun i q => s_lineV d (i : Int) q) 5 (d 2).toNat (hsF (s_told d) 25 0))))) → J w mX10_checksum 133 [(3, .int (i32 ((i3 : Int)))), (1, .long (i64 (s3))), (0, .ref (m))] [] sh (upR (up2 g (m) 0 (0)) (m + 2) d) 0 0 (dQ (some (.long (i64 (s_sum d)))) sh (upR (up2 g m 0 0) (m + 2) d)) by
                exact lp_133 _ 0 _ (Nat.lt_succ_self _) (by omega) (by rw [hs2, show i2 = (d 3).toNat by omega]; rfl)
              intro n_133
              induction n_133 with
              | zero => intro i3 s3 h_; exact absurd h_ (Nat.not_lt_zero _)
              | succ n_133 ih_133 =>
                intro i3 s3 hn_133 hi3 hs3
                refine j_iload_n 134 0 dX10_checksum_133 rfl rfl ?_
                refine j_aload_n 135 2 dX10_checksum_134 rfl rfl ?_
                refine j_getr 138 dX10_checksum_135 rfl fl_X10_17 hM.md rfl (fun _ _ => rfl) rfl ?_
                refine j_iconst 139 dX10_checksum_138 rfl ?_
                refine j_iald_d 140 0 dX10_checksum_139 rfl hM.dat rfl rfl (show 0 < 729 by omega) (fun r_139 => ?_)
                refine j_icmp_ge 143 187 dX10_checksum_140 rfl rfl (r32 (by omega) (by omega)) r_139 (fun c_140 => ?_) (fun c_140 => ?_)
                · refine j_iconst 188 dX10_checksum_187 rfl ?_
                  refine j_istore_n 189 (L2 := [(3, .int (i32 (0))), (1, .long (i64 (s3))), (0, .ref (m))]) dX10_checksum_188 rfl rfl (Nat.le_of_ble_eq_true rfl) rfl ?_
                  suffices lp_189 : ∀ (n_189 : Nat) (i4 : Nat) (s4 : Int), (d 1).toNat - i4 < n_189 → (i4 : Int) ≤ d 1 → s4 = hsR (fun i q => d (163 + 2 * i + q)) 2 i4 ((hsR (fun i q => d (151 + 3 * i + q)) 3 (d 0).toNat ((hsR (fun i q => s_grV d i q) 7 (d 3).toNat ((hsR (fun i q => s_lineV d (i : Int) q) 5 (d 2).toNat (hsF (s_told d) 25 0))))))) → J w mX10_checksum 189 [(3, .int (i32 ((i4 : Int)))), (1, .long (i64 (s4))), (0, .ref (m))] [] sh (upR (up2 g (m) 0 (0)) (m + 2) d) 0 0 (dQ (some (.long (i64 (s_sum d)))) sh (upR (up2 g m 0 0) (m + 2) d)) by
                    exact lp_189 _ 0 _ (Nat.lt_succ_self _) (by omega) (by rw [hs3, show i3 = (d 0).toNat by omega]; rfl)
                  intro n_189
                  induction n_189 with
                  | zero => intro i4 s4 h_; exact absurd h_ (Nat.not_lt_zero _)
                  | succ n_189 ih_189 =>
                    intro i4 s4 hn_189 hi4 hs4
                    refine j_iload_n 190 0 dX10_checksum_189 rfl rfl ?_
                    refine j_aload_n 191 2 dX10_checksum_190 rfl rfl ?_
                    refine j_getr 194 dX10_checksum_191 rfl fl_X10_17 hM.md rfl (fun _ _ => rfl) rfl ?_
                    refine j_iconst 195 dX10_checksum_194 rfl ?_
                    refine j_iald_d 196 1 dX10_checksum_195 rfl hM.dat rfl rfl (show 1 < 729 by omega) (fun r_195 => ?_)
                    refine j_icmp_ge 199 243 dX10_checksum_196 rfl rfl (r32 (by omega) (by omega)) r_195 (fun c_196 => ?_) (fun c_196 => ?_)
                    · refine j_iconst 244 dX10_checksum_243 rfl ?_
                      refine j_istore_n 245 (L2 := [(3, .int (i32 (0))), (1, .long (i64 (s4))), (0, .ref (m))]) dX10_checksum_244 rfl rfl (Nat.le_of_ble_eq_true rfl) rfl ?_
                      suffices lp_245 : ∀ (n_245 : Nat) (i5 : Nat) (s5 : Int), (d 5).toNat - i5 < n_245 → (i5 : Int) ≤ d 5 → s5 = hsR (fun i q => d (169 + 14 * i + q)) 11 i5 ((hsR (fun i q => d (163 + 2 * i + q)) 2 (d 1).toNat ((hsR (fun i q => d (151 + 3 * i + q)) 3 (d 0).toNat ((hsR (fun i q => s_grV d i q) 7 (d 3).toNat ((hsR (fun i q => s_lineV d (i : Int) q) 5 (d 2).toNat (hsF (s_told d) 25 0))))))))) → J w mX10_checksum 245 [(3, .int (i32 ((i5 : Int)))), (1, .long (i64 (s5))), (0, .ref (m))] [] sh (upR (up2 g (m) 0 (0)) (m + 2) d) 0 0 (dQ (some (.long (i64 (s_sum d)))) sh (upR (up2 g m 0 0) (m + 2) d)) by
                        exact lp_245 _ 0 _ (Nat.lt_succ_self _) (by omega) (by rw [hs4, show i4 = (d 1).toNat by omega]; rfl)
                      intro n_245
                      induction n_245 with
                      | zero => intro i5 s5 h_; exact absurd h_ (Nat.not_lt_zero _)
                      | succ n_245 ih_245 =>
                        intro i5 s5 hn_245 hi5 hs5
                        refine j_iload_n 246 0 dX10_checksum_245 rfl rfl ?_
                        refine j_aload_n 247 2 dX10_checksum_246 rfl rfl ?_
                        refine j_getr 250 dX10_checksum_247 rfl fl_X10_17 hM.md rfl (fun _ _ => rfl) rfl ?_
                        refine j_iconst 251 dX10_checksum_250 rfl ?_
                        refine j_iald_d 252 5 dX10_checksum_251 rfl hM.dat rfl rfl (show 5 < 729 by omega) (fun r_251 => ?_)
                        refine j_icmp_ge 255 292 dX10_checksum_252 rfl rfl (r32 (by omega) (by omega)) r_251 (fun c_252 => ?_) (fun c_252 => ?_)
                        · refine j_lload_n 293 1 dX10_checksum_292 rfl rfl ?_
                          exact j_lret dX10_checksum_293 rfl (q_l (by rw [hs5, show i5 = (d 5).toNat by omega]; rfl))
                        · refine j_iconst 256 dX10_checksum_255 rfl ?_
                          refine j_istore 258 (L2 := [(4, .int (i32 (0))), (3, .int (i32 ((i5 : Int)))), (1, .long (i64 (s5))), (0, .ref (m))]) dX10_checksum_256 rfl (Nat.le_of_ble_eq_true rfl) rfl ?_
                          suffices lp_258 : ∀ (n_258 : Nat) (q5 : Nat) (t5 : Int), 11 - q5 < n_258 → q5 ≤ 11 → t5 = hsF ((fun i q => d (169 + 14 * i + q)) i5) q5 s5 → J w mX10_checksum 258 [(4, .int (i32 ((q5 : Int)))), (3, .int (i32 ((i5 : Int)))), (1, .long (i64 (t5))), (0, .ref (m))] [] sh (upR (up2 g (m) 0 (0)) (m + 2) d) 0 0 (dQ (some (.long (i64 (s_sum d)))) sh (upR (up2 g m 0 0) (m + 2) d)) by
                            exact lp_258 _ 0 _ (Nat.lt_succ_self _) (by omega) rfl
                          intro n_258
                          induction n_258 with
                          | zero => intro q5 t5 h_; exact absurd h_ (Nat.not_lt_zero _)
                          | succ n_258 ih_258 =>
                            intro q5 t5 hn_258 hq5 ht5
                            refine j_iload 260 0 dX10_checksum_258 rfl rfl ?_
                            refine j_bipush 262 dX10_checksum_260 rfl (by decide) ?_
                            refine j_icmp_ge 265 286 dX10_checksum_262 rfl rfl (r32 (by omega) (by omega)) (r32 (by decide) (by decide)) (fun c_262 => ?_) (fun c_262 => ?_)
                            · refine j_iinc 289 1 (y := ((i5 + 1 : Nat) : Int)) (L2 := [(3, .int (i32 (((i5 + 1 : Nat) : Int)))), (4, .int (i32 ((q5 : Int)))), (1, .long (i64 (t5))), (0, .ref (m))]) dX10_checksum_286 rfl rfl (by omega) (Nat.le_of_ble_eq_true rfl) rfl ?_
                              refine j_goto 245 dX10_checksum_289 rfl ?_
                              refine j_sub [0, 2, 3] rfl ?_
                              exact ih_245 (i5 + 1) _ (by omega) (by omega) (by rw [ht5, show q5 = 11 by omega, hs5]; rfl)
                            · refine j_ldc2 268 dX10_checksum_265 rfl k31r ?_
                              refine j_lload_n 269 2 dX10_checksum_268 rfl rfl ?_
                              refine j_lmul 270 dX10_checksum_269 rfl ?_
                              refine j_aload_n 271 3 dX10_checksum_270 rfl rfl ?_
                              refine j_iload_n 272 1 dX10_checksum_271 rfl rfl ?_
                              refine j_iload 274 0 dX10_checksum_272 rfl rfl ?_
                              refine j_callV 277 (As := [.int (i32 ((i5 : Int))), .int (i32 ((q5 : Int)))]) (kc2 := 0) (ks2 := 0) dX10_checksum_274 rfl mvX10_of lk_X10_192 hM.md rfl ⟨Nat.le_of_ble_eq_true rfl, rfl⟩ rfl rfl (Nat.le_of_ble_eq_true rfl) ⟨Nat.le_of_ble_eq_true rfl, Nat.le_of_ble_eq_true rfl⟩ ⟨Nat.le_of_ble_eq_true rfl, Nat.le_of_ble_eq_true rfl⟩ (r_of hM i5 q5 (169 + 14 * i5 + q5) rfl rfl rfl (by omega) (by omega)) x_d (k_d1 ?_)
                              refine j_nb ?_
                              refine j_i2l 278 dX10_checksum_277 rfl (bm_r _) ?_
                              refine j_ladd 279 dX10_checksum_278 rfl ?_
                              refine j_lstore_n 280 (L2 := [(1, .long (i64 (((31) * (t5)) + (bm (d (169 + 14 * i5 + q5)))))), (4, .int (i32 ((q5 : Int)))), (3, .int (i32 ((i5 : Int)))), (0, .ref (m))]) dX10_checksum_279 rfl rfl (Nat.le_of_ble_eq_true rfl) rfl ?_
                              refine j_iinc 283 1 (y := ((q5 + 1 : Nat) : Int)) (L2 := [(4, .int (i32 (((q5 + 1 : Nat) : Int)))), (1, .long (i64 (((31) * (t5)) + (bm (d (169 + 14 * i5 + q5)))))), (3, .int (i32 ((i5 : Int)))), (0, .ref (m))]) dX10_checksum_280 rfl rfl (by omega) (Nat.le_of_ble_eq_true rfl) rfl ?_
                              refine j_goto 258 dX10_checksum_283 rfl ?_
                              refine j_sub [0, 2, 1, 3] rfl ?_
                              exact ih_258 (q5 + 1) _ (by omega) (by omega) (by rw [ht5]; rfl)
                    · refine j_iconst 200 dX10_checksum_199 rfl ?_
                      refine j_istore 202 (L2 := [(4, .int (i32 (0))), (3, .int (i32 ((i4 : Int)))), (1, .long (i64 (s4))), (0, .ref (m))]) dX10_checksum_200 rfl (Nat.le_of_ble_eq_true rfl) rfl ?_
                      suffices lp_202 : ∀ (n_202 : Nat) (q4 : Nat) (t4 : Int), 2 - q4 < n_202 → q4 ≤ 2 → t4 = hsF ((fun i q => d (163 + 2 * i + q)) i4) q4 s4 → J w mX10_checksum 202 [(4, .int (i32 ((q4 : Int)))), (3, .int (i32 ((i4 : Int)))), (1, .long (i64 (t4))), (0, .ref (m))] [] sh (upR (up2 g (m) 0 (0)) (m + 2) d) 0 0 (dQ (some (.long (i64 (s_sum d)))) sh (upR (up2 g m 0 0) (m + 2) d)) by
                        exact lp_202 _ 0 _ (Nat.lt_succ_self _) (by omega) rfl
                      intro n_202
                      induction n_202 with
                      | zero => intro q4 t4 h_; exact absurd h_ (Nat.not_lt_zero _)
                      | succ n_202 ih_202 =>
                        intro q4 t4 hn_202 hq4 ht4
                        refine j_iload 204 0 dX10_checksum_202 rfl rfl ?_
                        refine j_iconst 205 dX10_checksum_204 rfl ?_
                        refine j_icmp_ge 208 237 dX10_checksum_205 rfl rfl (r32 (by omega) (by omega)) (r32 (by decide) (by decide)) (fun c_205 => ?_) (fun c_205 => ?_)
                        · refine j_iinc 240 1 (y := ((i4 + 1 : Nat) : Int)) (L2 := [(3, .int (i32 (((i4 + 1 : Nat) : Int)))), (4, .int (i32 ((q4 : Int)))), (1, .long (i64 (t4))), (0, .ref (m))]) dX10_checksum_237 rfl rfl (by omega) (Nat.le_of_ble_eq_true rfl) rfl ?_
                          refine j_goto 189 dX10_checksum_240 rfl ?_
                          refine j_sub [0, 2, 3] rfl ?_
                          exact ih_189 (i4 + 1) _ (by omega) (by omega) (by rw [ht4, show q4 = 2 by omega, hs4]; rfl)
                        · refine j_ldc2 211 dX10_checksum_208 rfl k31r ?_
                          refine j_lload_n 212 2 dX10_checksum_211 rfl rfl ?_
                          refine j_lmul 213 dX10_checksum_212 rfl ?_
                          refine j_aload_n 214 3 dX10_checksum_213 rfl rfl ?_
                          refine j_getr 217 dX10_checksum_214 rfl fl_X10_17 hM.md rfl (fun _ _ => rfl) rfl ?_
                          refine j_sipush 220 dX10_checksum_217 rfl (by decide) ?_
                          refine j_iconst 221 dX10_checksum_220 rfl ?_
                          refine j_iload_n 222 1 dX10_checksum_221 rfl rfl ?_
                          refine j_imul 223 dX10_checksum_222 rfl ?_
                          refine j_iadd 224 dX10_checksum_223 rfl ?_
                          refine j_iload 226 0 dX10_checksum_224 rfl rfl ?_
                          refine j_iadd 227 dX10_checksum_226 rfl ?_
                          refine j_iald_d 228 (163 + 2 * i4 + q4) dX10_checksum_227 rfl hM.dat rfl (by omega) (show 163 + 2 * i4 + q4 < 729 by omega) (fun r_227 => ?_)
                          refine j_nb ?_
                          refine j_i2l 229 dX10_checksum_228 rfl (bm_r _) ?_
                          refine j_ladd 230 dX10_checksum_229 rfl ?_
                          refine j_lstore_n 231 (L2 := [(1, .long (i64 (((31) * (t4)) + (bm (d (163 + 2 * i4 + q4)))))), (4, .int (i32 ((q4 : Int)))), (3, .int (i32 ((i4 : Int)))), (0, .ref (m))]) dX10_checksum_230 rfl rfl (Nat.le_of_ble_eq_true rfl) rfl ?_
                          refine j_iinc 234 1 (y := ((q4 + 1 : Nat) : Int)) (L2 := [(4, .int (i32 (((q4 + 1 : Nat) : Int)))), (1, .long (i64 (((31) * (t4)) + (bm (d (163 + 2 * i4 + q4)))))), (3, .int (i32 ((i4 : Int)))), (0, .ref (m))]) dX10_checksum_231 rfl rfl (by omega) (Nat.le_of_ble_eq_true rfl) rfl ?_
                          refine j_goto 202 dX10_checksum_234 rfl ?_
                          refine j_sub [0, 2, 1, 3] rfl ?_
                          exact ih_202 (q4 + 1) _ (by omega) (by omega) (by rw [ht4]; rfl)
                · refine j_iconst 144 dX10_checksum_143 rfl ?_
                  refine j_istore 146 (L2 := [(4, .int (i32 (0))), (3, .int (i32 ((i3 : Int)))), (1, .long (i64 (s3))), (0, .ref (m))]) dX10_checksum_144 rfl (Nat.le_of_ble_eq_true rfl) rfl ?_
                  suffices lp_146 : ∀ (n_146 : Nat) (q3 : Nat) (t3 : Int), 3 - q3 < n_146 → q3 ≤ 3 → t3 = hsF ((fun i q => d (151 + 3 * i + q)) i3) q3 s3 → J w mX10_checksum 146 [(4, .int (i32 ((q3 : Int)))), (3, .int (i32 ((i3 : Int)))), (1, .long (i64 (t3))), (0, .ref (m))] [] sh (upR (up2 g (m) 0 (0)) (m + 2) d) 0 0 (dQ (some (.long (i64 (s_sum d)))) sh (upR (up2 g m 0 0) (m + 2) d)) by
                    exact lp_146 _ 0 _ (Nat.lt_succ_self _) (by omega) rfl
                  intro n_146
                  induction n_146 with
                  | zero => intro q3 t3 h_; exact absurd h_ (Nat.not_lt_zero _)
                  | succ n_146 ih_146 =>
                    intro q3 t3 hn_146 hq3 ht3
                    refine j_iload 148 0 dX10_checksum_146 rfl rfl ?_
                    refine j_iconst 149 dX10_checksum_148 rfl ?_
                    refine j_icmp_ge 152 181 dX10_checksum_149 rfl rfl (r32 (by omega) (by omega)) (r32 (by decide) (by decide)) (fun c_149 => ?_) (fun c_149 => ?_)
                    · refine j_iinc 184 1 (y := ((i3 + 1 : Nat) : Int)) (L2 := [(3, .int (i32 (((i3 + 1 : Nat) : Int)))), (4, .int (i32 ((q3 : Int)))), (1, .long (i64 (t3))), (0, .ref (m))]) dX10_checksum_181 rfl rfl (by omega) (Nat.le_of_ble_eq_true rfl) rfl ?_
                      refine j_goto 133 dX10_checksum_184 rfl ?_
                      refine j_sub [0, 2, 3] rfl ?_
                      exact ih_133 (i3 + 1) _ (by omega) (by omega) (by rw [ht3, show q3 = 3 by omega, hs3]; rfl)
                    · refine j_ldc2 155 dX10_checksum_152 rfl k31r ?_
                      refine j_lload_n 156 2 dX10_checksum_155 rfl rfl ?_
                      refine j_lmul 157 dX10_checksum_156 rfl ?_
                      refine j_aload_n 158 3 dX10_checksum_157 rfl rfl ?_
                      refine j_getr 161 dX10_checksum_158 rfl fl_X10_17 hM.md rfl (fun _ _ => rfl) rfl ?_
                      refine j_sipush 164 dX10_checksum_161 rfl (by decide) ?_
                      refine j_iconst 165 dX10_checksum_164 rfl ?_
                      refine j_iload_n 166 1 dX10_checksum_165 rfl rfl ?_
                      refine j_imul 167 dX10_checksum_166 rfl ?_
                      refine j_iadd 168 dX10_checksum_167 rfl ?_
                      refine j_iload 170 0 dX10_checksum_168 rfl rfl ?_
                      refine j_iadd 171 dX10_checksum_170 rfl ?_
                      refine j_iald_d 172 (151 + 3 * i3 + q3) dX10_checksum_171 rfl hM.dat rfl (by omega) (show 151 + 3 * i3 + q3 < 729 by omega) (fun r_171 => ?_)
                      refine j_nb ?_
                      refine j_i2l 173 dX10_checksum_172 rfl (bm_r _) ?_
                      refine j_ladd 174 dX10_checksum_173 rfl ?_
                      refine j_lstore_n 175 (L2 := [(1, .long (i64 (((31) * (t3)) + (bm (d (151 + 3 * i3 + q3)))))), (4, .int (i32 ((q3 : Int)))), (3, .int (i32 ((i3 : Int)))), (0, .ref (m))]) dX10_checksum_174 rfl rfl (Nat.le_of_ble_eq_true rfl) rfl ?_
                      refine j_iinc 178 1 (y := ((q3 + 1 : Nat) : Int)) (L2 := [(4, .int (i32 (((q3 + 1 : Nat) : Int)))), (1, .long (i64 (((31) * (t3)) + (bm (d (151 + 3 * i3 + q3)))))), (3, .int (i32 ((i3 : Int)))), (0, .ref (m))]) dX10_checksum_175 rfl rfl (by omega) (Nat.le_of_ble_eq_true rfl) rfl ?_
                      refine j_goto 146 dX10_checksum_178 rfl ?_
                      refine j_sub [0, 2, 1, 3] rfl ?_
                      exact ih_146 (q3 + 1) _ (by omega) (by omega) (by rw [ht3]; rfl)
            · refine j_iconst 95 dX10_checksum_94 rfl ?_
              refine j_istore 97 (L2 := [(4, .int (i32 (0))), (3, .int (i32 ((i2 : Int)))), (1, .long (i64 (s2))), (0, .ref (m))]) dX10_checksum_95 rfl (Nat.le_of_ble_eq_true rfl) rfl ?_
              suffices lp_97 : ∀ (n_97 : Nat) (q2 : Nat) (t2 : Int), 7 - q2 < n_97 → q2 ≤ 7 → t2 = hsF ((fun i q => s_grV d i q) i2) q2 s2 → J w mX10_checksum 97 [(4, .int (i32 ((q2 : Int)))), (3, .int (i32 ((i2 : Int)))), (1, .long (i64 (t2))), (0, .ref (m))] [] sh (upR (up2 g (m) 0 (0)) (m + 2) d) 0 0 (dQ (some (.long (i64 (s_sum d)))) sh (upR (up2 g m 0 0) (m + 2) d)) by
                exact lp_97 _ 0 _ (Nat.lt_succ_self _) (by omega) rfl
              intro n_97
              induction n_97 with
              | zero => intro q2 t2 h_; exact absurd h_ (Nat.not_lt_zero _)
              | succ n_97 ih_97 =>
                intro q2 t2 hn_97 hq2 ht2
                refine j_iload 99 0 dX10_checksum_97 rfl rfl ?_
                refine j_bipush 101 dX10_checksum_99 rfl (by decide) ?_
                refine j_icmp_ge 104 125 dX10_checksum_101 rfl rfl (r32 (by omega) (by omega)) (r32 (by decide) (by decide)) (fun c_101 => ?_) (fun c_101 => ?_)
                · refine j_iinc 128 1 (y := ((i2 + 1 : Nat) : Int)) (L2 := [(3, .int (i32 (((i2 + 1 : Nat) : Int)))), (4, .int (i32 ((q2 : Int)))), (1, .long (i64 (t2))), (0, .ref (m))]) dX10_checksum_125 rfl rfl (by omega) (Nat.le_of_ble_eq_true rfl) rfl ?_
                  refine j_goto 84 dX10_checksum_128 rfl ?_
                  refine j_sub [0, 2, 3] rfl ?_
                  exact ih_84 (i2 + 1) _ (by omega) (by omega) (by rw [ht2, show q2 = 7 by omega, hs2]; rfl)
                · refine j_ldc2 107 dX10_checksum_104 rfl k31r ?_
                  refine j_lload_n 108 2 dX10_checksum_107 rfl rfl ?_
                  refine j_lmul 109 dX10_checksum_108 rfl ?_
                  refine j_aload_n 110 3 dX10_checksum_109 rfl rfl ?_
                  refine j_iload_n 111 1 dX10_checksum_110 rfl rfl ?_
                  refine j_iload 113 0 dX10_checksum_111 rfl rfl ?_
                  refine j_callV 116 (As := [.int (i32 ((i2 : Int))), .int (i32 ((q2 : Int)))]) (kc2 := 0) (ks2 := 0) dX10_checksum_113 rfl mvX10_toldGroup lk_X10_285 hM.md rfl ⟨Nat.le_of_ble_eq_true rfl, rfl⟩ rfl rfl (Nat.le_of_ble_eq_true rfl) ⟨Nat.le_of_ble_eq_true rfl, Nat.le_of_ble_eq_true rfl⟩ ⟨Nat.le_of_ble_eq_true rfl, Nat.le_of_ble_eq_true rfl⟩ (r_toldGroup hM hI (i := i2) (q := q2) (by omega) (by omega)) x_d (k_d1 ?_)
                  refine j_nb ?_
                  refine j_i2l 117 dX10_checksum_116 rfl (bm_r _) ?_
                  refine j_ladd 118 dX10_checksum_117 rfl ?_
                  refine j_lstore_n 119 (L2 := [(1, .long (i64 (((31) * (t2)) + (bm (s_grV d i2 q2))))), (4, .int (i32 ((q2 : Int)))), (3, .int (i32 ((i2 : Int)))), (0, .ref (m))]) dX10_checksum_118 rfl rfl (Nat.le_of_ble_eq_true rfl) rfl ?_
                  refine j_iinc 122 1 (y := ((q2 + 1 : Nat) : Int)) (L2 := [(4, .int (i32 (((q2 + 1 : Nat) : Int)))), (1, .long (i64 (((31) * (t2)) + (bm (s_grV d i2 q2))))), (3, .int (i32 ((i2 : Int)))), (0, .ref (m))]) dX10_checksum_119 rfl rfl (by omega) (Nat.le_of_ble_eq_true rfl) rfl ?_
                  refine j_goto 97 dX10_checksum_122 rfl ?_
                  refine j_sub [0, 2, 1, 3] rfl ?_
                  exact ih_97 (q2 + 1) _ (by omega) (by omega) (by rw [ht2]; rfl)
        · refine j_iconst 47 dX10_checksum_46 rfl ?_
          refine j_istore 49 (L2 := [(4, .int (i32 (0))), (3, .int (i32 ((i1 : Int)))), (1, .long (i64 (s1))), (0, .ref (m))]) dX10_checksum_47 rfl (Nat.le_of_ble_eq_true rfl) rfl ?_
          suffices lp_49 : ∀ (n_49 : Nat) (q1 : Nat) (t1 : Int), 5 - q1 < n_49 → q1 ≤ 5 → t1 = hsF ((fun i q => s_lineV d (i : Int) q) i1) q1 s1 → J w mX10_checksum 49 [(4, .int (i32 ((q1 : Int)))), (3, .int (i32 ((i1 : Int)))), (1, .long (i64 (t1))), (0, .ref (m))] [] sh (upR (up2 g (m) 0 (0)) (m + 2) d) 0 0 (dQ (some (.long (i64 (s_sum d)))) sh (upR (up2 g m 0 0) (m + 2) d)) by
            exact lp_49 _ 0 _ (Nat.lt_succ_self _) (by omega) rfl
          intro n_49
          induction n_49 with
          | zero => intro q1 t1 h_; exact absurd h_ (Nat.not_lt_zero _)
          | succ n_49 ih_49 =>
            intro q1 t1 hn_49 hq1 ht1
            refine j_iload 51 0 dX10_checksum_49 rfl rfl ?_
            refine j_iconst 52 dX10_checksum_51 rfl ?_
            refine j_icmp_ge 55 76 dX10_checksum_52 rfl rfl (r32 (by omega) (by omega)) (r32 (by decide) (by decide)) (fun c_52 => ?_) (fun c_52 => ?_)
            · refine j_iinc 79 1 (y := ((i1 + 1 : Nat) : Int)) (L2 := [(3, .int (i32 (((i1 + 1 : Nat) : Int)))), (4, .int (i32 ((q1 : Int)))), (1, .long (i64 (t1))), (0, .ref (m))]) dX10_checksum_76 rfl rfl (by omega) (Nat.le_of_ble_eq_true rfl) rfl ?_
              refine j_goto 36 dX10_checksum_79 rfl ?_
              refine j_sub [0, 2, 3] rfl ?_
              exact ih_36 (i1 + 1) _ (by omega) (by omega) (by rw [ht1, show q1 = 5 by omega, hs1]; rfl)
            · refine j_ldc2 58 dX10_checksum_55 rfl k31r ?_
              refine j_lload_n 59 2 dX10_checksum_58 rfl rfl ?_
              refine j_lmul 60 dX10_checksum_59 rfl ?_
              refine j_aload_n 61 3 dX10_checksum_60 rfl rfl ?_
              refine j_iload_n 62 1 dX10_checksum_61 rfl rfl ?_
              refine j_iload 64 0 dX10_checksum_62 rfl rfl ?_
              refine j_callV 67 (As := [.int (i32 ((i1 : Int))), .int (i32 ((q1 : Int)))]) (kc2 := 0) (ks2 := 0) dX10_checksum_64 rfl mvX10_toldLine lk_X10_279 hM.md rfl ⟨Nat.le_of_ble_eq_true rfl, rfl⟩ rfl rfl (Nat.le_of_ble_eq_true rfl) ⟨Nat.le_of_ble_eq_true rfl, Nat.le_of_ble_eq_true rfl⟩ ⟨Nat.le_of_ble_eq_true rfl, Nat.le_of_ble_eq_true rfl⟩ (r_toldLine hM hI (x := (i1 : Int)) (r32 (by omega) (by omega)) (q := q1) (by omega)) x_d (k_d1 ?_)
              refine j_nb ?_
              refine j_i2l 68 dX10_checksum_67 rfl (bm_r _) ?_
              refine j_ladd 69 dX10_checksum_68 rfl ?_
              refine j_lstore_n 70 (L2 := [(1, .long (i64 (((31) * (t1)) + (bm (s_lineV d (i1 : Int) q1))))), (4, .int (i32 ((q1 : Int)))), (3, .int (i32 ((i1 : Int)))), (0, .ref (m))]) dX10_checksum_69 rfl rfl (Nat.le_of_ble_eq_true rfl) rfl ?_
              refine j_iinc 73 1 (y := ((q1 + 1 : Nat) : Int)) (L2 := [(4, .int (i32 (((q1 + 1 : Nat) : Int)))), (1, .long (i64 (((31) * (t1)) + (bm (s_lineV d (i1 : Int) q1))))), (3, .int (i32 ((i1 : Int)))), (0, .ref (m))]) dX10_checksum_70 rfl rfl (by omega) (Nat.le_of_ble_eq_true rfl) rfl ?_
              refine j_goto 49 dX10_checksum_73 rfl ?_
              refine j_sub [0, 2, 1, 3] rfl ?_
              exact ih_49 (q1 + 1) _ (by omega) (by omega) (by rw [ht1]; rfl)
    · refine j_ldc2 18 dX10_checksum_15 rfl k31r ?_
      refine j_lload_n 19 1 dX10_checksum_18 rfl rfl ?_
      refine j_lmul 20 dX10_checksum_19 rfl ?_
      refine j_aload_n 21 2 dX10_checksum_20 rfl rfl ?_
      refine j_iload_n 22 0 dX10_checksum_21 rfl rfl ?_
      refine j_callV 25 (As := [.int (i32 ((q : Int)))]) (kc2 := 0) (ks2 := 0) dX10_checksum_22 rfl mvX10_told lk_X10_276 hM.md rfl ⟨Nat.le_of_ble_eq_true rfl, rfl⟩ rfl rfl (Nat.le_of_ble_eq_true rfl) ⟨Nat.le_of_ble_eq_true rfl, Nat.le_of_ble_eq_true rfl⟩ ⟨Nat.le_of_ble_eq_true rfl, Nat.le_of_ble_eq_true rfl⟩ (r_told hM hI (q := q) (by omega)) x_d (k_d1 ?_)
      refine j_nb ?_
      refine j_i2l 26 dX10_checksum_25 rfl (bm_r _) ?_
      refine j_ladd 27 dX10_checksum_26 rfl ?_
      refine j_lstore_n 28 (L2 := [(1, .long (i64 (((31) * (s)) + (bm (s_told d q))))), (3, .int (i32 ((q : Int)))), (0, .ref (m))]) dX10_checksum_27 rfl rfl (Nat.le_of_ble_eq_true rfl) rfl ?_
      refine j_iinc 31 1 (y := ((q + 1 : Nat) : Int)) (L2 := [(3, .int (i32 (((q + 1 : Nat) : Int)))), (1, .long (i64 (((31) * (s)) + (bm (s_told d q))))), (0, .ref (m))]) dX10_checksum_28 rfl rfl (by omega) (Nat.le_of_ble_eq_true rfl) rfl ?_
      refine j_goto 9 dX10_checksum_31 rfl ?_
      exact ih_9 (q + 1) _ (by omega) (by omega) (by rw [hs]; rfl)
