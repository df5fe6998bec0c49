set_option maxRecDepth 20000 in
theorem r_passTick {w : Wd} {sh : Shp} {g : Mem} {d : Nat → Int} {m : Nat} (hM : MdS sh.1 m) (hI : Inv d) : CT w mX10_passTick [.ref (m)] sh (upR g (m + 2) d) (dQ none sh (upR g (m + 2) (s_tick d))) := by
  refine j_entry (by decide) rfl (Nat.le_of_ble_eq_true rfl) (fun h => by cases h) rfl ?_
  show J w mX10_passTick 0 [(0, .ref (m))] [] sh (upR g (m + 2) d) 0 0 _
  refine j_rgd hM.dat rfl (fun hR => ?_)
  refine j_aload_n 1 0 dX10_passTick_0 rfl rfl ?_
  refine j_getr 4 dX10_passTick_1 rfl fl_X10_17 hM.md rfl (fun _ _ => rfl) rfl ?_
  refine j_bipush 6 dX10_passTick_4 rfl (by decide) ?_
  refine j_dup2 7 dX10_passTick_6 rfl rfl rfl ?_
  refine j_iald_d 8 6 dX10_passTick_7 rfl hM.dat rfl (by omega) (show 6 < 729 by omega) (fun r_7 => ?_)
  refine j_iconst 9 dX10_passTick_8 rfl ?_
  refine j_iadd 10 dX10_passTick_9 rfl ?_
  refine j_nb ?_
  refine j_iast_d 11 6 dX10_passTick_10 rfl hM.dat rfl (by omega) (show 6 < 729 by omega) (bm_r _) ?_
  refine j_d (d2 := (s_t1 d)) (rfl) ?_
  have hVa := inv_t1 hI
  refine j_iconst 12 dX10_passTick_11 rfl ?_
  refine j_istore_n 13 (L2 := [(1, .int (i32 (0))), (0, .ref (m))]) dX10_passTick_12 rfl rfl (Nat.le_of_ble_eq_true rfl) rfl ?_
  suffices lp_13 : ∀ (n_13 : Nat) (ka : Nat) (ea : Nat → Int), ((s_t1 d) 5).toNat - ka < n_13 → ka ≤ ((s_t1 d) 5).toNat → ea = itr f_come (s_t1 d) ka → Ok (s_t1 d) ea → J w mX10_passTick 13 [(1, .int (i32 ((ka : Int)))), (0, .ref (m))] [] sh (upR g (m + 2) ea) 0 0 (dQ none sh (upR g (m + 2) (s_tick d))) by
    exact lp_13 _ 0 (s_t1 d) (Nat.lt_succ_self _) (by omega) rfl ⟨hVa, Sta.rf⟩
  intro n_13
  induction n_13 with
  | zero => intro ka ea h_; exact absurd h_ (Nat.not_lt_zero _)
  | succ n_13 ih_13 =>
    intro ka ea hn_13 hka hea hoa
    have hna : ea 5 = (s_t1 d) 5 := hoa.n (by omega)
    have hbna := hoa.1.1
    refine j_rgd hM.dat rfl (fun hRa => ?_)
    refine j_iload_n 14 0 dX10_passTick_13 rfl rfl ?_
    refine j_aload_n 15 1 dX10_passTick_14 rfl rfl ?_
    refine j_getr 18 dX10_passTick_15 rfl fl_X10_17 hM.md rfl (fun _ _ => rfl) rfl ?_
    refine j_iconst 19 dX10_passTick_18 rfl ?_
    refine j_iald_d 20 5 dX10_passTick_19 rfl hM.dat rfl (by omega) (show 5 < 729 by omega) (fun r_19 => ?_)
    refine j_icmp_ge 23 59 dX10_passTick_20 rfl rfl (r32 (by omega) (by omega)) r_19 (fun c_20 => ?_) (fun c_20 => ?_)
    · have hxa : ea = (s_t2 (s_t1 d)) := by rw [hea]; unfold s_t2; rw [show ka = ((s_t1 d) 5).toNat by omega]
      have hVb : Inv (s_t2 (s_t1 d)) := by rw [← hxa]; exact hoa.1
      refine j_d hxa ?_
      refine j_iconst 60 dX10_passTick_59 rfl ?_
      refine j_istore_n 61 (L2 := [(1, .int (i32 (0))), (0, .ref (m))]) dX10_passTick_60 rfl rfl (Nat.le_of_ble_eq_true rfl) rfl ?_
      suffices lp_61 : ∀ (n_61 : Nat) (kb : Nat) (eb : Nat → Int), ((s_t2 (s_t1 d)) 5).toNat - kb < n_61 → kb ≤ ((s_t2 (s_t1 d)) 5).toNat → eb = itr f_talk (s_t2 (s_t1 d)) kb → Ok (s_t2 (s_t1 d)) eb → J w mX10_passTick 61 [(1, .int (i32 ((kb : Int)))), (0, .ref (m))] [] sh (upR g (m + 2) eb) 0 0 (dQ none sh (upR g (m + 2) (s_tick d))) by
        exact lp_61 _ 0 (s_t2 (s_t1 d)) (Nat.lt_succ_self _) (by omega) rfl ⟨hVb, Sta.rf⟩
      intro n_61
      induction n_61 with
      | zero => intro kb eb h_; exact absurd h_ (Nat.not_lt_zero _)
      | succ n_61 ih_61 =>
        intro kb eb hn_61 hkb heb hob
        have hnb : eb 5 = (s_t2 (s_t1 d)) 5 := hob.n (by omega)
        have hbnb := hob.1.1
        refine j_rgd hM.dat rfl (fun hRb => ?_)
        refine j_iload_n 62 0 dX10_passTick_61 rfl rfl ?_
        refine j_aload_n 63 1 dX10_passTick_62 rfl rfl ?_
        refine j_getr 66 dX10_passTick_63 rfl fl_X10_17 hM.md rfl (fun _ _ => rfl) rfl ?_
        refine j_iconst 67 dX10_passTick_66 rfl ?_
        refine j_iald_d 68 5 dX10_passTick_67 rfl hM.dat rfl (by omega) (show 5 < 729 by omega) (fun r_67 => ?_)
        refine j_icmp_ge 71 123 dX10_passTick_68 rfl rfl (r32 (by omega) (by omega)) r_67 (fun c_68 => ?_) (fun c_68 => ?_)
        · have hxb : eb = (s_t3 (s_t2 (s_t1 d))) := by rw [heb]; unfold s_t3; rw [show kb = ((s_t2 (s_t1 d)) 5).toNat by omega]
          have hVc : Inv (s_t3 (s_t2 (s_t1 d))) := by rw [← hxb]; exact hob.1
          refine j_d hxb ?_
          refine j_iconst 124 dX10_passTick_123 rfl ?_
          refine j_istore_n 125 (L2 := [(1, .int (i32 (0))), (0, .ref (m))]) dX10_passTick_124 rfl rfl (Nat.le_of_ble_eq_true rfl) rfl ?_
          suffices lp_125 : ∀ (n_125 : Nat) (kc : Nat) (ec : Nat → Int), ((s_t3 (s_t2 (s_t1 d))) 1).toNat - kc < n_125 → kc ≤ ((s_t3 (s_t2 (s_t1 d))) 1).toNat → ec = itr s_marks (s_t3 (s_t2 (s_t1 d))) kc → Ok (s_t3 (s_t2 (s_t1 d))) ec → J w mX10_passTick 125 [(1, .int (i32 ((kc : Int)))), (0, .ref (m))] [] sh (upR g (m + 2) ec) 0 0 (dQ none sh (upR g (m + 2) (s_tick d))) by
            exact lp_125 _ 0 (s_t3 (s_t2 (s_t1 d))) (Nat.lt_succ_self _) (by omega) rfl ⟨hVc, Sta.rf⟩
          intro n_125
          induction n_125 with
          | zero => intro kc ec h_; exact absurd h_ (Nat.not_lt_zero _)
          | succ n_125 ih_125 =>
            intro kc ec hn_125 hkc hec hoc
            have hnc : ec 1 = (s_t3 (s_t2 (s_t1 d))) 1 := hoc.n (by omega)
            have hbnc := hoc.1.1
            refine j_rgd hM.dat rfl (fun hRc => ?_)
            refine j_iload_n 126 0 dX10_passTick_125 rfl rfl ?_
            refine j_aload_n 127 1 dX10_passTick_126 rfl rfl ?_
            refine j_getr 130 dX10_passTick_127 rfl fl_X10_17 hM.md rfl (fun _ _ => rfl) rfl ?_
            refine j_iconst 131 dX10_passTick_130 rfl ?_
            refine j_iald_d 132 1 dX10_passTick_131 rfl hM.dat rfl (by omega) (show 1 < 729 by omega) (fun r_131 => ?_)
            refine j_icmp_ge 135 146 dX10_passTick_132 rfl rfl (r32 (by omega) (by omega)) r_131 (fun c_132 => ?_) (fun c_132 => ?_)
            · have hxc : ec = (s_t4 (s_t3 (s_t2 (s_t1 d)))) := by rw [hec]; unfold s_t4; rw [show kc = ((s_t3 (s_t2 (s_t1 d))) 1).toNat by omega]
              have hVd : Inv (s_t4 (s_t3 (s_t2 (s_t1 d)))) := by rw [← hxc]; exact hoc.1
              refine j_d hxc ?_
              refine j_iconst 147 dX10_passTick_146 rfl ?_
              refine j_istore_n 148 (L2 := [(1, .int (i32 (0))), (0, .ref (m))]) dX10_passTick_147 rfl rfl (Nat.le_of_ble_eq_true rfl) rfl ?_
              suffices lp_148 : ∀ (n_148 : Nat) (kd : Nat) (ed : Nat → Int), ((s_t4 (s_t3 (s_t2 (s_t1 d)))) 0).toNat - kd < n_148 → kd ≤ ((s_t4 (s_t3 (s_t2 (s_t1 d)))) 0).toNat → ed = itr s_dials (s_t4 (s_t3 (s_t2 (s_t1 d)))) kd → Ok (s_t4 (s_t3 (s_t2 (s_t1 d)))) ed → J w mX10_passTick 148 [(1, .int (i32 ((kd : Int)))), (0, .ref (m))] [] sh (upR g (m + 2) ed) 0 0 (dQ none sh (upR g (m + 2) (s_tick d))) by
                exact lp_148 _ 0 (s_t4 (s_t3 (s_t2 (s_t1 d)))) (Nat.lt_succ_self _) (by omega) rfl ⟨hVd, Sta.rf⟩
              intro n_148
              induction n_148 with
              | zero => intro kd ed h_; exact absurd h_ (Nat.not_lt_zero _)
              | succ n_148 ih_148 =>
                intro kd ed hn_148 hkd hed hod
                have hnd : ed 0 = (s_t4 (s_t3 (s_t2 (s_t1 d)))) 0 := hod.n (by omega)
                have hbnd := hod.1.1
                refine j_rgd hM.dat rfl (fun hRd => ?_)
                refine j_iload_n 149 0 dX10_passTick_148 rfl rfl ?_
                refine j_aload_n 150 1 dX10_passTick_149 rfl rfl ?_
                refine j_getr 153 dX10_passTick_150 rfl fl_X10_17 hM.md rfl (fun _ _ => rfl) rfl ?_
                refine j_iconst 154 dX10_passTick_153 rfl ?_
                refine j_iald_d 155 0 dX10_passTick_154 rfl hM.dat rfl (by omega) (show 0 < 729 by omega) (fun r_154 => ?_)
                refine j_icmp_ge 158 169 dX10_passTick_155 rfl rfl (r32 (by omega) (by omega)) r_154 (fun c_155 => ?_) (fun c_155 => ?_)
                · have hxd : ed = (s_t5 (s_t4 (s_t3 (s_t2 (s_t1 d))))) := by rw [hed]; unfold s_t5; rw [show kd = ((s_t4 (s_t3 (s_t2 (s_t1 d)))) 0).toNat by omega]
                  have hVe : Inv (s_t5 (s_t4 (s_t3 (s_t2 (s_t1 d))))) := by rw [← hxd]; exact hod.1
                  refine j_d hxd ?_
                  refine j_iconst 170 dX10_passTick_169 rfl ?_
                  refine j_istore_n 171 (L2 := [(1, .int (i32 (0))), (0, .ref (m))]) dX10_passTick_170 rfl rfl (Nat.le_of_ble_eq_true rfl) rfl ?_
                  suffices lp_171 : ∀ (n_171 : Nat) (ke : Nat) (ee : Nat → Int), ((s_t5 (s_t4 (s_t3 (s_t2 (s_t1 d))))) 1).toNat - ke < n_171 → ke ≤ ((s_t5 (s_t4 (s_t3 (s_t2 (s_t1 d))))) 1).toNat → ee = itr s_takesMarker (s_t5 (s_t4 (s_t3 (s_t2 (s_t1 d))))) ke → Ok (s_t5 (s_t4 (s_t3 (s_t2 (s_t1 d))))) ee → J w mX10_passTick 171 [(1, .int (i32 ((ke : Int)))), (0, .ref (m))] [] sh (upR g (m + 2) ee) 0 0 (dQ none sh (upR g (m + 2) (s_tick d))) by
                    exact lp_171 _ 0 (s_t5 (s_t4 (s_t3 (s_t2 (s_t1 d))))) (Nat.lt_succ_self _) (by omega) rfl ⟨hVe, Sta.rf⟩
                  intro n_171
                  induction n_171 with
                  | zero => intro ke ee h_; exact absurd h_ (Nat.not_lt_zero _)
                  | succ n_171 ih_171 =>
                    intro ke ee hn_171 hke hee hoe
                    have hne : ee 1 = (s_t5 (s_t4 (s_t3 (s_t2 (s_t1 d))))) 1 := hoe.n (by omega)
                    have hbne := hoe.1.1
                    refine j_rgd hM.dat rfl (fun hRe => ?_)
                    refine j_iload_n 172 0 dX10_passTick_171 rfl rfl ?_
                    refine j_aload_n 173 1 dX10_passTick_172 rfl rfl ?_
                    refine j_getr 176 dX10_passTick_173 rfl fl_X10_17 hM.md rfl (fun _ _ => rfl) rfl ?_
                    refine j_iconst 177 dX10_passTick_176 rfl ?_
                    refine j_iald_d 178 1 dX10_passTick_177 rfl hM.dat rfl (by omega) (show 1 < 729 by omega) (fun r_177 => ?_)
                    refine j_icmp_ge 181 192 dX10_passTick_178 rfl rfl (r32 (by omega) (by omega)) r_177 (fun c_178 => ?_) (fun c_178 => ?_)
                    · have hxe : ee = (s_t6 (s_t5 (s_t4 (s_t3 (s_t2 (s_t1 d)))))) := by rw [hee]; unfold s_t6; rw [show ke = ((s_t5 (s_t4 (s_t3 (s_t2 (s_t1 d))))) 1).toNat by omega]
                      have hVf : Inv (s_t6 (s_t5 (s_t4 (s_t3 (s_t2 (s_t1 d)))))) := by rw [← hxe]; exact hoe.1
                      refine j_d hxe ?_
                      refine j_iconst 193 dX10_passTick_192 rfl ?_
                      refine j_istore_n 194 (L2 := [(1, .int (i32 (0))), (0, .ref (m))]) dX10_passTick_193 rfl rfl (Nat.le_of_ble_eq_true rfl) rfl ?_
                      suffices lp_194 : ∀ (n_194 : Nat) (kf : Nat) (ef : Nat → Int), ((s_t6 (s_t5 (s_t4 (s_t3 (s_t2 (s_t1 d)))))) 0).toNat - kf < n_194 → kf ≤ ((s_t6 (s_t5 (s_t4 (s_t3 (s_t2 (s_t1 d)))))) 0).toNat → ef = itr s_takesRegister (s_t6 (s_t5 (s_t4 (s_t3 (s_t2 (s_t1 d)))))) kf → Ok (s_t6 (s_t5 (s_t4 (s_t3 (s_t2 (s_t1 d)))))) ef → J w mX10_passTick 194 [(1, .int (i32 ((kf : Int)))), (0, .ref (m))] [] sh (upR g (m + 2) ef) 0 0 (dQ none sh (upR g (m + 2) (s_tick d))) by
                        exact lp_194 _ 0 (s_t6 (s_t5 (s_t4 (s_t3 (s_t2 (s_t1 d)))))) (Nat.lt_succ_self _) (by omega) rfl ⟨hVf, Sta.rf⟩
                      intro n_194
                      induction n_194 with
                      | zero => intro kf ef h_; exact absurd h_ (Nat.not_lt_zero _)
                      | succ n_194 ih_194 =>
                        intro kf ef hn_194 hkf hef hof
                        have hnf : ef 0 = (s_t6 (s_t5 (s_t4 (s_t3 (s_t2 (s_t1 d)))))) 0 := hof.n (by omega)
                        have hbnf := hof.1.1
                        refine j_rgd hM.dat rfl (fun hRf => ?_)
                        refine j_iload_n 195 0 dX10_passTick_194 rfl rfl ?_
                        refine j_aload_n 196 1 dX10_passTick_195 rfl rfl ?_
                        refine j_getr 199 dX10_passTick_196 rfl fl_X10_17 hM.md rfl (fun _ _ => rfl) rfl ?_
                        refine j_iconst 200 dX10_passTick_199 rfl ?_
                        refine j_iald_d 201 0 dX10_passTick_200 rfl hM.dat rfl (by omega) (show 0 < 729 by omega) (fun r_200 => ?_)
                        refine j_icmp_ge 204 215 dX10_passTick_201 rfl rfl (r32 (by omega) (by omega)) r_200 (fun c_201 => ?_) (fun c_201 => ?_)
                        · have hxf : ef = (s_t7 (s_t6 (s_t5 (s_t4 (s_t3 (s_t2 (s_t1 d))))))) := by rw [hef]; unfold s_t7; rw [show kf = ((s_t6 (s_t5 (s_t4 (s_t3 (s_t2 (s_t1 d)))))) 0).toNat by omega]
                          have hVh : Inv (s_t8 (s_t7 (s_t6 (s_t5 (s_t4 (s_t3 (s_t2 (s_t1 d)))))))) := inv_t8 (by rw [← hxf]; exact hof.1)
                          have hVg : Inv (s_t7 (s_t6 (s_t5 (s_t4 (s_t3 (s_t2 (s_t1 d))))))) := by rw [← hxf]; exact hof.1
                          refine j_d hxf ?_
                          refine j_rgd hM.dat rfl (fun hRg => ?_)
                          have hcl : s_cnt (s_t7 (s_t6 (s_t5 (s_t4 (s_t3 (s_t2 (s_t1 d))))))) 1 ≤ 40 := cnt_le _ 40
                          refine j_aload_n 216 1 dX10_passTick_215 rfl rfl ?_
                          refine j_getr 219 dX10_passTick_216 rfl fl_X10_17 hM.md rfl (fun _ _ => rfl) rfl ?_
                          refine j_bipush 221 dX10_passTick_219 rfl (by decide) ?_
                          refine j_aload_n 222 1 dX10_passTick_221 rfl rfl ?_
                          refine j_getr 225 dX10_passTick_222 rfl fl_X10_17 hM.md rfl (fun _ _ => rfl) rfl ?_
                          refine j_bipush 227 dX10_passTick_225 rfl (by decide) ?_
                          refine j_iald_d 228 24 dX10_passTick_227 rfl hM.dat rfl (by omega) (show 24 < 729 by omega) (fun r_227 => ?_)
                          refine j_aload_n 229 1 dX10_passTick_228 rfl rfl ?_
                          refine j_iconst 230 dX10_passTick_229 rfl ?_
                          refine j_callV 233 (As := [.int (i32 (1))]) (kc2 := 0) (ks2 := 0) dX10_passTick_230 rfl mvX10_callsThat lk_X10_227 hM.md rfl ⟨Nat.le_of_ble_eq_true rfl, rfl⟩ rfl rfl (Nat.le_of_ble_eq_true rfl) ⟨Nat.le_of_ble_eq_true rfl, Nat.le_of_ble_eq_true rfl⟩ ⟨Nat.le_of_ble_eq_true rfl, Nat.le_of_ble_eq_true rfl⟩ (r_callsThat hM (by have := hVg.1.2.2.2.2.2.1; omega) (x := 1) (r32 (by decide) (by decide))) x_d (k_d1 ?_)
                          refine j_callS 236 (As := [.int (i32 ((s_t7 (s_t6 (s_t5 (s_t4 (s_t3 (s_t2 (s_t1 d))))))) (24))), .int (i32 ((s_cnt (s_t7 (s_t6 (s_t5 (s_t4 (s_t3 (s_t2 (s_t1 d))))))) 1 : Int)))]) (kc2 := 0) (ks2 := 0) dX10_passTick_233 rfl msX10_max lk_X10_129 rfl rfl (Nat.le_of_ble_eq_true rfl) ⟨Nat.le_of_ble_eq_true rfl, Nat.le_of_ble_eq_true rfl⟩ ⟨Nat.le_of_ble_eq_true rfl, Nat.le_of_ble_eq_true rfl⟩ (r_max r_227 (r32 (by omega) (by omega))) x_d (k_d1 ?_)
                          refine j_iast_d 237 24 dX10_passTick_236 rfl hM.dat rfl (by omega) (show 24 < 729 by omega) (by have := hRg 24; split <;> exact ⟨by omega, by omega⟩) ?_
                          refine j_d (d2 := (s_t8 (s_t7 (s_t6 (s_t5 (s_t4 (s_t3 (s_t2 (s_t1 d))))))))) (rfl) ?_
                          refine j_iconst 238 dX10_passTick_237 rfl ?_
                          refine j_istore_n 239 (L2 := [(1, .int (i32 (0))), (0, .ref (m))]) dX10_passTick_238 rfl rfl (Nat.le_of_ble_eq_true rfl) rfl ?_
                          suffices lp_239 : ∀ (n_239 : Nat) (kh : Nat) (eh : Nat → Int), ((s_t8 (s_t7 (s_t6 (s_t5 (s_t4 (s_t3 (s_t2 (s_t1 d)))))))) 3).toNat - kh < n_239 → kh ≤ ((s_t8 (s_t7 (s_t6 (s_t5 (s_t4 (s_t3 (s_t2 (s_t1 d)))))))) 3).toNat → eh = itr f_sum (s_t8 (s_t7 (s_t6 (s_t5 (s_t4 (s_t3 (s_t2 (s_t1 d)))))))) kh → Ok (s_t8 (s_t7 (s_t6 (s_t5 (s_t4 (s_t3 (s_t2 (s_t1 d)))))))) eh → J w mX10_passTick 239 [(1, .int (i32 ((kh : Int)))), (0, .ref (m))] [] sh (upR g (m + 2) eh) 0 0 (dQ none sh (upR g (m + 2) (s_tick d))) by
                            exact lp_239 _ 0 (s_t8 (s_t7 (s_t6 (s_t5 (s_t4 (s_t3 (s_t2 (s_t1 d)))))))) (Nat.lt_succ_self _) (by omega) rfl ⟨hVh, Sta.rf⟩
                          intro n_239
                          induction n_239 with
                          | zero => intro kh eh h_; exact absurd h_ (Nat.not_lt_zero _)
                          | succ n_239 ih_239 =>
                            intro kh eh hn_239 hkh heh hoh
                            have hnh : eh 3 = (s_t8 (s_t7 (s_t6 (s_t5 (s_t4 (s_t3 (s_t2 (s_t1 d)))))))) 3 := hoh.n (by omega)
                            have hbnh := hoh.1.1
                            refine j_rgd hM.dat rfl (fun hRh => ?_)
                            refine j_iload_n 240 0 dX10_passTick_239 rfl rfl ?_
                            refine j_aload_n 241 1 dX10_passTick_240 rfl rfl ?_
                            refine j_getr 244 dX10_passTick_241 rfl fl_X10_17 hM.md rfl (fun _ _ => rfl) rfl ?_
                            refine j_iconst 245 dX10_passTick_244 rfl ?_
                            refine j_iald_d 246 3 dX10_passTick_245 rfl hM.dat rfl (by omega) (show 3 < 729 by omega) (fun r_245 => ?_)
                            refine j_icmp_ge 249 267 dX10_passTick_246 rfl rfl (r32 (by omega) (by omega)) r_245 (fun c_246 => ?_) (fun c_246 => ?_)
                            · have hxh : eh = s_tick d := by rw [heh]; unfold s_tick s_t9; rw [show kh = ((s_t8 (s_t7 (s_t6 (s_t5 (s_t4 (s_t3 (s_t2 (s_t1 d)))))))) 3).toNat by omega]
                              exact j_vret dX10_passTick_267 rfl (q_d hxh)
                            · have hk5 : kh < 5 := by have := hbnh.2.2.2.1; omega
                              have hih := inv_sum hoh.1 hk5
                              have hsh := sta_sum (d := eh) hk5
                              have hqh : f_sum eh kh = f_sum eh kh := rfl
                              refine j_aload_n 250 1 dX10_passTick_249 rfl rfl ?_
                              refine j_iload_n 251 0 dX10_passTick_250 rfl rfl ?_
                              refine j_bipush 253 dX10_passTick_251 rfl (by decide) ?_
                              refine j_aload_n 254 1 dX10_passTick_253 rfl rfl ?_
                              refine j_iload_n 255 0 dX10_passTick_254 rfl rfl ?_
                              refine j_callV 258 (As := [.int (i32 ((kh : Int)))]) (kc2 := 0) (ks2 := 0) dX10_passTick_255 rfl mvX10_busyTrunks lk_X10_213 hM.md rfl ⟨Nat.le_of_ble_eq_true rfl, rfl⟩ rfl rfl (Nat.le_of_ble_eq_true rfl) ⟨Nat.le_of_ble_eq_true rfl, Nat.le_of_ble_eq_true rfl⟩ ⟨Nat.le_of_ble_eq_true rfl, Nat.le_of_ble_eq_true rfl⟩ (r_busyTrunks hM (by have := hbnh.2.2.2.2.2.1; omega) (x := (kh : Int)) (r32 (by omega) (by omega))) x_d (k_d1 ?_)
                              refine j_callV 261 (As := [.int (i32 ((kh : Int))), .int (i32 (6)), .int (i32 ((s_busyTrunks eh (kh : Int) : Int)))]) (kc2 := 0) (ks2 := 0) dX10_passTick_258 rfl mvX10_addGroup lk_X10_242 hM.md rfl ⟨Nat.le_of_ble_eq_true rfl, rfl⟩ rfl rfl (Nat.le_of_ble_eq_true rfl) ⟨Nat.le_of_ble_eq_true rfl, Nat.le_of_ble_eq_true rfl⟩ ⟨Nat.le_of_ble_eq_true rfl, Nat.le_of_ble_eq_true rfl⟩ (r_addGroup hM kh 6 rfl rfl hk5 (by decide)) x_d (k_d0 ?_)
                              refine j_iinc 264 0 (y := ((kh + 1 : Nat) : Int)) (L2 := [(1, .int (i32 (((kh + 1 : Nat) : Int)))), (0, .ref (m))]) dX10_passTick_261 rfl rfl (by omega) (Nat.le_of_ble_eq_true rfl) rfl ?_
                              refine j_goto 239 dX10_passTick_264 rfl ?_
                              exact ih_239 (kh + 1) (f_sum eh kh) (by omega) (by omega) (hqh.trans (by rw [heh]; rfl)) (by rw [hqh]; exact ⟨hih, hoh.2.tr hsh⟩)
                        · have hk3 : kf < 4 := by have := hbnf.1; omega
                          have hif := inv_takeReg hof.1 hk3 (by omega)
                          have hsf := sta_takeR (d := ef) hk3
                          have hqf : s_takesRegister ef kf = s_takesRegister ef kf := rfl
                          refine j_aload_n 205 1 dX10_passTick_204 rfl rfl ?_
                          refine j_iload_n 206 0 dX10_passTick_205 rfl rfl ?_
                          refine j_callV 209 (As := [.int (i32 ((kf : Int)))]) (kc2 := 0) (ks2 := 0) dX10_passTick_206 rfl mvX10_takesRegister lk_X10_273 hM.md rfl ⟨Nat.le_of_ble_eq_true rfl, rfl⟩ rfl rfl (Nat.le_of_ble_eq_true rfl) ⟨Nat.le_of_ble_eq_true rfl, Nat.le_of_ble_eq_true rfl⟩ ⟨Nat.le_of_ble_eq_true rfl, Nat.le_of_ble_eq_true rfl⟩ (r_takesRegister hM kf rfl hk3 (by have := hbnf.2.2.2.2.2.1; omega)) x_d (k_d0 ?_)
                          refine j_iinc 212 0 (y := ((kf + 1 : Nat) : Int)) (L2 := [(1, .int (i32 (((kf + 1 : Nat) : Int)))), (0, .ref (m))]) dX10_passTick_209 rfl rfl (by omega) (Nat.le_of_ble_eq_true rfl) rfl ?_
                          refine j_goto 194 dX10_passTick_212 rfl ?_
                          exact ih_194 (kf + 1) (s_takesRegister ef kf) (by omega) (by omega) (hqf.trans (by rw [hef]; rfl)) (by rw [hqf]; exact ⟨hif, hof.2.tr hsf⟩)
                    · have hk3 : ke < 3 := by have := hbne.2.1; omega
                      have hie := inv_takeMark hoe.1 hk3 (by omega)
                      have hse := sta_takeM (d := ee) hk3
                      have hqe : s_takesMarker ee ke = s_takesMarker ee ke := rfl
                      refine j_aload_n 182 1 dX10_passTick_181 rfl rfl ?_
                      refine j_iload_n 183 0 dX10_passTick_182 rfl rfl ?_
                      refine j_callV 186 (As := [.int (i32 ((ke : Int)))]) (kc2 := 0) (ks2 := 0) dX10_passTick_183 rfl mvX10_takesMarker lk_X10_270 hM.md rfl ⟨Nat.le_of_ble_eq_true rfl, rfl⟩ rfl rfl (Nat.le_of_ble_eq_true rfl) ⟨Nat.le_of_ble_eq_true rfl, Nat.le_of_ble_eq_true rfl⟩ ⟨Nat.le_of_ble_eq_true rfl, Nat.le_of_ble_eq_true rfl⟩ (r_takesMarker hM ke rfl hk3 (by have := hbne.2.2.2.2.2.1; omega)) x_d (k_d0 ?_)
                      refine j_iinc 189 0 (y := ((ke + 1 : Nat) : Int)) (L2 := [(1, .int (i32 (((ke + 1 : Nat) : Int)))), (0, .ref (m))]) dX10_passTick_186 rfl rfl (by omega) (Nat.le_of_ble_eq_true rfl) rfl ?_
                      refine j_goto 171 dX10_passTick_189 rfl ?_
                      exact ih_171 (ke + 1) (s_takesMarker ee ke) (by omega) (by omega) (hqe.trans (by rw [hee]; rfl)) (by rw [hqe]; exact ⟨hie, hoe.2.tr hse⟩)
                · have hk3 : kd < 4 := by have := hbnd.1; omega
                  have hid := inv_dials hod.1 hk3
                  have hsd := sta_dials hod.1 hk3
                  have hqd : s_dials ed kd = s_dials ed kd := rfl
                  refine j_aload_n 159 1 dX10_passTick_158 rfl rfl ?_
                  refine j_iload_n 160 0 dX10_passTick_159 rfl rfl ?_
                  refine j_callV 163 (As := [.int (i32 ((kd : Int)))]) (kc2 := 0) (ks2 := 0) dX10_passTick_160 rfl mvX10_dials lk_X10_267 hM.md rfl ⟨Nat.le_of_ble_eq_true rfl, rfl⟩ rfl rfl (Nat.le_of_ble_eq_true rfl) ⟨Nat.le_of_ble_eq_true rfl, Nat.le_of_ble_eq_true rfl⟩ ⟨Nat.le_of_ble_eq_true rfl, Nat.le_of_ble_eq_true rfl⟩ (r_dials hM kd rfl hk3 hbnd (pre_dials hod.1 hk3)) x_d (k_d0 ?_)
                  refine j_iinc 166 0 (y := ((kd + 1 : Nat) : Int)) (L2 := [(1, .int (i32 (((kd + 1 : Nat) : Int)))), (0, .ref (m))]) dX10_passTick_163 rfl rfl (by omega) (Nat.le_of_ble_eq_true rfl) rfl ?_
                  refine j_goto 148 dX10_passTick_166 rfl ?_
                  exact ih_148 (kd + 1) (s_dials ed kd) (by omega) (by omega) (hqd.trans (by rw [hed]; rfl)) (by rw [hqd]; exact ⟨hid, hod.2.tr hsd⟩)
            · have hk3 : kc < 3 := by have := hbnc.2.1; omega
              have hic := inv_marks hoc.1 hk3
              have hsc := sta_marks hoc.1 hk3
              have hpm := pre_marks hoc.1 hk3
              have hqc : s_marks ec kc = s_marks ec kc := rfl
              refine j_aload_n 136 1 dX10_passTick_135 rfl rfl ?_
              refine j_iload_n 137 0 dX10_passTick_136 rfl rfl ?_
              refine j_callV 140 (As := [.int (i32 ((kc : Int)))]) (kc2 := 0) (ks2 := 0) dX10_passTick_137 rfl mvX10_marks lk_X10_264 hM.md rfl ⟨Nat.le_of_ble_eq_true rfl, rfl⟩ rfl rfl (Nat.le_of_ble_eq_true rfl) ⟨Nat.le_of_ble_eq_true rfl, Nat.le_of_ble_eq_true rfl⟩ ⟨Nat.le_of_ble_eq_true rfl, Nat.le_of_ble_eq_true rfl⟩ (r_marks hM kc rfl hk3 hbnc hpm.1 hpm.2.1 hpm.2.2) x_d (k_d0 ?_)
              refine j_iinc 143 0 (y := ((kc + 1 : Nat) : Int)) (L2 := [(1, .int (i32 (((kc + 1 : Nat) : Int)))), (0, .ref (m))]) dX10_passTick_140 rfl rfl (by omega) (Nat.le_of_ble_eq_true rfl) rfl ?_
              refine j_goto 125 dX10_passTick_143 rfl ?_
              exact ih_125 (kc + 1) (s_marks ec kc) (by omega) (by omega) (hqc.trans (by rw [hec]; rfl)) (by rw [hqc]; exact ⟨hic, hoc.2.tr hsc⟩)
        · have hc5 : (kb : Int) < eb 5 := by omega
          have hk40 : kb < 40 := by have := hbnb.2.2.2.2.2.1; omega
          have hib := inv_talk hob.1 (hRb _) hc5
          have hsb : Sta eb (f_talk eb kb) := sta_ftalk
          have hl5 := (hob.1.2.2.2.1 kb hc5).2.1
          have hr5 := hRb (178 + 14 * kb)
          refine j_aload_n 72 1 dX10_passTick_71 rfl rfl ?_
          refine j_iload_n 73 0 dX10_passTick_72 rfl rfl ?_
          refine j_iconst 74 dX10_passTick_73 rfl ?_
          refine j_callV 77 (As := [.int (i32 ((kb : Int))), .int (i32 (4))]) (kc2 := 0) (ks2 := 0) dX10_passTick_74 rfl mvX10_of lk_X10_192 hM.md rfl ⟨Nat.le_of_ble_eq_true rfl, rfl⟩ rfl rfl (Nat.le_of_ble_eq_true rfl) ⟨Nat.le_of_ble_eq_true rfl, Nat.le_of_ble_eq_true rfl⟩ ⟨Nat.le_of_ble_eq_true rfl, Nat.le_of_ble_eq_true rfl⟩ (r_of hM kb 4 (173 + 14 * kb) rfl rfl (by omega) (by omega) (by decide)) x_d (k_d1 ?_)
          refine j_iconst 78 dX10_passTick_77 rfl ?_
          refine j_icmp_eq 81 84 dX10_passTick_78 rfl rfl (hRb _) (r32 (by decide) (by decide)) (fun c_78 => ?_) (fun c_78 => ?_)
          · have hl1 := hl5 c_78
            have hbm : bm (eb (178 + 14 * kb) - 1) = eb (178 + 14 * kb) - 1 := bm_id ⟨by omega, by omega⟩
            refine j_aload_n 85 1 dX10_passTick_84 rfl rfl ?_
            refine j_iload_n 86 0 dX10_passTick_85 rfl rfl ?_
            refine j_bipush 88 dX10_passTick_86 rfl (by decide) ?_
            refine j_aload_n 89 1 dX10_passTick_88 rfl rfl ?_
            refine j_iload_n 90 0 dX10_passTick_89 rfl rfl ?_
            refine j_bipush 92 dX10_passTick_90 rfl (by decide) ?_
            refine j_callV 95 (As := [.int (i32 ((kb : Int))), .int (i32 (9))]) (kc2 := 0) (ks2 := 0) dX10_passTick_92 rfl mvX10_of lk_X10_192 hM.md rfl ⟨Nat.le_of_ble_eq_true rfl, rfl⟩ rfl rfl (Nat.le_of_ble_eq_true rfl) ⟨Nat.le_of_ble_eq_true rfl, Nat.le_of_ble_eq_true rfl⟩ ⟨Nat.le_of_ble_eq_true rfl, Nat.le_of_ble_eq_true rfl⟩ (r_of hM kb 9 (178 + 14 * kb) rfl rfl (by omega) (by omega) (by decide)) x_d (k_d1 ?_)
            refine j_iconst 96 dX10_passTick_95 rfl ?_
            refine j_isub 97 dX10_passTick_96 rfl ?_
            refine j_callV 100 (As := [.int (i32 ((kb : Int))), .int (i32 (9)), .int (i32 ((eb (178 + 14 * kb)) - (1)))]) (kc2 := 0) (ks2 := 0) dX10_passTick_97 rfl mvX10_set lk_X10_220 hM.md rfl ⟨Nat.le_of_ble_eq_true rfl, rfl⟩ rfl rfl (Nat.le_of_ble_eq_true rfl) ⟨Nat.le_of_ble_eq_true rfl, Nat.le_of_ble_eq_true rfl⟩ ⟨Nat.le_of_ble_eq_true rfl, Nat.le_of_ble_eq_true rfl⟩ (r_set hM kb 9 (178 + 14 * kb) rfl rfl (by omega) (by omega) (by decide) (r32 (by omega) (by omega))) x_d (k_d0 ?_)
            refine j_aload_n 101 1 dX10_passTick_100 rfl rfl ?_
            refine j_iload_n 102 0 dX10_passTick_101 rfl rfl ?_
            refine j_bipush 104 dX10_passTick_102 rfl (by decide) ?_
            refine j_callV 107 (As := [.int (i32 ((kb : Int))), .int (i32 (9))]) (kc2 := 0) (ks2 := 0) dX10_passTick_104 rfl mvX10_of lk_X10_192 hM.md rfl ⟨Nat.le_of_ble_eq_true rfl, rfl⟩ rfl rfl (Nat.le_of_ble_eq_true rfl) ⟨Nat.le_of_ble_eq_true rfl, Nat.le_of_ble_eq_true rfl⟩ ⟨Nat.le_of_ble_eq_true rfl, Nat.le_of_ble_eq_true rfl⟩ (r_of hM kb 9 (178 + 14 * kb) rfl rfl (by omega) (by omega) (by decide)) x_d (k_d1 ?_)
            refine j_top (y := eb (178 + 14 * kb) - 1) ud_s ?_
            refine j_if_ne 110 117 dX10_passTick_107 rfl rfl (r32 (by omega) (by omega)) (fun c_107 => ?_) (fun c_107 => ?_)
            · have hqb : ud eb (178 + 14 * kb) (eb (178 + 14 * kb) - 1) = f_talk eb kb := by unfold f_talk s_talk1; rw [if_pos c_78, hbm, if_neg c_107]
              refine j_iinc 120 0 (y := ((kb + 1 : Nat) : Int)) (L2 := [(1, .int (i32 (((kb + 1 : Nat) : Int)))), (0, .ref (m))]) dX10_passTick_117 rfl rfl (by omega) (Nat.le_of_ble_eq_true rfl) rfl ?_
              refine j_goto 61 dX10_passTick_120 rfl ?_
              exact ih_61 (kb + 1) (ud eb (178 + 14 * kb) (eb (178 + 14 * kb) - 1)) (by omega) (by omega) (hqb.trans (by rw [heb]; rfl)) (by rw [hqb]; exact ⟨hib, hob.2.tr hsb⟩)
            · have hqb : s_isOver (ud eb (178 + 14 * kb) (eb (178 + 14 * kb) - 1)) kb 6 = f_talk eb kb := by unfold f_talk s_talk1; rw [if_pos c_78, hbm, if_pos c_107]
              refine j_aload_n 111 1 dX10_passTick_110 rfl rfl ?_
              refine j_iload_n 112 0 dX10_passTick_111 rfl rfl ?_
              refine j_bipush 114 dX10_passTick_112 rfl (by decide) ?_
              refine j_callV 117 (As := [.int (i32 ((kb : Int))), .int (i32 (6))]) (kc2 := 0) (ks2 := 0) dX10_passTick_114 rfl mvX10_isOver lk_X10_230 hM.md rfl ⟨Nat.le_of_ble_eq_true rfl, rfl⟩ rfl rfl (Nat.le_of_ble_eq_true rfl) ⟨Nat.le_of_ble_eq_true rfl, Nat.le_of_ble_eq_true rfl⟩ ⟨Nat.le_of_ble_eq_true rfl, Nat.le_of_ble_eq_true rfl⟩ (r_isOver hM kb rfl hk40 (y := 6) (r32 (by decide) (by decide))) x_d (k_d0 ?_)
              refine j_iinc 120 0 (y := ((kb + 1 : Nat) : Int)) (L2 := [(1, .int (i32 (((kb + 1 : Nat) : Int)))), (0, .ref (m))]) dX10_passTick_117 rfl rfl (by omega) (Nat.le_of_ble_eq_true rfl) rfl ?_
              refine j_goto 61 dX10_passTick_120 rfl ?_
              exact ih_61 (kb + 1) (s_isOver (ud eb (178 + 14 * kb) (eb (178 + 14 * kb) - 1)) kb 6) (by omega) (by omega) (hqb.trans (by rw [heb]; rfl)) (by rw [hqb]; exact ⟨hib, hob.2.tr hsb⟩)
          · have hqb : eb = f_talk eb kb := by unfold f_talk; rw [if_neg c_78]
            refine j_goto 117 dX10_passTick_81 rfl ?_
            refine j_iinc 120 0 (y := ((kb + 1 : Nat) : Int)) (L2 := [(1, .int (i32 (((kb + 1 : Nat) : Int)))), (0, .ref (m))]) dX10_passTick_117 rfl rfl (by omega) (Nat.le_of_ble_eq_true rfl) rfl ?_
            refine j_goto 61 dX10_passTick_120 rfl ?_
            exact ih_61 (kb + 1) eb (by omega) (by omega) (hqb.trans (by rw [heb]; rfl)) (by rw [hqb]; exact ⟨hib, hob.2.tr hsb⟩)
    · have hc5 : (ka : Int) < ea 5 := by omega
      have hk40 : ka < 40 := by have := hbna.2.2.2.2.2.1; omega
      have hia := inv_come hoa.1 hc5
      have hsa : Sta ea (f_come ea ka) := sta_fcome
      refine j_aload_n 24 1 dX10_passTick_23 rfl rfl ?_
      refine j_iload_n 25 0 dX10_passTick_24 rfl rfl ?_
      refine j_iconst 26 dX10_passTick_25 rfl ?_
      refine j_callV 29 (As := [.int (i32 ((ka : Int))), .int (i32 (4))]) (kc2 := 0) (ks2 := 0) dX10_passTick_26 rfl mvX10_of lk_X10_192 hM.md rfl ⟨Nat.le_of_ble_eq_true rfl, rfl⟩ rfl rfl (Nat.le_of_ble_eq_true rfl) ⟨Nat.le_of_ble_eq_true rfl, Nat.le_of_ble_eq_true rfl⟩ ⟨Nat.le_of_ble_eq_true rfl, Nat.le_of_ble_eq_true rfl⟩ (r_of hM ka 4 (173 + 14 * ka) rfl rfl (by omega) (by omega) (by decide)) x_d (k_d1 ?_)
      refine j_if_ne 32 53 dX10_passTick_29 rfl rfl (hRa _) (fun c_29 => ?_) (fun c_29 => ?_)
      · have hqa : ea = f_come ea ka := by unfold f_come; rw [if_neg (fun h => c_29 h.1)]
        refine j_iinc 56 0 (y := ((ka + 1 : Nat) : Int)) (L2 := [(1, .int (i32 (((ka + 1 : Nat) : Int)))), (0, .ref (m))]) dX10_passTick_53 rfl rfl (by omega) (Nat.le_of_ble_eq_true rfl) rfl ?_
        refine j_goto 13 dX10_passTick_56 rfl ?_
        exact ih_13 (ka + 1) ea (by omega) (by omega) (hqa.trans (by rw [hea]; rfl)) (by rw [hqa]; exact ⟨hia, hoa.2.tr hsa⟩)
      · refine j_aload_n 33 1 dX10_passTick_32 rfl rfl ?_
        refine j_iload_n 34 0 dX10_passTick_33 rfl rfl ?_
        refine j_iconst 35 dX10_passTick_34 rfl ?_
        refine j_callV 38 (As := [.int (i32 ((ka : Int))), .int (i32 (3))]) (kc2 := 0) (ks2 := 0) dX10_passTick_35 rfl mvX10_of lk_X10_192 hM.md rfl ⟨Nat.le_of_ble_eq_true rfl, rfl⟩ rfl rfl (Nat.le_of_ble_eq_true rfl) ⟨Nat.le_of_ble_eq_true rfl, Nat.le_of_ble_eq_true rfl⟩ ⟨Nat.le_of_ble_eq_true rfl, Nat.le_of_ble_eq_true rfl⟩ (r_of hM ka 3 (172 + 14 * ka) rfl rfl (by omega) (by omega) (by decide)) x_d (k_d1 ?_)
        refine j_aload_n 39 1 dX10_passTick_38 rfl rfl ?_
        refine j_getr 42 dX10_passTick_39 rfl fl_X10_17 hM.md rfl (fun _ _ => rfl) rfl ?_
        refine j_bipush 44 dX10_passTick_42 rfl (by decide) ?_
        refine j_iald_d 45 6 dX10_passTick_44 rfl hM.dat rfl (by omega) (show 6 < 729 by omega) (fun r_44 => ?_)
        refine j_icmp_ne 48 53 dX10_passTick_45 rfl rfl (hRa _) r_44 (fun c_45 => ?_) (fun c_45 => ?_)
        · have hqa : ea = f_come ea ka := by unfold f_come; rw [if_neg (fun h => c_45 h.2)]
          refine j_iinc 56 0 (y := ((ka + 1 : Nat) : Int)) (L2 := [(1, .int (i32 (((ka + 1 : Nat) : Int)))), (0, .ref (m))]) dX10_passTick_53 rfl rfl (by omega) (Nat.le_of_ble_eq_true rfl) rfl ?_
          refine j_goto 13 dX10_passTick_56 rfl ?_
          exact ih_13 (ka + 1) ea (by omega) (by omega) (hqa.trans (by rw [hea]; rfl)) (by rw [hqa]; exact ⟨hia, hoa.2.tr hsa⟩)
        · have hqa : s_comes ea ka = f_come ea ka := by unfold f_come; rw [if_pos ⟨c_29, c_45⟩]
          refine j_aload_n 49 1 dX10_passTick_48 rfl rfl ?_
          refine j_iload_n 50 0 dX10_passTick_49 rfl rfl ?_
          refine j_callV 53 (As := [.int (i32 ((ka : Int)))]) (kc2 := 0) (ks2 := 0) dX10_passTick_50 rfl mvX10_comes lk_X10_261 hM.md rfl ⟨Nat.le_of_ble_eq_true rfl, rfl⟩ rfl rfl (Nat.le_of_ble_eq_true rfl) ⟨Nat.le_of_ble_eq_true rfl, Nat.le_of_ble_eq_true rfl⟩ ⟨Nat.le_of_ble_eq_true rfl, Nat.le_of_ble_eq_true rfl⟩ (r_comes hM ka rfl hk40 (by have := hbna.2.2.2.2.2.1; omega)) x_d (k_d0 ?_)
          refine j_iinc 56 0 (y := ((ka + 1 : Nat) : Int)) (L2 := [(1, .int (i32 (((ka + 1 : Nat) : Int)))), (0, .ref (m))]) dX10_passTick_53 rfl rfl (by omega) (Nat.le_of_ble_eq_true rfl) rfl ?_
          refine j_goto 13 dX10_passTick_56 rfl ?_
          exact ih_13 (ka + 1) (s_comes ea ka) (by omega) (by omega) (hqa.trans (by rw [hea]; rfl)) (by rw [hqa]; exact ⟨hia, hoa.2.tr hsa⟩)
