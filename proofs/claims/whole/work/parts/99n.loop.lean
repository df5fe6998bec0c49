/-! the law's loop -/
theorem LI.up {B n : Nat} {sh : Shp} {g : Mem} (h : LI B n sh g) : LI B (n + 1) sh g := by
  obtain ⟨hS, d, hist, c, hL⟩ := h
  exact ⟨hS, d, hist, c, hL.ask (Nat.le_succ _) Ask.rf⟩
set_option maxRecDepth 20000 in
theorem law_loop {w : Wd} {B : Nat} (h3 : sL w ≤ 3072) : ∀ (r n : Nat) (sh : Shp) (g : Mem), LI B n sh g → n + r = 512 → J w mLaw 28 (LL w B (6 * n)) [] sh g (600 * r) (4000 * r) QL := by
  intro r
  induction r with
  | zero =>
    intro n sh g hI hr
    show J w mLaw 28 [(0, .ref (w.2.1 300)), (1, .ref B), (2, .ref (B + 831)), (3, .ref (B + 845)), (4, .ref (B + 846)), (5, .int (i32 ((6 * n : Nat) : Int)))] [] sh g _ _ QL
    refine j_iload 30 5 dL_law_28 rfl rfl ?_
    refine j_aload_n 31 0 dL_law_30 rfl rfl ?_
    refine j_slenL 32 dL_law_31 rfl ?_
    refine j_bipush 34 dL_law_32 rfl (by decide) ?_
    refine j_isub 35 dL_law_34 rfl ?_
    refine j_icmp_gt 38 1418 dL_law_35 rfl rfl (r32 (by omega) (by omega)) (r32 (by omega) (by omega)) (fun q => ?_) (fun q => absurd q (by omega))
    refine j_iconst 1419 dL_law_1418 rfl ?_
    exact j_zret dL_law_1419 rfl (Or.inr rfl) rfl
  | succ r ih =>
    intro n sh g hI hr
    show J w mLaw 28 [(0, .ref (w.2.1 300)), (1, .ref B), (2, .ref (B + 831)), (3, .ref (B + 845)), (4, .ref (B + 846)), (5, .int (i32 ((6 * n : Nat) : Int)))] [] sh g _ _ QL
    refine j_iload 30 5 dL_law_28 rfl rfl ?_
    refine j_aload_n 31 0 dL_law_30 rfl rfl ?_
    refine j_slenL 32 dL_law_31 rfl ?_
    refine j_bipush 34 dL_law_32 rfl (by decide) ?_
    refine j_isub 35 dL_law_34 rfl ?_
    have hn : n ≤ 600 := by omega
    refine j_icmp_gt 38 1418 dL_law_35 rfl rfl (r32 (by omega) (by omega)) (r32 (by omega) (by omega)) (fun q => ?_) (fun q => ?_)
    · refine j_iconst 1419 dL_law_1418 rfl ?_
      exact j_zret dL_law_1419 rfl (Or.inr rfl) rfl
    have hi : 6 * n + 6 ≤ sL w := by omega
    have kk : ∀ sh2 g2, LI B (n + 1) sh2 g2 → J w mLaw 1412 (LL w B (6 * n)) [] sh2 g2 (600 * r) (4000 * r) QL := by
      intro sh2 g2 hI2
      show J w mLaw 1412 [(0, .ref (w.2.1 300)), (1, .ref B), (2, .ref (B + 831)), (3, .ref (B + 845)), (4, .ref (B + 846)), (5, .int (i32 ((6 * n : Nat) : Int)))] [] sh2 g2 _ _ QL
      refine j_iinc 1415 5 (x := ((6 * n : Nat) : Int)) (y := ((6 * (n + 1) : Nat) : Int)) (L2 := [(5, .int (i32 ((6 * (n + 1) : Nat) : Int))), (0, .ref (w.2.1 300)), (1, .ref B), (2, .ref (B + 831)), (3, .ref (B + 845)), (4, .ref (B + 846))]) dL_law_1412 rfl rfl (by omega) (Nat.le_of_ble_eq_true rfl) rfl ?_
      refine j_goto 28 dL_law_1415 rfl ?_
      exact j_sub [1, 2, 3, 4, 5, 0] rfl (ih (n + 1) sh2 g2 hI2 (by omega))
    obtain ⟨hS, d, hist, c, hL⟩ := hI
    rw [show 600 * (r + 1) = 600 * r + 600 by omega, show 4000 * (r + 1) = 4000 * r + 4000 by omega]
    refine j_aload_n 39 0 dL_law_38 rfl rfl ?_
    refine j_iload 41 5 dL_law_39 rfl rfl ?_
    refine j_scr 42 dL_law_41 rfl rfl (k := 6 * n) (by omega) h3 ?_
    refine j_bipush 44 dL_law_42 rfl (by decide) ?_
    refine j_iand 45 dL_law_44 rfl ?_
    obtain ⟨v, hv, hev⟩ := and31 (i32 (sv w (6 * n)))
    rw [hev]
    refine j_pi (a := B + 831 + 2) (lsMd hS).dat rfl (fun h9 => ?_)
    rw [lm_d hL] at h9
    have hP : PI d := ⟨hL.1.2.1, h9⟩
    by_cases hv2 : v ≤ 22
    case neg =>
      refine j_tabOut 1412 dL_law_45 (r32 (by omega) (by omega)) (Or.inr (by omega)) rfl ?_
      exact j_widen (by omega) (by omega) (kk sh g ⟨hS, d, hist, c, hL.ask (Nat.le_succ _) Ask.rf⟩)
    have hv3 : v = 0 ∨ v = 1 ∨ v = 2 ∨ v = 3 ∨ v = 4 ∨ v = 5 ∨ v = 6 ∨ v = 7 ∨ v = 8 ∨ v = 9 ∨ v = 10 ∨ v = 11 ∨ v = 12 ∨ v = 13 ∨ v = 14 ∨ v = 15 ∨ v = 16 ∨ v = 17 ∨ v = 18 ∨ v = 19 ∨ v = 20 ∨ v = 21 ∨ v = 22 := by omega
    rcases hv3 with rfl | rfl | rfl | rfl | rfl | rfl | rfl | rfl | rfl | rfl | rfl | rfl | rfl | rfl | rfl | rfl | rfl | rfl | rfl | rfl | rfl | rfl | rfl
    · refine j_tabIn 152 dL_law_45 (r32 (by decide) (by decide)) (by decide) (by decide) (off := 107) rfl rfl ?_
      exact w_append hS (o_append hS hL sv_r sv_r sv_r sv_r sv_r) hi h3 kk
    · refine j_tabIn 225 dL_law_45 (r32 (by decide) (by decide)) (by decide) (by decide) (off := 180) rfl rfl ?_
      exact w_load (o_load hS hL  sv_r) hi h3 kk
    · refine j_tabIn 281 dL_law_45 (r32 (by decide) (by decide)) (by decide) (by decide) (off := 236) rfl rfl ?_
      exact w_errorOffset hS (o_errorOffset hS hL) hi h3 kk
    · refine j_tabIn 294 dL_law_45 (r32 (by decide) (by decide)) (by decide) (by decide) (off := 249) rfl rfl ?_
      exact w_state (o_state hS hL  sv_r) hi h3 kk
    · refine j_tabIn 350 dL_law_45 (r32 (by decide) (by decide)) (by decide) (by decide) (off := 305) rfl rfl ?_
      exact w_line (o_line hS hL  sv_r sv_r) hi h3 kk
    · refine j_tabIn 418 dL_law_45 (r32 (by decide) (by decide)) (by decide) (by decide) (off := 373) rfl rfl ?_
      exact w_group (o_group hS hL  sv_r sv_r) hi h3 kk
    · refine j_tabIn 486 dL_law_45 (r32 (by decide) (by decide)) (by decide) (by decide) (off := 441) rfl rfl ?_
      exact w_register (o_register hS hL  sv_r sv_r) hi h3 kk
    · refine j_tabIn 554 dL_law_45 (r32 (by decide) (by decide)) (by decide) (by decide) (off := 509) rfl rfl ?_
      exact w_marker (o_marker hS hL  sv_r sv_r) hi h3 kk
    · refine j_tabIn 622 dL_law_45 (r32 (by decide) (by decide)) (by decide) (by decide) (off := 577) rfl rfl ?_
      exact w_call (o_call hS hL  sv_r sv_r) hi h3 kk
    · refine j_tabIn 690 dL_law_45 (r32 (by decide) (by decide)) (by decide) (by decide) (off := 645) rfl rfl ?_
      exact w_digit (o_digit hS hL  sv_r sv_r) hi h3 kk
    · refine j_tabIn 758 dL_law_45 (r32 (by decide) (by decide)) (by decide) (by decide) (off := 713) rfl rfl ?_
      exact w_look (o_look hS hL  sv_r sv_r) hi h3 kk
    · refine j_tabIn 826 dL_law_45 (r32 (by decide) (by decide)) (by decide) (by decide) (off := 781) rfl rfl ?_
      by_cases hz : sv w (6 * n + 1) = 0
      · exact w_foremost0 hS hz (o_foremost hS hL (b := 0) (r32 (by decide) (by decide))) hi h3 kk
      · exact w_foremost1 hS hz (o_foremost hS hL (b := 1) (r32 (by decide) (by decide))) hi h3 kk
    · refine j_tabIn 867 dL_law_45 (r32 (by decide) (by decide)) (by decide) (by decide) (off := 822) rfl rfl ?_
      exact w_overIn (o_overIn hS hL hP sv_r) hi h3 kk
    · refine j_tabIn 923 dL_law_45 (r32 (by decide) (by decide)) (by decide) (by decide) (off := 878) rfl rfl ?_
      exact w_foretold (o_foretold hS hL hP sv_r sv_r) hi h3 kk
    · refine j_tabIn 991 dL_law_45 (r32 (by decide) (by decide)) (by decide) (by decide) (off := 946) rfl rfl ?_
      exact w_bestGuard hS (o_bestGuard hS hL hP) hi h3 kk
    · refine j_tabIn 1004 dL_law_45 (r32 (by decide) (by decide)) (by decide) (by decide) (off := 959) rfl rfl ?_
      exact w_service hS (o_service hS hL) hi h3 kk
    · refine j_tabIn 1047 dL_law_45 (r32 (by decide) (by decide)) (by decide) (by decide) (off := 1002) rfl rfl ?_
      exact w_traffic (o_traffic hS hL hn sv_r) hi h3 kk
    · refine j_tabIn 1125 dL_law_45 (r32 (by decide) (by decide)) (by decide) (by decide) (off := 1080) rfl rfl ?_
      exact w_dial (o_dial hS hL hP sv_r sv_r sv_r) hi h3 kk
    · refine j_tabIn 1205 dL_law_45 (r32 (by decide) (by decide)) (by decide) (by decide) (off := 1160) rfl rfl ?_
      exact w_hang (o_hang hS hL hP sv_r) hi h3 kk
    · refine j_tabIn 1261 dL_law_45 (r32 (by decide) (by decide)) (by decide) (by decide) (off := 1216) rfl rfl ?_
      exact w_rule (o_rule hS hL hP sv_r sv_r) hi h3 kk
    · refine j_tabIn 1329 dL_law_45 (r32 (by decide) (by decide)) (by decide) (by decide) (off := 1284) rfl rfl ?_
      exact w_pass (o_pass hS hL hP hn sv_r) hi h3 kk
    · refine j_tabIn 1385 dL_law_45 (r32 (by decide) (by decide)) (by decide) (by decide) (off := 1340) rfl rfl ?_
      exact w_undo hS (o_undo hS hL) hi h3 kk
    · refine j_tabIn 1398 dL_law_45 (r32 (by decide) (by decide)) (by decide) (by decide) (off := 1353) rfl rfl ?_
      exact w_checksum hS (o_checksum hS hL) hi h3 kk
