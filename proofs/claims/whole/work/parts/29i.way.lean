set_option maxRecDepth 20000 in
theorem c_findWay {w : Wd} {sh : Shp} {g : Mem} {e r c : Nat} {d : Nat → Int} (hE : ExS sh.1 e) (hK : KX g e d) (hc5 : (c : Int) < d 5) (hc40 : c < 40) (hst : d (173 + 14 * c) = 4) (hr9 : d (179 + 14 * c) = (r : Int)) (hr : r < 4)  : CT w mX1_findWay [.ref (e), .ref (e + 35 + c)] sh g (vQ sh (fun g2 => RelX g2 e (s_looks (s_freeReg d c) c (d (152 + 3 * r)).toNat (s_dv (s_freeReg d c) c (d (152 + 3 * r)).toNat)) ∧ PO (s_looks (s_freeReg d c) c (d (152 + 3 * r)).toNat (s_dv (s_freeReg d c) c (d (152 + 3 * r)).toNat)) ∧ Fr g g2 e ∧ g2 e 12 = g e 12)) := by
  obtain ⟨hX, hI, hP⟩ := hK
  have hcI := (hI.2.2.2.1 c hc5).2.2
  have hIR : IR d r c ∧ d (151 + 3 * r) = (c : Int) := by
    rcases hcI with q | ⟨r2, a1, a2, a3⟩
    · omega
    · have er : r2 = r := by omega
      rw [er] at a3
      rcases hI.2.2.1 r hr with q | ⟨c2, b1, b2⟩
      · omega
      · have ec : c2 = c := by omega
        rw [ec] at b2; exact ⟨b2, a3⟩
  obtain ⟨⟨-, k0, -, k2, k4, km0, kml, kw0, kw1, -, kcm⟩, i1⟩ := hIR
  have kcm := kcm (by omega)
  have hb := hI.1
  have hb2 := hI.2.1
  have hcb := hb.2.2.2.2.2.2.2.2.2 c hc40
  have hcb2 := hb2.2.2.2.2.1 c hc5
  obtain ⟨R1, R2, R3⟩ := hX.2.2.2.2.2.1 r hr
  have hdv := dv_lt (many := (d (152 + 3 * r)).toNat) hcb.2.2 hcb2.2.2.2.2.2 (by omega)
  rw [i1, if_neg (by omega), Int.toNat_natCast] at R3
  have hrow : pw (d (152 + 3 * r)).toNat + (s_dv d c (d (152 + 3 * r)).toNat) < 2000000 := enc_lt hdv.2 (by omega)
  have hrowp := pw_pos (d (152 + 3 * r)).toNat
  have hci : g (e + 35 + c) 0 = (c : Int) := hX.1.2.2.2.2 c hc40
  have hro : x_registerOf g e (g (e + 35 + c) 0) = (r : Int) := by rw [hci, rel_registerOf hX hI hc5]; exact hr9
  have hg0 : g e 0 = d 0 := hX.2.1.1
  have hd0 := hb.1
  have hS1 : Sta d (s_freeReg d c) := sta_freeReg Sta.rf (by rw [hr9, Int.toNat_natCast]; exact hr)
  have hR1 : RelX (up2 (up2 (up2 g (e + 26 + r) 1 (-1)) (e + 26 + r) 2 1) (e + 26 + r) 3 0) e (s_freeReg d c) := rel_free hX hb hr hr9
  have hb1 : RB (s_freeReg d c) := hb.sta hS1
  have hb21 : RB2 (s_freeReg d c) := hb2.sta hb hS1
  have hP1 : PO (s_freeReg d c) := po_free hP (by rw [hr9, Int.toNat_natCast]; exact hr)
  have hst1 : (s_freeReg d c) (173 + 14 * c) = 4 := by unfold s_freeReg; rw [if_neg (by omega), ud_n (by omega), ud_n (by rw [hr9, Int.toNat_natCast]; omega), ud_n (by rw [hr9, Int.toNat_natCast]; omega), ud_n (by rw [hr9, Int.toNat_natCast]; omega)]; exact hst
  have h51 : (s_freeReg d c) 5 = d 5 := hS1 5 (Or.inl (by decide))
  have hdv1 : s_dv (s_freeReg d c) c (d (152 + 3 * r)).toNat = (s_dv d c (d (152 + 3 * r)).toNat) := dv_sta hS1 _ _
  have hcp : s_isComplete (s_freeReg d c) (d (152 + 3 * r)).toNat (s_dv d c (d (152 + 3 * r)).toNat) = true := by rw [isComplete_sta hS1]; exact kcm
  have hln : x_lineWith (up2 (up2 (up2 g (e + 26 + r) 1 (-1)) (e + 26 + r) 2 1) (e + 26 + r) 3 0) e (enc (d (152 + 3 * r)) (s_dv d c (d (152 + 3 * r)).toNat)) = s_lineOf (s_freeReg d c) (d (152 + 3 * r)).toNat (s_dv d c (d (152 + 3 * r)).toNat) := rel_lineWith hR1 hb21 hdv.1 hdv.2
  have hrt : x_routeFor (up2 (up2 (up2 g (e + 26 + r) 1 (-1)) (e + 26 + r) 2 1) (e + 26 + r) 3 0) e (enc (d (152 + 3 * r)) (s_dv d c (d (152 + 3 * r)).toNat)) = if s_routeFor (s_freeReg d c) (d (152 + 3 * r)).toNat (s_dv d c (d (152 + 3 * r)).toNat) = -1 then none else some (s_routeFor (s_freeReg d c) (d (152 + 3 * r)).toNat (s_dv d c (d (152 + 3 * r)).toNat)).toNat := rel_routeFor hR1 hb1 hb21 (by omega) hdv.1 hdv.2
  have hpt := hP1.1 c (by omega) (by omega)
  have hlr : R32 (s_lineOf (s_freeReg d c) (d (152 + 3 * r)).toNat (s_dv d c (d (152 + 3 * r)).toNat)) := fst_r32 _ (by decide)
  have hF1 : Fr g (up2 (up2 (up2 g (e + 26 + r) 1 (-1)) (e + 26 + r) 2 1) (e + 26 + r) 3 0) e := (Fr.rf).end26 hr
  refine j_entry (by decide) rfl (Nat.le_of_ble_eq_true rfl) (fun h => by cases h) rfl ?_
  show J w mX1_findWay 0 [(0, .ref (e)), (1, .ref (e + 35 + c))] [] sh g 0 0 _
  refine j_aload_n 1 0 dX1_findWay_0 rfl rfl ?_
  refine j_aload_n 2 1 dX1_findWay_1 rfl rfl ?_
  refine j_callV 5 (As := [.ref (e + 35 + c)]) (kc2 := 0) (ks2 := 0) dX1_findWay_2 rfl mvX1_dialledBy lk_X1_256 hE.ex rfl ⟨Nat.le_of_ble_eq_true rfl, rfl⟩ rfl rfl (Nat.le_of_ble_eq_true rfl) ⟨Nat.le_of_ble_eq_true rfl, Nat.le_of_ble_eq_true rfl⟩ ⟨Nat.le_of_ble_eq_true rfl, Nat.le_of_ble_eq_true rfl⟩ ((by have h := c_dialledBy1 (w := w) hE hX.1 (hE.cl c hc40) (by omega) (by rw [hro]; omega); rw [hro, Int.toNat_natCast] at h; exact h)) x_d (k_d1 ?_)
  refine j_top (y := enc (d (152 + 3 * r)) (s_dv d c (d (152 + 3 * r)).toNat)) R3 ?_
  refine j_istore_n 6 (L2 := [(2, .int (i32 (enc (d (152 + 3 * r)) (s_dv d c (d (152 + 3 * r)).toNat)))), (0, .ref (e)), (1, .ref (e + 35 + c))]) dX1_findWay_5 rfl rfl (Nat.le_of_ble_eq_true rfl) rfl ?_
  refine j_aload_n 7 1 dX1_findWay_6 rfl rfl ?_
  refine j_aload_n 8 2 dX1_findWay_7 rfl rfl ?_
  refine j_callV 11 (As := [.ref (e + 35 + c)]) (kc2 := 0) (ks2 := 0) dX1_findWay_8 rfl mvX1_freeRegisterOf lk_X1_200 hE.ex rfl ⟨Nat.le_of_ble_eq_true rfl, rfl⟩ rfl rfl (Nat.le_of_ble_eq_true rfl) ⟨Nat.le_of_ble_eq_true rfl, Nat.le_of_ble_eq_true rfl⟩ ⟨Nat.le_of_ble_eq_true rfl, Nat.le_of_ble_eq_true rfl⟩ ((by have h := c_freeRegisterOf1 (w := w) hE hX.1 (hE.cl c hc40) (by omega) (by rw [hro]; omega); rw [hro, Int.toNat_natCast] at h; exact h)) x_d (k_d0 ?_)
  refine j_aload_n 12 1 dX1_findWay_11 rfl rfl ?_
  refine j_iload_n 13 0 dX1_findWay_12 rfl rfl ?_
  refine j_callV 16 (As := [.int (i32 (enc (d (152 + 3 * r)) (s_dv d c (d (152 + 3 * r)).toNat)))]) (kc2 := 0) (ks2 := 0) dX1_findWay_13 rfl mvX1_lineWith lk_X1_146 hE.ex rfl ⟨Nat.le_of_ble_eq_true rfl, rfl⟩ rfl rfl (Nat.le_of_ble_eq_true rfl) ⟨Nat.le_of_ble_eq_true rfl, Nat.le_of_ble_eq_true rfl⟩ ⟨Nat.le_of_ble_eq_true rfl, Nat.le_of_ble_eq_true rfl⟩ (c_lineWith hE (by rw [hR1.2.1.2.2.1]; exact hb1.2.2.1.2) (by unfold enc; exact ⟨by omega, by omega⟩)) x_d (k_d1 ?_)
  refine j_top (y := s_lineOf (s_freeReg d c) (d (152 + 3 * r)).toNat (s_dv d c (d (152 + 3 * r)).toNat)) hln ?_
  refine j_istore_n 17 (L2 := [(3, .int (i32 (s_lineOf (s_freeReg d c) (d (152 + 3 * r)).toNat (s_dv d c (d (152 + 3 * r)).toNat)))), (2, .int (i32 (enc (d (152 + 3 * r)) (s_dv d c (d (152 + 3 * r)).toNat)))), (0, .ref (e)), (1, .ref (e + 35 + c))]) dX1_findWay_16 rfl rfl (Nat.le_of_ble_eq_true rfl) rfl ?_
  cases hrf : x_routeFor (up2 (up2 (up2 g (e + 26 + r) 1 (-1)) (e + 26 + r) 2 1) (e + 26 + r) 3 0) e (enc (d (152 + 3 * r)) (s_dv d c (d (152 + 3 * r)).toNat)) with
  | none =>
    refine j_aload_n 18 2 dX1_findWay_17 rfl rfl ?_
    refine j_iload_n 19 1 dX1_findWay_18 rfl rfl ?_
    refine j_callV 22 (As := [.int (i32 (enc (d (152 + 3 * r)) (s_dv d c (d (152 + 3 * r)).toNat)))]) (kc2 := 0) (ks2 := 0) dX1_findWay_19 rfl mvX1_routeFor lk_X1_142 hE.ex rfl ⟨Nat.le_of_ble_eq_true rfl, rfl⟩ rfl rfl (Nat.le_of_ble_eq_true rfl) ⟨Nat.le_of_ble_eq_true rfl, Nat.le_of_ble_eq_true rfl⟩ ⟨Nat.le_of_ble_eq_true rfl, Nat.le_of_ble_eq_true rfl⟩ (c_routeFor0 hE hR1.1 (by unfold enc; exact ⟨by omega, by omega⟩) (by unfold enc; omega) hrf) x_d (k_d1 ?_)
    have hno : s_routeFor (s_freeReg d c) (d (152 + 3 * r)).toNat (s_dv d c (d (152 + 3 * r)).toNat) = -1 := by
      rw [hrf] at hrt
      by_cases q : s_routeFor (s_freeReg d c) (d (152 + 3 * r)).toNat (s_dv d c (d (152 + 3 * r)).toNat) = -1
      · exact q
      · rw [if_neg q] at hrt; cases hrt
    refine j_astoreN 24 (L2 := [(4, .null), (3, .int (i32 (s_lineOf (s_freeReg d c) (d (152 + 3 * r)).toNat (s_dv d c (d (152 + 3 * r)).toNat)))), (2, .int (i32 (enc (d (152 + 3 * r)) (s_dv d c (d (152 + 3 * r)).toNat)))), (0, .ref (e)), (1, .ref (e + 35 + c))]) dX1_findWay_22 rfl (Nat.le_of_ble_eq_true rfl) rfl ?_
    refine j_iload_n 25 1 dX1_findWay_24 rfl rfl ?_
    refine j_iconst 26 dX1_findWay_25 rfl ?_
    refine j_icmp_eq 29 50 dX1_findWay_26 rfl rfl hlr (r32 (by decide) (by decide)) (fun c_26 => ?_) (fun c_26 => ?_)
    · refine j_iload_n 51 1 dX1_findWay_50 rfl rfl ?_
      refine j_iconst 52 dX1_findWay_51 rfl ?_
      refine j_icmp_eq 55 71 dX1_findWay_52 rfl rfl hlr (r32 (by decide) (by decide)) (fun c_52 => ?_) (fun c_52 => ?_)
      · refine j_aloadN 73 0 dX1_findWay_71 rfl rfl ?_
        refine j_ifnullN 92 dX1_findWay_73 rfl ?_
        exact absurd hcp (by unfold s_isComplete; rw [decide_eq_true (show s_lineOf (s_freeReg d c) (d (152 + 3 * r)).toNat (s_dv d c (d (152 + 3 * r)).toNat) = -1 by omega), decide_eq_true hno]; exact Bool.false_ne_true)
      · exfalso; omega
    · refine j_aload_n 30 3 dX1_findWay_29 rfl rfl ?_
      refine j_iload_n 31 1 dX1_findWay_30 rfl rfl ?_
      refine j_callV 34 (As := [.int (i32 (s_lineOf (s_freeReg d c) (d (152 + 3 * r)).toNat (s_dv d c (d (152 + 3 * r)).toNat)))]) (kc2 := 0) (ks2 := 0) dX1_findWay_31 rfl mvX1_isBusy lk_X1_181 hE.ex rfl ⟨Nat.le_of_ble_eq_true rfl, rfl⟩ rfl rfl (Nat.le_of_ble_eq_true rfl) ⟨Nat.le_of_ble_eq_true rfl, Nat.le_of_ble_eq_true rfl⟩ ⟨Nat.le_of_ble_eq_true rfl, Nat.le_of_ble_eq_true rfl⟩ (c_isBusy hE hR1.1 hlr) x_d (k_d1 ?_)
      refine j_if_eq 37 50 dX1_findWay_34 rfl rfl (r01 (b01_r _)) (fun c_34 => ?_) (fun c_34 => ?_)
      · have hbz : s_isBusy (s_freeReg d c) (s_lineOf (s_freeReg d c) (d (152 + 3 * r)).toNat (s_dv d c (d (152 + 3 * r)).toNat)) = false := by rw [← rel_isBusy hR1]; exact b01_0 c_34
        refine j_iload_n 51 1 dX1_findWay_50 rfl rfl ?_
        refine j_iconst 52 dX1_findWay_51 rfl ?_
        refine j_icmp_eq 55 71 dX1_findWay_52 rfl rfl hlr (r32 (by decide) (by decide)) (fun c_52 => ?_) (fun c_52 => ?_)
        · exfalso; omega
        · refine j_aload_n 56 4 dX1_findWay_55 rfl rfl ?_
          refine j_iload_n 57 1 dX1_findWay_56 rfl rfl ?_
          refine j_puti 60 dX1_findWay_57 rfl fl_X1_172 (hE.cl c hc40) rfl rfl rfl hlr ?_
          refine j_mn (fun g_57 hg_57 => ?_)
          refine j_mem hg_57 ?_
          refine j_aload_n 61 4 dX1_findWay_60 rfl rfl ?_
          refine j_aload_n 62 3 dX1_findWay_61 rfl rfl ?_
          refine j_geti 65 dX1_findWay_62 rfl fl_X1_74 hE.ex rfl rfl (fun r_62 => ?_)
          refine j_callV 68 (As := [.int (i32 ((up2 (up2 (up2 (up2 g (e + 26 + r) 1 (-1)) (e + 26 + r) 2 1) (e + 26 + r) 3 0) (e + 35 + c) 8 (s_lineOf (s_freeReg d c) (d (152 + 3 * r)).toNat (s_dv d c (d (152 + 3 * r)).toNat))) (e) 6))]) (kc2 := 0) (ks2 := 0) dX1_findWay_65 rfl mvX0_beginToTalk lk_X1_260 (hE.cl c hc40) rfl ⟨Nat.le_of_ble_eq_true rfl, rfl⟩ rfl rfl (Nat.le_of_ble_eq_true rfl) ⟨Nat.le_of_ble_eq_true rfl, Nat.le_of_ble_eq_true rfl⟩ ⟨Nat.le_of_ble_eq_true rfl, Nat.le_of_ble_eq_true rfl⟩ (c_talk (hE.cl c hc40) r_62) x_d (k_d0 ?_)
          have hw : s_looks (s_freeReg d c) c (d (152 + 3 * r)).toNat (s_dv (s_freeReg d c) c (d (152 + 3 * r)).toNat) = s_talks (s_freeReg d c) c (s_lineOf (s_freeReg d c) (d (152 + 3 * r)).toNat (s_dv d c (d (152 + 3 * r)).toNat)) (-1) := by unfold s_looks; rw [hdv1, if_neg c_52, if_neg (by rw [hbz]; decide)]
          have hRF : RelX (up2 (up2 (up2 (up2 (up2 (up2 (up2 g (e + 26 + r) 1 (-1)) (e + 26 + r) 2 1) (e + 26 + r) 3 0) (e + 35 + c) 8 (s_lineOf (s_freeReg d c) (d (152 + 3 * r)).toNat (s_dv d c (d (152 + 3 * r)).toNat))) (e + 35 + c) 1 5) (e + 35 + c) 10 ((up2 (up2 (up2 (up2 g (e + 26 + r) 1 (-1)) (e + 26 + r) 2 1) (e + 26 + r) 3 0) (e + 35 + c) 8 (s_lineOf (s_freeReg d c) (d (152 + 3 * r)).toNat (s_dv d c (d (152 + 3 * r)).toNat))) e 6)) (e + 35 + c) 12 ((up2 (up2 (up2 (up2 g (e + 26 + r) 1 (-1)) (e + 26 + r) 2 1) (e + 26 + r) 3 0) (e + 35 + c) 8 (s_lineOf (s_freeReg d c) (d (152 + 3 * r)).toNat (s_dv d c (d (152 + 3 * r)).toNat))) (e + 35 + c) 4)) e (s_looks (s_freeReg d c) c (d (152 + 3 * r)).toNat (s_dv (s_freeReg d c) c (d (152 + 3 * r)).toNat)) := by rw [hw]; exact (by rw [up2_k (k := 8) (j := 4) (by decide)]; exact rel_talkL hR1 hb1 (by omega) (by rw [up2_a (by omega)]; exact hR1.2.1.2.2.2.2.2.2.1) hpt.2)
          have hPF : PO (s_looks (s_freeReg d c) c (d (152 + 3 * r)).toNat (s_dv (s_freeReg d c) c (d (152 + 3 * r)).toNat)) := by rw [hw]; exact po_talks hP1
          have hFF : Fr g (up2 (up2 (up2 (up2 (up2 (up2 (up2 g (e + 26 + r) 1 (-1)) (e + 26 + r) 2 1) (e + 26 + r) 3 0) (e + 35 + c) 8 (s_lineOf (s_freeReg d c) (d (152 + 3 * r)).toNat (s_dv d c (d (152 + 3 * r)).toNat))) (e + 35 + c) 1 5) (e + 35 + c) 10 ((up2 (up2 (up2 (up2 g (e + 26 + r) 1 (-1)) (e + 26 + r) 2 1) (e + 26 + r) 3 0) (e + 35 + c) 8 (s_lineOf (s_freeReg d c) (d (152 + 3 * r)).toNat (s_dv d c (d (152 + 3 * r)).toNat))) e 6)) (e + 35 + c) 12 ((up2 (up2 (up2 (up2 g (e + 26 + r) 1 (-1)) (e + 26 + r) 2 1) (e + 26 + r) 3 0) (e + 35 + c) 8 (s_lineOf (s_freeReg d c) (d (152 + 3 * r)).toNat (s_dv d c (d (152 + 3 * r)).toNat))) (e + 35 + c) 4)) e := (hF1.up (by omega) (by omega)).end hc40
          have hF12 : (up2 (up2 (up2 (up2 (up2 (up2 (up2 g (e + 26 + r) 1 (-1)) (e + 26 + r) 2 1) (e + 26 + r) 3 0) (e + 35 + c) 8 (s_lineOf (s_freeReg d c) (d (152 + 3 * r)).toNat (s_dv d c (d (152 + 3 * r)).toNat))) (e + 35 + c) 1 5) (e + 35 + c) 10 ((up2 (up2 (up2 (up2 g (e + 26 + r) 1 (-1)) (e + 26 + r) 2 1) (e + 26 + r) 3 0) (e + 35 + c) 8 (s_lineOf (s_freeReg d c) (d (152 + 3 * r)).toNat (s_dv d c (d (152 + 3 * r)).toNat))) e 6)) (e + 35 + c) 12 ((up2 (up2 (up2 (up2 g (e + 26 + r) 1 (-1)) (e + 26 + r) 2 1) (e + 26 + r) 3 0) (e + 35 + c) 8 (s_lineOf (s_freeReg d c) (d (152 + 3 * r)).toNat (s_dv d c (d (152 + 3 * r)).toNat))) (e + 35 + c) 4)) e 12 = g e 12 := by rw [up2_a (by omega), up2_a (by omega), up2_a (by omega), up2_a (by omega), up2_a (by omega), up2_a (by omega), up2_a (by omega)]
          refine j_goto 102 dX1_findWay_68 rfl ?_
          exact j_vret dX1_findWay_102 rfl (⟨rfl, rfl, hRF, hPF, hFF, hF12⟩)
      · have hbz : s_isBusy (s_freeReg d c) (s_lineOf (s_freeReg d c) (d (152 + 3 * r)).toNat (s_dv d c (d (152 + 3 * r)).toNat)) = true := by rw [← rel_isBusy hR1]; exact b01_1 c_34
        have hw : s_looks (s_freeReg d c) c (d (152 + 3 * r)).toNat (s_dv (s_freeReg d c) c (d (152 + 3 * r)).toNat) = s_isOver (s_freeReg d c) c 7 := by unfold s_looks; rw [hdv1, if_neg c_26, if_pos hbz]
        have hRF : RelX (up2 (up2 (up2 (up2 (up2 (up2 g (e + 26 + r) 1 (-1)) (e + 26 + r) 2 1) (e + 26 + r) 3 0) (e + 35 + c) 1 7) (e + 35 + c) 11 ((up2 (up2 (up2 g (e + 26 + r) 1 (-1)) (e + 26 + r) 2 1) (e + 26 + r) 3 0) e 6)) (e + 35 + c) 12 0) e (s_looks (s_freeReg d c) c (d (152 + 3 * r)).toNat (s_dv (s_freeReg d c) c (d (152 + 3 * r)).toNat)) := by rw [hw]; exact rel_over hR1 hb1 (by omega) hR1.2.1.2.2.2.2.2.2.1
        have hPF : PO (s_looks (s_freeReg d c) c (d (152 + 3 * r)).toNat (s_dv (s_freeReg d c) c (d (152 + 3 * r)).toNat)) := by rw [hw]; exact po_over hP1 (by decide)
        have hFF : Fr g (up2 (up2 (up2 (up2 (up2 (up2 g (e + 26 + r) 1 (-1)) (e + 26 + r) 2 1) (e + 26 + r) 3 0) (e + 35 + c) 1 7) (e + 35 + c) 11 ((up2 (up2 (up2 g (e + 26 + r) 1 (-1)) (e + 26 + r) 2 1) (e + 26 + r) 3 0) e 6)) (e + 35 + c) 12 0) e := hF1.end hc40
        have hF12 : (up2 (up2 (up2 (up2 (up2 (up2 g (e + 26 + r) 1 (-1)) (e + 26 + r) 2 1) (e + 26 + r) 3 0) (e + 35 + c) 1 7) (e + 35 + c) 11 ((up2 (up2 (up2 g (e + 26 + r) 1 (-1)) (e + 26 + r) 2 1) (e + 26 + r) 3 0) e 6)) (e + 35 + c) 12 0) e 12 = g e 12 := by rw [up2_a (by omega), up2_a (by omega), up2_a (by omega), up2_a (by omega), up2_a (by omega), up2_a (by omega)]
        refine j_aload_n 38 4 dX1_findWay_37 rfl rfl ?_
        refine j_bipush 40 dX1_findWay_38 rfl (by decide) ?_
        refine j_aload_n 41 3 dX1_findWay_40 rfl rfl ?_
        refine j_geti 44 dX1_findWay_41 rfl fl_X1_74 hE.ex rfl rfl (fun r_41 => ?_)
        refine j_callV 47 (As := [.int (i32 (7)), .int (i32 ((up2 (up2 (up2 g (e + 26 + r) 1 (-1)) (e + 26 + r) 2 1) (e + 26 + r) 3 0) (e) 6))]) (kc2 := 0) (ks2 := 0) dX1_findWay_44 rfl mvX0_end lk_X1_204 (hE.cl c hc40) rfl ⟨Nat.le_of_ble_eq_true rfl, rfl⟩ rfl rfl (Nat.le_of_ble_eq_true rfl) ⟨Nat.le_of_ble_eq_true rfl, Nat.le_of_ble_eq_true rfl⟩ ⟨Nat.le_of_ble_eq_true rfl, Nat.le_of_ble_eq_true rfl⟩ (c_end (hE.cl c hc40) (r32 (by decide) (by decide)) r_41) x_d (k_d0 ?_)
        refine j_goto 102 dX1_findWay_47 rfl ?_
        exact j_vret dX1_findWay_102 rfl (⟨rfl, rfl, hRF, hPF, hFF, hF12⟩)
  | some r2 =>
    refine j_aload_n 18 2 dX1_findWay_17 rfl rfl ?_
    refine j_iload_n 19 1 dX1_findWay_18 rfl rfl ?_
    refine j_callV 22 (As := [.int (i32 (enc (d (152 + 3 * r)) (s_dv d c (d (152 + 3 * r)).toNat)))]) (kc2 := 0) (ks2 := 0) dX1_findWay_19 rfl mvX1_routeFor lk_X1_142 hE.ex rfl ⟨Nat.le_of_ble_eq_true rfl, rfl⟩ rfl rfl (Nat.le_of_ble_eq_true rfl) ⟨Nat.le_of_ble_eq_true rfl, Nat.le_of_ble_eq_true rfl⟩ ⟨Nat.le_of_ble_eq_true rfl, Nat.le_of_ble_eq_true rfl⟩ (c_routeFor1 hE hR1.1 (by unfold enc; exact ⟨by omega, by omega⟩) (by unfold enc; omega) hrf) x_d (k_d1 ?_)
    have hyes : s_routeFor (s_freeReg d c) (d (152 + 3 * r)).toNat (s_dv d c (d (152 + 3 * r)).toNat) = (r2 : Int) := by
      rw [hrf] at hrt
      by_cases q : s_routeFor (s_freeReg d c) (d (152 + 3 * r)).toNat (s_dv d c (d (152 + 3 * r)).toNat) = -1
      · rw [if_pos q] at hrt; cases hrt
      · rw [if_neg q] at hrt; cases hrt; have := s_rfF_rng (s_freeReg d c) (d (152 + 3 * r)).toNat (s_dv d c (d (152 + 3 * r)).toNat) 8; unfold s_routeFor at q ⊢; omega
    have hrr := s_rfF_rng (s_freeReg d c) (d (152 + 3 * r)).toNat (s_dv d c (d (152 + 3 * r)).toNat) 8
    have hrr4 : (r2 : Int) < (s_freeReg d c) 4 ∧ r2 < 8 := by unfold s_routeFor at hyes; omega
    refine j_astore 24 (L2 := [(4, .ref (e + 9 + 2 * r2)), (3, .int (i32 (s_lineOf (s_freeReg d c) (d (152 + 3 * r)).toNat (s_dv d c (d (152 + 3 * r)).toNat)))), (2, .int (i32 (enc (d (152 + 3 * r)) (s_dv d c (d (152 + 3 * r)).toNat)))), (0, .ref (e)), (1, .ref (e + 35 + c))]) dX1_findWay_22 rfl (Nat.le_of_ble_eq_true rfl) rfl ?_
    refine j_iload_n 25 1 dX1_findWay_24 rfl rfl ?_
    refine j_iconst 26 dX1_findWay_25 rfl ?_
    refine j_icmp_eq 29 50 dX1_findWay_26 rfl rfl hlr (r32 (by decide) (by decide)) (fun c_26 => ?_) (fun c_26 => ?_)
    · refine j_iload_n 51 1 dX1_findWay_50 rfl rfl ?_
      refine j_iconst 52 dX1_findWay_51 rfl ?_
      refine j_icmp_eq 55 71 dX1_findWay_52 rfl rfl hlr (r32 (by decide) (by decide)) (fun c_52 => ?_) (fun c_52 => ?_)
      · refine j_aload 73 0 dX1_findWay_71 rfl rfl ?_
        refine j_ifnull 76 dX1_findWay_73 rfl ?_
        refine j_aload_n 77 3 dX1_findWay_76 rfl rfl ?_
        refine j_aload_n 78 4 dX1_findWay_77 rfl rfl ?_
        refine j_aload 80 0 dX1_findWay_78 rfl rfl ?_
        refine j_aload_n 81 3 dX1_findWay_80 rfl rfl ?_
        refine j_aload 83 0 dX1_findWay_81 rfl rfl ?_
        refine j_callV 86 (As := [.ref (e + 9 + 2 * r2)]) (kc2 := 0) (ks2 := 0) dX1_findWay_83 rfl mvX1_freeChoice lk_X1_162 hE.ex rfl ⟨Nat.le_of_ble_eq_true rfl, rfl⟩ rfl rfl (Nat.le_of_ble_eq_true rfl) ⟨Nat.le_of_ble_eq_true rfl, Nat.le_of_ble_eq_true rfl⟩ ⟨Nat.le_of_ble_eq_true rfl, Nat.le_of_ble_eq_true rfl⟩ (c_freeChoice hE hR1 hb1 hb21 hrr4.1 hrr4.2) x_d (k_d1 ?_)
        refine j_callV 89 (As := [.ref (e + 35 + c), .ref (e + 9 + 2 * r2), .int (i32 (s_fc (s_freeReg d c) r2))]) (kc2 := 0) (ks2 := 0) dX1_findWay_86 rfl mvX1_takeTrunk lk_X1_263 hE.ex rfl ⟨Nat.le_of_ble_eq_true rfl, rfl⟩ rfl rfl (Nat.le_of_ble_eq_true rfl) ⟨Nat.le_of_ble_eq_true rfl, Nat.le_of_ble_eq_true rfl⟩ ⟨Nat.le_of_ble_eq_true rfl, Nat.le_of_ble_eq_true rfl⟩ (c_takeTrunk hE hR1 hb1 hb21 hP1 hrr4.1 hrr4.2 (by omega) hc40 (by omega)) x_v (k_v fun g_86 h_86 => ?_)
        obtain ⟨hRT, hPT, hFT, h12T⟩ := h_86
        have hl1 : s_lineOf (s_freeReg d c) (d (152 + 3 * r)).toNat (s_dv d c (d (152 + 3 * r)).toNat) = -1 := by omega
        have hw : s_looks (s_freeReg d c) c (d (152 + 3 * r)).toNat (s_dv (s_freeReg d c) c (d (152 + 3 * r)).toNat) = s_way (s_ovF (s_freeReg d c) r2 (s_choiceOf (s_freeReg d c) r2)) c r2 (s_choiceOf (s_freeReg d c) r2) := by unfold s_looks; rw [hdv1, if_pos hl1, hyes, Int.toNat_natCast]
        have hRF : RelX g_86 e (s_looks (s_freeReg d c) c (d (152 + 3 * r)).toNat (s_dv (s_freeReg d c) c (d (152 + 3 * r)).toNat)) := by rw [hw]; exact hRT
        have hPF : PO (s_looks (s_freeReg d c) c (d (152 + 3 * r)).toNat (s_dv (s_freeReg d c) c (d (152 + 3 * r)).toNat)) := by rw [hw]; exact hPT
        have hFF : Fr g g_86 e := hF1.tr hFT
        have hF12 : g_86 e 12 = g e 12 := by rw [h12T, up2_a (by omega), up2_a (by omega), up2_a (by omega)]
        refine j_goto 102 dX1_findWay_89 rfl ?_
        exact j_vret dX1_findWay_102 rfl (⟨rfl, rfl, hRF, hPF, hFF, hF12⟩)
      · exfalso; omega
    · refine j_aload_n 30 3 dX1_findWay_29 rfl rfl ?_
      refine j_iload_n 31 1 dX1_findWay_30 rfl rfl ?_
      refine j_callV 34 (As := [.int (i32 (s_lineOf (s_freeReg d c) (d (152 + 3 * r)).toNat (s_dv d c (d (152 + 3 * r)).toNat)))]) (kc2 := 0) (ks2 := 0) dX1_findWay_31 rfl mvX1_isBusy lk_X1_181 hE.ex rfl ⟨Nat.le_of_ble_eq_true rfl, rfl⟩ rfl rfl (Nat.le_of_ble_eq_true rfl) ⟨Nat.le_of_ble_eq_true rfl, Nat.le_of_ble_eq_true rfl⟩ ⟨Nat.le_of_ble_eq_true rfl, Nat.le_of_ble_eq_true rfl⟩ (c_isBusy hE hR1.1 hlr) x_d (k_d1 ?_)
      refine j_if_eq 37 50 dX1_findWay_34 rfl rfl (r01 (b01_r _)) (fun c_34 => ?_) (fun c_34 => ?_)
      · have hbz : s_isBusy (s_freeReg d c) (s_lineOf (s_freeReg d c) (d (152 + 3 * r)).toNat (s_dv d c (d (152 + 3 * r)).toNat)) = false := by rw [← rel_isBusy hR1]; exact b01_0 c_34
        refine j_iload_n 51 1 dX1_findWay_50 rfl rfl ?_
        refine j_iconst 52 dX1_findWay_51 rfl ?_
        refine j_icmp_eq 55 71 dX1_findWay_52 rfl rfl hlr (r32 (by decide) (by decide)) (fun c_52 => ?_) (fun c_52 => ?_)
        · exfalso; omega
        · refine j_aload_n 56 4 dX1_findWay_55 rfl rfl ?_
          refine j_iload_n 57 1 dX1_findWay_56 rfl rfl ?_
          refine j_puti 60 dX1_findWay_57 rfl fl_X1_172 (hE.cl c hc40) rfl rfl rfl hlr ?_
          refine j_mn (fun g_57 hg_57 => ?_)
          refine j_mem hg_57 ?_
          refine j_aload_n 61 4 dX1_findWay_60 rfl rfl ?_
          refine j_aload_n 62 3 dX1_findWay_61 rfl rfl ?_
          refine j_geti 65 dX1_findWay_62 rfl fl_X1_74 hE.ex rfl rfl (fun r_62 => ?_)
          refine j_callV 68 (As := [.int (i32 ((up2 (up2 (up2 (up2 g (e + 26 + r) 1 (-1)) (e + 26 + r) 2 1) (e + 26 + r) 3 0) (e + 35 + c) 8 (s_lineOf (s_freeReg d c) (d (152 + 3 * r)).toNat (s_dv d c (d (152 + 3 * r)).toNat))) (e) 6))]) (kc2 := 0) (ks2 := 0) dX1_findWay_65 rfl mvX0_beginToTalk lk_X1_260 (hE.cl c hc40) rfl ⟨Nat.le_of_ble_eq_true rfl, rfl⟩ rfl rfl (Nat.le_of_ble_eq_true rfl) ⟨Nat.le_of_ble_eq_true rfl, Nat.le_of_ble_eq_true rfl⟩ ⟨Nat.le_of_ble_eq_true rfl, Nat.le_of_ble_eq_true rfl⟩ (c_talk (hE.cl c hc40) r_62) x_d (k_d0 ?_)
          have hw : s_looks (s_freeReg d c) c (d (152 + 3 * r)).toNat (s_dv (s_freeReg d c) c (d (152 + 3 * r)).toNat) = s_talks (s_freeReg d c) c (s_lineOf (s_freeReg d c) (d (152 + 3 * r)).toNat (s_dv d c (d (152 + 3 * r)).toNat)) (-1) := by unfold s_looks; rw [hdv1, if_neg c_52, if_neg (by rw [hbz]; decide)]
          have hRF : RelX (up2 (up2 (up2 (up2 (up2 (up2 (up2 g (e + 26 + r) 1 (-1)) (e + 26 + r) 2 1) (e + 26 + r) 3 0) (e + 35 + c) 8 (s_lineOf (s_freeReg d c) (d (152 + 3 * r)).toNat (s_dv d c (d (152 + 3 * r)).toNat))) (e + 35 + c) 1 5) (e + 35 + c) 10 ((up2 (up2 (up2 (up2 g (e + 26 + r) 1 (-1)) (e + 26 + r) 2 1) (e + 26 + r) 3 0) (e + 35 + c) 8 (s_lineOf (s_freeReg d c) (d (152 + 3 * r)).toNat (s_dv d c (d (152 + 3 * r)).toNat))) e 6)) (e + 35 + c) 12 ((up2 (up2 (up2 (up2 g (e + 26 + r) 1 (-1)) (e + 26 + r) 2 1) (e + 26 + r) 3 0) (e + 35 + c) 8 (s_lineOf (s_freeReg d c) (d (152 + 3 * r)).toNat (s_dv d c (d (152 + 3 * r)).toNat))) (e + 35 + c) 4)) e (s_looks (s_freeReg d c) c (d (152 + 3 * r)).toNat (s_dv (s_freeReg d c) c (d (152 + 3 * r)).toNat)) := by rw [hw]; exact (by rw [up2_k (k := 8) (j := 4) (by decide)]; exact rel_talkL hR1 hb1 (by omega) (by rw [up2_a (by omega)]; exact hR1.2.1.2.2.2.2.2.2.1) hpt.2)
          have hPF : PO (s_looks (s_freeReg d c) c (d (152 + 3 * r)).toNat (s_dv (s_freeReg d c) c (d (152 + 3 * r)).toNat)) := by rw [hw]; exact po_talks hP1
          have hFF : Fr g (up2 (up2 (up2 (up2 (up2 (up2 (up2 g (e + 26 + r) 1 (-1)) (e + 26 + r) 2 1) (e + 26 + r) 3 0) (e + 35 + c) 8 (s_lineOf (s_freeReg d c) (d (152 + 3 * r)).toNat (s_dv d c (d (152 + 3 * r)).toNat))) (e + 35 + c) 1 5) (e + 35 + c) 10 ((up2 (up2 (up2 (up2 g (e + 26 + r) 1 (-1)) (e + 26 + r) 2 1) (e + 26 + r) 3 0) (e + 35 + c) 8 (s_lineOf (s_freeReg d c) (d (152 + 3 * r)).toNat (s_dv d c (d (152 + 3 * r)).toNat))) e 6)) (e + 35 + c) 12 ((up2 (up2 (up2 (up2 g (e + 26 + r) 1 (-1)) (e + 26 + r) 2 1) (e + 26 + r) 3 0) (e + 35 + c) 8 (s_lineOf (s_freeReg d c) (d (152 + 3 * r)).toNat (s_dv d c (d (152 + 3 * r)).toNat))) (e + 35 + c) 4)) e := (hF1.up (by omega) (by omega)).end hc40
          have hF12 : (up2 (up2 (up2 (up2 (up2 (up2 (up2 g (e + 26 + r) 1 (-1)) (e + 26 + r) 2 1) (e + 26 + r) 3 0) (e + 35 + c) 8 (s_lineOf (s_freeReg d c) (d (152 + 3 * r)).toNat (s_dv d c (d (152 + 3 * r)).toNat))) (e + 35 + c) 1 5) (e + 35 + c) 10 ((up2 (up2 (up2 (up2 g (e + 26 + r) 1 (-1)) (e + 26 + r) 2 1) (e + 26 + r) 3 0) (e + 35 + c) 8 (s_lineOf (s_freeReg d c) (d (152 + 3 * r)).toNat (s_dv d c (d (152 + 3 * r)).toNat))) e 6)) (e + 35 + c) 12 ((up2 (up2 (up2 (up2 g (e + 26 + r) 1 (-1)) (e + 26 + r) 2 1) (e + 26 + r) 3 0) (e + 35 + c) 8 (s_lineOf (s_freeReg d c) (d (152 + 3 * r)).toNat (s_dv d c (d (152 + 3 * r)).toNat))) (e + 35 + c) 4)) e 12 = g e 12 := by rw [up2_a (by omega), up2_a (by omega), up2_a (by omega), up2_a (by omega), up2_a (by omega), up2_a (by omega), up2_a (by omega)]
          refine j_goto 102 dX1_findWay_68 rfl ?_
          exact j_vret dX1_findWay_102 rfl (⟨rfl, rfl, hRF, hPF, hFF, hF12⟩)
      · have hbz : s_isBusy (s_freeReg d c) (s_lineOf (s_freeReg d c) (d (152 + 3 * r)).toNat (s_dv d c (d (152 + 3 * r)).toNat)) = true := by rw [← rel_isBusy hR1]; exact b01_1 c_34
        have hw : s_looks (s_freeReg d c) c (d (152 + 3 * r)).toNat (s_dv (s_freeReg d c) c (d (152 + 3 * r)).toNat) = s_isOver (s_freeReg d c) c 7 := by unfold s_looks; rw [hdv1, if_neg c_26, if_pos hbz]
        have hRF : RelX (up2 (up2 (up2 (up2 (up2 (up2 g (e + 26 + r) 1 (-1)) (e + 26 + r) 2 1) (e + 26 + r) 3 0) (e + 35 + c) 1 7) (e + 35 + c) 11 ((up2 (up2 (up2 g (e + 26 + r) 1 (-1)) (e + 26 + r) 2 1) (e + 26 + r) 3 0) e 6)) (e + 35 + c) 12 0) e (s_looks (s_freeReg d c) c (d (152 + 3 * r)).toNat (s_dv (s_freeReg d c) c (d (152 + 3 * r)).toNat)) := by rw [hw]; exact rel_over hR1 hb1 (by omega) hR1.2.1.2.2.2.2.2.2.1
        have hPF : PO (s_looks (s_freeReg d c) c (d (152 + 3 * r)).toNat (s_dv (s_freeReg d c) c (d (152 + 3 * r)).toNat)) := by rw [hw]; exact po_over hP1 (by decide)
        have hFF : Fr g (up2 (up2 (up2 (up2 (up2 (up2 g (e + 26 + r) 1 (-1)) (e + 26 + r) 2 1) (e + 26 + r) 3 0) (e + 35 + c) 1 7) (e + 35 + c) 11 ((up2 (up2 (up2 g (e + 26 + r) 1 (-1)) (e + 26 + r) 2 1) (e + 26 + r) 3 0) e 6)) (e + 35 + c) 12 0) e := hF1.end hc40
        have hF12 : (up2 (up2 (up2 (up2 (up2 (up2 g (e + 26 + r) 1 (-1)) (e + 26 + r) 2 1) (e + 26 + r) 3 0) (e + 35 + c) 1 7) (e + 35 + c) 11 ((up2 (up2 (up2 g (e + 26 + r) 1 (-1)) (e + 26 + r) 2 1) (e + 26 + r) 3 0) e 6)) (e + 35 + c) 12 0) e 12 = g e 12 := by rw [up2_a (by omega), up2_a (by omega), up2_a (by omega), up2_a (by omega), up2_a (by omega), up2_a (by omega)]
        refine j_aload_n 38 4 dX1_findWay_37 rfl rfl ?_
        refine j_bipush 40 dX1_findWay_38 rfl (by decide) ?_
        refine j_aload_n 41 3 dX1_findWay_40 rfl rfl ?_
        refine j_geti 44 dX1_findWay_41 rfl fl_X1_74 hE.ex rfl rfl (fun r_41 => ?_)
        refine j_callV 47 (As := [.int (i32 (7)), .int (i32 ((up2 (up2 (up2 g (e + 26 + r) 1 (-1)) (e + 26 + r) 2 1) (e + 26 + r) 3 0) (e) 6))]) (kc2 := 0) (ks2 := 0) dX1_findWay_44 rfl mvX0_end lk_X1_204 (hE.cl c hc40) rfl ⟨Nat.le_of_ble_eq_true rfl, rfl⟩ rfl rfl (Nat.le_of_ble_eq_true rfl) ⟨Nat.le_of_ble_eq_true rfl, Nat.le_of_ble_eq_true rfl⟩ ⟨Nat.le_of_ble_eq_true rfl, Nat.le_of_ble_eq_true rfl⟩ (c_end (hE.cl c hc40) (r32 (by decide) (by decide)) r_41) x_d (k_d0 ?_)
        refine j_goto 102 dX1_findWay_47 rfl ?_
        exact j_vret dX1_findWay_102 rfl (⟨rfl, rfl, hRF, hPF, hFF, hF12⟩)
