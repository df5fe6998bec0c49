set_option maxRecDepth 20000 in
theorem r_marks {w : Wd} {sh : Shp} {g : Mem} {d : Nat → Int} {m : Nat} (hM : MdS sh.1 m) {x : Int} (k : Nat) (hx : x = (k : Int)) (hk : k < 3) (hB : RB d) (hl0 : 0 ≤ d (164 + 2 * k)) (hcall : ¬ d (163 + 2 * k) = -1 → (0 ≤ d (163 + 2 * k) ∧ d (163 + 2 * k) < 40) ∧ (0 ≤ d (179 + 14 * (d (163 + 2 * k)).toNat) ∧ d (179 + 14 * (d (163 + 2 * k)).toNat) < 4) ∧ 0 ≤ d (152 + 3 * (d (179 + 14 * (d (163 + 2 * k)).toNat)).toNat) ∧ d (152 + 3 * (d (179 + 14 * (d (163 + 2 * k)).toNat)).toNat) ≤ d (170 + 14 * (d (163 + 2 * k)).toNat) ∧ d (170 + 14 * (d (163 + 2 * k)).toNat) ≤ 6) (hok : ¬ d (163 + 2 * k) = -1 → s_lineOf d (d (152 + 3 * (d (179 + 14 * (d (163 + 2 * k)).toNat)).toNat)) (s_dv d (d (163 + 2 * k)).toNat (d (152 + 3 * (d (179 + 14 * (d (163 + 2 * k)).toNat)).toNat)).toNat) = -1 → ¬ s_routeFor d (d (152 + 3 * (d (179 + 14 * (d (163 + 2 * k)).toNat)).toNat)).toNat (s_dv d (d (163 + 2 * k)).toNat (d (152 + 3 * (d (179 + 14 * (d (163 + 2 * k)).toNat)).toNat)).toNat) = -1) : CT w mX10_marks [.ref (m), .int (i32 (x))] sh (upR g (m + 2) d) (dQ none sh (upR g (m + 2) (s_marks d k))) := by
  refine j_entry (by decide) rfl (Nat.le_of_ble_eq_true rfl) (fun h => by cases h) rfl ?_
  show J w mX10_marks 0 [(0, .ref (m)), (1, .int (i32 (x)))] [] sh (upR g (m + 2) d) 0 0 _
  refine j_rgd hM.dat rfl (fun hR => ?_)
  refine j_sipush 3 dX10_marks_0 rfl (by decide) ?_
  refine j_iconst 4 dX10_marks_3 rfl ?_
  refine j_iload_n 5 1 dX10_marks_4 rfl rfl ?_
  refine j_imul 6 dX10_marks_5 rfl ?_
  refine j_iadd 7 dX10_marks_6 rfl ?_
  refine j_top (y := ((163 + 2 * k : Nat) : Int)) (by omega) ?_
  refine j_istore_n 8 (L2 := [(2, .int (i32 (((163 + 2 * k : Nat) : Int)))), (0, .ref (m)), (1, .int (i32 (x)))]) dX10_marks_7 rfl rfl (Nat.le_of_ble_eq_true rfl) rfl ?_
  refine j_aload_n 9 1 dX10_marks_8 rfl rfl ?_
  refine j_getr 12 dX10_marks_9 rfl fl_X10_17 hM.md rfl (fun _ _ => rfl) rfl ?_
  refine j_iload_n 13 0 dX10_marks_12 rfl rfl ?_
  refine j_iconst 14 dX10_marks_13 rfl ?_
  refine j_iadd 15 dX10_marks_14 rfl ?_
  refine j_iald_d 16 (163 + 2 * k) dX10_marks_15 rfl hM.dat rfl (by omega) (show (163 + 2 * k) < 729 by omega) (fun r_15 => ?_)
  refine j_istore_n 17 (L2 := [(3, .int (i32 (d ((163 + 2 * k))))), (2, .int (i32 (((163 + 2 * k : Nat) : Int)))), (0, .ref (m)), (1, .int (i32 (x)))]) dX10_marks_16 rfl rfl (Nat.le_of_ble_eq_true rfl) rfl ?_
  refine j_iload_n 18 0 dX10_marks_17 rfl rfl ?_
  refine j_iconst 19 dX10_marks_18 rfl ?_
  refine j_icmp_ne 22 23 dX10_marks_19 rfl rfl r_15 (r32 (by decide) (by decide)) (fun c_19 => ?_) (fun c_19 => ?_)
  · have hcc := hcall c_19
    have hc40 : (d (163 + 2 * k)).toNat < 40 := by omega
    refine j_aload_n 24 2 dX10_marks_23 rfl rfl ?_
    refine j_getr 27 dX10_marks_24 rfl fl_X10_17 hM.md rfl (fun _ _ => rfl) rfl ?_
    refine j_iload_n 28 1 dX10_marks_27 rfl rfl ?_
    refine j_iconst 29 dX10_marks_28 rfl ?_
    refine j_iadd 30 dX10_marks_29 rfl ?_
    refine j_dup2 31 dX10_marks_30 rfl rfl rfl ?_
    refine j_iald_d 32 (164 + 2 * k) dX10_marks_31 rfl hM.dat rfl (by omega) (show (164 + 2 * k) < 729 by omega) (fun r_31 => ?_)
    refine j_iconst 33 dX10_marks_32 rfl ?_
    refine j_isub 34 dX10_marks_33 rfl ?_
    refine j_iast_d 35 (164 + 2 * k) dX10_marks_34 rfl hM.dat rfl (by omega) (show (164 + 2 * k) < 729 by omega) (r32 (by omega) (by omega)) ?_
    refine j_aload_n 36 2 dX10_marks_35 rfl rfl ?_
    refine j_getr 39 dX10_marks_36 rfl fl_X10_17 hM.md rfl (fun _ _ => rfl) rfl ?_
    refine j_iload_n 40 1 dX10_marks_39 rfl rfl ?_
    refine j_iconst 41 dX10_marks_40 rfl ?_
    refine j_iadd 42 dX10_marks_41 rfl ?_
    refine j_iald_d 43 (164 + 2 * k) dX10_marks_42 rfl hM.dat rfl (by omega) (show (164 + 2 * k) < 729 by omega) (fun r_42 => ?_)
    refine j_top (y := d (164 + 2 * k) - 1) (ud_s) ?_
    refine j_if_le 46 47 dX10_marks_43 rfl rfl (r32 (by omega) (by omega)) (fun c_43 => ?_) (fun c_43 => ?_)
    · have hS2 : Sta d (ud (ud d (164 + 2 * k) (d (164 + 2 * k) - 1)) (163 + 2 * k) (-1)) := (Sta.rf.ud (kp_reg (by omega) (by omega))).ud (kp_reg (by omega) (by omega))
      have e179 : (ud (ud d (164 + 2 * k) (d (164 + 2 * k) - 1)) (163 + 2 * k) (-1)) (179 + 14 * (d (163 + 2 * k)).toNat) = d (179 + 14 * (d (163 + 2 * k)).toNat) := by rw [ud_n (by omega), ud_n (by omega)]
      have e1791 : (ud d (164 + 2 * k) (d (164 + 2 * k) - 1)) (179 + 14 * (d (163 + 2 * k)).toNat) = d (179 + 14 * (d (163 + 2 * k)).toNat) := ud_n (by omega)
      refine j_aload_n 48 2 dX10_marks_47 rfl rfl ?_
      refine j_getr 51 dX10_marks_48 rfl fl_X10_17 hM.md rfl (fun _ _ => rfl) rfl ?_
      refine j_iload_n 52 1 dX10_marks_51 rfl rfl ?_
      refine j_iconst 53 dX10_marks_52 rfl ?_
      refine j_iadd 54 dX10_marks_53 rfl ?_
      refine j_iconst 55 dX10_marks_54 rfl ?_
      refine j_iast_d 56 (163 + 2 * k) dX10_marks_55 rfl hM.dat rfl (by omega) (show (163 + 2 * k) < 729 by omega) (r32 (by decide) (by decide)) ?_
      refine j_aload_n 57 2 dX10_marks_56 rfl rfl ?_
      refine j_getr 60 dX10_marks_57 rfl fl_X10_17 hM.md rfl (fun _ _ => rfl) rfl ?_
      refine j_sipush 63 dX10_marks_60 rfl (by decide) ?_
      refine j_iconst 64 dX10_marks_63 rfl ?_
      refine j_aload_n 65 2 dX10_marks_64 rfl rfl ?_
      refine j_iload_n 66 0 dX10_marks_65 rfl rfl ?_
      refine j_bipush 68 dX10_marks_66 rfl (by decide) ?_
      refine j_callV 71 (As := [.int (i32 (d ((163 + 2 * k)))), .int (i32 (10))]) (kc2 := 0) (ks2 := 0) dX10_marks_68 rfl mvX10_of lk_X10_192 hM.md rfl ⟨Nat.le_of_ble_eq_true rfl, rfl⟩ rfl rfl (Nat.le_of_ble_eq_true rfl) ⟨Nat.le_of_ble_eq_true rfl, Nat.le_of_ble_eq_true rfl⟩ ⟨Nat.le_of_ble_eq_true rfl, Nat.le_of_ble_eq_true rfl⟩ (r_of hM ((d (163 + 2 * k)).toNat) 10 (179 + 14 * (d (163 + 2 * k)).toNat) (by omega) rfl (by omega) (by omega) (by decide)) x_d (k_d1 ?_)
      refine j_top e179 ?_
      refine j_imul 72 dX10_marks_71 rfl ?_
      refine j_iadd 73 dX10_marks_72 rfl ?_
      refine j_iconst 74 dX10_marks_73 rfl ?_
      refine j_iadd 75 dX10_marks_74 rfl ?_
      refine j_iald_d 76 (152 + 3 * (d (179 + 14 * (d (163 + 2 * k)).toNat)).toNat) dX10_marks_75 rfl hM.dat rfl (by omega) (show (152 + 3 * (d (179 + 14 * (d (163 + 2 * k)).toNat)).toNat) < 729 by omega) (fun r_75 => ?_)
      refine j_top (y := d (152 + 3 * (d (179 + 14 * (d (163 + 2 * k)).toNat)).toNat)) (by rw [ud_n (by omega), ud_n (by omega)]) ?_
      refine j_istore 78 (L2 := [(4, .int (i32 (d (152 + 3 * (d (179 + 14 * (d (163 + 2 * k)).toNat)).toNat)))), (3, .int (i32 (d ((163 + 2 * k))))), (2, .int (i32 (((163 + 2 * k : Nat) : Int)))), (0, .ref (m)), (1, .int (i32 (x)))]) dX10_marks_76 rfl (Nat.le_of_ble_eq_true rfl) rfl ?_
      refine j_aload_n 79 3 dX10_marks_78 rfl rfl ?_
      refine j_iload_n 80 1 dX10_marks_79 rfl rfl ?_
      refine j_callV 83 (As := [.int (i32 (d ((163 + 2 * k))))]) (kc2 := 0) (ks2 := 0) dX10_marks_80 rfl mvX10_freeRegister lk_X10_245 hM.md rfl ⟨Nat.le_of_ble_eq_true rfl, rfl⟩ rfl rfl (Nat.le_of_ble_eq_true rfl) ⟨Nat.le_of_ble_eq_true rfl, Nat.le_of_ble_eq_true rfl⟩ ⟨Nat.le_of_ble_eq_true rfl, Nat.le_of_ble_eq_true rfl⟩ (r_freeRegister hM ((d (163 + 2 * k)).toNat) (by omega) hc40 (Or.inr (by rw [e179]; omega))) x_d (k_d0 ?_)
      refine j_aload_n 84 3 dX10_marks_83 rfl rfl ?_
      refine j_iload_n 85 1 dX10_marks_84 rfl rfl ?_
      refine j_iload 87 0 dX10_marks_85 rfl rfl ?_
      refine j_aload_n 88 3 dX10_marks_87 rfl rfl ?_
      refine j_iload_n 89 1 dX10_marks_88 rfl rfl ?_
      refine j_iload 91 0 dX10_marks_89 rfl rfl ?_
      have hS3 : Sta d (s_freeReg (ud (ud d (164 + 2 * k) (d (164 + 2 * k) - 1)) (163 + 2 * k) (-1)) (d (163 + 2 * k)).toNat) := sta_freeReg hS2 (by rw [e179]; omega)
      have hB3 := hB.sta hS3
      have hlc := hB3.2.2.2.2.2.2.2.2.2 _ hc40
      have hlc0 := hB.2.2.2.2.2.2.2.2.2 _ hc40
      have e170 : (s_freeReg (ud (ud d (164 + 2 * k) (d (164 + 2 * k) - 1)) (163 + 2 * k) (-1)) (d (163 + 2 * k)).toNat) (170 + 14 * (d (163 + 2 * k)).toNat) = d (170 + 14 * (d (163 + 2 * k)).toNat) := hS3 _ (by unfold kpI; omega)
      have hdvr : 0 ≤ s_dv (s_freeReg (ud (ud d (164 + 2 * k) (d (164 + 2 * k) - 1)) (163 + 2 * k) (-1)) (d (163 + 2 * k)).toNat) ((d (163 + 2 * k)).toNat) ((d (152 + 3 * (d (179 + 14 * (d (163 + 2 * k)).toNat)).toNat)).toNat) ∧ s_dv (s_freeReg (ud (ud d (164 + 2 * k) (d (164 + 2 * k) - 1)) (163 + 2 * k) (-1)) (d (163 + 2 * k)).toNat) ((d (163 + 2 * k)).toNat) ((d (152 + 3 * (d (179 + 14 * (d (163 + 2 * k)).toNat)).toNat)).toNat) ≤ 2147483647 := by rw [dv_sta hS3]; exact dv_rng hlc0.2.2 (hR _).2
      refine j_callV 94 (As := [.int (i32 (d ((163 + 2 * k)))), .int (i32 (d (152 + 3 * (d (179 + 14 * (d (163 + 2 * k)).toNat)).toNat)))]) (kc2 := 0) (ks2 := 0) dX10_marks_91 rfl mvX10_dialledValue lk_X10_248 hM.md rfl ⟨Nat.le_of_ble_eq_true rfl, rfl⟩ rfl rfl (Nat.le_of_ble_eq_true rfl) ⟨Nat.le_of_ble_eq_true rfl, Nat.le_of_ble_eq_true rfl⟩ ⟨Nat.le_of_ble_eq_true rfl, Nat.le_of_ble_eq_true rfl⟩ (r_dialledValue hM ((d (163 + 2 * k)).toNat) (by omega) hc40 ((d (152 + 3 * (d (179 + 14 * (d (163 + 2 * k)).toNat)).toNat)).toNat) (by omega) hlc (by rw [e170]; omega)) x_d (k_d1 ?_)
      refine j_callV 97 (As := [.int (i32 (d ((163 + 2 * k)))), .int (i32 (d (152 + 3 * (d (179 + 14 * (d (163 + 2 * k)).toNat)).toNat))), .int (i32 (s_dv (s_freeReg (ud (ud d (164 + 2 * k) (d (164 + 2 * k) - 1)) (163 + 2 * k) (-1)) (d (163 + 2 * k)).toNat) ((d (163 + 2 * k)).toNat) ((d (152 + 3 * (d (179 + 14 * (d (163 + 2 * k)).toNat)).toNat)).toNat)))]) (kc2 := 0) (ks2 := 0) dX10_marks_94 rfl mvX10_looks lk_X10_251 hM.md rfl ⟨Nat.le_of_ble_eq_true rfl, rfl⟩ rfl rfl (Nat.le_of_ble_eq_true rfl) ⟨Nat.le_of_ble_eq_true rfl, Nat.le_of_ble_eq_true rfl⟩ ⟨Nat.le_of_ble_eq_true rfl, Nat.le_of_ble_eq_true rfl⟩ (r_looks hM ((d (163 + 2 * k)).toNat) (by omega) hc40 ((d (152 + 3 * (d (179 + 14 * (d (163 + 2 * k)).toNat)).toNat)).toNat) (by omega) (by omega) hdvr.1 hdvr.2 hB3 (by rw [lineOf_sta hS3, routeFor_sta hS3, dv_sta hS3]; exact hok c_19)) x_d (k_d0 ?_)
      exact j_vret dX10_marks_97 rfl (q_d (by unfold s_marks s_found; rw [if_neg c_19, if_neg (by omega), e1791, show (ud d (164 + 2 * k) (d (164 + 2 * k) - 1)) (152 + 3 * (d (179 + 14 * (d (163 + 2 * k)).toNat)).toNat) = d (152 + 3 * (d (179 + 14 * (d (163 + 2 * k)).toNat)).toNat) from ud_n (by omega)]))
    · exact j_vret dX10_marks_46 rfl (q_d (by unfold s_marks; rw [if_neg c_19, if_pos (by omega)]))
  · exact j_vret dX10_marks_22 rfl (q_d (by unfold s_marks; rw [if_pos c_19]))

set_option maxRecDepth 20000 in
theorem r_dials {w : Wd} {sh : Shp} {g : Mem} {d : Nat → Int} {m : Nat} (hM : MdS sh.1 m) {x : Int} (k : Nat) (hx : x = (k : Int)) (hk : k < 4) (hB : RB d) (hcall : ¬ d (151 + 3 * k) = -1 → (0 ≤ d (151 + 3 * k) ∧ d (151 + 3 * k) < 40) ∧ (d (173 + 14 * (d (151 + 3 * k)).toNat) = 2 → (0 ≤ d (179 + 14 * (d (151 + 3 * k)).toNat) ∧ d (179 + 14 * (d (151 + 3 * k)).toNat) < 4) ∧ (0 ≤ d (152 + 3 * k) ∧ d (152 + 3 * k) ≤ d (170 + 14 * (d (151 + 3 * k)).toNat)) ∧ 0 ≤ d (153 + 3 * k) ∧ d (153 + 3 * k) ≤ 1000)) : CT w mX10_dials [.ref (m), .int (i32 (x))] sh (upR g (m + 2) d) (dQ none sh (upR g (m + 2) (s_dials d k))) := by
  refine j_entry (by decide) rfl (Nat.le_of_ble_eq_true rfl) (fun h => by cases h) rfl ?_
  show J w mX10_dials 0 [(0, .ref (m)), (1, .int (i32 (x)))] [] sh (upR g (m + 2) d) 0 0 _
  refine j_rgd hM.dat rfl (fun hR => ?_)
  refine j_sipush 3 dX10_dials_0 rfl (by decide) ?_
  refine j_iconst 4 dX10_dials_3 rfl ?_
  refine j_iload_n 5 1 dX10_dials_4 rfl rfl ?_
  refine j_imul 6 dX10_dials_5 rfl ?_
  refine j_iadd 7 dX10_dials_6 rfl ?_
  refine j_top (y := ((151 + 3 * k : Nat) : Int)) (by omega) ?_
  refine j_istore_n 8 (L2 := [(2, .int (i32 (((151 + 3 * k : Nat) : Int)))), (0, .ref (m)), (1, .int (i32 (x)))]) dX10_dials_7 rfl rfl (Nat.le_of_ble_eq_true rfl) rfl ?_
  refine j_aload_n 9 1 dX10_dials_8 rfl rfl ?_
  refine j_getr 12 dX10_dials_9 rfl fl_X10_17 hM.md rfl (fun _ _ => rfl) rfl ?_
  refine j_iload_n 13 0 dX10_dials_12 rfl rfl ?_
  refine j_iconst 14 dX10_dials_13 rfl ?_
  refine j_iadd 15 dX10_dials_14 rfl ?_
  refine j_iald_d 16 (151 + 3 * k) dX10_dials_15 rfl hM.dat rfl (by omega) (show (151 + 3 * k) < 729 by omega) (fun r_15 => ?_)
  refine j_istore_n 17 (L2 := [(3, .int (i32 (d ((151 + 3 * k))))), (2, .int (i32 (((151 + 3 * k : Nat) : Int)))), (0, .ref (m)), (1, .int (i32 (x)))]) dX10_dials_16 rfl rfl (Nat.le_of_ble_eq_true rfl) rfl ?_
  refine j_iload_n 18 0 dX10_dials_17 rfl rfl ?_
  refine j_iconst 19 dX10_dials_18 rfl ?_
  refine j_icmp_eq 22 32 dX10_dials_19 rfl rfl r_15 (r32 (by decide) (by decide)) (fun c_19 => ?_) (fun c_19 => ?_)
  · have hfin : s_dials d k = d := by unfold s_dials; rw [if_pos c_19]
    exact j_vret dX10_dials_32 rfl (q_d hfin.symm)
  · have hcc := hcall c_19
    have hc40 : (d (151 + 3 * k)).toNat < 40 := by omega
    have hlc := hB.2.2.2.2.2.2.2.2.2 _ hc40
    refine j_aload_n 23 2 dX10_dials_22 rfl rfl ?_
    refine j_iload_n 24 0 dX10_dials_23 rfl rfl ?_
    refine j_iconst 25 dX10_dials_24 rfl ?_
    refine j_callV 28 (As := [.int (i32 (d ((151 + 3 * k)))), .int (i32 (4))]) (kc2 := 0) (ks2 := 0) dX10_dials_25 rfl mvX10_of lk_X10_192 hM.md rfl ⟨Nat.le_of_ble_eq_true rfl, rfl⟩ rfl rfl (Nat.le_of_ble_eq_true rfl) ⟨Nat.le_of_ble_eq_true rfl, Nat.le_of_ble_eq_true rfl⟩ ⟨Nat.le_of_ble_eq_true rfl, Nat.le_of_ble_eq_true rfl⟩ (r_of hM ((d (151 + 3 * k)).toNat) 4 (173 + 14 * (d (151 + 3 * k)).toNat) (by omega) rfl (by omega) (by omega) (by decide)) x_d (k_d1 ?_)
    refine j_iconst 29 dX10_dials_28 rfl ?_
    refine j_icmp_eq 32 33 dX10_dials_29 rfl rfl (hR _) (r32 (by decide) (by decide)) (fun c_29 => ?_) (fun c_29 => ?_)
    · have hc2 := hcc.2 c_29
      have hfin0 : s_dials d k = s_dial2 (s_dial1 d k (d (151 + 3 * k)).toNat) k (d (151 + 3 * k)).toNat := by unfold s_dials; rw [if_neg c_19, if_pos c_29]
      refine j_aload_n 34 2 dX10_dials_33 rfl rfl ?_
      refine j_getr 37 dX10_dials_34 rfl fl_X10_17 hM.md rfl (fun _ _ => rfl) rfl ?_
      refine j_iload_n 38 1 dX10_dials_37 rfl rfl ?_
      refine j_iconst 39 dX10_dials_38 rfl ?_
      refine j_iadd 40 dX10_dials_39 rfl ?_
      refine j_iald_d 41 (152 + 3 * k) dX10_dials_40 rfl hM.dat rfl (by omega) (show (152 + 3 * k) < 729 by omega) (fun r_40 => ?_)
      refine j_aload_n 42 2 dX10_dials_41 rfl rfl ?_
      refine j_iload_n 43 0 dX10_dials_42 rfl rfl ?_
      refine j_iconst 44 dX10_dials_43 rfl ?_
      refine j_callV 47 (As := [.int (i32 (d ((151 + 3 * k)))), .int (i32 (1))]) (kc2 := 0) (ks2 := 0) dX10_dials_44 rfl mvX10_of lk_X10_192 hM.md rfl ⟨Nat.le_of_ble_eq_true rfl, rfl⟩ rfl rfl (Nat.le_of_ble_eq_true rfl) ⟨Nat.le_of_ble_eq_true rfl, Nat.le_of_ble_eq_true rfl⟩ ⟨Nat.le_of_ble_eq_true rfl, Nat.le_of_ble_eq_true rfl⟩ (r_of hM ((d (151 + 3 * k)).toNat) 1 (170 + 14 * (d (151 + 3 * k)).toNat) (by omega) rfl (by omega) (by omega) (by decide)) x_d (k_d1 ?_)
      refine j_icmp_ge 50 62 dX10_dials_47 rfl rfl r_40 (hR _) (fun c_47 => ?_) (fun c_47 => ?_)
      · have e1 : d = (s_dial1 d k (d (151 + 3 * k)).toNat) := by unfold s_dial1; rw [if_neg (by omega)]
        have em : (s_dial1 d k (d (151 + 3 * k)).toNat) (152 + 3 * k) = d (152 + 3 * k) := congrFun e1.symm _
        have hS1 : Sta d (s_dial1 d k (d (151 + 3 * k)).toNat) := by rw [← e1] <;> first | exact Sta.rf | exact Sta.rf.ud (kp_reg (by omega) (by omega))
        have hB1 := hB.sta hS1
        have hlc1 := hB1.2.2.2.2.2.2.2.2.2 _ hc40
        have e170 : (s_dial1 d k (d (151 + 3 * k)).toNat) (170 + 14 * (d (151 + 3 * k)).toNat) = d (170 + 14 * (d (151 + 3 * k)).toNat) := hS1 _ (by unfold kpI; omega)
        have e153 : (s_dial1 d k (d (151 + 3 * k)).toNat) (153 + 3 * k) = d (153 + 3 * k) := by rw [← e1] <;> first | rfl | exact ud_n (by omega)
        have e179 : (s_dial1 d k (d (151 + 3 * k)).toNat) (179 + 14 * (d (151 + 3 * k)).toNat) = d (179 + 14 * (d (151 + 3 * k)).toNat) := by rw [← e1] <;> first | rfl | exact ud_n (by omega)
        refine j_d e1 ?_
        refine j_rgd hM.dat rfl (fun hR1 => ?_)
        have hdvr := dv_rng (d := (s_dial1 d k (d (151 + 3 * k)).toNat)) (c := (d (151 + 3 * k)).toNat) (many := ((s_dial1 d k (d (151 + 3 * k)).toNat) (152 + 3 * k)).toNat) hlc1.2.2 (hR1 _).2
        refine j_aload_n 63 2 dX10_dials_62 rfl rfl ?_
        refine j_aload_n 64 2 dX10_dials_63 rfl rfl ?_
        refine j_getr 67 dX10_dials_64 rfl fl_X10_17 hM.md rfl (fun _ _ => rfl) rfl ?_
        refine j_iload_n 68 1 dX10_dials_67 rfl rfl ?_
        refine j_iconst 69 dX10_dials_68 rfl ?_
        refine j_iadd 70 dX10_dials_69 rfl ?_
        refine j_iald_d 71 (152 + 3 * k) dX10_dials_70 rfl hM.dat rfl (by omega) (show (152 + 3 * k) < 729 by omega) (fun r_70 => ?_)
        refine j_aload_n 72 2 dX10_dials_71 rfl rfl ?_
        refine j_iload_n 73 0 dX10_dials_72 rfl rfl ?_
        refine j_aload_n 74 2 dX10_dials_73 rfl rfl ?_
        refine j_getr 77 dX10_dials_74 rfl fl_X10_17 hM.md rfl (fun _ _ => rfl) rfl ?_
        refine j_iload_n 78 1 dX10_dials_77 rfl rfl ?_
        refine j_iconst 79 dX10_dials_78 rfl ?_
        refine j_iadd 80 dX10_dials_79 rfl ?_
        refine j_iald_d 81 (152 + 3 * k) dX10_dials_80 rfl hM.dat rfl (by omega) (show (152 + 3 * k) < 729 by omega) (fun r_80 => ?_)
        refine j_callV 84 (As := [.int (i32 (d ((151 + 3 * k)))), .int (i32 ((s_dial1 d k (d (151 + 3 * k)).toNat) ((152 + 3 * k))))]) (kc2 := 0) (ks2 := 0) dX10_dials_81 rfl mvX10_dialledValue lk_X10_248 hM.md rfl ⟨Nat.le_of_ble_eq_true rfl, rfl⟩ rfl rfl (Nat.le_of_ble_eq_true rfl) ⟨Nat.le_of_ble_eq_true rfl, Nat.le_of_ble_eq_true rfl⟩ ⟨Nat.le_of_ble_eq_true rfl, Nat.le_of_ble_eq_true rfl⟩ (r_dialledValue hM ((d (151 + 3 * k)).toNat) (by omega) hc40 (((s_dial1 d k (d (151 + 3 * k)).toNat) (152 + 3 * k)).toNat) (by omega) hlc1 (by rw [e170]; omega)) x_d (k_d1 ?_)
        refine j_callV 87 (As := [.int (i32 ((s_dial1 d k (d (151 + 3 * k)).toNat) ((152 + 3 * k)))), .int (i32 (s_dv (s_dial1 d k (d (151 + 3 * k)).toNat) ((d (151 + 3 * k)).toNat) (((s_dial1 d k (d (151 + 3 * k)).toNat) (152 + 3 * k)).toNat)))]) (kc2 := 0) (ks2 := 0) dX10_dials_84 rfl mvX10_isComplete lk_X10_254 hM.md rfl ⟨Nat.le_of_ble_eq_true rfl, rfl⟩ rfl rfl (Nat.le_of_ble_eq_true rfl) ⟨Nat.le_of_ble_eq_true rfl, Nat.le_of_ble_eq_true rfl⟩ ⟨Nat.le_of_ble_eq_true rfl, Nat.le_of_ble_eq_true rfl⟩ (r_isComplete hM (((s_dial1 d k (d (151 + 3 * k)).toNat) (152 + 3 * k)).toNat) (by omega) (by omega) hdvr.1 hdvr.2 hB1.2.2.1.2 hB1.2.2.2.2.1.2 (fun r hr => (hB1.2.2.2.2.2.2.1 r (by have := hB1.2.2.2.2.1.2; omega)).1)) x_d (k_d1 ?_)
        refine j_if_eq 90 97 dX10_dials_87 rfl rfl (r01 (b01_r _)) (fun c_87 => ?_) (fun c_87 => ?_)
        · have hn9 : ¬ s_isComplete (s_dial1 d k (d (151 + 3 * k)).toNat) (((s_dial1 d k (d (151 + 3 * k)).toNat) (152 + 3 * k)).toNat) (s_dv (s_dial1 d k (d (151 + 3 * k)).toNat) ((d (151 + 3 * k)).toNat) (((s_dial1 d k (d (151 + 3 * k)).toNat) (152 + 3 * k)).toNat)) = true := by rw [b01_0 c_87]; decide
          refine j_aload_n 98 2 dX10_dials_97 rfl rfl ?_
          refine j_getr 101 dX10_dials_98 rfl fl_X10_17 hM.md rfl (fun _ _ => rfl) rfl ?_
          refine j_iload_n 102 1 dX10_dials_101 rfl rfl ?_
          refine j_iconst 103 dX10_dials_102 rfl ?_
          refine j_iadd 104 dX10_dials_103 rfl ?_
          refine j_iald_d 105 (152 + 3 * k) dX10_dials_104 rfl hM.dat rfl (by omega) (show (152 + 3 * k) < 729 by omega) (fun r_104 => ?_)
          refine j_aload_n 106 2 dX10_dials_105 rfl rfl ?_
          refine j_iload_n 107 0 dX10_dials_106 rfl rfl ?_
          refine j_iconst 108 dX10_dials_107 rfl ?_
          refine j_callV 111 (As := [.int (i32 (d ((151 + 3 * k)))), .int (i32 (1))]) (kc2 := 0) (ks2 := 0) dX10_dials_108 rfl mvX10_of lk_X10_192 hM.md rfl ⟨Nat.le_of_ble_eq_true rfl, rfl⟩ rfl rfl (Nat.le_of_ble_eq_true rfl) ⟨Nat.le_of_ble_eq_true rfl, Nat.le_of_ble_eq_true rfl⟩ ⟨Nat.le_of_ble_eq_true rfl, Nat.le_of_ble_eq_true rfl⟩ (r_of hM ((d (151 + 3 * k)).toNat) 1 (170 + 14 * (d (151 + 3 * k)).toNat) (by omega) rfl (by omega) (by omega) (by decide)) x_d (k_d1 ?_)
          refine j_icmp_ge 114 115 dX10_dials_111 rfl rfl r_104 (hR1 _) (fun c_111 => ?_) (fun c_111 => ?_)
          · refine j_aload_n 116 2 dX10_dials_115 rfl rfl ?_
            refine j_getr 119 dX10_dials_116 rfl fl_X10_17 hM.md rfl (fun _ _ => rfl) rfl ?_
            refine j_iload_n 120 1 dX10_dials_119 rfl rfl ?_
            refine j_iconst 121 dX10_dials_120 rfl ?_
            refine j_iadd 122 dX10_dials_121 rfl ?_
            refine j_dup2 123 dX10_dials_122 rfl rfl rfl ?_
            refine j_iald_d 124 (153 + 3 * k) dX10_dials_123 rfl hM.dat rfl (by omega) (show (153 + 3 * k) < 729 by omega) (fun r_123 => ?_)
            refine j_iconst 125 dX10_dials_124 rfl ?_
            refine j_iadd 126 dX10_dials_125 rfl ?_
            refine j_iast_d 127 (153 + 3 * k) dX10_dials_126 rfl hM.dat rfl (by omega) (show (153 + 3 * k) < 729 by omega) (r32 (by omega) (by omega)) ?_
            refine j_aload_n 128 2 dX10_dials_127 rfl rfl ?_
            refine j_getr 131 dX10_dials_128 rfl fl_X10_17 hM.md rfl (fun _ _ => rfl) rfl ?_
            refine j_iload_n 132 1 dX10_dials_131 rfl rfl ?_
            refine j_iconst 133 dX10_dials_132 rfl ?_
            refine j_iadd 134 dX10_dials_133 rfl ?_
            refine j_iald_d 135 (153 + 3 * k) dX10_dials_134 rfl hM.dat rfl (by omega) (show (153 + 3 * k) < 729 by omega) (fun r_134 => ?_)
            refine j_top (y := (s_dial1 d k (d (151 + 3 * k)).toNat) (153 + 3 * k) + 1) (ud_s) ?_
            refine j_aload_n 136 2 dX10_dials_135 rfl rfl ?_
            refine j_getr 139 dX10_dials_136 rfl fl_X10_17 hM.md rfl (fun _ _ => rfl) rfl ?_
            refine j_bipush 141 dX10_dials_139 rfl (by decide) ?_
            refine j_iald_d 142 20 dX10_dials_141 rfl hM.dat rfl (by omega) (show 20 < 729 by omega) (fun r_141 => ?_)
            refine j_top (y := (s_dial1 d k (d (151 + 3 * k)).toNat) 20) (ud_n (by omega)) ?_
            refine j_icmp_ge 145 146 dX10_dials_142 rfl rfl (r32 (by omega) (by omega)) (hR1 20) (fun c_142 => ?_) (fun c_142 => ?_)
            · have hfin : s_dials d k = s_isOver (s_freeReg (ud (s_dial1 d k (d (151 + 3 * k)).toNat) (153 + 3 * k) ((s_dial1 d k (d (151 + 3 * k)).toNat) (153 + 3 * k) + 1)) (d (151 + 3 * k)).toNat) (d (151 + 3 * k)).toNat 9 := by rw [hfin0]; unfold s_dial2; rw [if_neg hn9, if_neg (by omega), if_neg (by omega)]
              have e1792 : (ud (s_dial1 d k (d (151 + 3 * k)).toNat) (153 + 3 * k) ((s_dial1 d k (d (151 + 3 * k)).toNat) (153 + 3 * k) + 1)) (179 + 14 * (d (151 + 3 * k)).toNat) = d (179 + 14 * (d (151 + 3 * k)).toNat) := by rw [ud_n (by omega), e179]
              refine j_aload_n 147 2 dX10_dials_146 rfl rfl ?_
              refine j_iload_n 148 0 dX10_dials_147 rfl rfl ?_
              refine j_callV 151 (As := [.int (i32 (d ((151 + 3 * k))))]) (kc2 := 0) (ks2 := 0) dX10_dials_148 rfl mvX10_freeRegister lk_X10_245 hM.md rfl ⟨Nat.le_of_ble_eq_true rfl, rfl⟩ rfl rfl (Nat.le_of_ble_eq_true rfl) ⟨Nat.le_of_ble_eq_true rfl, Nat.le_of_ble_eq_true rfl⟩ ⟨Nat.le_of_ble_eq_true rfl, Nat.le_of_ble_eq_true rfl⟩ (r_freeRegister hM ((d (151 + 3 * k)).toNat) (by omega) hc40 (Or.inr (by rw [e1792]; omega))) x_d (k_d0 ?_)
              refine j_aload_n 152 2 dX10_dials_151 rfl rfl ?_
              refine j_iload_n 153 0 dX10_dials_152 rfl rfl ?_
              refine j_bipush 155 dX10_dials_153 rfl (by decide) ?_
              refine j_callV 158 (As := [.int (i32 (d ((151 + 3 * k)))), .int (i32 (9))]) (kc2 := 0) (ks2 := 0) dX10_dials_155 rfl mvX10_isOver lk_X10_230 hM.md rfl ⟨Nat.le_of_ble_eq_true rfl, rfl⟩ rfl rfl (Nat.le_of_ble_eq_true rfl) ⟨Nat.le_of_ble_eq_true rfl, Nat.le_of_ble_eq_true rfl⟩ ⟨Nat.le_of_ble_eq_true rfl, Nat.le_of_ble_eq_true rfl⟩ (r_isOver hM ((d (151 + 3 * k)).toNat) (by omega) hc40 (y := 9) (r32 (by decide) (by decide))) x_d (k_d0 ?_)
              exact j_vret dX10_dials_158 rfl (q_d hfin.symm)
            · have hfin : s_dials d k = ud (s_dial1 d k (d (151 + 3 * k)).toNat) (153 + 3 * k) ((s_dial1 d k (d (151 + 3 * k)).toNat) (153 + 3 * k) + 1) := by rw [hfin0]; unfold s_dial2; rw [if_neg hn9, if_neg (by omega), if_pos (by omega)]
              exact j_vret dX10_dials_145 rfl (q_d hfin.symm)
          · have hfin : s_dials d k = (s_dial1 d k (d (151 + 3 * k)).toNat) := by rw [hfin0]; unfold s_dial2; rw [if_neg hn9, if_pos (by omega)]
            exact j_vret dX10_dials_114 rfl (q_d hfin.symm)
        · have hfin : s_dials d k = s_waits (s_dial1 d k (d (151 + 3 * k)).toNat) (d (151 + 3 * k)).toNat 3 := by rw [hfin0]; unfold s_dial2; rw [if_pos (b01_1 c_87)]
          refine j_aload_n 91 2 dX10_dials_90 rfl rfl ?_
          refine j_iload_n 92 0 dX10_dials_91 rfl rfl ?_
          refine j_iconst 93 dX10_dials_92 rfl ?_
          refine j_callV 96 (As := [.int (i32 (d ((151 + 3 * k)))), .int (i32 (3))]) (kc2 := 0) (ks2 := 0) dX10_dials_93 rfl mvX10_waits lk_X10_233 hM.md rfl ⟨Nat.le_of_ble_eq_true rfl, rfl⟩ rfl rfl (Nat.le_of_ble_eq_true rfl) ⟨Nat.le_of_ble_eq_true rfl, Nat.le_of_ble_eq_true rfl⟩ ⟨Nat.le_of_ble_eq_true rfl, Nat.le_of_ble_eq_true rfl⟩ (r_waits hM ((d (151 + 3 * k)).toNat) (by omega) hc40 (y := 3) (r32 (by decide) (by decide))) x_d (k_d0 ?_)
          exact j_vret dX10_dials_96 rfl (q_d hfin.symm)
      · have e1 : ud d (152 + 3 * k) (d (152 + 3 * k) + 1) = (s_dial1 d k (d (151 + 3 * k)).toNat) := by unfold s_dial1; rw [if_pos (by omega)]
        have em : (s_dial1 d k (d (151 + 3 * k)).toNat) (152 + 3 * k) = d (152 + 3 * k) + 1 := by rw [← e1, ud_s]
        refine j_aload_n 51 2 dX10_dials_50 rfl rfl ?_
        refine j_getr 54 dX10_dials_51 rfl fl_X10_17 hM.md rfl (fun _ _ => rfl) rfl ?_
        refine j_iload_n 55 1 dX10_dials_54 rfl rfl ?_
        refine j_iconst 56 dX10_dials_55 rfl ?_
        refine j_iadd 57 dX10_dials_56 rfl ?_
        refine j_dup2 58 dX10_dials_57 rfl rfl rfl ?_
        refine j_iald_d 59 (152 + 3 * k) dX10_dials_58 rfl hM.dat rfl (by omega) (show (152 + 3 * k) < 729 by omega) (fun r_58 => ?_)
        refine j_iconst 60 dX10_dials_59 rfl ?_
        refine j_iadd 61 dX10_dials_60 rfl ?_
        refine j_iast_d 62 (152 + 3 * k) dX10_dials_61 rfl hM.dat rfl (by omega) (show (152 + 3 * k) < 729 by omega) (r32 (by omega) (by omega)) ?_
        have hS1 : Sta d (s_dial1 d k (d (151 + 3 * k)).toNat) := by rw [← e1] <;> first | exact Sta.rf | exact Sta.rf.ud (kp_reg (by omega) (by omega))
        have hB1 := hB.sta hS1
        have hlc1 := hB1.2.2.2.2.2.2.2.2.2 _ hc40
        have e170 : (s_dial1 d k (d (151 + 3 * k)).toNat) (170 + 14 * (d (151 + 3 * k)).toNat) = d (170 + 14 * (d (151 + 3 * k)).toNat) := hS1 _ (by unfold kpI; omega)
        have e153 : (s_dial1 d k (d (151 + 3 * k)).toNat) (153 + 3 * k) = d (153 + 3 * k) := by rw [← e1] <;> first | rfl | exact ud_n (by omega)
        have e179 : (s_dial1 d k (d (151 + 3 * k)).toNat) (179 + 14 * (d (151 + 3 * k)).toNat) = d (179 + 14 * (d (151 + 3 * k)).toNat) := by rw [← e1] <;> first | rfl | exact ud_n (by omega)
        refine j_d e1 ?_
        refine j_rgd hM.dat rfl (fun hR1 => ?_)
        have hdvr := dv_rng (d := (s_dial1 d k (d (151 + 3 * k)).toNat)) (c := (d (151 + 3 * k)).toNat) (many := ((s_dial1 d k (d (151 + 3 * k)).toNat) (152 + 3 * k)).toNat) hlc1.2.2 (hR1 _).2
        refine j_aload_n 63 2 dX10_dials_62 rfl rfl ?_
        refine j_aload_n 64 2 dX10_dials_63 rfl rfl ?_
        refine j_getr 67 dX10_dials_64 rfl fl_X10_17 hM.md rfl (fun _ _ => rfl) rfl ?_
        refine j_iload_n 68 1 dX10_dials_67 rfl rfl ?_
        refine j_iconst 69 dX10_dials_68 rfl ?_
        refine j_iadd 70 dX10_dials_69 rfl ?_
        refine j_iald_d 71 (152 + 3 * k) dX10_dials_70 rfl hM.dat rfl (by omega) (show (152 + 3 * k) < 729 by omega) (fun r_70 => ?_)
        refine j_aload_n 72 2 dX10_dials_71 rfl rfl ?_
        refine j_iload_n 73 0 dX10_dials_72 rfl rfl ?_
        refine j_aload_n 74 2 dX10_dials_73 rfl rfl ?_
        refine j_getr 77 dX10_dials_74 rfl fl_X10_17 hM.md rfl (fun _ _ => rfl) rfl ?_
        refine j_iload_n 78 1 dX10_dials_77 rfl rfl ?_
        refine j_iconst 79 dX10_dials_78 rfl ?_
        refine j_iadd 80 dX10_dials_79 rfl ?_
        refine j_iald_d 81 (152 + 3 * k) dX10_dials_80 rfl hM.dat rfl (by omega) (show (152 + 3 * k) < 729 by omega) (fun r_80 => ?_)
        refine j_callV 84 (As := [.int (i32 (d ((151 + 3 * k)))), .int (i32 ((s_dial1 d k (d (151 + 3 * k)).toNat) ((152 + 3 * k))))]) (kc2 := 0) (ks2 := 0) dX10_dials_81 rfl mvX10_dialledValue lk_X10_248 hM.md rfl ⟨Nat.le_of_ble_eq_true rfl, rfl⟩ rfl rfl (Nat.le_of_ble_eq_true rfl) ⟨Nat.le_of_ble_eq_true rfl, Nat.le_of_ble_eq_true rfl⟩ ⟨Nat.le_of_ble_eq_true rfl, Nat.le_of_ble_eq_true rfl⟩ (r_dialledValue hM ((d (151 + 3 * k)).toNat) (by omega) hc40 (((s_dial1 d k (d (151 + 3 * k)).toNat) (152 + 3 * k)).toNat) (by omega) hlc1 (by rw [e170]; omega)) x_d (k_d1 ?_)
        refine j_callV 87 (As := [.int (i32 ((s_dial1 d k (d (151 + 3 * k)).toNat) ((152 + 3 * k)))), .int (i32 (s_dv (s_dial1 d k (d (151 + 3 * k)).toNat) ((d (151 + 3 * k)).toNat) (((s_dial1 d k (d (151 + 3 * k)).toNat) (152 + 3 * k)).toNat)))]) (kc2 := 0) (ks2 := 0) dX10_dials_84 rfl mvX10_isComplete lk_X10_254 hM.md rfl ⟨Nat.le_of_ble_eq_true rfl, rfl⟩ rfl rfl (Nat.le_of_ble_eq_true rfl) ⟨Nat.le_of_ble_eq_true rfl, Nat.le_of_ble_eq_true rfl⟩ ⟨Nat.le_of_ble_eq_true rfl, Nat.le_of_ble_eq_true rfl⟩ (r_isComplete hM (((s_dial1 d k (d (151 + 3 * k)).toNat) (152 + 3 * k)).toNat) (by omega) (by omega) hdvr.1 hdvr.2 hB1.2.2.1.2 hB1.2.2.2.2.1.2 (fun r hr => (hB1.2.2.2.2.2.2.1 r (by have := hB1.2.2.2.2.1.2; omega)).1)) x_d (k_d1 ?_)
        refine j_if_eq 90 97 dX10_dials_87 rfl rfl (r01 (b01_r _)) (fun c_87 => ?_) (fun c_87 => ?_)
        · have hn9 : ¬ s_isComplete (s_dial1 d k (d (151 + 3 * k)).toNat) (((s_dial1 d k (d (151 + 3 * k)).toNat) (152 + 3 * k)).toNat) (s_dv (s_dial1 d k (d (151 + 3 * k)).toNat) ((d (151 + 3 * k)).toNat) (((s_dial1 d k (d (151 + 3 * k)).toNat) (152 + 3 * k)).toNat)) = true := by rw [b01_0 c_87]; decide
          refine j_aload_n 98 2 dX10_dials_97 rfl rfl ?_
          refine j_getr 101 dX10_dials_98 rfl fl_X10_17 hM.md rfl (fun _ _ => rfl) rfl ?_
          refine j_iload_n 102 1 dX10_dials_101 rfl rfl ?_
          refine j_iconst 103 dX10_dials_102 rfl ?_
          refine j_iadd 104 dX10_dials_103 rfl ?_
          refine j_iald_d 105 (152 + 3 * k) dX10_dials_104 rfl hM.dat rfl (by omega) (show (152 + 3 * k) < 729 by omega) (fun r_104 => ?_)
          refine j_aload_n 106 2 dX10_dials_105 rfl rfl ?_
          refine j_iload_n 107 0 dX10_dials_106 rfl rfl ?_
          refine j_iconst 108 dX10_dials_107 rfl ?_
          refine j_callV 111 (As := [.int (i32 (d ((151 + 3 * k)))), .int (i32 (1))]) (kc2 := 0) (ks2 := 0) dX10_dials_108 rfl mvX10_of lk_X10_192 hM.md rfl ⟨Nat.le_of_ble_eq_true rfl, rfl⟩ rfl rfl (Nat.le_of_ble_eq_true rfl) ⟨Nat.le_of_ble_eq_true rfl, Nat.le_of_ble_eq_true rfl⟩ ⟨Nat.le_of_ble_eq_true rfl, Nat.le_of_ble_eq_true rfl⟩ (r_of hM ((d (151 + 3 * k)).toNat) 1 (170 + 14 * (d (151 + 3 * k)).toNat) (by omega) rfl (by omega) (by omega) (by decide)) x_d (k_d1 ?_)
          refine j_icmp_ge 114 115 dX10_dials_111 rfl rfl r_104 (hR1 _) (fun c_111 => ?_) (fun c_111 => ?_)
          · refine j_aload_n 116 2 dX10_dials_115 rfl rfl ?_
            refine j_getr 119 dX10_dials_116 rfl fl_X10_17 hM.md rfl (fun _ _ => rfl) rfl ?_
            refine j_iload_n 120 1 dX10_dials_119 rfl rfl ?_
            refine j_iconst 121 dX10_dials_120 rfl ?_
            refine j_iadd 122 dX10_dials_121 rfl ?_
            refine j_dup2 123 dX10_dials_122 rfl rfl rfl ?_
            refine j_iald_d 124 (153 + 3 * k) dX10_dials_123 rfl hM.dat rfl (by omega) (show (153 + 3 * k) < 729 by omega) (fun r_123 => ?_)
            refine j_iconst 125 dX10_dials_124 rfl ?_
            refine j_iadd 126 dX10_dials_125 rfl ?_
            refine j_iast_d 127 (153 + 3 * k) dX10_dials_126 rfl hM.dat rfl (by omega) (show (153 + 3 * k) < 729 by omega) (r32 (by omega) (by omega)) ?_
            refine j_aload_n 128 2 dX10_dials_127 rfl rfl ?_
            refine j_getr 131 dX10_dials_128 rfl fl_X10_17 hM.md rfl (fun _ _ => rfl) rfl ?_
            refine j_iload_n 132 1 dX10_dials_131 rfl rfl ?_
            refine j_iconst 133 dX10_dials_132 rfl ?_
            refine j_iadd 134 dX10_dials_133 rfl ?_
            refine j_iald_d 135 (153 + 3 * k) dX10_dials_134 rfl hM.dat rfl (by omega) (show (153 + 3 * k) < 729 by omega) (fun r_134 => ?_)
            refine j_top (y := (s_dial1 d k (d (151 + 3 * k)).toNat) (153 + 3 * k) + 1) (ud_s) ?_
            refine j_aload_n 136 2 dX10_dials_135 rfl rfl ?_
            refine j_getr 139 dX10_dials_136 rfl fl_X10_17 hM.md rfl (fun _ _ => rfl) rfl ?_
            refine j_bipush 141 dX10_dials_139 rfl (by decide) ?_
            refine j_iald_d 142 20 dX10_dials_141 rfl hM.dat rfl (by omega) (show 20 < 729 by omega) (fun r_141 => ?_)
            refine j_top (y := (s_dial1 d k (d (151 + 3 * k)).toNat) 20) (ud_n (by omega)) ?_
            refine j_icmp_ge 145 146 dX10_dials_142 rfl rfl (r32 (by omega) (by omega)) (hR1 20) (fun c_142 => ?_) (fun c_142 => ?_)
            · have hfin : s_dials d k = s_isOver (s_freeReg (ud (s_dial1 d k (d (151 + 3 * k)).toNat) (153 + 3 * k) ((s_dial1 d k (d (151 + 3 * k)).toNat) (153 + 3 * k) + 1)) (d (151 + 3 * k)).toNat) (d (151 + 3 * k)).toNat 9 := by rw [hfin0]; unfold s_dial2; rw [if_neg hn9, if_neg (by omega), if_neg (by omega)]
              have e1792 : (ud (s_dial1 d k (d (151 + 3 * k)).toNat) (153 + 3 * k) ((s_dial1 d k (d (151 + 3 * k)).toNat) (153 + 3 * k) + 1)) (179 + 14 * (d (151 + 3 * k)).toNat) = d (179 + 14 * (d (151 + 3 * k)).toNat) := by rw [ud_n (by omega), e179]
              refine j_aload_n 147 2 dX10_dials_146 rfl rfl ?_
              refine j_iload_n 148 0 dX10_dials_147 rfl rfl ?_
              refine j_callV 151 (As := [.int (i32 (d ((151 + 3 * k))))]) (kc2 := 0) (ks2 := 0) dX10_dials_148 rfl mvX10_freeRegister lk_X10_245 hM.md rfl ⟨Nat.le_of_ble_eq_true rfl, rfl⟩ rfl rfl (Nat.le_of_ble_eq_true rfl) ⟨Nat.le_of_ble_eq_true rfl, Nat.le_of_ble_eq_true rfl⟩ ⟨Nat.le_of_ble_eq_true rfl, Nat.le_of_ble_eq_true rfl⟩ (r_freeRegister hM ((d (151 + 3 * k)).toNat) (by omega) hc40 (Or.inr (by rw [e1792]; omega))) x_d (k_d0 ?_)
              refine j_aload_n 152 2 dX10_dials_151 rfl rfl ?_
              refine j_iload_n 153 0 dX10_dials_152 rfl rfl ?_
              refine j_bipush 155 dX10_dials_153 rfl (by decide) ?_
              refine j_callV 158 (As := [.int (i32 (d ((151 + 3 * k)))), .int (i32 (9))]) (kc2 := 0) (ks2 := 0) dX10_dials_155 rfl mvX10_isOver lk_X10_230 hM.md rfl ⟨Nat.le_of_ble_eq_true rfl, rfl⟩ rfl rfl (Nat.le_of_ble_eq_true rfl) ⟨Nat.le_of_ble_eq_true rfl, Nat.le_of_ble_eq_true rfl⟩ ⟨Nat.le_of_ble_eq_true rfl, Nat.le_of_ble_eq_true rfl⟩ (r_isOver hM ((d (151 + 3 * k)).toNat) (by omega) hc40 (y := 9) (r32 (by decide) (by decide))) x_d (k_d0 ?_)
              exact j_vret dX10_dials_158 rfl (q_d hfin.symm)
            · have hfin : s_dials d k = ud (s_dial1 d k (d (151 + 3 * k)).toNat) (153 + 3 * k) ((s_dial1 d k (d (151 + 3 * k)).toNat) (153 + 3 * k) + 1) := by rw [hfin0]; unfold s_dial2; rw [if_neg hn9, if_neg (by omega), if_pos (by omega)]
              exact j_vret dX10_dials_145 rfl (q_d hfin.symm)
          · have hfin : s_dials d k = (s_dial1 d k (d (151 + 3 * k)).toNat) := by rw [hfin0]; unfold s_dial2; rw [if_neg hn9, if_pos (by omega)]
            exact j_vret dX10_dials_114 rfl (q_d hfin.symm)
        · have hfin : s_dials d k = s_waits (s_dial1 d k (d (151 + 3 * k)).toNat) (d (151 + 3 * k)).toNat 3 := by rw [hfin0]; unfold s_dial2; rw [if_pos (b01_1 c_87)]
          refine j_aload_n 91 2 dX10_dials_90 rfl rfl ?_
          refine j_iload_n 92 0 dX10_dials_91 rfl rfl ?_
          refine j_iconst 93 dX10_dials_92 rfl ?_
          refine j_callV 96 (As := [.int (i32 (d ((151 + 3 * k)))), .int (i32 (3))]) (kc2 := 0) (ks2 := 0) dX10_dials_93 rfl mvX10_waits lk_X10_233 hM.md rfl ⟨Nat.le_of_ble_eq_true rfl, rfl⟩ rfl rfl (Nat.le_of_ble_eq_true rfl) ⟨Nat.le_of_ble_eq_true rfl, Nat.le_of_ble_eq_true rfl⟩ ⟨Nat.le_of_ble_eq_true rfl, Nat.le_of_ble_eq_true rfl⟩ (r_waits hM ((d (151 + 3 * k)).toNat) (by omega) hc40 (y := 3) (r32 (by decide) (by decide))) x_d (k_d0 ?_)
          exact j_vret dX10_dials_96 rfl (q_d hfin.symm)
    · have hfin : s_dials d k = d := by unfold s_dials; rw [if_neg c_19, if_neg c_29]
      exact j_vret dX10_dials_32 rfl (q_d hfin.symm)

set_option maxRecDepth 20000 in
theorem r_takesMarker {w : Wd} {sh : Shp} {g : Mem} {d : Nat → Int} {m : Nat} (hM : MdS sh.1 m) {x : Int} (k : Nat) (hx : x = (k : Int)) (hk : k < 3) (hb : d 5 ≤ 40) : CT w mX10_takesMarker [.ref (m), .int (i32 (x))] sh (upR g (m + 2) d) (dQ none sh (upR g (m + 2) (s_takesMarker d k))) := by
  refine j_entry (by decide) rfl (Nat.le_of_ble_eq_true rfl) (fun h => by cases h) rfl ?_
  show J w mX10_takesMarker 0 [(0, .ref (m)), (1, .int (i32 (x)))] [] sh (upR g (m + 2) d) 0 0 _
  refine j_rgd hM.dat rfl (fun hR => ?_)
  have hfr := s_foremost_rng d 3
  refine j_sipush 3 dX10_takesMarker_0 rfl (by decide) ?_
  refine j_iconst 4 dX10_takesMarker_3 rfl ?_
  refine j_iload_n 5 1 dX10_takesMarker_4 rfl rfl ?_
  refine j_imul 6 dX10_takesMarker_5 rfl ?_
  refine j_iadd 7 dX10_takesMarker_6 rfl ?_
  refine j_top (y := ((163 + 2 * k : Nat) : Int)) (by omega) ?_
  refine j_istore_n 8 (L2 := [(2, .int (i32 (((163 + 2 * k : Nat) : Int)))), (0, .ref (m)), (1, .int (i32 (x)))]) dX10_takesMarker_7 rfl rfl (Nat.le_of_ble_eq_true rfl) rfl ?_
  refine j_aload_n 9 1 dX10_takesMarker_8 rfl rfl ?_
  refine j_iconst 10 dX10_takesMarker_9 rfl ?_
  refine j_callV 13 (As := [.int (i32 (3))]) (kc2 := 0) (ks2 := 0) dX10_takesMarker_10 rfl mvX10_foremostOf lk_X10_258 hM.md rfl ⟨Nat.le_of_ble_eq_true rfl, rfl⟩ rfl rfl (Nat.le_of_ble_eq_true rfl) ⟨Nat.le_of_ble_eq_true rfl, Nat.le_of_ble_eq_true rfl⟩ ⟨Nat.le_of_ble_eq_true rfl, Nat.le_of_ble_eq_true rfl⟩ (r_foremostOf hM hb (x := 3) (r32 (by decide) (by decide))) x_d (k_d1 ?_)
  refine j_istore_n 14 (L2 := [(3, .int (i32 (s_foremost d 3))), (2, .int (i32 (((163 + 2 * k : Nat) : Int)))), (0, .ref (m)), (1, .int (i32 (x)))]) dX10_takesMarker_13 rfl rfl (Nat.le_of_ble_eq_true rfl) rfl ?_
  refine j_aload_n 15 2 dX10_takesMarker_14 rfl rfl ?_
  refine j_getr 18 dX10_takesMarker_15 rfl fl_X10_17 hM.md rfl (fun _ _ => rfl) rfl ?_
  refine j_iload_n 19 1 dX10_takesMarker_18 rfl rfl ?_
  refine j_iconst 20 dX10_takesMarker_19 rfl ?_
  refine j_iadd 21 dX10_takesMarker_20 rfl ?_
  refine j_iald_d 22 (163 + 2 * k) dX10_takesMarker_21 rfl hM.dat rfl (by omega) (show (163 + 2 * k) < 729 by omega) (fun r_21 => ?_)
  refine j_iconst 23 dX10_takesMarker_22 rfl ?_
  refine j_icmp_ne 26 31 dX10_takesMarker_23 rfl rfl r_21 (r32 (by decide) (by decide)) (fun c_23 => ?_) (fun c_23 => ?_)
  · have hfin : s_takesMarker d k = d := by unfold s_takesMarker; rw [if_neg (fun h => c_23 h.1)]
    exact j_vret dX10_takesMarker_31 rfl (q_d hfin.symm)
  · refine j_iload_n 27 0 dX10_takesMarker_26 rfl rfl ?_
    refine j_iconst 28 dX10_takesMarker_27 rfl ?_
    refine j_icmp_ne 31 32 dX10_takesMarker_28 rfl rfl (r32 (by omega) (by omega)) (r32 (by decide) (by decide)) (fun c_28 => ?_) (fun c_28 => ?_)
    · have hfin : s_takesMarker d k = ud (ud (ud d (163 + 2 * k) (s_foremost d 3)) (164 + 2 * k) (d 21)) (173 + 14 * (s_foremost d 3).toNat) 4 := by unfold s_takesMarker; rw [if_pos ⟨c_23, c_28⟩]
      refine j_aload_n 33 2 dX10_takesMarker_32 rfl rfl ?_
      refine j_getr 36 dX10_takesMarker_33 rfl fl_X10_17 hM.md rfl (fun _ _ => rfl) rfl ?_
      refine j_iload_n 37 1 dX10_takesMarker_36 rfl rfl ?_
      refine j_iconst 38 dX10_takesMarker_37 rfl ?_
      refine j_iadd 39 dX10_takesMarker_38 rfl ?_
      refine j_iload_n 40 0 dX10_takesMarker_39 rfl rfl ?_
      refine j_iast_d 41 (163 + 2 * k) dX10_takesMarker_40 rfl hM.dat rfl (by omega) (show (163 + 2 * k) < 729 by omega) (r32 (by omega) (by omega)) ?_
      refine j_aload_n 42 2 dX10_takesMarker_41 rfl rfl ?_
      refine j_getr 45 dX10_takesMarker_42 rfl fl_X10_17 hM.md rfl (fun _ _ => rfl) rfl ?_
      refine j_iload_n 46 1 dX10_takesMarker_45 rfl rfl ?_
      refine j_iconst 47 dX10_takesMarker_46 rfl ?_
      refine j_iadd 48 dX10_takesMarker_47 rfl ?_
      refine j_aload_n 49 2 dX10_takesMarker_48 rfl rfl ?_
      refine j_getr 52 dX10_takesMarker_49 rfl fl_X10_17 hM.md rfl (fun _ _ => rfl) rfl ?_
      refine j_bipush 54 dX10_takesMarker_52 rfl (by decide) ?_
      refine j_iald_d 55 21 dX10_takesMarker_54 rfl hM.dat rfl (by omega) (show 21 < 729 by omega) (fun r_54 => ?_)
      refine j_top (y := d 21) (ud_n (by omega)) ?_
      refine j_iast_d 56 (164 + 2 * k) dX10_takesMarker_55 rfl hM.dat rfl (by omega) (show (164 + 2 * k) < 729 by omega) (hR 21) ?_
      refine j_aload_n 57 2 dX10_takesMarker_56 rfl rfl ?_
      refine j_iload_n 58 0 dX10_takesMarker_57 rfl rfl ?_
      refine j_iconst 59 dX10_takesMarker_58 rfl ?_
      refine j_iconst 60 dX10_takesMarker_59 rfl ?_
      refine j_callV 63 (As := [.int (i32 (s_foremost d 3)), .int (i32 (4)), .int (i32 (4))]) (kc2 := 0) (ks2 := 0) dX10_takesMarker_60 rfl mvX10_set lk_X10_220 hM.md rfl ⟨Nat.le_of_ble_eq_true rfl, rfl⟩ rfl rfl (Nat.le_of_ble_eq_true rfl) ⟨Nat.le_of_ble_eq_true rfl, Nat.le_of_ble_eq_true rfl⟩ ⟨Nat.le_of_ble_eq_true rfl, Nat.le_of_ble_eq_true rfl⟩ (r_set hM (s_foremost d 3).toNat 4 (173 + 14 * (s_foremost d 3).toNat) (by omega) rfl (by omega) (by omega) (by decide) (r32 (by decide) (by decide))) x_d (k_d0 ?_)
      exact j_vret dX10_takesMarker_63 rfl (q_d hfin.symm)
    · have hfin : s_takesMarker d k = d := by unfold s_takesMarker; rw [if_neg (fun h => h.2 c_28)]
      exact j_vret dX10_takesMarker_31 rfl (q_d hfin.symm)

set_option maxRecDepth 20000 in
theorem r_takesRegister {w : Wd} {sh : Shp} {g : Mem} {d : Nat → Int} {m : Nat} (hM : MdS sh.1 m) {x : Int} (k : Nat) (hx : x = (k : Int)) (hk : k < 4) (hb : d 5 ≤ 40) : CT w mX10_takesRegister [.ref (m), .int (i32 (x))] sh (upR g (m + 2) d) (dQ none sh (upR g (m + 2) (s_takesRegister d k))) := by
  refine j_entry (by decide) rfl (Nat.le_of_ble_eq_true rfl) (fun h => by cases h) rfl ?_
  show J w mX10_takesRegister 0 [(0, .ref (m)), (1, .int (i32 (x)))] [] sh (upR g (m + 2) d) 0 0 _
  refine j_rgd hM.dat rfl (fun hR => ?_)
  have hfr := s_foremost_rng d 1
  refine j_sipush 3 dX10_takesRegister_0 rfl (by decide) ?_
  refine j_iconst 4 dX10_takesRegister_3 rfl ?_
  refine j_iload_n 5 1 dX10_takesRegister_4 rfl rfl ?_
  refine j_imul 6 dX10_takesRegister_5 rfl ?_
  refine j_iadd 7 dX10_takesRegister_6 rfl ?_
  refine j_top (y := ((151 + 3 * k : Nat) : Int)) (by omega) ?_
  refine j_istore_n 8 (L2 := [(2, .int (i32 (((151 + 3 * k : Nat) : Int)))), (0, .ref (m)), (1, .int (i32 (x)))]) dX10_takesRegister_7 rfl rfl (Nat.le_of_ble_eq_true rfl) rfl ?_
  refine j_aload_n 9 1 dX10_takesRegister_8 rfl rfl ?_
  refine j_iconst 10 dX10_takesRegister_9 rfl ?_
  refine j_callV 13 (As := [.int (i32 (1))]) (kc2 := 0) (ks2 := 0) dX10_takesRegister_10 rfl mvX10_foremostOf lk_X10_258 hM.md rfl ⟨Nat.le_of_ble_eq_true rfl, rfl⟩ rfl rfl (Nat.le_of_ble_eq_true rfl) ⟨Nat.le_of_ble_eq_true rfl, Nat.le_of_ble_eq_true rfl⟩ ⟨Nat.le_of_ble_eq_true rfl, Nat.le_of_ble_eq_true rfl⟩ (r_foremostOf hM hb (x := 1) (r32 (by decide) (by decide))) x_d (k_d1 ?_)
  refine j_istore_n 14 (L2 := [(3, .int (i32 (s_foremost d 1))), (2, .int (i32 (((151 + 3 * k : Nat) : Int)))), (0, .ref (m)), (1, .int (i32 (x)))]) dX10_takesRegister_13 rfl rfl (Nat.le_of_ble_eq_true rfl) rfl ?_
  refine j_aload_n 15 2 dX10_takesRegister_14 rfl rfl ?_
  refine j_getr 18 dX10_takesRegister_15 rfl fl_X10_17 hM.md rfl (fun _ _ => rfl) rfl ?_
  refine j_iload_n 19 1 dX10_takesRegister_18 rfl rfl ?_
  refine j_iconst 20 dX10_takesRegister_19 rfl ?_
  refine j_iadd 21 dX10_takesRegister_20 rfl ?_
  refine j_iald_d 22 (151 + 3 * k) dX10_takesRegister_21 rfl hM.dat rfl (by omega) (show (151 + 3 * k) < 729 by omega) (fun r_21 => ?_)
  refine j_iconst 23 dX10_takesRegister_22 rfl ?_
  refine j_icmp_ne 26 31 dX10_takesRegister_23 rfl rfl r_21 (r32 (by decide) (by decide)) (fun c_23 => ?_) (fun c_23 => ?_)
  · have hfin : s_takesRegister d k = d := by unfold s_takesRegister; rw [if_neg (fun h => c_23 h.1)]
    exact j_vret dX10_takesRegister_31 rfl (q_d hfin.symm)
  · refine j_iload_n 27 0 dX10_takesRegister_26 rfl rfl ?_
    refine j_iconst 28 dX10_takesRegister_27 rfl ?_
    refine j_icmp_ne 31 32 dX10_takesRegister_28 rfl rfl (r32 (by omega) (by omega)) (r32 (by decide) (by decide)) (fun c_28 => ?_) (fun c_28 => ?_)
    · have hfin : s_takesRegister d k = ud (ud (ud d (151 + 3 * k) (s_foremost d 1)) (173 + 14 * (s_foremost d 1).toNat) 2) (179 + 14 * (s_foremost d 1).toNat) (k : Int) := by unfold s_takesRegister; rw [if_pos ⟨c_23, c_28⟩]
      refine j_aload_n 33 2 dX10_takesRegister_32 rfl rfl ?_
      refine j_getr 36 dX10_takesRegister_33 rfl fl_X10_17 hM.md rfl (fun _ _ => rfl) rfl ?_
      refine j_iload_n 37 1 dX10_takesRegister_36 rfl rfl ?_
      refine j_iconst 38 dX10_takesRegister_37 rfl ?_
      refine j_iadd 39 dX10_takesRegister_38 rfl ?_
      refine j_iload_n 40 0 dX10_takesRegister_39 rfl rfl ?_
      refine j_iast_d 41 (151 + 3 * k) dX10_takesRegister_40 rfl hM.dat rfl (by omega) (show (151 + 3 * k) < 729 by omega) (r32 (by omega) (by omega)) ?_
      refine j_aload_n 42 2 dX10_takesRegister_41 rfl rfl ?_
      refine j_iload_n 43 0 dX10_takesRegister_42 rfl rfl ?_
      refine j_iconst 44 dX10_takesRegister_43 rfl ?_
      refine j_iconst 45 dX10_takesRegister_44 rfl ?_
      refine j_callV 48 (As := [.int (i32 (s_foremost d 1)), .int (i32 (4)), .int (i32 (2))]) (kc2 := 0) (ks2 := 0) dX10_takesRegister_45 rfl mvX10_set lk_X10_220 hM.md rfl ⟨Nat.le_of_ble_eq_true rfl, rfl⟩ rfl rfl (Nat.le_of_ble_eq_true rfl) ⟨Nat.le_of_ble_eq_true rfl, Nat.le_of_ble_eq_true rfl⟩ ⟨Nat.le_of_ble_eq_true rfl, Nat.le_of_ble_eq_true rfl⟩ (r_set hM (s_foremost d 1).toNat 4 (173 + 14 * (s_foremost d 1).toNat) (by omega) rfl (by omega) (by omega) (by decide) (r32 (by decide) (by decide))) x_d (k_d0 ?_)
      refine j_aload_n 49 2 dX10_takesRegister_48 rfl rfl ?_
      refine j_iload_n 50 0 dX10_takesRegister_49 rfl rfl ?_
      refine j_bipush 52 dX10_takesRegister_50 rfl (by decide) ?_
      refine j_iload_n 53 3 dX10_takesRegister_52 rfl rfl ?_
      refine j_callV 56 (As := [.int (i32 (s_foremost d 1)), .int (i32 (10)), .int (i32 (x))]) (kc2 := 0) (ks2 := 0) dX10_takesRegister_53 rfl mvX10_set lk_X10_220 hM.md rfl ⟨Nat.le_of_ble_eq_true rfl, rfl⟩ rfl rfl (Nat.le_of_ble_eq_true rfl) ⟨Nat.le_of_ble_eq_true rfl, Nat.le_of_ble_eq_true rfl⟩ ⟨Nat.le_of_ble_eq_true rfl, Nat.le_of_ble_eq_true rfl⟩ (r_set hM (s_foremost d 1).toNat 10 (179 + 14 * (s_foremost d 1).toNat) (by omega) rfl (by omega) (by omega) (by decide) (r32 (by omega) (by omega))) x_d (k_d0 ?_)
      exact j_vret dX10_takesRegister_56 rfl (q_d (by rw [hfin, hx]))
    · have hfin : s_takesRegister d k = d := by unfold s_takesRegister; rw [if_neg (fun h => h.2 c_28)]
      exact j_vret dX10_takesRegister_31 rfl (q_d hfin.symm)
