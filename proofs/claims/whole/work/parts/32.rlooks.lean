set_option maxRecDepth 20000 in
theorem r_comes {w : Wd} {sh : Shp} {g : Mem} {d : Nat → Int} {m : Nat} (hM : MdS sh.1 m) {x : Int} (c : Nat) (hx : x = (c : Int)) (hc : c < 40) (hb : d 5 ≤ 40) : CT w mX10_comes [.ref (m), .int (i32 (x))] sh (upR g (m + 2) d) (dQ none sh (upR g (m + 2) (s_comes d c))) := by
  refine j_entry (by decide) rfl (Nat.le_of_ble_eq_true rfl) (fun h => by cases h) rfl ?_
  show J w mX10_comes 0 [(0, .ref (m)), (1, .int (i32 (x)))] [] sh (upR g (m + 2) d) 0 0 _
  refine j_rgd hM.dat rfl (fun hR => ?_)
  refine j_aload_n 1 0 dX10_comes_0 rfl rfl ?_
  refine j_aload_n 2 0 dX10_comes_1 rfl rfl ?_
  refine j_iload_n 3 1 dX10_comes_2 rfl rfl ?_
  refine j_iconst 4 dX10_comes_3 rfl ?_
  refine j_callV 7 (As := [.int (i32 (x)), .int (i32 (0))]) (kc2 := 0) (ks2 := 0) dX10_comes_4 rfl mvX10_of lk_X10_192 hM.md rfl ⟨Nat.le_of_ble_eq_true rfl, rfl⟩ rfl rfl (Nat.le_of_ble_eq_true rfl) ⟨Nat.le_of_ble_eq_true rfl, Nat.le_of_ble_eq_true rfl⟩ ⟨Nat.le_of_ble_eq_true rfl, Nat.le_of_ble_eq_true rfl⟩ (r_of hM c 0 (169 + 14 * c) hx rfl (by omega) (by omega) (by decide)) x_d (k_d1 ?_)
  refine j_callV 10 (As := [.int (i32 (d (169 + 14 * c)))]) (kc2 := 0) (ks2 := 0) dX10_comes_7 rfl mvX10_isBusy lk_X10_224 hM.md rfl ⟨Nat.le_of_ble_eq_true rfl, rfl⟩ rfl rfl (Nat.le_of_ble_eq_true rfl) ⟨Nat.le_of_ble_eq_true rfl, Nat.le_of_ble_eq_true rfl⟩ ⟨Nat.le_of_ble_eq_true rfl, Nat.le_of_ble_eq_true rfl⟩ (r_isBusy hM hb (hR _)) x_d (k_d1 ?_)
  refine j_if_ne 13 28 dX10_comes_10 rfl rfl (r01 (b01_r _)) (fun c_10 => ?_) (fun c_10 => ?_)
  · have hv : s_isBusy d (d (169 + 14 * c)) = true ∨ d 19 ≤ (s_cnt d 1 : Int) := Or.inl (b01_1 c_10)
    refine j_iconst 29 dX10_comes_28 rfl ?_
    refine j_goto 33 dX10_comes_29 rfl ?_
    refine j_istore_n 34 (L2 := [(2, .int (i32 (1))), (0, .ref (m)), (1, .int (i32 (x)))]) dX10_comes_33 rfl rfl (Nat.le_of_ble_eq_true rfl) rfl ?_
    refine j_aload_n 35 1 dX10_comes_34 rfl rfl ?_
    refine j_iload_n 36 2 dX10_comes_35 rfl rfl ?_
    refine j_bipush 38 dX10_comes_36 rfl (by decide) ?_
    refine j_iconst 39 dX10_comes_38 rfl ?_
    refine j_callV 42 (As := [.int (i32 (x)), .int (i32 (13)), .int (i32 (1))]) (kc2 := 0) (ks2 := 0) dX10_comes_39 rfl mvX10_set lk_X10_220 hM.md rfl ⟨Nat.le_of_ble_eq_true rfl, rfl⟩ rfl rfl (Nat.le_of_ble_eq_true rfl) ⟨Nat.le_of_ble_eq_true rfl, Nat.le_of_ble_eq_true rfl⟩ ⟨Nat.le_of_ble_eq_true rfl, Nat.le_of_ble_eq_true rfl⟩ (r_set hM c 13 (182 + 14 * c) hx rfl (by omega) (by omega) (by decide) (r32 (by decide) (by decide))) x_d (k_d0 ?_)
    refine j_iload_n 43 0 dX10_comes_42 rfl rfl ?_
    refine j_if_eq 46 56 dX10_comes_43 rfl rfl (r32 (by decide) (by decide)) (fun c_43 => absurd c_43 (by decide)) (fun c_43 => ?_)
    refine j_aload_n 47 1 dX10_comes_46 rfl rfl ?_
    refine j_iload_n 48 2 dX10_comes_47 rfl rfl ?_
    refine j_bipush 50 dX10_comes_48 rfl (by decide) ?_
    refine j_callV 53 (As := [.int (i32 (x)), .int (i32 (10))]) (kc2 := 0) (ks2 := 0) dX10_comes_50 rfl mvX10_isOver lk_X10_230 hM.md rfl ⟨Nat.le_of_ble_eq_true rfl, rfl⟩ rfl rfl (Nat.le_of_ble_eq_true rfl) ⟨Nat.le_of_ble_eq_true rfl, Nat.le_of_ble_eq_true rfl⟩ ⟨Nat.le_of_ble_eq_true rfl, Nat.le_of_ble_eq_true rfl⟩ (r_isOver hM c hx hc (y := 10) (r32 (by decide) (by decide))) x_d (k_d0 ?_)
    refine j_goto 62 dX10_comes_53 rfl ?_
    exact j_vret dX10_comes_62 rfl (q_d (by unfold s_comes; first | rw [if_pos hv] | rw [if_neg hv]))
  · refine j_aload_n 14 0 dX10_comes_13 rfl rfl ?_
    refine j_iconst 15 dX10_comes_14 rfl ?_
    refine j_callV 18 (As := [.int (i32 (1))]) (kc2 := 0) (ks2 := 0) dX10_comes_15 rfl mvX10_callsThat lk_X10_227 hM.md rfl ⟨Nat.le_of_ble_eq_true rfl, rfl⟩ rfl rfl (Nat.le_of_ble_eq_true rfl) ⟨Nat.le_of_ble_eq_true rfl, Nat.le_of_ble_eq_true rfl⟩ ⟨Nat.le_of_ble_eq_true rfl, Nat.le_of_ble_eq_true rfl⟩ (r_callsThat hM hb (x := 1) (r32 (by decide) (by decide))) x_d (k_d1 ?_)
    refine j_aload_n 19 0 dX10_comes_18 rfl rfl ?_
    refine j_getr 22 dX10_comes_19 rfl fl_X10_17 hM.md rfl (fun _ _ => rfl) rfl ?_
    refine j_bipush 24 dX10_comes_22 rfl (by decide) ?_
    refine j_iald_d 25 19 dX10_comes_24 rfl hM.dat rfl (by omega) (show 19 < 729 by omega) (fun r_24 => ?_)
    refine j_icmp_lt 28 32 dX10_comes_25 rfl rfl (r32 (by have := cnt_le (fun (c : Nat) => decide ((c : Int) < d 5) && decide (d (173 + 14 * c) = 1)) 40; unfold s_cnt; omega) (by have := cnt_le (fun (c : Nat) => decide ((c : Int) < d 5) && decide (d (173 + 14 * c) = 1)) 40; unfold s_cnt; omega)) r_24 (fun c_25 => ?_) (fun c_25 => ?_)
    · have hv : ¬ (s_isBusy d (d (169 + 14 * c)) = true ∨ d 19 ≤ (s_cnt d 1 : Int)) := fun h => h.elim (fun h => by rw [b01_0 c_10] at h; cases h) (fun h => by omega)
      refine j_iconst 33 dX10_comes_32 rfl ?_
      refine j_istore_n 34 (L2 := [(2, .int (i32 (0))), (0, .ref (m)), (1, .int (i32 (x)))]) dX10_comes_33 rfl rfl (Nat.le_of_ble_eq_true rfl) rfl ?_
      refine j_aload_n 35 1 dX10_comes_34 rfl rfl ?_
      refine j_iload_n 36 2 dX10_comes_35 rfl rfl ?_
      refine j_bipush 38 dX10_comes_36 rfl (by decide) ?_
      refine j_iconst 39 dX10_comes_38 rfl ?_
      refine j_callV 42 (As := [.int (i32 (x)), .int (i32 (13)), .int (i32 (1))]) (kc2 := 0) (ks2 := 0) dX10_comes_39 rfl mvX10_set lk_X10_220 hM.md rfl ⟨Nat.le_of_ble_eq_true rfl, rfl⟩ rfl rfl (Nat.le_of_ble_eq_true rfl) ⟨Nat.le_of_ble_eq_true rfl, Nat.le_of_ble_eq_true rfl⟩ ⟨Nat.le_of_ble_eq_true rfl, Nat.le_of_ble_eq_true rfl⟩ (r_set hM c 13 (182 + 14 * c) hx rfl (by omega) (by omega) (by decide) (r32 (by decide) (by decide))) x_d (k_d0 ?_)
      refine j_iload_n 43 0 dX10_comes_42 rfl rfl ?_
      refine j_if_eq 46 56 dX10_comes_43 rfl rfl (r32 (by decide) (by decide)) (fun c_43 => ?_) (fun c_43 => absurd c_43 (by decide))
      refine j_aload_n 57 1 dX10_comes_56 rfl rfl ?_
      refine j_iload_n 58 2 dX10_comes_57 rfl rfl ?_
      refine j_iconst 59 dX10_comes_58 rfl ?_
      refine j_callV 62 (As := [.int (i32 (x)), .int (i32 (1))]) (kc2 := 0) (ks2 := 0) dX10_comes_59 rfl mvX10_waits lk_X10_233 hM.md rfl ⟨Nat.le_of_ble_eq_true rfl, rfl⟩ rfl rfl (Nat.le_of_ble_eq_true rfl) ⟨Nat.le_of_ble_eq_true rfl, Nat.le_of_ble_eq_true rfl⟩ ⟨Nat.le_of_ble_eq_true rfl, Nat.le_of_ble_eq_true rfl⟩ (r_waits hM c hx hc (y := 1) (r32 (by decide) (by decide))) x_d (k_d0 ?_)
      exact j_vret dX10_comes_62 rfl (q_d (by unfold s_comes; first | rw [if_pos hv] | rw [if_neg hv]))
    · have hv : s_isBusy d (d (169 + 14 * c)) = true ∨ d 19 ≤ (s_cnt d 1 : Int) := Or.inr (by omega)
      refine j_iconst 29 dX10_comes_28 rfl ?_
      refine j_goto 33 dX10_comes_29 rfl ?_
      refine j_istore_n 34 (L2 := [(2, .int (i32 (1))), (0, .ref (m)), (1, .int (i32 (x)))]) dX10_comes_33 rfl rfl (Nat.le_of_ble_eq_true rfl) rfl ?_
      refine j_aload_n 35 1 dX10_comes_34 rfl rfl ?_
      refine j_iload_n 36 2 dX10_comes_35 rfl rfl ?_
      refine j_bipush 38 dX10_comes_36 rfl (by decide) ?_
      refine j_iconst 39 dX10_comes_38 rfl ?_
      refine j_callV 42 (As := [.int (i32 (x)), .int (i32 (13)), .int (i32 (1))]) (kc2 := 0) (ks2 := 0) dX10_comes_39 rfl mvX10_set lk_X10_220 hM.md rfl ⟨Nat.le_of_ble_eq_true rfl, rfl⟩ rfl rfl (Nat.le_of_ble_eq_true rfl) ⟨Nat.le_of_ble_eq_true rfl, Nat.le_of_ble_eq_true rfl⟩ ⟨Nat.le_of_ble_eq_true rfl, Nat.le_of_ble_eq_true rfl⟩ (r_set hM c 13 (182 + 14 * c) hx rfl (by omega) (by omega) (by decide) (r32 (by decide) (by decide))) x_d (k_d0 ?_)
      refine j_iload_n 43 0 dX10_comes_42 rfl rfl ?_
      refine j_if_eq 46 56 dX10_comes_43 rfl rfl (r32 (by decide) (by decide)) (fun c_43 => absurd c_43 (by decide)) (fun c_43 => ?_)
      refine j_aload_n 47 1 dX10_comes_46 rfl rfl ?_
      refine j_iload_n 48 2 dX10_comes_47 rfl rfl ?_
      refine j_bipush 50 dX10_comes_48 rfl (by decide) ?_
      refine j_callV 53 (As := [.int (i32 (x)), .int (i32 (10))]) (kc2 := 0) (ks2 := 0) dX10_comes_50 rfl mvX10_isOver lk_X10_230 hM.md rfl ⟨Nat.le_of_ble_eq_true rfl, rfl⟩ rfl rfl (Nat.le_of_ble_eq_true rfl) ⟨Nat.le_of_ble_eq_true rfl, Nat.le_of_ble_eq_true rfl⟩ ⟨Nat.le_of_ble_eq_true rfl, Nat.le_of_ble_eq_true rfl⟩ (r_isOver hM c hx hc (y := 10) (r32 (by decide) (by decide))) x_d (k_d0 ?_)
      refine j_goto 62 dX10_comes_53 rfl ?_
      exact j_vret dX10_comes_62 rfl (q_d (by unfold s_comes; first | rw [if_pos hv] | rw [if_neg hv]))

set_option maxRecDepth 20000 in
theorem r_freeRegister {w : Wd} {sh : Shp} {g : Mem} {d : Nat → Int} {m : Nat} (hM : MdS sh.1 m) {x : Int} (c : Nat) (hx : x = (c : Int)) (hc : c < 40) (hr : d (179 + 14 * c) = -1 ∨ (0 ≤ d (179 + 14 * c) ∧ d (179 + 14 * c) < 4)) : CT w mX10_freeRegister [.ref (m), .int (i32 (x))] sh (upR g (m + 2) d) (dQ none sh (upR g (m + 2) (s_freeReg d c))) := by
  refine j_entry (by decide) rfl (Nat.le_of_ble_eq_true rfl) (fun h => by cases h) rfl ?_
  show J w mX10_freeRegister 0 [(0, .ref (m)), (1, .int (i32 (x)))] [] sh (upR g (m + 2) d) 0 0 _
  refine j_rgd hM.dat rfl (fun hR => ?_)
  refine j_aload_n 1 0 dX10_freeRegister_0 rfl rfl ?_
  refine j_iload_n 2 1 dX10_freeRegister_1 rfl rfl ?_
  refine j_bipush 4 dX10_freeRegister_2 rfl (by decide) ?_
  refine j_callV 7 (As := [.int (i32 (x)), .int (i32 (10))]) (kc2 := 0) (ks2 := 0) dX10_freeRegister_4 rfl mvX10_of lk_X10_192 hM.md rfl ⟨Nat.le_of_ble_eq_true rfl, rfl⟩ rfl rfl (Nat.le_of_ble_eq_true rfl) ⟨Nat.le_of_ble_eq_true rfl, Nat.le_of_ble_eq_true rfl⟩ ⟨Nat.le_of_ble_eq_true rfl, Nat.le_of_ble_eq_true rfl⟩ (r_of hM c 10 (179 + 14 * c) hx rfl (by omega) (by omega) (by decide)) x_d (k_d1 ?_)
  refine j_istore_n 8 (L2 := [(2, .int (i32 (d (179 + 14 * c)))), (0, .ref (m)), (1, .int (i32 (x)))]) dX10_freeRegister_7 rfl rfl (Nat.le_of_ble_eq_true rfl) rfl ?_
  refine j_iload_n 9 0 dX10_freeRegister_8 rfl rfl ?_
  refine j_iconst 10 dX10_freeRegister_9 rfl ?_
  refine j_icmp_ne 13 14 dX10_freeRegister_10 rfl rfl (hR _) (r32 (by decide) (by decide)) (fun c_10 => ?_) (fun c_10 => ?_)
  · refine j_aload_n 15 1 dX10_freeRegister_14 rfl rfl ?_
    refine j_getr 18 dX10_freeRegister_15 rfl fl_X10_17 hM.md rfl (fun _ _ => rfl) rfl ?_
    refine j_sipush 21 dX10_freeRegister_18 rfl (by decide) ?_
    refine j_iconst 22 dX10_freeRegister_21 rfl ?_
    refine j_iload_n 23 0 dX10_freeRegister_22 rfl rfl ?_
    refine j_imul 24 dX10_freeRegister_23 rfl ?_
    refine j_iadd 25 dX10_freeRegister_24 rfl ?_
    refine j_iconst 26 dX10_freeRegister_25 rfl ?_
    refine j_iadd 27 dX10_freeRegister_26 rfl ?_
    refine j_iconst 28 dX10_freeRegister_27 rfl ?_
    refine j_iast_d 29 (151 + 3 * (d (179 + 14 * c)).toNat) dX10_freeRegister_28 rfl hM.dat rfl (by omega) (show 151 + 3 * (d (179 + 14 * c)).toNat < 729 by omega) (r32 (by decide) (by decide)) ?_
    refine j_aload_n 30 1 dX10_freeRegister_29 rfl rfl ?_
    refine j_getr 33 dX10_freeRegister_30 rfl fl_X10_17 hM.md rfl (fun _ _ => rfl) rfl ?_
    refine j_sipush 36 dX10_freeRegister_33 rfl (by decide) ?_
    refine j_iconst 37 dX10_freeRegister_36 rfl ?_
    refine j_iload_n 38 0 dX10_freeRegister_37 rfl rfl ?_
    refine j_imul 39 dX10_freeRegister_38 rfl ?_
    refine j_iadd 40 dX10_freeRegister_39 rfl ?_
    refine j_iconst 41 dX10_freeRegister_40 rfl ?_
    refine j_iadd 42 dX10_freeRegister_41 rfl ?_
    refine j_iconst 43 dX10_freeRegister_42 rfl ?_
    refine j_iast_d 44 (152 + 3 * (d (179 + 14 * c)).toNat) dX10_freeRegister_43 rfl hM.dat rfl (by omega) (show 152 + 3 * (d (179 + 14 * c)).toNat < 729 by omega) (r32 (by decide) (by decide)) ?_
    refine j_aload_n 45 1 dX10_freeRegister_44 rfl rfl ?_
    refine j_getr 48 dX10_freeRegister_45 rfl fl_X10_17 hM.md rfl (fun _ _ => rfl) rfl ?_
    refine j_sipush 51 dX10_freeRegister_48 rfl (by decide) ?_
    refine j_iconst 52 dX10_freeRegister_51 rfl ?_
    refine j_iload_n 53 0 dX10_freeRegister_52 rfl rfl ?_
    refine j_imul 54 dX10_freeRegister_53 rfl ?_
    refine j_iadd 55 dX10_freeRegister_54 rfl ?_
    refine j_iconst 56 dX10_freeRegister_55 rfl ?_
    refine j_iadd 57 dX10_freeRegister_56 rfl ?_
    refine j_iconst 58 dX10_freeRegister_57 rfl ?_
    refine j_iast_d 59 (153 + 3 * (d (179 + 14 * c)).toNat) dX10_freeRegister_58 rfl hM.dat rfl (by omega) (show 153 + 3 * (d (179 + 14 * c)).toNat < 729 by omega) (r32 (by decide) (by decide)) ?_
    refine j_aload_n 60 1 dX10_freeRegister_59 rfl rfl ?_
    refine j_iload_n 61 2 dX10_freeRegister_60 rfl rfl ?_
    refine j_bipush 63 dX10_freeRegister_61 rfl (by decide) ?_
    refine j_iconst 64 dX10_freeRegister_63 rfl ?_
    refine j_callV 67 (As := [.int (i32 (x)), .int (i32 (10)), .int (i32 (-1))]) (kc2 := 0) (ks2 := 0) dX10_freeRegister_64 rfl mvX10_set lk_X10_220 hM.md rfl ⟨Nat.le_of_ble_eq_true rfl, rfl⟩ rfl rfl (Nat.le_of_ble_eq_true rfl) ⟨Nat.le_of_ble_eq_true rfl, Nat.le_of_ble_eq_true rfl⟩ ⟨Nat.le_of_ble_eq_true rfl, Nat.le_of_ble_eq_true rfl⟩ (r_set hM c 10 (179 + 14 * c) hx rfl (by omega) (by omega) (by decide) (r32 (by decide) (by decide))) x_d (k_d0 ?_)
    exact j_vret dX10_freeRegister_67 rfl (q_d (by unfold s_freeReg; rw [if_neg c_10]))
  · exact j_vret dX10_freeRegister_13 rfl (q_d (by unfold s_freeReg; rw [if_pos c_10]))

set_option maxRecDepth 20000 in
theorem r_dialledValue {w : Wd} {sh : Shp} {g : Mem} {d : Nat → Int} {m : Nat} (hM : MdS sh.1 m) {x : Int} (c : Nat) (hx : x = (c : Int)) (hc : c < 40) {y : Int} (many : Nat) (hy : y = (many : Int)) (hl : 0 ≤ d (170 + 14 * c) ∧ d (170 + 14 * c) ≤ 6 ∧ 0 ≤ d (180 + 14 * c)) (hm : y ≤ d (170 + 14 * c)) : CT w mX10_dialledValue [.ref (m), .int (i32 (x)), .int (i32 (y))] sh (upR g (m + 2) d) (dQ (some (.int (i32 (s_dv d c many)))) sh (upR g (m + 2) d)) := by
  refine j_entry (by decide) rfl (Nat.le_of_ble_eq_true rfl) (fun h => by cases h) rfl ?_
  show J w mX10_dialledValue 0 [(0, .ref (m)), (1, .int (i32 (x))), (2, .int (i32 (y)))] [] sh (upR g (m + 2) d) 0 0 _
  refine j_rgd hM.dat rfl (fun hR => ?_)
  have e0 : d (170 + 14 * c) - y = (((d (170 + 14 * c)).toNat - many : Nat) : Int) := by omega
  have ep := pw_pos ((d (170 + 14 * c)).toNat - many)
  have ep2 := pw_le (show (d (170 + 14 * c)).toNat - many ≤ 6 by omega)
  have e6 : pw 6 = 1000000 := rfl
  have hrv := hR (180 + 14 * c)
  refine j_aload_n 1 0 dX10_dialledValue_0 rfl rfl ?_
  refine j_iload_n 2 1 dX10_dialledValue_1 rfl rfl ?_
  refine j_bipush 4 dX10_dialledValue_2 rfl (by decide) ?_
  refine j_callV 7 (As := [.int (i32 (x)), .int (i32 (11))]) (kc2 := 0) (ks2 := 0) dX10_dialledValue_4 rfl mvX10_of lk_X10_192 hM.md rfl ⟨Nat.le_of_ble_eq_true rfl, rfl⟩ rfl rfl (Nat.le_of_ble_eq_true rfl) ⟨Nat.le_of_ble_eq_true rfl, Nat.le_of_ble_eq_true rfl⟩ ⟨Nat.le_of_ble_eq_true rfl, Nat.le_of_ble_eq_true rfl⟩ (r_of hM c 11 (180 + 14 * c) hx rfl (by omega) (by omega) (by decide)) x_d (k_d1 ?_)
  refine j_aload_n 8 0 dX10_dialledValue_7 rfl rfl ?_
  refine j_iload_n 9 1 dX10_dialledValue_8 rfl rfl ?_
  refine j_iconst 10 dX10_dialledValue_9 rfl ?_
  refine j_callV 13 (As := [.int (i32 (x)), .int (i32 (1))]) (kc2 := 0) (ks2 := 0) dX10_dialledValue_10 rfl mvX10_of lk_X10_192 hM.md rfl ⟨Nat.le_of_ble_eq_true rfl, rfl⟩ rfl rfl (Nat.le_of_ble_eq_true rfl) ⟨Nat.le_of_ble_eq_true rfl, Nat.le_of_ble_eq_true rfl⟩ ⟨Nat.le_of_ble_eq_true rfl, Nat.le_of_ble_eq_true rfl⟩ (r_of hM c 1 (170 + 14 * c) hx rfl (by omega) (by omega) (by decide)) x_d (k_d1 ?_)
  refine j_iload_n 14 2 dX10_dialledValue_13 rfl rfl ?_
  refine j_isub 15 dX10_dialledValue_14 rfl ?_
  refine j_callS 18 (As := [.int (i32 ((d (170 + 14 * c)) - (y)))]) (kc2 := 0) (ks2 := 0) dX10_dialledValue_15 rfl msX10_power lk_X10_195 rfl rfl (Nat.le_of_ble_eq_true rfl) ⟨Nat.le_of_ble_eq_true rfl, Nat.le_of_ble_eq_true rfl⟩ ⟨Nat.le_of_ble_eq_true rfl, Nat.le_of_ble_eq_true rfl⟩ (r_power ((d (170 + 14 * c)).toNat - many) e0 (by omega)) x_d (k_d1 ?_)
  refine j_idiv 19 dX10_dialledValue_18 rfl (by omega) (by omega) (by omega) (by omega) ?_
  exact j_iret dX10_dialledValue_19 rfl (⟨rfl, rfl, rfl⟩)

set_option maxRecDepth 20000 in
theorem r_looks {w : Wd} {sh : Shp} {g : Mem} {d : Nat → Int} {m : Nat} (hM : MdS sh.1 m) {x : Int} (c : Nat) (hx : x = (c : Int)) (hc : c < 40) {y z : Int} (many : Nat) (hy : y = (many : Int)) (hm : many ≤ 6) (hz : 0 ≤ z) (hz2 : z ≤ 2147483647) (hB : RB d) (hok : s_lineOf d y z = -1 → ¬ s_routeFor d many z = -1) : CT w mX10_looks [.ref (m), .int (i32 (x)), .int (i32 (y)), .int (i32 (z))] sh (upR g (m + 2) d) (dQ none sh (upR g (m + 2) (s_looks d c many z))) := by
  refine j_entry (by decide) rfl (Nat.le_of_ble_eq_true rfl) (fun h => by cases h) rfl ?_
  show J w mX10_looks 0 [(0, .ref (m)), (1, .int (i32 (x))), (2, .int (i32 (y))), (3, .int (i32 (z)))] [] sh (upR g (m + 2) d) 0 0 _
  refine j_rgd hM.dat rfl (fun hR => ?_)
  have hb := hB.2.2.2.2.2.1.2
  have hrr : RB d := hB
  refine j_aload_n 1 0 dX10_looks_0 rfl rfl ?_
  refine j_getr 4 dX10_looks_1 rfl fl_X10_17 hM.md rfl (fun _ _ => rfl) rfl ?_
  refine j_iload_n 5 2 dX10_looks_4 rfl rfl ?_
  refine j_iload_n 6 3 dX10_looks_5 rfl rfl ?_
  refine j_callS 9 (As := [.ref (m + 2), .int (i32 (y)), .int (i32 (z))]) (kc2 := 0) (ks2 := 0) dX10_looks_6 rfl msX10_lineOf lk_X10_116 rfl rfl (Nat.le_of_ble_eq_true rfl) ⟨Nat.le_of_ble_eq_true rfl, Nat.le_of_ble_eq_true rfl⟩ ⟨Nat.le_of_ble_eq_true rfl, Nat.le_of_ble_eq_true rfl⟩ (r_lineD hM.dat (x := y) (y := z) hB.2.2.1.2 (r32 (by omega) (by omega)) (r32 (by omega) hz2)) x_d (k_d1 ?_)
  refine j_istore 11 (L2 := [(4, .int (i32 (s_lineOf d y z))), (0, .ref (m)), (1, .int (i32 (x))), (2, .int (i32 (y))), (3, .int (i32 (z)))]) dX10_looks_9 rfl (Nat.le_of_ble_eq_true rfl) rfl ?_
  refine j_iload 13 0 dX10_looks_11 rfl rfl ?_
  refine j_iconst 14 dX10_looks_13 rfl ?_
  refine j_icmp_eq 17 45 dX10_looks_14 rfl rfl (fst_r32 _ (by decide)) (r32 (by decide) (by decide)) (fun c_14 => ?_) (fun c_14 => ?_)
  · have hrn := hok c_14
    have hrg := s_rfF_rng d many z 8
    rw [show s_rfF d many z 8 = s_routeFor d many z from rfl] at hrg
    have hr8 : (s_routeFor d many z).toNat < 8 := by omega
    have hn := hB.2.2.2.2.2.2.1 _ hr8
    have hcl := s_chF_le d (s_routeFor d many z).toNat (d (98 + 7 * (s_routeFor d many z).toNat)).toNat 0
    rw [show s_chF d (s_routeFor d many z).toNat (d (98 + 7 * (s_routeFor d many z).toNat)).toNat 0 = s_choiceOf d (s_routeFor d many z).toNat from rfl] at hcl
    have hfin : s_looks d c many z = s_way (s_ovF d (s_routeFor d many z).toNat (s_choiceOf d (s_routeFor d many z).toNat)) c ((s_routeFor d many z).toNat) (s_choiceOf d (s_routeFor d many z).toNat) := by unfold s_looks; rw [← hy, if_pos c_14]
    refine j_aload_n 46 1 dX10_looks_45 rfl rfl ?_
    refine j_iload_n 47 3 dX10_looks_46 rfl rfl ?_
    refine j_iload_n 48 4 dX10_looks_47 rfl rfl ?_
    refine j_callV 51 (As := [.int (i32 (y)), .int (i32 (z))]) (kc2 := 0) (ks2 := 0) dX10_looks_48 rfl mvX10_routeFor lk_X10_198 hM.md rfl ⟨Nat.le_of_ble_eq_true rfl, rfl⟩ rfl rfl (Nat.le_of_ble_eq_true rfl) ⟨Nat.le_of_ble_eq_true rfl, Nat.le_of_ble_eq_true rfl⟩ ⟨Nat.le_of_ble_eq_true rfl, Nat.le_of_ble_eq_true rfl⟩ (r_routeFor hM many hz hz2 hm hB.2.2.2.2.1.2 (fun r hr => (hB.2.2.2.2.2.2.1 r (by have := hB.2.2.2.2.1.2; omega)).1) hy) x_d (k_d1 ?_)
    refine j_istore 53 (L2 := [(5, .int (i32 (s_routeFor d many z))), (4, .int (i32 (s_lineOf d y z))), (0, .ref (m)), (1, .int (i32 (x))), (2, .int (i32 (y))), (3, .int (i32 (z)))]) dX10_looks_51 rfl (Nat.le_of_ble_eq_true rfl) rfl ?_
    refine j_bipush 55 dX10_looks_53 rfl (by decide) ?_
    refine j_bipush 57 dX10_looks_55 rfl (by decide) ?_
    refine j_iload 59 0 dX10_looks_57 rfl rfl ?_
    refine j_imul 60 dX10_looks_59 rfl ?_
    refine j_iadd 61 dX10_looks_60 rfl ?_
    refine j_top (y := ((95 + 7 * (s_routeFor d many z).toNat : Nat) : Int)) (by omega) ?_
    refine j_istore 63 (L2 := [(6, .int (i32 (((95 + 7 * (s_routeFor d many z).toNat : Nat) : Int)))), (5, .int (i32 (s_routeFor d many z))), (4, .int (i32 (s_lineOf d y z))), (0, .ref (m)), (1, .int (i32 (x))), (2, .int (i32 (y))), (3, .int (i32 (z)))]) dX10_looks_61 rfl (Nat.le_of_ble_eq_true rfl) rfl ?_
    refine j_aload_n 64 3 dX10_looks_63 rfl rfl ?_
    refine j_iload 66 1 dX10_looks_64 rfl rfl ?_
    refine j_callV 69 (As := [.int (i32 (s_routeFor d many z))]) (kc2 := 0) (ks2 := 0) dX10_looks_66 rfl mvX10_choiceOf lk_X10_239 hM.md rfl ⟨Nat.le_of_ble_eq_true rfl, rfl⟩ rfl rfl (Nat.le_of_ble_eq_true rfl) ⟨Nat.le_of_ble_eq_true rfl, Nat.le_of_ble_eq_true rfl⟩ ⟨Nat.le_of_ble_eq_true rfl, Nat.le_of_ble_eq_true rfl⟩ (r_choiceOf hM (s_routeFor d many z).toNat (by omega) hr8 hb hn.2.1 hn.2.2 (fun j hj => hB.2.2.2.2.2.2.2.1 _ j hr8 hj) hB.2.2.2.2.2.2.2.2.1) x_d (k_d1 ?_)
    refine j_istore 71 (L2 := [(7, .int (i32 ((s_choiceOf d (s_routeFor d many z).toNat : Int)))), (6, .int (i32 (((95 + 7 * (s_routeFor d many z).toNat : Nat) : Int)))), (5, .int (i32 (s_routeFor d many z))), (4, .int (i32 (s_lineOf d y z))), (0, .ref (m)), (1, .int (i32 (x))), (2, .int (i32 (y))), (3, .int (i32 (z)))]) dX10_looks_69 rfl (Nat.le_of_ble_eq_true rfl) rfl ?_
    refine j_iconst 72 dX10_looks_71 rfl ?_
    refine j_istore 74 (L2 := [(8, .int (i32 (0))), (7, .int (i32 ((s_choiceOf d (s_routeFor d many z).toNat : Int)))), (6, .int (i32 (((95 + 7 * (s_routeFor d many z).toNat : Nat) : Int)))), (5, .int (i32 (s_routeFor d many z))), (4, .int (i32 (s_lineOf d y z))), (0, .ref (m)), (1, .int (i32 (x))), (2, .int (i32 (y))), (3, .int (i32 (z)))]) dX10_looks_72 rfl (Nat.le_of_ble_eq_true rfl) rfl ?_
    suffices lp_74 : ∀ (n_74 : Nat) (k : Nat) (e : Nat → Int), s_choiceOf d (s_routeFor d many z).toNat - k < n_74 → k ≤ s_choiceOf d (s_routeFor d many z).toNat → e = s_ovF d (s_routeFor d many z).toNat k → J w mX10_looks 74 [(8, .int (i32 ((k : Int)))), (7, .int (i32 ((s_choiceOf d (s_routeFor d many z).toNat : Int)))), (6, .int (i32 (((95 + 7 * (s_routeFor d many z).toNat : Nat) : Int)))), (5, .int (i32 (s_routeFor d many z))), (4, .int (i32 (s_lineOf d y z))), (0, .ref (m)), (1, .int (i32 (x))), (2, .int (i32 (y))), (3, .int (i32 (z)))] [] sh (upR g (m + 2) e) 0 0 (dQ none sh (upR g (m + 2) (s_looks d c many z))) by
      exact lp_74 _ 0 d (Nat.lt_succ_self _) (by omega) rfl
    intro n_74
    induction n_74 with
    | zero => intro k e h_; exact absurd h_ (Nat.not_lt_zero _)
    | succ n_74 ih_74 =>
      intro k e hn_74 hk he
      have hSt : Sta d e := by rw [he]; exact sta_ovF hr8 hB k (by omega)
      have hBe := hB.sta hSt
      have he8 : e (98 + 7 * (s_routeFor d many z).toNat) = d (98 + 7 * (s_routeFor d many z).toNat) := hSt _ (by unfold kpI; omega)
      refine j_rgd hM.dat rfl (fun hRe => ?_)
      refine j_iload 76 0 dX10_looks_74 rfl rfl ?_
      refine j_iload 78 1 dX10_looks_76 rfl rfl ?_
      refine j_icmp_ge 81 116 dX10_looks_78 rfl rfl (r32 (by omega) (by omega)) (r32 (by omega) (by omega)) (fun c_78 => ?_) (fun c_78 => ?_)
      · have hkk : k = s_choiceOf d (s_routeFor d many z).toNat := by omega
        subst hkk
        refine j_iload 118 1 dX10_looks_116 rfl rfl ?_
        refine j_aload_n 119 5 dX10_looks_118 rfl rfl ?_
        refine j_getr 122 dX10_looks_119 rfl fl_X10_17 hM.md rfl (fun _ _ => rfl) rfl ?_
        refine j_iload 124 2 dX10_looks_122 rfl rfl ?_
        refine j_iconst 125 dX10_looks_124 rfl ?_
        refine j_iadd 126 dX10_looks_125 rfl ?_
        refine j_iald_d 127 (98 + 7 * (s_routeFor d many z).toNat) dX10_looks_126 rfl hM.dat rfl (by omega) (show (98 + 7 * (s_routeFor d many z).toNat) < 729 by omega) (fun r_126 => ?_)
        refine j_icmp_ne 130 138 dX10_looks_127 rfl rfl (r32 (by omega) (by omega)) r_126 (fun c_127 => ?_) (fun c_127 => ?_)
        · have hxx := hBe.2.2.2.2.2.2.2.1 _ (s_choiceOf d (s_routeFor d many z).toNat) hr8 (by omega)
          refine j_aload_n 139 5 dX10_looks_138 rfl rfl ?_
          refine j_getr 142 dX10_looks_139 rfl fl_X10_17 hM.md rfl (fun _ _ => rfl) rfl ?_
          refine j_iload 144 2 dX10_looks_142 rfl rfl ?_
          refine j_iconst 145 dX10_looks_144 rfl ?_
          refine j_iadd 146 dX10_looks_145 rfl ?_
          refine j_iload 148 1 dX10_looks_146 rfl rfl ?_
          refine j_iadd 149 dX10_looks_148 rfl ?_
          refine j_iald_d 150 (99 + 7 * (s_routeFor d many z).toNat + s_choiceOf d (s_routeFor d many z).toNat) dX10_looks_149 rfl hM.dat rfl (by omega) (show (99 + 7 * (s_routeFor d many z).toNat + s_choiceOf d (s_routeFor d many z).toNat) < 729 by omega) (fun r_149 => ?_)
          refine j_istore 152 (L2 := [(8, .int (i32 (e ((99 + 7 * (s_routeFor d many z).toNat + s_choiceOf d (s_routeFor d many z).toNat))))), (7, .int (i32 ((s_choiceOf d (s_routeFor d many z).toNat : Int)))), (6, .int (i32 (((95 + 7 * (s_routeFor d many z).toNat : Nat) : Int)))), (5, .int (i32 (s_routeFor d many z))), (4, .int (i32 (s_lineOf d y z))), (0, .ref (m)), (1, .int (i32 (x))), (2, .int (i32 (y))), (3, .int (i32 (z)))]) dX10_looks_150 rfl (Nat.le_of_ble_eq_true rfl) rfl ?_
          refine j_aload_n 153 5 dX10_looks_152 rfl rfl ?_
          refine j_iload_n 154 6 dX10_looks_153 rfl rfl ?_
          refine j_iconst 155 dX10_looks_154 rfl ?_
          refine j_iload 157 0 dX10_looks_155 rfl rfl ?_
          refine j_callV 160 (As := [.int (i32 (x)), .int (i32 (-1)), .int (i32 (e ((99 + 7 * (s_routeFor d many z).toNat + s_choiceOf d (s_routeFor d many z).toNat))))]) (kc2 := 0) (ks2 := 0) dX10_looks_157 rfl mvX10_talks lk_X10_236 hM.md rfl ⟨Nat.le_of_ble_eq_true rfl, rfl⟩ rfl rfl (Nat.le_of_ble_eq_true rfl) ⟨Nat.le_of_ble_eq_true rfl, Nat.le_of_ble_eq_true rfl⟩ ⟨Nat.le_of_ble_eq_true rfl, Nat.le_of_ble_eq_true rfl⟩ (r_talks hM c hx hc (y := -1) (r32 (by decide) (by decide)) (hRe _)) x_d (k_d0 ?_)
          refine j_aload_n 161 5 dX10_looks_160 rfl rfl ?_
          refine j_iload 163 0 dX10_looks_161 rfl rfl ?_
          refine j_iconst 164 dX10_looks_163 rfl ?_
          refine j_iconst 165 dX10_looks_164 rfl ?_
          refine j_callV 168 (As := [.int (i32 (e ((99 + 7 * (s_routeFor d many z).toNat + s_choiceOf d (s_routeFor d many z).toNat)))), .int (i32 (4)), .int (i32 (1))]) (kc2 := 0) (ks2 := 0) dX10_looks_165 rfl mvX10_addGroup lk_X10_242 hM.md rfl ⟨Nat.le_of_ble_eq_true rfl, rfl⟩ rfl rfl (Nat.le_of_ble_eq_true rfl) ⟨Nat.le_of_ble_eq_true rfl, Nat.le_of_ble_eq_true rfl⟩ ⟨Nat.le_of_ble_eq_true rfl, Nat.le_of_ble_eq_true rfl⟩ (r_addGroup hM (e (99 + 7 * (s_routeFor d many z).toNat + s_choiceOf d (s_routeFor d many z).toNat)).toNat 4 (by omega) rfl (by omega) (by decide)) x_d (k_d0 ?_)
          refine j_aload_n 169 5 dX10_looks_168 rfl rfl ?_
          refine j_iload 171 0 dX10_looks_169 rfl rfl ?_
          refine j_iconst 172 dX10_looks_171 rfl ?_
          refine j_iload 174 1 dX10_looks_172 rfl rfl ?_
          refine j_if_le 177 181 dX10_looks_174 rfl rfl (r32 (by omega) (by omega)) (fun c_174 => ?_) (fun c_174 => ?_)
          · have hz9 : (0 : Int) = if 0 < s_choiceOf d (s_routeFor d many z).toNat then 1 else 0 := (if_neg (by omega)).symm
            refine j_iconst 182 dX10_looks_181 rfl ?_
            refine j_top hz9 ?_
            refine j_callV 185 (As := [.int (i32 (e ((99 + 7 * (s_routeFor d many z).toNat + s_choiceOf d (s_routeFor d many z).toNat)))), .int (i32 (5)), .int (i32 (if 0 < s_choiceOf d (s_routeFor d many z).toNat then 1 else 0))]) (kc2 := 0) (ks2 := 0) dX10_looks_182 rfl mvX10_addGroup lk_X10_242 hM.md rfl ⟨Nat.le_of_ble_eq_true rfl, rfl⟩ rfl rfl (Nat.le_of_ble_eq_true rfl) ⟨Nat.le_of_ble_eq_true rfl, Nat.le_of_ble_eq_true rfl⟩ ⟨Nat.le_of_ble_eq_true rfl, Nat.le_of_ble_eq_true rfl⟩ (r_addGroup hM (e (99 + 7 * (s_routeFor d many z).toNat + s_choiceOf d (s_routeFor d many z).toNat)).toNat 5 (by omega) rfl (by omega) (by decide)) x_d (k_d0 ?_)
            exact j_vret dX10_looks_185 rfl (q_d (by rw [hfin, ← he]; unfold s_way; rw [if_neg c_127]))
          · have hz9 : (1 : Int) = if 0 < s_choiceOf d (s_routeFor d many z).toNat then 1 else 0 := (if_pos (by omega)).symm
            refine j_iconst 178 dX10_looks_177 rfl ?_
            refine j_goto 182 dX10_looks_178 rfl ?_
            refine j_top hz9 ?_
            refine j_callV 185 (As := [.int (i32 (e ((99 + 7 * (s_routeFor d many z).toNat + s_choiceOf d (s_routeFor d many z).toNat)))), .int (i32 (5)), .int (i32 (if 0 < s_choiceOf d (s_routeFor d many z).toNat then 1 else 0))]) (kc2 := 0) (ks2 := 0) dX10_looks_182 rfl mvX10_addGroup lk_X10_242 hM.md rfl ⟨Nat.le_of_ble_eq_true rfl, rfl⟩ rfl rfl (Nat.le_of_ble_eq_true rfl) ⟨Nat.le_of_ble_eq_true rfl, Nat.le_of_ble_eq_true rfl⟩ ⟨Nat.le_of_ble_eq_true rfl, Nat.le_of_ble_eq_true rfl⟩ (r_addGroup hM (e (99 + 7 * (s_routeFor d many z).toNat + s_choiceOf d (s_routeFor d many z).toNat)).toNat 5 (by omega) rfl (by omega) (by decide)) x_d (k_d0 ?_)
            exact j_vret dX10_looks_185 rfl (q_d (by rw [hfin, ← he]; unfold s_way; rw [if_neg c_127]))
        · refine j_aload_n 131 5 dX10_looks_130 rfl rfl ?_
          refine j_iload_n 132 6 dX10_looks_131 rfl rfl ?_
          refine j_bipush 134 dX10_looks_132 rfl (by decide) ?_
          refine j_callV 137 (As := [.int (i32 (x)), .int (i32 (8))]) (kc2 := 0) (ks2 := 0) dX10_looks_134 rfl mvX10_isOver lk_X10_230 hM.md rfl ⟨Nat.le_of_ble_eq_true rfl, rfl⟩ rfl rfl (Nat.le_of_ble_eq_true rfl) ⟨Nat.le_of_ble_eq_true rfl, Nat.le_of_ble_eq_true rfl⟩ ⟨Nat.le_of_ble_eq_true rfl, Nat.le_of_ble_eq_true rfl⟩ (r_isOver hM c hx hc (y := 8) (r32 (by decide) (by decide))) x_d (k_d0 ?_)
          exact j_vret dX10_looks_137 rfl (q_d (by rw [hfin, ← he]; unfold s_way; rw [if_pos c_127]))
      · have hxx := hBe.2.2.2.2.2.2.2.1 _ k hr8 (by omega)
        refine j_aload_n 82 5 dX10_looks_81 rfl rfl ?_
        refine j_aload_n 83 5 dX10_looks_82 rfl rfl ?_
        refine j_getr 86 dX10_looks_83 rfl fl_X10_17 hM.md rfl (fun _ _ => rfl) rfl ?_
        refine j_iload 88 2 dX10_looks_86 rfl rfl ?_
        refine j_iconst 89 dX10_looks_88 rfl ?_
        refine j_iadd 90 dX10_looks_89 rfl ?_
        refine j_iload 92 0 dX10_looks_90 rfl rfl ?_
        refine j_iadd 93 dX10_looks_92 rfl ?_
        refine j_iald_d 94 (99 + 7 * (s_routeFor d many z).toNat + k) dX10_looks_93 rfl hM.dat rfl (by omega) (show (99 + 7 * (s_routeFor d many z).toNat + k) < 729 by omega) (fun r_93 => ?_)
        refine j_iconst 95 dX10_looks_94 rfl ?_
        refine j_iconst 96 dX10_looks_95 rfl ?_
        refine j_callV 99 (As := [.int (i32 (e ((99 + 7 * (s_routeFor d many z).toNat + k)))), .int (i32 (3)), .int (i32 (1))]) (kc2 := 0) (ks2 := 0) dX10_looks_96 rfl mvX10_addGroup lk_X10_242 hM.md rfl ⟨Nat.le_of_ble_eq_true rfl, rfl⟩ rfl rfl (Nat.le_of_ble_eq_true rfl) ⟨Nat.le_of_ble_eq_true rfl, Nat.le_of_ble_eq_true rfl⟩ ⟨Nat.le_of_ble_eq_true rfl, Nat.le_of_ble_eq_true rfl⟩ (r_addGroup hM (e (99 + 7 * (s_routeFor d many z).toNat + k)).toNat 3 (by omega) rfl (by omega) (by decide)) x_d (k_d0 ?_)
        refine j_aload_n 100 5 dX10_looks_99 rfl rfl ?_
        refine j_getr 103 dX10_looks_100 rfl fl_X10_17 hM.md rfl (fun _ _ => rfl) rfl ?_
        refine j_bipush 105 dX10_looks_103 rfl (by decide) ?_
        refine j_dup2 106 dX10_looks_105 rfl rfl rfl ?_
        refine j_iald_d 107 23 dX10_looks_106 rfl hM.dat rfl (by omega) (show 23 < 729 by omega) (fun r_106 => ?_)
        refine j_iconst 108 dX10_looks_107 rfl ?_
        refine j_iadd 109 dX10_looks_108 rfl ?_
        refine j_nb ?_
        refine j_iast_d 110 23 dX10_looks_109 rfl hM.dat rfl (by omega) (show 23 < 729 by omega) (bm_r _) ?_
        refine j_iinc 113 0 (y := ((k + 1 : Nat) : Int)) (L2 := [(8, .int (i32 (((k + 1 : Nat) : Int)))), (7, .int (i32 ((s_choiceOf d (s_routeFor d many z).toNat : Int)))), (6, .int (i32 (((95 + 7 * (s_routeFor d many z).toNat : Nat) : Int)))), (5, .int (i32 (s_routeFor d many z))), (4, .int (i32 (s_lineOf d y z))), (0, .ref (m)), (1, .int (i32 (x))), (2, .int (i32 (y))), (3, .int (i32 (z)))]) dX10_looks_110 rfl rfl (by omega) (Nat.le_of_ble_eq_true rfl) rfl ?_
        refine j_goto 74 dX10_looks_113 rfl ?_
        exact ih_74 (k + 1) (ud (s_addGroup e (e (99 + 7 * (s_routeFor d many z).toNat + k)).toNat 3 1) 23 (bm (((s_addGroup e (e (99 + 7 * (s_routeFor d many z).toNat + k)).toNat 3 1) (23)) + (1)))) (by omega) (by omega) (by rw [he]; rfl)
  · refine j_aload_n 18 1 dX10_looks_17 rfl rfl ?_
    refine j_iload 20 0 dX10_looks_18 rfl rfl ?_
    refine j_callV 23 (As := [.int (i32 (s_lineOf d y z))]) (kc2 := 0) (ks2 := 0) dX10_looks_20 rfl mvX10_isBusy lk_X10_224 hM.md rfl ⟨Nat.le_of_ble_eq_true rfl, rfl⟩ rfl rfl (Nat.le_of_ble_eq_true rfl) ⟨Nat.le_of_ble_eq_true rfl, Nat.le_of_ble_eq_true rfl⟩ ⟨Nat.le_of_ble_eq_true rfl, Nat.le_of_ble_eq_true rfl⟩ (r_isBusy hM hb (fst_r32 _ (by decide))) x_d (k_d1 ?_)
    refine j_if_eq 26 36 dX10_looks_23 rfl rfl (r01 (b01_r _)) (fun c_23 => ?_) (fun c_23 => ?_)
    · have hfin : s_looks d c many z = s_talks d c (s_lineOf d y z) (-1) := by unfold s_looks; rw [← hy, if_neg c_14, if_neg (by rw [b01_0 c_23]; decide)]
      refine j_aload_n 37 1 dX10_looks_36 rfl rfl ?_
      refine j_iload_n 38 2 dX10_looks_37 rfl rfl ?_
      refine j_iload 40 0 dX10_looks_38 rfl rfl ?_
      refine j_iconst 41 dX10_looks_40 rfl ?_
      refine j_callV 44 (As := [.int (i32 (x)), .int (i32 (s_lineOf d y z)), .int (i32 (-1))]) (kc2 := 0) (ks2 := 0) dX10_looks_41 rfl mvX10_talks lk_X10_236 hM.md rfl ⟨Nat.le_of_ble_eq_true rfl, rfl⟩ rfl rfl (Nat.le_of_ble_eq_true rfl) ⟨Nat.le_of_ble_eq_true rfl, Nat.le_of_ble_eq_true rfl⟩ ⟨Nat.le_of_ble_eq_true rfl, Nat.le_of_ble_eq_true rfl⟩ (r_talks hM c hx hc (fst_r32 _ (by decide)) (r32 (by decide) (by decide))) x_d (k_d0 ?_)
      exact j_vret dX10_looks_44 rfl (q_d hfin.symm)
    · have hfin : s_looks d c many z = s_isOver d c 7 := by unfold s_looks; rw [← hy, if_neg c_14, if_pos (b01_1 c_23)]
      refine j_aload_n 27 1 dX10_looks_26 rfl rfl ?_
      refine j_iload_n 28 2 dX10_looks_27 rfl rfl ?_
      refine j_bipush 30 dX10_looks_28 rfl (by decide) ?_
      refine j_callV 33 (As := [.int (i32 (x)), .int (i32 (7))]) (kc2 := 0) (ks2 := 0) dX10_looks_30 rfl mvX10_isOver lk_X10_230 hM.md rfl ⟨Nat.le_of_ble_eq_true rfl, rfl⟩ rfl rfl (Nat.le_of_ble_eq_true rfl) ⟨Nat.le_of_ble_eq_true rfl, Nat.le_of_ble_eq_true rfl⟩ ⟨Nat.le_of_ble_eq_true rfl, Nat.le_of_ble_eq_true rfl⟩ (r_isOver hM c hx hc (y := 7) (r32 (by decide) (by decide))) x_d (k_d0 ?_)
      refine j_goto 44 dX10_looks_33 rfl ?_
      exact j_vret dX10_looks_44 rfl (q_d hfin.symm)
