theorem chF_s (d : Nat → Int) (r n k : Nat) : s_chF d r (n + 1) k = if s_isFree d (d (99 + 7 * r + k)).toNat (k == 0) then k else s_chF d r n (k + 1) := rfl
/-- the choice that is free, as the class says it -/
def s_fc (d : Nat → Int) (r : Nat) : Int := if s_choiceOf d r = (d (98 + 7 * r)).toNat then -1 else (s_choiceOf d r : Int)

set_option maxRecDepth 20000 in
theorem c_freeChoice {w : Wd} {sh : Shp} {g : Mem} {e r : Nat} {d : Nat → Int} (hE : ExS sh.1 e) (hR : RelX g e d) (hb : RB d) (hb2 : RB2 d) (hr4 : (r : Int) < d 4) (hr8 : r < 8)  : CT w mX1_freeChoice [.ref (e), .ref (e + 9 + 2 * r)] sh g (dQ (some (.int (i32 (s_fc d r)))) sh g) := by
  have hrt := hR.2.2.2.2.1 r hr4
  obtain ⟨T1, T2, T3, T4⟩ := hrt
  have hb3 := hb.2.2.2.2.2.2.1 r hr8
  have hg3 : g e 3 = d 3 := hR.2.1.2.2.2.1
  have hd3 := hb.2.2.2.1
  refine j_entry (by decide) rfl (Nat.le_of_ble_eq_true rfl) (fun h => by cases h) rfl ?_
  show J w mX1_freeChoice 0 [(0, .ref (e)), (1, .ref (e + 9 + 2 * r))] [] sh g 0 0 _
  refine j_iconst 1 dX1_freeChoice_0 rfl ?_
  refine j_istore_n 2 (L2 := [(2, .int (i32 (0))), (0, .ref (e)), (1, .ref (e + 9 + 2 * r))]) dX1_freeChoice_1 rfl rfl (Nat.le_of_ble_eq_true rfl) rfl ?_
  suffices lp_2 : ∀ (n_2 : Nat) (k : Nat), (d (98 + 7 * r)).toNat - k < n_2 → k ≤ (d (98 + 7 * r)).toNat → s_choiceOf d r = s_chF d r ((d (98 + 7 * r)).toNat - k) k → J w mX1_freeChoice 2 [(2, .int (i32 ((k : Int)))), (0, .ref (e)), (1, .ref (e + 9 + 2 * r))] [] sh g 0 0 (dQ (some (.int (i32 (s_fc d r)))) sh g) by
    exact lp_2 _ 0 (Nat.lt_succ_self _) (by omega) rfl
  intro n_2
  induction n_2 with
  | zero => intro k h_; exact absurd h_ (Nat.not_lt_zero _)
  | succ n_2 ih_2 =>
    intro k hn_2 hk hq
    refine j_iload_n 3 0 dX1_freeChoice_2 rfl rfl ?_
    refine j_aload_n 4 2 dX1_freeChoice_3 rfl rfl ?_
    refine j_geti 7 dX1_freeChoice_4 rfl fl_X1_277 (hE.rt r hr8) rfl rfl (fun r_4 => ?_)
    refine j_top (y := d (98 + 7 * r)) (T3) ?_
    refine j_icmp_ge 10 60 dX1_freeChoice_7 rfl rfl (r32 (by omega) (by omega)) (r32 (by omega) (by omega)) (fun c_7 => ?_) (fun c_7 => ?_)
    · have hz : s_fc d r = -1 := if_pos (by rw [hq, show (d (98 + 7 * r)).toNat - k = 0 by omega]; show k = _; omega)
      refine j_iconst 61 dX1_freeChoice_60 rfl ?_
      exact j_iret dX1_freeChoice_61 rfl (q_i hz.symm)
    · have hkn : (k : Int) < d (98 + 7 * r) := by omega
      have T5 := T4 k hkn
      have h99 := hb.2.2.2.2.2.2.2.1 r k hr8 hkn
      have h993 := hb2.2.2.2.1 r k hr4 hkn
      have hx3 : (((d (99 + 7 * r + k)).toNat : Nat) : Int) < d 3 := by omega
      have G := hR.2.2.2.1 (d (99 + 7 * r + k)).toNat hx3
      have hGi : g (e + 3 + (d (99 + 7 * r + k)).toNat) 0 = ((d (99 + 7 * r + k)).toNat : Int) := hR.1.1 _ (by omega)
      have hstep : s_choiceOf d r = if s_isFree d (d (99 + 7 * r + k)).toNat (k == 0) then k else s_chF d r ((d (98 + 7 * r)).toNat - (k + 1)) (k + 1) := by rw [hq, show (d (98 + 7 * r)).toNat - k = ((d (98 + 7 * r)).toNat - (k + 1)) + 1 by omega, chF_s]
      refine j_aload_n 11 1 dX1_freeChoice_10 rfl rfl ?_
      refine j_aload_n 12 2 dX1_freeChoice_11 rfl rfl ?_
      refine j_iload_n 13 0 dX1_freeChoice_12 rfl rfl ?_
      refine j_callV 16 (As := [.int (i32 ((k : Int)))]) (kc2 := 0) (ks2 := 0) dX1_freeChoice_13 rfl mvX6_choiceAt lk_X1_166 (hE.rt r hr8) rfl ⟨Nat.le_of_ble_eq_true rfl, rfl⟩ rfl rfl (Nat.le_of_ble_eq_true rfl) ⟨Nat.le_of_ble_eq_true rfl, Nat.le_of_ble_eq_true rfl⟩ ⟨Nat.le_of_ble_eq_true rfl, Nat.le_of_ble_eq_true rfl⟩ (c_choiceAt (hE.rt r hr8) (hE.ch r hr8) (by omega) (r32 (by omega) (by omega))) x_d (k_d1 ?_)
      refine j_top (y := d (99 + 7 * r + k)) (by rw [if_pos (by omega), Int.toNat_natCast]; exact T5) ?_
      refine j_callV 19 (As := [.int (i32 (d (99 + 7 * r + k)))]) (kc2 := 0) (ks2 := 0) dX1_freeChoice_16 rfl mvX1_groupAt lk_X1_280 hE.ex rfl ⟨Nat.le_of_ble_eq_true rfl, rfl⟩ rfl rfl (Nat.le_of_ble_eq_true rfl) ⟨Nat.le_of_ble_eq_true rfl, Nat.le_of_ble_eq_true rfl⟩ ⟨Nat.le_of_ble_eq_true rfl, Nat.le_of_ble_eq_true rfl⟩ (c_groupAt1 hE (by omega) (r32 (by omega) (by omega)) (by omega)) x_d (k_d1 ?_)
      refine j_astore_n 20 (L2 := [(3, .ref (e + 3 + (d (99 + 7 * r + k)).toNat)), (2, .int (i32 ((k : Int)))), (0, .ref (e)), (1, .ref (e + 9 + 2 * r))]) dX1_freeChoice_19 rfl rfl (Nat.le_of_ble_eq_true rfl) rfl ?_
      refine j_aload_n 21 0 dX1_freeChoice_20 rfl rfl ?_
      refine j_ifnull 24 dX1_freeChoice_21 rfl ?_
      refine j_aload_n 25 0 dX1_freeChoice_24 rfl rfl ?_
      refine j_geti 28 dX1_freeChoice_25 rfl fl_X1_290 (hE.gr (d (99 + 7 * r + k)).toNat (show (d (99 + 7 * r + k)).toNat < 5 by omega)) rfl rfl (fun r_25 => ?_)
      refine j_top (y := d (50 + 9 * (d (99 + 7 * r + k)).toNat)) (G.1) ?_
      refine j_aload_n 29 2 dX1_freeChoice_28 rfl rfl ?_
      refine j_aload_n 30 0 dX1_freeChoice_29 rfl rfl ?_
      refine j_geti 33 dX1_freeChoice_30 rfl fl_X1_133 (hE.gr (d (99 + 7 * r + k)).toNat (show (d (99 + 7 * r + k)).toNat < 5 by omega)) rfl rfl (fun r_30 => ?_)
      refine j_top (y := ((d (99 + 7 * r + k)).toNat : Int)) (hGi) ?_
      refine j_callV 36 (As := [.int (i32 (((d (99 + 7 * r + k)).toNat : Int)))]) (kc2 := 0) (ks2 := 0) dX1_freeChoice_33 rfl mvX1_busyTrunks lk_X1_293 hE.ex rfl ⟨Nat.le_of_ble_eq_true rfl, rfl⟩ rfl rfl (Nat.le_of_ble_eq_true rfl) ⟨Nat.le_of_ble_eq_true rfl, Nat.le_of_ble_eq_true rfl⟩ ⟨Nat.le_of_ble_eq_true rfl, Nat.le_of_ble_eq_true rfl⟩ (c_busyTrunks hE (r32 (by omega) (by omega))) x_d (k_d1 ?_)
      refine j_top (y := (s_busyTrunks d ((d (99 + 7 * r + k)).toNat : Int) : Int)) (by rw [rel_busyTrunks hR]) ?_
      have hbt : s_busyTrunks d ((d (99 + 7 * r + k)).toNat : Int) ≤ 40 := cnt_le _ 40
      have hbx := hb.2.2.2.2.2.2.2.2.1 (d (99 + 7 * r + k)).toNat (by omega)
      refine j_isub 37 dX1_freeChoice_36 rfl ?_
      refine j_iload_n 38 1 dX1_freeChoice_37 rfl rfl ?_
      refine j_if_ne 41 45 dX1_freeChoice_38 rfl rfl (r32 (by omega) (by omega)) (fun c_38 => ?_) (fun c_38 => ?_)
      · refine j_aload_n 46 0 dX1_freeChoice_45 rfl rfl ?_
        refine j_geti 49 dX1_freeChoice_46 rfl fl_X1_296 (hE.gr (d (99 + 7 * r + k)).toNat (show (d (99 + 7 * r + k)).toNat < 5 by omega)) rfl rfl (fun r_46 => ?_)
        refine j_top (y := d (51 + 9 * (d (99 + 7 * r + k)).toNat)) (G.2.1) ?_
        refine j_icmp_le 52 54 dX1_freeChoice_49 rfl rfl (r32 (by omega) (by omega)) (by rw [← G.2.1]; exact r_46) (fun c_49 => ?_) (fun c_49 => ?_)
        · have hfr : s_isFree d (d (99 + 7 * r + k)).toNat (k == 0) = false := by
            unfold s_isFree
            by_cases q : k = 0
            · rw [if_pos (by rw [q]; rfl)]; exact decide_eq_false (by omega)
            · rw [if_neg (by simp [q])]; exact decide_eq_false (by omega)
          rw [hfr, if_neg (by decide)] at hstep
          have hn2 := hstep
          refine j_iinc 57 1 (y := ((k + 1 : Nat) : Int)) (L2 := [(2, .int (i32 (((k + 1 : Nat) : Int)))), (3, .ref (e + 3 + (d (99 + 7 * r + k)).toNat)), (0, .ref (e)), (1, .ref (e + 9 + 2 * r))]) dX1_freeChoice_54 rfl rfl (by omega) (Nat.le_of_ble_eq_true rfl) rfl ?_
          refine j_goto 2 dX1_freeChoice_57 rfl ?_
          refine j_sub [0, 2, 3] rfl ?_
          exact ih_2 (k + 1) (by omega) (by omega) hn2
        · have hfr : s_isFree d (d (99 + 7 * r + k)).toNat (k == 0) = true := by
            unfold s_isFree
            by_cases q : k = 0
            · rw [if_pos (by rw [q]; rfl)]; exact decide_eq_true (by omega)
            · rw [if_neg (by simp [q])]; exact decide_eq_true (by omega)
          rw [hfr, if_pos rfl] at hstep
          have hz : s_fc d r = (k : Int) := by unfold s_fc; rw [if_neg (by omega), hstep]
          refine j_iload_n 53 1 dX1_freeChoice_52 rfl rfl ?_
          exact j_iret dX1_freeChoice_53 rfl (q_i hz.symm)
      · refine j_iconst 42 dX1_freeChoice_41 rfl ?_
        refine j_goto 49 dX1_freeChoice_42 rfl ?_
        refine j_icmp_le 52 54 dX1_freeChoice_49 rfl rfl (r32 (by omega) (by omega)) (r32 (by decide) (by decide)) (fun c_49 => ?_) (fun c_49 => ?_)
        · have hfr : s_isFree d (d (99 + 7 * r + k)).toNat (k == 0) = false := by
            unfold s_isFree
            by_cases q : k = 0
            · rw [if_pos (by rw [q]; rfl)]; exact decide_eq_false (by omega)
            · rw [if_neg (by simp [q])]; exact decide_eq_false (by omega)
          rw [hfr, if_neg (by decide)] at hstep
          have hn2 := hstep
          refine j_iinc 57 1 (y := ((k + 1 : Nat) : Int)) (L2 := [(2, .int (i32 (((k + 1 : Nat) : Int)))), (3, .ref (e + 3 + (d (99 + 7 * r + k)).toNat)), (0, .ref (e)), (1, .ref (e + 9 + 2 * r))]) dX1_freeChoice_54 rfl rfl (by omega) (Nat.le_of_ble_eq_true rfl) rfl ?_
          refine j_goto 2 dX1_freeChoice_57 rfl ?_
          refine j_sub [0, 2, 3] rfl ?_
          exact ih_2 (k + 1) (by omega) (by omega) hn2
        · have hfr : s_isFree d (d (99 + 7 * r + k)).toNat (k == 0) = true := by
            unfold s_isFree
            by_cases q : k = 0
            · rw [if_pos (by rw [q]; rfl)]; exact decide_eq_true (by omega)
            · rw [if_neg (by simp [q])]; exact decide_eq_true (by omega)
          rw [hfr, if_pos rfl] at hstep
          have hz : s_fc d r = (k : Int) := by unfold s_fc; rw [if_neg (by omega), hstep]
          refine j_iload_n 53 1 dX1_freeChoice_52 rfl rfl ?_
          exact j_iret dX1_freeChoice_53 rfl (q_i hz.symm)
