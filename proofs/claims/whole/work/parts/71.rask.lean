/-! the reference's questions -/
theorem sm_cut {f : Nat → Int} {k N : Nat} (hk : k ≤ N) (h : ∀ j, k ≤ j → j < N → f j = 0) : sm f k = sm f N := by
  induction N with
  | zero => rw [show k = 0 by omega]
  | succ N ih =>
    rcases Nat.lt_or_ge k (N + 1) with q | q
    · show sm f k = sm f N + f N
      rw [h N (by omega) (by omega), ← ih (by omega) (fun j h1 h2 => h j h1 (by omega))]
      omega
    · rw [show k = N + 1 by omega]
theorem sm_at {f : Nat → Int} {k : Nat} {z v u : Int} (hz : z = sm f k) (hq : f k = v) (hv : u = z + v) : u = sm f (k + 1) := by
  show u = sm f k + f k
  rw [hq, ← hz]; exact hv
theorem sm_s {f : Nat → Int} {k : Nat} : sm f (k + 1) = sm f k + f k := rfl

set_option maxRecDepth 20000 in
theorem r_toldC {w : Wd} {sh : Shp} {g : Mem} {d : Nat → Int} {m : Nat} (hM : MdS sh.1 m) (hI : Inv d) {q : Int} (hq : 7 ≤ q ∧ q ≤ 18) : CT w mX10_told [.ref (m), .int (i32 (q))] sh (upR g (m + 2) d) (dQ (some (.int (i32 (s_told d q.toNat)))) sh (upR g (m + 2) d)) := by
  have hb := hI.1
  have hb0 := hb.1
  have hb1 := hb.2.1
  have hb2 := hb.2.2.1
  have hb3 := hb.2.2.2.1
  have hb4 := hb.2.2.2.2.1
  have hb5 := hb.2.2.2.2.2.1
  refine j_entry (by decide) rfl (Nat.le_of_ble_eq_true rfl) (fun h => by cases h) rfl ?_
  show J w mX10_told 0 [(0, .ref (m)), (1, .int (i32 (q)))] [] sh (upR g (m + 2) d) 0 0 _
  refine j_iconst 1 dX10_told_0 rfl ?_
  refine j_istore_n 2 (L2 := [(2, .int (i32 (0))), (0, .ref (m)), (1, .int (i32 (q)))]) dX10_told_1 rfl rfl (Nat.le_of_ble_eq_true rfl) rfl ?_
  refine j_iload_n 3 2 dX10_told_2 rfl rfl ?_
  refine j_bipush 5 dX10_told_3 rfl (by decide) ?_
  refine j_bipush 7 dX10_told_5 rfl (by decide) ?_
  refine j_callS 10 (As := [.int (i32 (q)), .int (i32 (7)), .int (i32 (18))]) (kc2 := 0) (ks2 := 0) dX10_told_7 rfl msX10_in lk_X10_57 rfl rfl (Nat.le_of_ble_eq_true rfl) ⟨Nat.le_of_ble_eq_true rfl, Nat.le_of_ble_eq_true rfl⟩ ⟨Nat.le_of_ble_eq_true rfl, Nat.le_of_ble_eq_true rfl⟩ (r_in ⟨by omega, by omega⟩ (r32 (by decide) (by decide)) (r32 (by decide) (by decide))) x_d (k_d1 ?_)
  refine j_if_eq 13 22 dX10_told_10 rfl rfl (r01 (b01_r _)) (fun c_10 => absurd c_10 (by rw [decide_eq_true (show 7 ≤ q ∧ q ≤ 18 by omega)]; decide)) (fun c_10 => ?_)
  refine j_aload_n 14 1 dX10_told_13 rfl rfl ?_
  refine j_iload_n 15 2 dX10_told_14 rfl rfl ?_
  refine j_bipush 17 dX10_told_15 rfl (by decide) ?_
  refine j_isub 18 dX10_told_17 rfl ?_
  refine j_callV 21 (As := [.int (i32 ((q) - (7)))]) (kc2 := 0) (ks2 := 0) dX10_told_18 rfl mvX10_callsThat lk_X10_227 hM.md rfl ⟨Nat.le_of_ble_eq_true rfl, rfl⟩ rfl rfl (Nat.le_of_ble_eq_true rfl) ⟨Nat.le_of_ble_eq_true rfl, Nat.le_of_ble_eq_true rfl⟩ ⟨Nat.le_of_ble_eq_true rfl, Nat.le_of_ble_eq_true rfl⟩ (r_callsThat hM (by omega) (r32 (by omega) (by omega))) x_d (k_d1 ?_)
  exact j_iret dX10_told_21 rfl (q_i (by unfold s_told; rw [if_pos (by omega), show ((q.toNat : Nat) : Int) = q by omega]))

set_option maxRecDepth 20000 in
theorem r_toldD {w : Wd} {sh : Shp} {g : Mem} {d : Nat → Int} {m : Nat} (hM : MdS sh.1 m) (hI : Inv d) {q : Nat} (hq : q ≤ 24) (h1 : ¬ (7 ≤ q ∧ q ≤ 18)) (h2 : q ≠ 22) : CT w mX10_told [.ref (m), .int (i32 ((q : Int)))] sh (upR g (m + 2) d) (dQ (some (.int (i32 (s_told d q)))) sh (upR g (m + 2) d)) := by
  have hb := hI.1
  have hb0 := hb.1
  have hb1 := hb.2.1
  have hb2 := hb.2.2.1
  have hb3 := hb.2.2.2.1
  have hb4 := hb.2.2.2.2.1
  have hb5 := hb.2.2.2.2.2.1
  refine j_entry (by decide) rfl (Nat.le_of_ble_eq_true rfl) (fun h => by cases h) rfl ?_
  show J w mX10_told 0 [(0, .ref (m)), (1, .int (i32 ((q : Int))))] [] sh (upR g (m + 2) d) 0 0 _
  refine j_iconst 1 dX10_told_0 rfl ?_
  refine j_istore_n 2 (L2 := [(2, .int (i32 (0))), (0, .ref (m)), (1, .int (i32 ((q : Int))))]) dX10_told_1 rfl rfl (Nat.le_of_ble_eq_true rfl) rfl ?_
  refine j_iload_n 3 2 dX10_told_2 rfl rfl ?_
  refine j_bipush 5 dX10_told_3 rfl (by decide) ?_
  refine j_bipush 7 dX10_told_5 rfl (by decide) ?_
  refine j_callS 10 (As := [.int (i32 ((q : Int))), .int (i32 (7)), .int (i32 (18))]) (kc2 := 0) (ks2 := 0) dX10_told_7 rfl msX10_in lk_X10_57 rfl rfl (Nat.le_of_ble_eq_true rfl) ⟨Nat.le_of_ble_eq_true rfl, Nat.le_of_ble_eq_true rfl⟩ ⟨Nat.le_of_ble_eq_true rfl, Nat.le_of_ble_eq_true rfl⟩ (r_in (r32 (by omega) (by omega)) (r32 (by decide) (by decide)) (r32 (by decide) (by decide))) x_d (k_d1 ?_)
  refine j_if_eq 13 22 dX10_told_10 rfl rfl (r01 (b01_r _)) (fun c_10 => ?_) (fun c_10 => absurd c_10 (by rw [decide_eq_false (show ¬ (7 ≤ (q : Int) ∧ (q : Int) ≤ 18) by omega)]; decide))
  refine j_iload_n 23 2 dX10_told_22 rfl rfl ?_
  refine j_bipush 25 dX10_told_23 rfl (by decide) ?_
  refine j_icmp_eq 28 35 dX10_told_25 rfl rfl (r32 (by omega) (by omega)) (r32 (by decide) (by decide)) (fun c_25 => absurd c_25 (by omega)) (fun c_25 => ?_)
  refine j_aload_n 29 1 dX10_told_28 rfl rfl ?_
  refine j_getr 32 dX10_told_29 rfl fl_X10_17 hM.md rfl (fun _ _ => rfl) rfl ?_
  refine j_iload_n 33 2 dX10_told_32 rfl rfl ?_
  refine j_iald_d 34 q dX10_told_33 rfl hM.dat rfl rfl (show q < 729 by omega) (fun r_33 => ?_)
  exact j_iret dX10_told_34 rfl (q_i (by unfold s_told; rw [if_neg (by omega), if_neg (by omega)]))

set_option maxRecDepth 20000 in
theorem r_told22 {w : Wd} {sh : Shp} {g : Mem} {d : Nat → Int} {m : Nat} (hM : MdS sh.1 m) (hI : Inv d)  : CT w mX10_told [.ref (m), .int (i32 (22))] sh (upR g (m + 2) d) (dQ (some (.int (i32 (s_told d 22)))) sh (upR g (m + 2) d)) := by
  have hb := hI.1
  have hb0 := hb.1
  have hb1 := hb.2.1
  have hb2 := hb.2.2.1
  have hb3 := hb.2.2.2.1
  have hb4 := hb.2.2.2.2.1
  have hb5 := hb.2.2.2.2.2.1
  refine j_entry (by decide) rfl (Nat.le_of_ble_eq_true rfl) (fun h => by cases h) rfl ?_
  show J w mX10_told 0 [(0, .ref (m)), (1, .int (i32 (22)))] [] sh (upR g (m + 2) d) 0 0 _
  refine j_iconst 1 dX10_told_0 rfl ?_
  refine j_istore_n 2 (L2 := [(2, .int (i32 (0))), (0, .ref (m)), (1, .int (i32 (22)))]) dX10_told_1 rfl rfl (Nat.le_of_ble_eq_true rfl) rfl ?_
  refine j_iload_n 3 2 dX10_told_2 rfl rfl ?_
  refine j_bipush 5 dX10_told_3 rfl (by decide) ?_
  refine j_bipush 7 dX10_told_5 rfl (by decide) ?_
  refine j_callS 10 (As := [.int (i32 (22)), .int (i32 (7)), .int (i32 (18))]) (kc2 := 0) (ks2 := 0) dX10_told_7 rfl msX10_in lk_X10_57 rfl rfl (Nat.le_of_ble_eq_true rfl) ⟨Nat.le_of_ble_eq_true rfl, Nat.le_of_ble_eq_true rfl⟩ ⟨Nat.le_of_ble_eq_true rfl, Nat.le_of_ble_eq_true rfl⟩ (r_in (r32 (by decide) (by decide)) (r32 (by decide) (by decide)) (r32 (by decide) (by decide))) x_d (k_d1 ?_)
  refine j_if_eq 13 22 dX10_told_10 rfl rfl (r01 (b01_r _)) (fun c_10 => ?_) (fun c_10 => absurd c_10 (by decide))
  refine j_iload_n 23 2 dX10_told_22 rfl rfl ?_
  refine j_bipush 25 dX10_told_23 rfl (by decide) ?_
  refine j_icmp_eq 28 35 dX10_told_25 rfl rfl (r32 (by decide) (by decide)) (r32 (by decide) (by decide)) (fun c_25 => ?_) (fun c_25 => absurd c_25 (by decide))
  refine j_iconst 36 dX10_told_35 rfl ?_
  refine j_istore_n 37 (L2 := [(3, .int (i32 (0))), (2, .int (i32 (0))), (0, .ref (m)), (1, .int (i32 (22)))]) dX10_told_36 rfl rfl (Nat.le_of_ble_eq_true rfl) rfl ?_
  suffices lp_37 : ∀ (n_37 : Nat) (k : Nat) (z : Int), (d 2).toNat - k < n_37 → (k : Int) ≤ d 2 → z = ((cnt (fun (i : Nat) => decide ((i : Int) < d 2) && s_isBusy d (i : Int)) k : Nat) : Int) → J w mX10_told 37 [(3, .int (i32 ((k : Int)))), (2, .int (i32 (z))), (0, .ref (m)), (1, .int (i32 (22)))] [] sh (upR g (m + 2) d) 0 0 (dQ (some (.int (i32 (s_told d 22)))) sh (upR g (m + 2) d)) by
    exact lp_37 _ 0 0 (Nat.lt_succ_self _) (by omega) rfl
  intro n_37
  induction n_37 with
  | zero => intro k z h_; exact absurd h_ (Nat.not_lt_zero _)
  | succ n_37 ih_37 =>
    intro k z hn_37 hk hz
    refine j_iload_n 38 0 dX10_told_37 rfl rfl ?_
    refine j_aload_n 39 2 dX10_told_38 rfl rfl ?_
    refine j_getr 42 dX10_told_39 rfl fl_X10_17 hM.md rfl (fun _ _ => rfl) rfl ?_
    refine j_iconst 43 dX10_told_42 rfl ?_
    refine j_iald_d 44 2 dX10_told_43 rfl hM.dat rfl rfl (show 2 < 729 by omega) (fun r_43 => ?_)
    refine j_icmp_ge 47 69 dX10_told_44 rfl rfl (r32 (by omega) (by omega)) r_43 (fun c_44 => ?_) (fun c_44 => ?_)
    · refine j_iload_n 70 1 dX10_told_69 rfl rfl ?_
      exact j_iret dX10_told_70 rfl (q_i (hz.trans (cnt_cut (by omega) (fun j h1 h2 => by rw [decide_eq_false (by omega)]; rfl))))
    · refine j_iload_n 48 1 dX10_told_47 rfl rfl ?_
      refine j_aload_n 49 2 dX10_told_48 rfl rfl ?_
      refine j_iload_n 50 0 dX10_told_49 rfl rfl ?_
      refine j_callV 53 (As := [.int (i32 ((k : Int)))]) (kc2 := 0) (ks2 := 0) dX10_told_50 rfl mvX10_isBusy lk_X10_224 hM.md rfl ⟨Nat.le_of_ble_eq_true rfl, rfl⟩ rfl rfl (Nat.le_of_ble_eq_true rfl) ⟨Nat.le_of_ble_eq_true rfl, Nat.le_of_ble_eq_true rfl⟩ ⟨Nat.le_of_ble_eq_true rfl, Nat.le_of_ble_eq_true rfl⟩ (r_isBusy hM (by omega) (r32 (by omega) (by omega))) x_d (k_d1 ?_)
      refine j_if_eq 56 60 dX10_told_53 rfl rfl (r01 (b01_r _)) (fun c_53 => ?_) (fun c_53 => ?_)
      · have hq : (fun (i : Nat) => decide ((i : Int) < d 2) && s_isBusy d (i : Int)) k = false := by show (decide ((k : Int) < d 2) && s_isBusy d (k : Int)) = false; rw [b01_0 c_53, Bool.and_false]
        refine j_iconst 61 dX10_told_60 rfl ?_
        refine j_iadd 62 dX10_told_61 rfl ?_
        refine j_istore_n 63 (L2 := [(2, .int (i32 ((z) + (0)))), (3, .int (i32 ((k : Int)))), (0, .ref (m)), (1, .int (i32 (22)))]) dX10_told_62 rfl rfl (Nat.le_of_ble_eq_true rfl) rfl ?_
        refine j_iinc 66 1 (y := ((k + 1 : Nat) : Int)) (L2 := [(3, .int (i32 (((k + 1 : Nat) : Int)))), (2, .int (i32 ((z) + (0)))), (0, .ref (m)), (1, .int (i32 (22)))]) dX10_told_63 rfl rfl (by omega) (Nat.le_of_ble_eq_true rfl) rfl ?_
        refine j_goto 37 dX10_told_66 rfl ?_
        exact ih_37 (k + 1) _ (by omega) (by omega) (by first | (rw [cnt_n hq]; omega) | (rw [cnt_y hq]; omega))
      · have hq : (fun (i : Nat) => decide ((i : Int) < d 2) && s_isBusy d (i : Int)) k = true := by show (decide ((k : Int) < d 2) && s_isBusy d (k : Int)) = true; rw [b01_1 c_53, decide_eq_true (by omega)]; rfl
        refine j_iconst 57 dX10_told_56 rfl ?_
        refine j_goto 61 dX10_told_57 rfl ?_
        refine j_iadd 62 dX10_told_61 rfl ?_
        refine j_istore_n 63 (L2 := [(2, .int (i32 ((z) + (1)))), (3, .int (i32 ((k : Int)))), (0, .ref (m)), (1, .int (i32 (22)))]) dX10_told_62 rfl rfl (Nat.le_of_ble_eq_true rfl) rfl ?_
        refine j_iinc 66 1 (y := ((k + 1 : Nat) : Int)) (L2 := [(3, .int (i32 (((k + 1 : Nat) : Int)))), (2, .int (i32 ((z) + (1)))), (0, .ref (m)), (1, .int (i32 (22)))]) dX10_told_63 rfl rfl (by omega) (Nat.le_of_ble_eq_true rfl) rfl ?_
        refine j_goto 37 dX10_told_66 rfl ?_
        exact ih_37 (k + 1) _ (by omega) (by omega) (by first | (rw [cnt_n hq]; omega) | (rw [cnt_y hq]; omega))

theorem r_told {w : Wd} {sh : Shp} {g : Mem} {d : Nat → Int} {m : Nat} (hM : MdS sh.1 m) (hI : Inv d) {q : Nat} (hq : q ≤ 24) : CT w mX10_told [.ref m, .int (i32 (q : Int))] sh (upR g (m + 2) d) (dQ (some (.int (i32 (s_told d q)))) sh (upR g (m + 2) d)) := by
  by_cases h : 7 ≤ q ∧ q ≤ 18
  · have h2 := r_toldC (w := w) (g := g) hM hI (q := (q : Int)) (by omega)
    rw [Int.toNat_natCast] at h2
    exact h2
  · by_cases h2 : q = 22
    · subst h2; exact r_told22 hM hI
    · exact r_toldD hM hI hq h h2

set_option maxRecDepth 20000 in
theorem r_state {w : Wd} {sh : Shp} {g : Mem} {d : Nat → Int} {m : Nat} (hM : MdS sh.1 m) (hI : Inv d) {q : Nat} (hq : q ≤ 24) : CT w mX10_state [.ref (m), .int (i32 ((q : Int)))] sh (upR g (m + 2) d) (dQ (some (.int (i32 (s_told d q)))) sh (upR (up2 g m 0 0) (m + 2) d)) := by
  have hb := hI.1
  have hb0 := hb.1
  have hb1 := hb.2.1
  have hb2 := hb.2.2.1
  have hb3 := hb.2.2.2.1
  have hb4 := hb.2.2.2.2.1
  have hb5 := hb.2.2.2.2.2.1
  refine j_entry (by decide) rfl (Nat.le_of_ble_eq_true rfl) (fun h => by cases h) rfl ?_
  show J w mX10_state 0 [(0, .ref (m)), (1, .int (i32 ((q : Int))))] [] sh (upR g (m + 2) d) 0 0 _
  refine j_aload_n 1 0 dX10_state_0 rfl rfl ?_
  refine j_iconst 2 dX10_state_1 rfl ?_
  refine j_puti 5 dX10_state_2 rfl fl_X10_35 hM.md rfl rfl rfl (r32 (by decide) (by decide)) ?_
  refine j_mem (up2_upR_n (by omega)) ?_
  refine j_aload_n 6 0 dX10_state_5 rfl rfl ?_
  refine j_iload_n 7 1 dX10_state_6 rfl rfl ?_
  refine j_iconst 8 dX10_state_7 rfl ?_
  refine j_bipush 10 dX10_state_8 rfl (by decide) ?_
  refine j_callS 13 (As := [.int (i32 ((q : Int))), .int (i32 (0)), .int (i32 (24))]) (kc2 := 0) (ks2 := 0) dX10_state_10 rfl msX10_in lk_X10_57 rfl rfl (Nat.le_of_ble_eq_true rfl) ⟨Nat.le_of_ble_eq_true rfl, Nat.le_of_ble_eq_true rfl⟩ ⟨Nat.le_of_ble_eq_true rfl, Nat.le_of_ble_eq_true rfl⟩ (r_in (r32 (by omega) (by omega)) (r32 (by decide) (by decide)) (r32 (by decide) (by decide))) x_d (k_d1 ?_)
  refine j_if_ne 16 20 dX10_state_13 rfl rfl (r01 (b01_r _)) (fun c_13 => ?_) (fun c_13 => absurd c_13 (by rw [decide_eq_true (show 0 ≤ (q : Int) ∧ (q : Int) ≤ 24 by omega)]; decide))
  refine j_iconst 21 dX10_state_20 rfl ?_
  refine j_iconst 22 dX10_state_21 rfl ?_
  refine j_callV 25 (As := [.int (i32 (0)), .int (i32 (1))]) (kc2 := 0) (ks2 := 0) dX10_state_22 rfl mvX10_fails lk_X10_176 hM.md rfl ⟨Nat.le_of_ble_eq_true rfl, rfl⟩ rfl rfl (Nat.le_of_ble_eq_true rfl) ⟨Nat.le_of_ble_eq_true rfl, Nat.le_of_ble_eq_true rfl⟩ ⟨Nat.le_of_ble_eq_true rfl, Nat.le_of_ble_eq_true rfl⟩ (r_fails0 hM 1 up2_s) x_d (k_d1 ?_)
  refine j_if_eq 28 32 dX10_state_25 rfl rfl (r32 (by decide) (by decide)) (fun c_25 => ?_) (fun c_25 => absurd c_25 (by decide))
  refine j_aload_n 33 0 dX10_state_32 rfl rfl ?_
  refine j_iload_n 34 1 dX10_state_33 rfl rfl ?_
  refine j_callV 37 (As := [.int (i32 ((q : Int)))]) (kc2 := 0) (ks2 := 0) dX10_state_34 rfl mvX10_told lk_X10_276 hM.md rfl ⟨Nat.le_of_ble_eq_true rfl, rfl⟩ rfl rfl (Nat.le_of_ble_eq_true rfl) ⟨Nat.le_of_ble_eq_true rfl, Nat.le_of_ble_eq_true rfl⟩ ⟨Nat.le_of_ble_eq_true rfl, Nat.le_of_ble_eq_true rfl⟩ (r_told hM hI hq) x_d (k_d1 ?_)
  exact j_iret dX10_state_37 rfl (⟨rfl, rfl, rfl⟩)

set_option maxRecDepth 20000 in
theorem r_stateI {w : Wd} {sh : Shp} {g : Mem} {d : Nat → Int} {m : Nat} (hM : MdS sh.1 m) (hI : Inv d) {q : Int} (hq : R32 q) (hb9 : q < 0 ∨ 24 < q) : CT w mX10_state [.ref (m), .int (i32 (q))] sh (upR g (m + 2) d) (dQ (some (.int (i32 (0)))) sh (upR (up2 (up2 g m 0 0) m 0 1) (m + 2) d)) := by
  have hb := hI.1
  have hb0 := hb.1
  have hb1 := hb.2.1
  have hb2 := hb.2.2.1
  have hb3 := hb.2.2.2.1
  have hb4 := hb.2.2.2.2.1
  have hb5 := hb.2.2.2.2.2.1
  refine j_entry (by decide) rfl (Nat.le_of_ble_eq_true rfl) (fun h => by cases h) rfl ?_
  show J w mX10_state 0 [(0, .ref (m)), (1, .int (i32 (q)))] [] sh (upR g (m + 2) d) 0 0 _
  refine j_aload_n 1 0 dX10_state_0 rfl rfl ?_
  refine j_iconst 2 dX10_state_1 rfl ?_
  refine j_puti 5 dX10_state_2 rfl fl_X10_35 hM.md rfl rfl rfl (r32 (by decide) (by decide)) ?_
  refine j_mem (up2_upR_n (by omega)) ?_
  refine j_aload_n 6 0 dX10_state_5 rfl rfl ?_
  refine j_iload_n 7 1 dX10_state_6 rfl rfl ?_
  refine j_iconst 8 dX10_state_7 rfl ?_
  refine j_bipush 10 dX10_state_8 rfl (by decide) ?_
  refine j_callS 13 (As := [.int (i32 (q)), .int (i32 (0)), .int (i32 (24))]) (kc2 := 0) (ks2 := 0) dX10_state_10 rfl msX10_in lk_X10_57 rfl rfl (Nat.le_of_ble_eq_true rfl) ⟨Nat.le_of_ble_eq_true rfl, Nat.le_of_ble_eq_true rfl⟩ ⟨Nat.le_of_ble_eq_true rfl, Nat.le_of_ble_eq_true rfl⟩ (r_in hq (r32 (by decide) (by decide)) (r32 (by decide) (by decide))) x_d (k_d1 ?_)
  refine j_if_ne 16 20 dX10_state_13 rfl rfl (r01 (b01_r _)) (fun c_13 => absurd c_13 (by rw [decide_eq_false (show ¬ (0 ≤ q ∧ q ≤ 24) by omega)]; decide)) (fun c_13 => ?_)
  refine j_iconst 17 dX10_state_16 rfl ?_
  refine j_goto 21 dX10_state_17 rfl ?_
  refine j_iconst 22 dX10_state_21 rfl ?_
  refine j_callV 25 (As := [.int (i32 (1)), .int (i32 (1))]) (kc2 := 0) (ks2 := 0) dX10_state_22 rfl mvX10_fails lk_X10_176 hM.md rfl ⟨Nat.le_of_ble_eq_true rfl, rfl⟩ rfl rfl (Nat.le_of_ble_eq_true rfl) ⟨Nat.le_of_ble_eq_true rfl, Nat.le_of_ble_eq_true rfl⟩ ⟨Nat.le_of_ble_eq_true rfl, Nat.le_of_ble_eq_true rfl⟩ (r_fails1 hM 1 (by decide) (by decide) (by decide) up2_s) x_d (k_d1 ?_)
  refine j_if_eq 28 32 dX10_state_25 rfl rfl (r32 (by decide) (by decide)) (fun c_25 => absurd c_25 (by decide)) (fun c_25 => ?_)
  refine j_iconst 29 dX10_state_28 rfl ?_
  refine j_goto 37 dX10_state_29 rfl ?_
  exact j_iret dX10_state_37 rfl (⟨rfl, rfl, rfl⟩)

set_option maxRecDepth 20000 in
theorem r_toldLine0 {w : Wd} {sh : Shp} {g : Mem} {d : Nat → Int} {m : Nat} (hM : MdS sh.1 m) (hI : Inv d) {x : Int} (hx : R32 x) : CT w mX10_toldLine [.ref (m), .int (i32 (x)), .int (i32 (0))] sh (upR g (m + 2) d) (dQ (some (.int (i32 (s_lineV d x 0)))) sh (upR g (m + 2) d)) := by
  have hb := hI.1
  have hb0 := hb.1
  have hb1 := hb.2.1
  have hb2 := hb.2.2.1
  have hb3 := hb.2.2.2.1
  have hb4 := hb.2.2.2.2.1
  have hb5 := hb.2.2.2.2.2.1
  refine j_entry (by decide) rfl (Nat.le_of_ble_eq_true rfl) (fun h => by cases h) rfl ?_
  show J w mX10_toldLine 0 [(0, .ref (m)), (1, .int (i32 (x))), (2, .int (i32 (0)))] [] sh (upR g (m + 2) d) 0 0 _
  refine j_iconst 1 dX10_toldLine_0 rfl ?_
  refine j_istore_n 2 (L2 := [(3, .int (i32 (0))), (0, .ref (m)), (1, .int (i32 (x))), (2, .int (i32 (0)))]) dX10_toldLine_1 rfl rfl (Nat.le_of_ble_eq_true rfl) rfl ?_
  refine j_iload_n 3 3 dX10_toldLine_2 rfl rfl ?_
  refine j_tabIn 28 dX10_toldLine_3 (r32 (by decide) (by decide)) (by decide) (by decide) rfl rfl ?_
  refine j_aload_n 29 1 dX10_toldLine_28 rfl rfl ?_
  refine j_iload_n 30 2 dX10_toldLine_29 rfl rfl ?_
  refine j_callV 33 (As := [.int (i32 (x))]) (kc2 := 0) (ks2 := 0) dX10_toldLine_30 rfl mvX10_isBusy lk_X10_224 hM.md rfl ⟨Nat.le_of_ble_eq_true rfl, rfl⟩ rfl rfl (Nat.le_of_ble_eq_true rfl) ⟨Nat.le_of_ble_eq_true rfl, Nat.le_of_ble_eq_true rfl⟩ ⟨Nat.le_of_ble_eq_true rfl, Nat.le_of_ble_eq_true rfl⟩ (r_isBusy hM (by omega) hx) x_d (k_d1 ?_)
  refine j_if_eq 36 40 dX10_toldLine_33 rfl rfl (r01 (b01_r _)) (fun c_33 => ?_) (fun c_33 => ?_)
  · have hz : (0 : Int) = b01 (s_isBusy d x) := by rw [b01_0 c_33]; rfl
    refine j_iconst 41 dX10_toldLine_40 rfl ?_
    exact j_iret dX10_toldLine_41 rfl (q_i hz)
  · have hz : (1 : Int) = b01 (s_isBusy d x) := by rw [b01_1 c_33]; rfl
    refine j_iconst 37 dX10_toldLine_36 rfl ?_
    refine j_goto 41 dX10_toldLine_37 rfl ?_
    exact j_iret dX10_toldLine_41 rfl (q_i hz)

set_option maxRecDepth 20000 in
theorem r_toldLine1 {w : Wd} {sh : Shp} {g : Mem} {d : Nat → Int} {m : Nat} (hM : MdS sh.1 m) (hI : Inv d) {x : Int} (hx : R32 x) : CT w mX10_toldLine [.ref (m), .int (i32 (x)), .int (i32 (1))] sh (upR g (m + 2) d) (dQ (some (.int (i32 (s_lineV d x 1)))) sh (upR g (m + 2) d)) := by
  have hb := hI.1
  have hb0 := hb.1
  have hb1 := hb.2.1
  have hb2 := hb.2.2.1
  have hb3 := hb.2.2.2.1
  have hb4 := hb.2.2.2.2.1
  have hb5 := hb.2.2.2.2.2.1
  refine j_entry (by decide) rfl (Nat.le_of_ble_eq_true rfl) (fun h => by cases h) rfl ?_
  show J w mX10_toldLine 0 [(0, .ref (m)), (1, .int (i32 (x))), (2, .int (i32 (1)))] [] sh (upR g (m + 2) d) 0 0 _
  refine j_iconst 1 dX10_toldLine_0 rfl ?_
  refine j_istore_n 2 (L2 := [(3, .int (i32 (0))), (0, .ref (m)), (1, .int (i32 (x))), (2, .int (i32 (1)))]) dX10_toldLine_1 rfl rfl (Nat.le_of_ble_eq_true rfl) rfl ?_
  refine j_iload_n 3 3 dX10_toldLine_2 rfl rfl ?_
  refine j_tabIn 42 dX10_toldLine_3 (r32 (by decide) (by decide)) (by decide) (by decide) rfl rfl ?_
  refine j_aload_n 43 1 dX10_toldLine_42 rfl rfl ?_
  refine j_iload_n 44 2 dX10_toldLine_43 rfl rfl ?_
  refine j_callV 47 (As := [.int (i32 (x))]) (kc2 := 0) (ks2 := 0) dX10_toldLine_44 rfl mvX10_callBy lk_X10_204 hM.md rfl ⟨Nat.le_of_ble_eq_true rfl, rfl⟩ rfl rfl (Nat.le_of_ble_eq_true rfl) ⟨Nat.le_of_ble_eq_true rfl, Nat.le_of_ble_eq_true rfl⟩ ⟨Nat.le_of_ble_eq_true rfl, Nat.le_of_ble_eq_true rfl⟩ (r_callBy hM (by omega) hx) x_d (k_d1 ?_)
  exact j_iret dX10_toldLine_47 rfl (⟨rfl, rfl, rfl⟩)

set_option maxRecDepth 20000 in
theorem r_toldLine2 {w : Wd} {sh : Shp} {g : Mem} {d : Nat → Int} {m : Nat} (hM : MdS sh.1 m) (hI : Inv d) {x : Int} (hx : R32 x) : CT w mX10_toldLine [.ref (m), .int (i32 (x)), .int (i32 (2))] sh (upR g (m + 2) d) (dQ (some (.int (i32 (s_lineV d x 2)))) sh (upR g (m + 2) d)) := by
  have hb := hI.1
  have hb0 := hb.1
  have hb1 := hb.2.1
  have hb2 := hb.2.2.1
  have hb3 := hb.2.2.2.1
  have hb4 := hb.2.2.2.2.1
  have hb5 := hb.2.2.2.2.2.1
  refine j_entry (by decide) rfl (Nat.le_of_ble_eq_true rfl) (fun h => by cases h) rfl ?_
  show J w mX10_toldLine 0 [(0, .ref (m)), (1, .int (i32 (x))), (2, .int (i32 (2)))] [] sh (upR g (m + 2) d) 0 0 _
  refine j_iconst 1 dX10_toldLine_0 rfl ?_
  refine j_istore_n 2 (L2 := [(3, .int (i32 (0))), (0, .ref (m)), (1, .int (i32 (x))), (2, .int (i32 (2)))]) dX10_toldLine_1 rfl rfl (Nat.le_of_ble_eq_true rfl) rfl ?_
  refine j_iload_n 3 3 dX10_toldLine_2 rfl rfl ?_
  refine j_tabIn 48 dX10_toldLine_3 (r32 (by decide) (by decide)) (by decide) (by decide) rfl rfl ?_
  refine j_aload_n 49 1 dX10_toldLine_48 rfl rfl ?_
  refine j_iload_n 50 2 dX10_toldLine_49 rfl rfl ?_
  refine j_callV 53 (As := [.int (i32 (x))]) (kc2 := 0) (ks2 := 0) dX10_toldLine_50 rfl mvX10_callTo lk_X10_207 hM.md rfl ⟨Nat.le_of_ble_eq_true rfl, rfl⟩ rfl rfl (Nat.le_of_ble_eq_true rfl) ⟨Nat.le_of_ble_eq_true rfl, Nat.le_of_ble_eq_true rfl⟩ ⟨Nat.le_of_ble_eq_true rfl, Nat.le_of_ble_eq_true rfl⟩ (r_callTo hM (by omega) hx) x_d (k_d1 ?_)
  exact j_iret dX10_toldLine_53 rfl (⟨rfl, rfl, rfl⟩)

set_option maxRecDepth 20000 in
theorem r_toldLine3 {w : Wd} {sh : Shp} {g : Mem} {d : Nat → Int} {m : Nat} (hM : MdS sh.1 m) (hI : Inv d) {x : Int} (hx : R32 x) : CT w mX10_toldLine [.ref (m), .int (i32 (x)), .int (i32 (3))] sh (upR g (m + 2) d) (dQ (some (.int (i32 (s_lineV d x 3)))) sh (upR g (m + 2) d)) := by
  have hb := hI.1
  have hb0 := hb.1
  have hb1 := hb.2.1
  have hb2 := hb.2.2.1
  have hb3 := hb.2.2.2.1
  have hb4 := hb.2.2.2.2.1
  have hb5 := hb.2.2.2.2.2.1
  refine j_entry (by decide) rfl (Nat.le_of_ble_eq_true rfl) (fun h => by cases h) rfl ?_
  show J w mX10_toldLine 0 [(0, .ref (m)), (1, .int (i32 (x))), (2, .int (i32 (3)))] [] sh (upR g (m + 2) d) 0 0 _
  refine j_rgd hM.dat rfl (fun hR => ?_)
  refine j_iconst 1 dX10_toldLine_0 rfl ?_
  refine j_istore_n 2 (L2 := [(3, .int (i32 (0))), (0, .ref (m)), (1, .int (i32 (x))), (2, .int (i32 (3)))]) dX10_toldLine_1 rfl rfl (Nat.le_of_ble_eq_true rfl) rfl ?_
  refine j_iload_n 3 3 dX10_toldLine_2 rfl rfl ?_
  refine j_tabOut 54 dX10_toldLine_3 (r32 (by decide) (by decide)) (Or.inr (by decide)) rfl ?_
  refine j_iconst 55 dX10_toldLine_54 rfl ?_
  refine j_istore 57 (L2 := [(4, .int (i32 (0))), (3, .int (i32 (0))), (0, .ref (m)), (1, .int (i32 (x))), (2, .int (i32 (3)))]) dX10_toldLine_55 rfl (Nat.le_of_ble_eq_true rfl) rfl ?_
  suffices lp_57 : ∀ (n_57 : Nat) (k : Nat) (z : Int), (d 5).toNat - k < n_57 → (k : Int) ≤ d 5 → z = sm (fun (c : Nat) => if (c : Int) < d 5 ∧ d (169 + 14 * c) = x then d (182 + 14 * c) else 0) k → J w mX10_toldLine 57 [(4, .int (i32 ((k : Int)))), (3, .int (i32 (z))), (0, .ref (m)), (1, .int (i32 (x))), (2, .int (i32 (3)))] [] sh (upR g (m + 2) d) 0 0 (dQ (some (.int (i32 (s_lineV d x 3)))) sh (upR g (m + 2) d)) by
    exact lp_57 _ 0 0 (Nat.lt_succ_self _) (by omega) rfl
  intro n_57
  induction n_57 with
  | zero => intro k z h_; exact absurd h_ (Nat.not_lt_zero _)
  | succ n_57 ih_57 =>
    intro k z hn_57 hk hz
    refine j_iload 59 0 dX10_toldLine_57 rfl rfl ?_
    refine j_aload_n 60 2 dX10_toldLine_59 rfl rfl ?_
    refine j_getr 63 dX10_toldLine_60 rfl fl_X10_17 hM.md rfl (fun _ _ => rfl) rfl ?_
    refine j_iconst 64 dX10_toldLine_63 rfl ?_
    refine j_iald_d 65 5 dX10_toldLine_64 rfl hM.dat rfl rfl (show 5 < 729 by omega) (fun r_64 => ?_)
    refine j_icmp_ge 68 121 dX10_toldLine_65 rfl rfl (r32 (by omega) (by omega)) r_64 (fun c_65 => ?_) (fun c_65 => ?_)
    · refine j_iload_n 122 1 dX10_toldLine_121 rfl rfl ?_
      exact j_iret dX10_toldLine_122 rfl (q_i (hz.trans (sm_cut (by omega) (fun j h1 h2 => if_neg (fun a => by omega)))))
    · refine j_aload_n 69 2 dX10_toldLine_68 rfl rfl ?_
      refine j_iload 71 0 dX10_toldLine_69 rfl rfl ?_
      refine j_iconst 72 dX10_toldLine_71 rfl ?_
      refine j_callV 75 (As := [.int (i32 ((k : Int))), .int (i32 (0))]) (kc2 := 0) (ks2 := 0) dX10_toldLine_72 rfl mvX10_of lk_X10_192 hM.md rfl ⟨Nat.le_of_ble_eq_true rfl, rfl⟩ rfl rfl (Nat.le_of_ble_eq_true rfl) ⟨Nat.le_of_ble_eq_true rfl, Nat.le_of_ble_eq_true rfl⟩ ⟨Nat.le_of_ble_eq_true rfl, Nat.le_of_ble_eq_true rfl⟩ (r_of hM k 0 (169 + 14 * k) rfl rfl (by omega) (by omega) (by decide)) x_d (k_d1 ?_)
      refine j_iload_n 76 3 dX10_toldLine_75 rfl rfl ?_
      refine j_icmp_ne 79 115 dX10_toldLine_76 rfl rfl (hR _) hx (fun c_76 => ?_) (fun c_76 => ?_)
      · have hq : (fun (c : Nat) => if (c : Int) < d 5 ∧ d (169 + 14 * c) = x then d (182 + 14 * c) else 0) k = 0 := if_neg (fun a => c_76 a.2)
        refine j_iinc 118 0 (y := ((k + 1 : Nat) : Int)) (L2 := [(4, .int (i32 (((k + 1 : Nat) : Int)))), (3, .int (i32 (z))), (0, .ref (m)), (1, .int (i32 (x))), (2, .int (i32 (3)))]) dX10_toldLine_115 rfl rfl (by omega) (Nat.le_of_ble_eq_true rfl) rfl ?_
        refine j_goto 57 dX10_toldLine_118 rfl ?_
        exact ih_57 (k + 1) _ (by omega) (by omega) (sm_at hz hq (by omega))
      · have hq : (fun (c : Nat) => if (c : Int) < d 5 ∧ d (169 + 14 * c) = x then d (182 + 14 * c) else 0) k = d (182 + 14 * k) := if_pos ⟨by omega, c_76⟩
        refine j_iload_n 80 1 dX10_toldLine_79 rfl rfl ?_
        refine j_iload_n 81 4 dX10_toldLine_80 rfl rfl ?_
        refine j_iconst 82 dX10_toldLine_81 rfl ?_
        refine j_icmp_ne 85 96 dX10_toldLine_82 rfl rfl (r32 (by decide) (by decide)) (r32 (by decide) (by decide)) (fun c_82 => absurd c_82 (by decide)) (fun c_82 => ?_)
        refine j_aload_n 86 2 dX10_toldLine_85 rfl rfl ?_
        refine j_iload 88 0 dX10_toldLine_86 rfl rfl ?_
        refine j_bipush 90 dX10_toldLine_88 rfl (by decide) ?_
        refine j_callV 93 (As := [.int (i32 ((k : Int))), .int (i32 (13))]) (kc2 := 0) (ks2 := 0) dX10_toldLine_90 rfl mvX10_of lk_X10_192 hM.md rfl ⟨Nat.le_of_ble_eq_true rfl, rfl⟩ rfl rfl (Nat.le_of_ble_eq_true rfl) ⟨Nat.le_of_ble_eq_true rfl, Nat.le_of_ble_eq_true rfl⟩ ⟨Nat.le_of_ble_eq_true rfl, Nat.le_of_ble_eq_true rfl⟩ (r_of hM k 13 (182 + 14 * k) rfl rfl (by omega) (by omega) (by decide)) x_d (k_d1 ?_)
        refine j_goto 113 dX10_toldLine_93 rfl ?_
        refine j_iadd 114 dX10_toldLine_113 rfl ?_
        refine j_istore_n 115 (L2 := [(3, .int (i32 ((z) + (d (182 + 14 * k))))), (4, .int (i32 ((k : Int)))), (0, .ref (m)), (1, .int (i32 (x))), (2, .int (i32 (3)))]) dX10_toldLine_114 rfl rfl (Nat.le_of_ble_eq_true rfl) rfl ?_
        refine j_iinc 118 1 (y := ((k + 1 : Nat) : Int)) (L2 := [(4, .int (i32 (((k + 1 : Nat) : Int)))), (3, .int (i32 ((z) + (d (182 + 14 * k))))), (0, .ref (m)), (1, .int (i32 (x))), (2, .int (i32 (3)))]) dX10_toldLine_115 rfl rfl (by omega) (Nat.le_of_ble_eq_true rfl) rfl ?_
        refine j_goto 57 dX10_toldLine_118 rfl ?_
        exact ih_57 (k + 1) _ (by omega) (by omega) (sm_at hz hq (by omega))

set_option maxRecDepth 20000 in
theorem r_toldLine4 {w : Wd} {sh : Shp} {g : Mem} {d : Nat → Int} {m : Nat} (hM : MdS sh.1 m) (hI : Inv d) {x : Int} (hx : R32 x) : CT w mX10_toldLine [.ref (m), .int (i32 (x)), .int (i32 (4))] sh (upR g (m + 2) d) (dQ (some (.int (i32 (s_lineV d x 4)))) sh (upR g (m + 2) d)) := by
  have hb := hI.1
  have hb0 := hb.1
  have hb1 := hb.2.1
  have hb2 := hb.2.2.1
  have hb3 := hb.2.2.2.1
  have hb4 := hb.2.2.2.2.1
  have hb5 := hb.2.2.2.2.2.1
  refine j_entry (by decide) rfl (Nat.le_of_ble_eq_true rfl) (fun h => by cases h) rfl ?_
  show J w mX10_toldLine 0 [(0, .ref (m)), (1, .int (i32 (x))), (2, .int (i32 (4)))] [] sh (upR g (m + 2) d) 0 0 _
  refine j_rgd hM.dat rfl (fun hR => ?_)
  refine j_iconst 1 dX10_toldLine_0 rfl ?_
  refine j_istore_n 2 (L2 := [(3, .int (i32 (0))), (0, .ref (m)), (1, .int (i32 (x))), (2, .int (i32 (4)))]) dX10_toldLine_1 rfl rfl (Nat.le_of_ble_eq_true rfl) rfl ?_
  refine j_iload_n 3 3 dX10_toldLine_2 rfl rfl ?_
  refine j_tabOut 54 dX10_toldLine_3 (r32 (by decide) (by decide)) (Or.inr (by decide)) rfl ?_
  refine j_iconst 55 dX10_toldLine_54 rfl ?_
  refine j_istore 57 (L2 := [(4, .int (i32 (0))), (3, .int (i32 (0))), (0, .ref (m)), (1, .int (i32 (x))), (2, .int (i32 (4)))]) dX10_toldLine_55 rfl (Nat.le_of_ble_eq_true rfl) rfl ?_
  suffices lp_57 : ∀ (n_57 : Nat) (k : Nat) (z : Int), (d 5).toNat - k < n_57 → (k : Int) ≤ d 5 → z = sm (fun (c : Nat) => if (c : Int) < d 5 ∧ d (169 + 14 * c) = x ∧ d (173 + 14 * c) = 6 then (1 : Int) else 0) k → J w mX10_toldLine 57 [(4, .int (i32 ((k : Int)))), (3, .int (i32 (z))), (0, .ref (m)), (1, .int (i32 (x))), (2, .int (i32 (4)))] [] sh (upR g (m + 2) d) 0 0 (dQ (some (.int (i32 (s_lineV d x 4)))) sh (upR g (m + 2) d)) by
    exact lp_57 _ 0 0 (Nat.lt_succ_self _) (by omega) rfl
  intro n_57
  induction n_57 with
  | zero => intro k z h_; exact absurd h_ (Nat.not_lt_zero _)
  | succ n_57 ih_57 =>
    intro k z hn_57 hk hz
    refine j_iload 59 0 dX10_toldLine_57 rfl rfl ?_
    refine j_aload_n 60 2 dX10_toldLine_59 rfl rfl ?_
    refine j_getr 63 dX10_toldLine_60 rfl fl_X10_17 hM.md rfl (fun _ _ => rfl) rfl ?_
    refine j_iconst 64 dX10_toldLine_63 rfl ?_
    refine j_iald_d 65 5 dX10_toldLine_64 rfl hM.dat rfl rfl (show 5 < 729 by omega) (fun r_64 => ?_)
    refine j_icmp_ge 68 121 dX10_toldLine_65 rfl rfl (r32 (by omega) (by omega)) r_64 (fun c_65 => ?_) (fun c_65 => ?_)
    · refine j_iload_n 122 1 dX10_toldLine_121 rfl rfl ?_
      exact j_iret dX10_toldLine_122 rfl (q_i (hz.trans (sm_cut (by omega) (fun j h1 h2 => if_neg (fun a => by omega)))))
    · refine j_aload_n 69 2 dX10_toldLine_68 rfl rfl ?_
      refine j_iload 71 0 dX10_toldLine_69 rfl rfl ?_
      refine j_iconst 72 dX10_toldLine_71 rfl ?_
      refine j_callV 75 (As := [.int (i32 ((k : Int))), .int (i32 (0))]) (kc2 := 0) (ks2 := 0) dX10_toldLine_72 rfl mvX10_of lk_X10_192 hM.md rfl ⟨Nat.le_of_ble_eq_true rfl, rfl⟩ rfl rfl (Nat.le_of_ble_eq_true rfl) ⟨Nat.le_of_ble_eq_true rfl, Nat.le_of_ble_eq_true rfl⟩ ⟨Nat.le_of_ble_eq_true rfl, Nat.le_of_ble_eq_true rfl⟩ (r_of hM k 0 (169 + 14 * k) rfl rfl (by omega) (by omega) (by decide)) x_d (k_d1 ?_)
      refine j_iload_n 76 3 dX10_toldLine_75 rfl rfl ?_
      refine j_icmp_ne 79 115 dX10_toldLine_76 rfl rfl (hR _) hx (fun c_76 => ?_) (fun c_76 => ?_)
      · have hq : (fun (c : Nat) => if (c : Int) < d 5 ∧ d (169 + 14 * c) = x ∧ d (173 + 14 * c) = 6 then (1 : Int) else 0) k = 0 := if_neg (fun a => c_76 a.2.1)
        refine j_iinc 118 0 (y := ((k + 1 : Nat) : Int)) (L2 := [(4, .int (i32 (((k + 1 : Nat) : Int)))), (3, .int (i32 (z))), (0, .ref (m)), (1, .int (i32 (x))), (2, .int (i32 (4)))]) dX10_toldLine_115 rfl rfl (by omega) (Nat.le_of_ble_eq_true rfl) rfl ?_
        refine j_goto 57 dX10_toldLine_118 rfl ?_
        exact ih_57 (k + 1) _ (by omega) (by omega) (sm_at hz hq (by omega))
      · refine j_iload_n 80 1 dX10_toldLine_79 rfl rfl ?_
        refine j_iload_n 81 4 dX10_toldLine_80 rfl rfl ?_
        refine j_iconst 82 dX10_toldLine_81 rfl ?_
        refine j_icmp_ne 85 96 dX10_toldLine_82 rfl rfl (r32 (by decide) (by decide)) (r32 (by decide) (by decide)) (fun c_82 => ?_) (fun c_82 => absurd c_82 (by decide))
        refine j_aload_n 97 2 dX10_toldLine_96 rfl rfl ?_
        refine j_iload 99 0 dX10_toldLine_97 rfl rfl ?_
        refine j_iconst 100 dX10_toldLine_99 rfl ?_
        refine j_callV 103 (As := [.int (i32 ((k : Int))), .int (i32 (4))]) (kc2 := 0) (ks2 := 0) dX10_toldLine_100 rfl mvX10_of lk_X10_192 hM.md rfl ⟨Nat.le_of_ble_eq_true rfl, rfl⟩ rfl rfl (Nat.le_of_ble_eq_true rfl) ⟨Nat.le_of_ble_eq_true rfl, Nat.le_of_ble_eq_true rfl⟩ ⟨Nat.le_of_ble_eq_true rfl, Nat.le_of_ble_eq_true rfl⟩ (r_of hM k 4 (173 + 14 * k) rfl rfl (by omega) (by omega) (by decide)) x_d (k_d1 ?_)
        refine j_bipush 105 dX10_toldLine_103 rfl (by decide) ?_
        refine j_icmp_ne 108 112 dX10_toldLine_105 rfl rfl (hR _) (r32 (by decide) (by decide)) (fun c_105 => ?_) (fun c_105 => ?_)
        · have hq : (fun (c : Nat) => if (c : Int) < d 5 ∧ d (169 + 14 * c) = x ∧ d (173 + 14 * c) = 6 then (1 : Int) else 0) k = 0 := if_neg (fun a => c_105 a.2.2)
          refine j_iconst 113 dX10_toldLine_112 rfl ?_
          refine j_iadd 114 dX10_toldLine_113 rfl ?_
          refine j_istore_n 115 (L2 := [(3, .int (i32 ((z) + (0)))), (4, .int (i32 ((k : Int)))), (0, .ref (m)), (1, .int (i32 (x))), (2, .int (i32 (4)))]) dX10_toldLine_114 rfl rfl (Nat.le_of_ble_eq_true rfl) rfl ?_
          refine j_iinc 118 1 (y := ((k + 1 : Nat) : Int)) (L2 := [(4, .int (i32 (((k + 1 : Nat) : Int)))), (3, .int (i32 ((z) + (0)))), (0, .ref (m)), (1, .int (i32 (x))), (2, .int (i32 (4)))]) dX10_toldLine_115 rfl rfl (by omega) (Nat.le_of_ble_eq_true rfl) rfl ?_
          refine j_goto 57 dX10_toldLine_118 rfl ?_
          exact ih_57 (k + 1) _ (by omega) (by omega) (sm_at hz hq (by omega))
        · have hq : (fun (c : Nat) => if (c : Int) < d 5 ∧ d (169 + 14 * c) = x ∧ d (173 + 14 * c) = 6 then (1 : Int) else 0) k = 1 := if_pos ⟨by omega, c_76, c_105⟩
          refine j_iconst 109 dX10_toldLine_108 rfl ?_
          refine j_goto 113 dX10_toldLine_109 rfl ?_
          refine j_iadd 114 dX10_toldLine_113 rfl ?_
          refine j_istore_n 115 (L2 := [(3, .int (i32 ((z) + (1)))), (4, .int (i32 ((k : Int)))), (0, .ref (m)), (1, .int (i32 (x))), (2, .int (i32 (4)))]) dX10_toldLine_114 rfl rfl (Nat.le_of_ble_eq_true rfl) rfl ?_
          refine j_iinc 118 1 (y := ((k + 1 : Nat) : Int)) (L2 := [(4, .int (i32 (((k + 1 : Nat) : Int)))), (3, .int (i32 ((z) + (1)))), (0, .ref (m)), (1, .int (i32 (x))), (2, .int (i32 (4)))]) dX10_toldLine_115 rfl rfl (by omega) (Nat.le_of_ble_eq_true rfl) rfl ?_
          refine j_goto 57 dX10_toldLine_118 rfl ?_
          exact ih_57 (k + 1) _ (by omega) (by omega) (sm_at hz hq (by omega))

theorem r_toldLine {w : Wd} {sh : Shp} {g : Mem} {d : Nat → Int} {m : Nat} (hM : MdS sh.1 m) (hI : Inv d) {x : Int} (hx : R32 x) {q : Nat} (hq : q ≤ 4) : CT w mX10_toldLine [.ref m, .int (i32 x), .int (i32 (q : Int))] sh (upR g (m + 2) d) (dQ (some (.int (i32 (s_lineV d x q)))) sh (upR g (m + 2) d)) := by
  match q, hq with
  | 0, _ => exact r_toldLine0 hM hI hx
  | 1, _ => exact r_toldLine1 hM hI hx
  | 2, _ => exact r_toldLine2 hM hI hx
  | 3, _ => exact r_toldLine3 hM hI hx
  | 4, _ => exact r_toldLine4 hM hI hx

set_option maxRecDepth 20000 in
theorem r_line {w : Wd} {sh : Shp} {g : Mem} {d : Nat → Int} {m : Nat} (hM : MdS sh.1 m) (hI : Inv d) {x : Int} (hx : R32 x) (h0 : 0 ≤ x ∧ x < d 2) {q : Nat} (hq : q ≤ 4) : CT w mX10_line [.ref (m), .int (i32 (x)), .int (i32 ((q : Int)))] sh (upR g (m + 2) d) (dQ (some (.int (i32 (s_lineV d x q)))) sh (upR (up2 g m 0 0) (m + 2) d)) := by
  have hb := hI.1
  have hb0 := hb.1
  have hb1 := hb.2.1
  have hb2 := hb.2.2.1
  have hb3 := hb.2.2.2.1
  have hb4 := hb.2.2.2.2.1
  have hb5 := hb.2.2.2.2.2.1
  refine j_entry (by decide) rfl (Nat.le_of_ble_eq_true rfl) (fun h => by cases h) rfl ?_
  show J w mX10_line 0 [(0, .ref (m)), (1, .int (i32 (x))), (2, .int (i32 ((q : Int))))] [] sh (upR g (m + 2) d) 0 0 _
  refine j_aload_n 1 0 dX10_line_0 rfl rfl ?_
  refine j_iconst 2 dX10_line_1 rfl ?_
  refine j_puti 5 dX10_line_2 rfl fl_X10_35 hM.md rfl rfl rfl (r32 (by decide) (by decide)) ?_
  refine j_mem (up2_upR_n (by omega)) ?_
  refine j_aload_n 6 0 dX10_line_5 rfl rfl ?_
  refine j_iload_n 7 1 dX10_line_6 rfl rfl ?_
  refine j_iconst 8 dX10_line_7 rfl ?_
  refine j_aload_n 9 0 dX10_line_8 rfl rfl ?_
  refine j_getr 12 dX10_line_9 rfl fl_X10_17 hM.md rfl (fun _ _ => rfl) rfl ?_
  refine j_iconst 13 dX10_line_12 rfl ?_
  refine j_iald_d 14 2 dX10_line_13 rfl hM.dat rfl rfl (show 2 < 729 by omega) (fun r_13 => ?_)
  refine j_iconst 15 dX10_line_14 rfl ?_
  refine j_isub 16 dX10_line_15 rfl ?_
  refine j_callS 19 (As := [.int (i32 (x)), .int (i32 (0)), .int (i32 ((d (2)) - (1)))]) (kc2 := 0) (ks2 := 0) dX10_line_16 rfl msX10_in lk_X10_57 rfl rfl (Nat.le_of_ble_eq_true rfl) ⟨Nat.le_of_ble_eq_true rfl, Nat.le_of_ble_eq_true rfl⟩ ⟨Nat.le_of_ble_eq_true rfl, Nat.le_of_ble_eq_true rfl⟩ (r_in hx (r32 (by decide) (by decide)) (r32 (by omega) (by omega))) x_d (k_d1 ?_)
  refine j_if_ne 22 26 dX10_line_19 rfl rfl (r01 (b01_r _)) (fun c_19 => ?_) (fun c_19 => absurd c_19 (by rw [decide_eq_true (show 0 ≤ x ∧ x ≤ d 2 - 1 by omega)]; decide))
  refine j_iconst 27 dX10_line_26 rfl ?_
  refine j_iconst 28 dX10_line_27 rfl ?_
  refine j_callV 31 (As := [.int (i32 (0)), .int (i32 (1))]) (kc2 := 0) (ks2 := 0) dX10_line_28 rfl mvX10_fails lk_X10_176 hM.md rfl ⟨Nat.le_of_ble_eq_true rfl, rfl⟩ rfl rfl (Nat.le_of_ble_eq_true rfl) ⟨Nat.le_of_ble_eq_true rfl, Nat.le_of_ble_eq_true rfl⟩ ⟨Nat.le_of_ble_eq_true rfl, Nat.le_of_ble_eq_true rfl⟩ (r_fails0 hM 1 up2_s) x_d (k_d1 ?_)
  refine j_if_ne 34 56 dX10_line_31 rfl rfl (r32 (by decide) (by decide)) (fun c_31 => absurd c_31 (by decide)) (fun c_31 => ?_)
  refine j_aload_n 35 0 dX10_line_34 rfl rfl ?_
  refine j_iload_n 36 2 dX10_line_35 rfl rfl ?_
  refine j_iconst 37 dX10_line_36 rfl ?_
  refine j_iconst 38 dX10_line_37 rfl ?_
  refine j_callS 41 (As := [.int (i32 ((q : Int))), .int (i32 (0)), .int (i32 (4))]) (kc2 := 0) (ks2 := 0) dX10_line_38 rfl msX10_in lk_X10_57 rfl rfl (Nat.le_of_ble_eq_true rfl) ⟨Nat.le_of_ble_eq_true rfl, Nat.le_of_ble_eq_true rfl⟩ ⟨Nat.le_of_ble_eq_true rfl, Nat.le_of_ble_eq_true rfl⟩ (r_in (r32 (by omega) (by omega)) (r32 (by decide) (by decide)) (r32 (by decide) (by decide))) x_d (k_d1 ?_)
  refine j_if_ne 44 48 dX10_line_41 rfl rfl (r01 (b01_r _)) (fun c_41 => ?_) (fun c_41 => absurd c_41 (by rw [decide_eq_true (show 0 ≤ (q : Int) ∧ (q : Int) ≤ 4 by omega)]; decide))
  refine j_iconst 49 dX10_line_48 rfl ?_
  refine j_iconst 50 dX10_line_49 rfl ?_
  refine j_callV 53 (As := [.int (i32 (0)), .int (i32 (2))]) (kc2 := 0) (ks2 := 0) dX10_line_50 rfl mvX10_fails lk_X10_176 hM.md rfl ⟨Nat.le_of_ble_eq_true rfl, rfl⟩ rfl rfl (Nat.le_of_ble_eq_true rfl) ⟨Nat.le_of_ble_eq_true rfl, Nat.le_of_ble_eq_true rfl⟩ ⟨Nat.le_of_ble_eq_true rfl, Nat.le_of_ble_eq_true rfl⟩ (r_fails0 hM 2 up2_s) x_d (k_d1 ?_)
  refine j_if_eq 56 60 dX10_line_53 rfl rfl (r32 (by decide) (by decide)) (fun c_53 => ?_) (fun c_53 => absurd c_53 (by decide))
  refine j_aload_n 61 0 dX10_line_60 rfl rfl ?_
  refine j_iload_n 62 1 dX10_line_61 rfl rfl ?_
  refine j_iload_n 63 2 dX10_line_62 rfl rfl ?_
  refine j_callV 66 (As := [.int (i32 (x)), .int (i32 ((q : Int)))]) (kc2 := 0) (ks2 := 0) dX10_line_63 rfl mvX10_toldLine lk_X10_279 hM.md rfl ⟨Nat.le_of_ble_eq_true rfl, rfl⟩ rfl rfl (Nat.le_of_ble_eq_true rfl) ⟨Nat.le_of_ble_eq_true rfl, Nat.le_of_ble_eq_true rfl⟩ ⟨Nat.le_of_ble_eq_true rfl, Nat.le_of_ble_eq_true rfl⟩ (r_toldLine hM hI hx hq) x_d (k_d1 ?_)
  exact j_iret dX10_line_66 rfl (⟨rfl, rfl, rfl⟩)

set_option maxRecDepth 20000 in
theorem r_lineB {w : Wd} {sh : Shp} {g : Mem} {d : Nat → Int} {m : Nat} (hM : MdS sh.1 m) (hI : Inv d) {x q : Int} (hx : R32 x) (hq : R32 q) (h0 : ¬ (0 ≤ x ∧ x < d 2)) : CT w mX10_line [.ref (m), .int (i32 (x)), .int (i32 (q))] sh (upR g (m + 2) d) (dQ (some (.int (i32 (0)))) sh (upR (up2 (up2 g m 0 0) m 0 1) (m + 2) d)) := by
  have hb := hI.1
  have hb0 := hb.1
  have hb1 := hb.2.1
  have hb2 := hb.2.2.1
  have hb3 := hb.2.2.2.1
  have hb4 := hb.2.2.2.2.1
  have hb5 := hb.2.2.2.2.2.1
  refine j_entry (by decide) rfl (Nat.le_of_ble_eq_true rfl) (fun h => by cases h) rfl ?_
  show J w mX10_line 0 [(0, .ref (m)), (1, .int (i32 (x))), (2, .int (i32 (q)))] [] sh (upR g (m + 2) d) 0 0 _
  refine j_aload_n 1 0 dX10_line_0 rfl rfl ?_
  refine j_iconst 2 dX10_line_1 rfl ?_
  refine j_puti 5 dX10_line_2 rfl fl_X10_35 hM.md rfl rfl rfl (r32 (by decide) (by decide)) ?_
  refine j_mem (up2_upR_n (by omega)) ?_
  refine j_aload_n 6 0 dX10_line_5 rfl rfl ?_
  refine j_iload_n 7 1 dX10_line_6 rfl rfl ?_
  refine j_iconst 8 dX10_line_7 rfl ?_
  refine j_aload_n 9 0 dX10_line_8 rfl rfl ?_
  refine j_getr 12 dX10_line_9 rfl fl_X10_17 hM.md rfl (fun _ _ => rfl) rfl ?_
  refine j_iconst 13 dX10_line_12 rfl ?_
  refine j_iald_d 14 2 dX10_line_13 rfl hM.dat rfl rfl (show 2 < 729 by omega) (fun r_13 => ?_)
  refine j_iconst 15 dX10_line_14 rfl ?_
  refine j_isub 16 dX10_line_15 rfl ?_
  refine j_callS 19 (As := [.int (i32 (x)), .int (i32 (0)), .int (i32 ((d (2)) - (1)))]) (kc2 := 0) (ks2 := 0) dX10_line_16 rfl msX10_in lk_X10_57 rfl rfl (Nat.le_of_ble_eq_true rfl) ⟨Nat.le_of_ble_eq_true rfl, Nat.le_of_ble_eq_true rfl⟩ ⟨Nat.le_of_ble_eq_true rfl, Nat.le_of_ble_eq_true rfl⟩ (r_in hx (r32 (by decide) (by decide)) (r32 (by omega) (by omega))) x_d (k_d1 ?_)
  refine j_if_ne 22 26 dX10_line_19 rfl rfl (r01 (b01_r _)) (fun c_19 => absurd c_19 (by rw [decide_eq_false (show ¬ (0 ≤ x ∧ x ≤ d 2 - 1) by omega)]; decide)) (fun c_19 => ?_)
  refine j_iconst 23 dX10_line_22 rfl ?_
  refine j_goto 27 dX10_line_23 rfl ?_
  refine j_iconst 28 dX10_line_27 rfl ?_
  refine j_callV 31 (As := [.int (i32 (1)), .int (i32 (1))]) (kc2 := 0) (ks2 := 0) dX10_line_28 rfl mvX10_fails lk_X10_176 hM.md rfl ⟨Nat.le_of_ble_eq_true rfl, rfl⟩ rfl rfl (Nat.le_of_ble_eq_true rfl) ⟨Nat.le_of_ble_eq_true rfl, Nat.le_of_ble_eq_true rfl⟩ ⟨Nat.le_of_ble_eq_true rfl, Nat.le_of_ble_eq_true rfl⟩ (r_fails1 hM 1 (by decide) (by decide) (by decide) up2_s) x_d (k_d1 ?_)
  refine j_if_ne 34 56 dX10_line_31 rfl rfl (r32 (by decide) (by decide)) (fun c_31 => ?_) (fun c_31 => absurd c_31 (by decide))
  refine j_iconst 57 dX10_line_56 rfl ?_
  refine j_goto 66 dX10_line_57 rfl ?_
  exact j_iret dX10_line_66 rfl (⟨rfl, rfl, rfl⟩)

set_option maxRecDepth 20000 in
theorem r_lineI {w : Wd} {sh : Shp} {g : Mem} {d : Nat → Int} {m : Nat} (hM : MdS sh.1 m) (hI : Inv d) {x q : Int} (hx : R32 x) (hq : R32 q) (h0 : 0 ≤ x ∧ x < d 2) (hb9 : q < 0 ∨ 4 < q) : CT w mX10_line [.ref (m), .int (i32 (x)), .int (i32 (q))] sh (upR g (m + 2) d) (dQ (some (.int (i32 (0)))) sh (upR (up2 (up2 g m 0 0) m 0 2) (m + 2) d)) := by
  have hb := hI.1
  have hb0 := hb.1
  have hb1 := hb.2.1
  have hb2 := hb.2.2.1
  have hb3 := hb.2.2.2.1
  have hb4 := hb.2.2.2.2.1
  have hb5 := hb.2.2.2.2.2.1
  refine j_entry (by decide) rfl (Nat.le_of_ble_eq_true rfl) (fun h => by cases h) rfl ?_
  show J w mX10_line 0 [(0, .ref (m)), (1, .int (i32 (x))), (2, .int (i32 (q)))] [] sh (upR g (m + 2) d) 0 0 _
  refine j_aload_n 1 0 dX10_line_0 rfl rfl ?_
  refine j_iconst 2 dX10_line_1 rfl ?_
  refine j_puti 5 dX10_line_2 rfl fl_X10_35 hM.md rfl rfl rfl (r32 (by decide) (by decide)) ?_
  refine j_mem (up2_upR_n (by omega)) ?_
  refine j_aload_n 6 0 dX10_line_5 rfl rfl ?_
  refine j_iload_n 7 1 dX10_line_6 rfl rfl ?_
  refine j_iconst 8 dX10_line_7 rfl ?_
  refine j_aload_n 9 0 dX10_line_8 rfl rfl ?_
  refine j_getr 12 dX10_line_9 rfl fl_X10_17 hM.md rfl (fun _ _ => rfl) rfl ?_
  refine j_iconst 13 dX10_line_12 rfl ?_
  refine j_iald_d 14 2 dX10_line_13 rfl hM.dat rfl rfl (show 2 < 729 by omega) (fun r_13 => ?_)
  refine j_iconst 15 dX10_line_14 rfl ?_
  refine j_isub 16 dX10_line_15 rfl ?_
  refine j_callS 19 (As := [.int (i32 (x)), .int (i32 (0)), .int (i32 ((d (2)) - (1)))]) (kc2 := 0) (ks2 := 0) dX10_line_16 rfl msX10_in lk_X10_57 rfl rfl (Nat.le_of_ble_eq_true rfl) ⟨Nat.le_of_ble_eq_true rfl, Nat.le_of_ble_eq_true rfl⟩ ⟨Nat.le_of_ble_eq_true rfl, Nat.le_of_ble_eq_true rfl⟩ (r_in hx (r32 (by decide) (by decide)) (r32 (by omega) (by omega))) x_d (k_d1 ?_)
  refine j_if_ne 22 26 dX10_line_19 rfl rfl (r01 (b01_r _)) (fun c_19 => ?_) (fun c_19 => absurd c_19 (by rw [decide_eq_true (show 0 ≤ x ∧ x ≤ d 2 - 1 by omega)]; decide))
  refine j_iconst 27 dX10_line_26 rfl ?_
  refine j_iconst 28 dX10_line_27 rfl ?_
  refine j_callV 31 (As := [.int (i32 (0)), .int (i32 (1))]) (kc2 := 0) (ks2 := 0) dX10_line_28 rfl mvX10_fails lk_X10_176 hM.md rfl ⟨Nat.le_of_ble_eq_true rfl, rfl⟩ rfl rfl (Nat.le_of_ble_eq_true rfl) ⟨Nat.le_of_ble_eq_true rfl, Nat.le_of_ble_eq_true rfl⟩ ⟨Nat.le_of_ble_eq_true rfl, Nat.le_of_ble_eq_true rfl⟩ (r_fails0 hM 1 up2_s) x_d (k_d1 ?_)
  refine j_if_ne 34 56 dX10_line_31 rfl rfl (r32 (by decide) (by decide)) (fun c_31 => absurd c_31 (by decide)) (fun c_31 => ?_)
  refine j_aload_n 35 0 dX10_line_34 rfl rfl ?_
  refine j_iload_n 36 2 dX10_line_35 rfl rfl ?_
  refine j_iconst 37 dX10_line_36 rfl ?_
  refine j_iconst 38 dX10_line_37 rfl ?_
  refine j_callS 41 (As := [.int (i32 (q)), .int (i32 (0)), .int (i32 (4))]) (kc2 := 0) (ks2 := 0) dX10_line_38 rfl msX10_in lk_X10_57 rfl rfl (Nat.le_of_ble_eq_true rfl) ⟨Nat.le_of_ble_eq_true rfl, Nat.le_of_ble_eq_true rfl⟩ ⟨Nat.le_of_ble_eq_true rfl, Nat.le_of_ble_eq_true rfl⟩ (r_in hq (r32 (by decide) (by decide)) (r32 (by decide) (by decide))) x_d (k_d1 ?_)
  refine j_if_ne 44 48 dX10_line_41 rfl rfl (r01 (b01_r _)) (fun c_41 => absurd c_41 (by rw [decide_eq_false (show ¬ (0 ≤ q ∧ q ≤ 4) by omega)]; decide)) (fun c_41 => ?_)
  refine j_iconst 45 dX10_line_44 rfl ?_
  refine j_goto 49 dX10_line_45 rfl ?_
  refine j_iconst 50 dX10_line_49 rfl ?_
  refine j_callV 53 (As := [.int (i32 (1)), .int (i32 (2))]) (kc2 := 0) (ks2 := 0) dX10_line_50 rfl mvX10_fails lk_X10_176 hM.md rfl ⟨Nat.le_of_ble_eq_true rfl, rfl⟩ rfl rfl (Nat.le_of_ble_eq_true rfl) ⟨Nat.le_of_ble_eq_true rfl, Nat.le_of_ble_eq_true rfl⟩ ⟨Nat.le_of_ble_eq_true rfl, Nat.le_of_ble_eq_true rfl⟩ (r_fails1 hM 2 (by decide) (by decide) (by decide) up2_s) x_d (k_d1 ?_)
  refine j_if_eq 56 60 dX10_line_53 rfl rfl (r32 (by decide) (by decide)) (fun c_53 => absurd c_53 (by decide)) (fun c_53 => ?_)
  refine j_iconst 57 dX10_line_56 rfl ?_
  refine j_goto 66 dX10_line_57 rfl ?_
  exact j_iret dX10_line_66 rfl (⟨rfl, rfl, rfl⟩)

set_option maxRecDepth 20000 in
theorem r_noGroup0 {w : Wd} {sh : Shp} {g : Mem} {d : Nat → Int} {m : Nat} (hM : MdS sh.1 m) (hI : Inv d) {x : Int} (hx : R32 x) (hg0 : g m 0 = 0) (h0 : 0 ≤ x ∧ x < d 3) : CT w mX10_noGroup [.ref (m), .int (i32 (x))] sh (upR g (m + 2) d) (dQ (some (.int (i32 (0)))) sh (upR g (m + 2) d)) := by
  have hb := hI.1
  have hb0 := hb.1
  have hb1 := hb.2.1
  have hb2 := hb.2.2.1
  have hb3 := hb.2.2.2.1
  have hb4 := hb.2.2.2.2.1
  have hb5 := hb.2.2.2.2.2.1
  refine j_entry (by decide) rfl (Nat.le_of_ble_eq_true rfl) (fun h => by cases h) rfl ?_
  show J w mX10_noGroup 0 [(0, .ref (m)), (1, .int (i32 (x)))] [] sh (upR g (m + 2) d) 0 0 _
  refine j_aload_n 1 0 dX10_noGroup_0 rfl rfl ?_
  refine j_iload_n 2 1 dX10_noGroup_1 rfl rfl ?_
  refine j_iconst 3 dX10_noGroup_2 rfl ?_
  refine j_aload_n 4 0 dX10_noGroup_3 rfl rfl ?_
  refine j_getr 7 dX10_noGroup_4 rfl fl_X10_17 hM.md rfl (fun _ _ => rfl) rfl ?_
  refine j_iconst 8 dX10_noGroup_7 rfl ?_
  refine j_iald_d 9 3 dX10_noGroup_8 rfl hM.dat rfl rfl (show 3 < 729 by omega) (fun r_8 => ?_)
  refine j_iconst 10 dX10_noGroup_9 rfl ?_
  refine j_isub 11 dX10_noGroup_10 rfl ?_
  refine j_callS 14 (As := [.int (i32 (x)), .int (i32 (0)), .int (i32 ((d (3)) - (1)))]) (kc2 := 0) (ks2 := 0) dX10_noGroup_11 rfl msX10_in lk_X10_57 rfl rfl (Nat.le_of_ble_eq_true rfl) ⟨Nat.le_of_ble_eq_true rfl, Nat.le_of_ble_eq_true rfl⟩ ⟨Nat.le_of_ble_eq_true rfl, Nat.le_of_ble_eq_true rfl⟩ (r_in hx (r32 (by decide) (by decide)) (r32 (by omega) (by omega))) x_d (k_d1 ?_)
  refine j_if_ne 17 21 dX10_noGroup_14 rfl rfl (r01 (b01_r _)) (fun c_14 => ?_) (fun c_14 => absurd c_14 (by rw [decide_eq_true (show 0 ≤ x ∧ x ≤ d 3 - 1 by omega)]; decide))
  refine j_iconst 22 dX10_noGroup_21 rfl ?_
  refine j_iconst 23 dX10_noGroup_22 rfl ?_
  refine j_callV 26 (As := [.int (i32 (0)), .int (i32 (1))]) (kc2 := 0) (ks2 := 0) dX10_noGroup_23 rfl mvX10_fails lk_X10_176 hM.md rfl ⟨Nat.le_of_ble_eq_true rfl, rfl⟩ rfl rfl (Nat.le_of_ble_eq_true rfl) ⟨Nat.le_of_ble_eq_true rfl, Nat.le_of_ble_eq_true rfl⟩ ⟨Nat.le_of_ble_eq_true rfl, Nat.le_of_ble_eq_true rfl⟩ (r_fails0 hM 1 hg0) x_d (k_d1 ?_)
  exact j_zret dX10_noGroup_26 rfl (Or.inl rfl) (⟨rfl, rfl, rfl⟩)

set_option maxRecDepth 20000 in
theorem r_noGroup1 {w : Wd} {sh : Shp} {g : Mem} {d : Nat → Int} {m : Nat} (hM : MdS sh.1 m) (hI : Inv d) {x : Int} (hx : R32 x) (hg0 : g m 0 = 0) (h0 : ¬ (0 ≤ x ∧ x < d 3)) : CT w mX10_noGroup [.ref (m), .int (i32 (x))] sh (upR g (m + 2) d) (dQ (some (.int (i32 (1)))) sh (upR (up2 g m 0 1) (m + 2) d)) := by
  have hb := hI.1
  have hb0 := hb.1
  have hb1 := hb.2.1
  have hb2 := hb.2.2.1
  have hb3 := hb.2.2.2.1
  have hb4 := hb.2.2.2.2.1
  have hb5 := hb.2.2.2.2.2.1
  refine j_entry (by decide) rfl (Nat.le_of_ble_eq_true rfl) (fun h => by cases h) rfl ?_
  show J w mX10_noGroup 0 [(0, .ref (m)), (1, .int (i32 (x)))] [] sh (upR g (m + 2) d) 0 0 _
  refine j_aload_n 1 0 dX10_noGroup_0 rfl rfl ?_
  refine j_iload_n 2 1 dX10_noGroup_1 rfl rfl ?_
  refine j_iconst 3 dX10_noGroup_2 rfl ?_
  refine j_aload_n 4 0 dX10_noGroup_3 rfl rfl ?_
  refine j_getr 7 dX10_noGroup_4 rfl fl_X10_17 hM.md rfl (fun _ _ => rfl) rfl ?_
  refine j_iconst 8 dX10_noGroup_7 rfl ?_
  refine j_iald_d 9 3 dX10_noGroup_8 rfl hM.dat rfl rfl (show 3 < 729 by omega) (fun r_8 => ?_)
  refine j_iconst 10 dX10_noGroup_9 rfl ?_
  refine j_isub 11 dX10_noGroup_10 rfl ?_
  refine j_callS 14 (As := [.int (i32 (x)), .int (i32 (0)), .int (i32 ((d (3)) - (1)))]) (kc2 := 0) (ks2 := 0) dX10_noGroup_11 rfl msX10_in lk_X10_57 rfl rfl (Nat.le_of_ble_eq_true rfl) ⟨Nat.le_of_ble_eq_true rfl, Nat.le_of_ble_eq_true rfl⟩ ⟨Nat.le_of_ble_eq_true rfl, Nat.le_of_ble_eq_true rfl⟩ (r_in hx (r32 (by decide) (by decide)) (r32 (by omega) (by omega))) x_d (k_d1 ?_)
  refine j_if_ne 17 21 dX10_noGroup_14 rfl rfl (r01 (b01_r _)) (fun c_14 => absurd c_14 (by rw [decide_eq_false (show ¬ (0 ≤ x ∧ x ≤ d 3 - 1) by omega)]; decide)) (fun c_14 => ?_)
  refine j_iconst 18 dX10_noGroup_17 rfl ?_
  refine j_goto 22 dX10_noGroup_18 rfl ?_
  refine j_iconst 23 dX10_noGroup_22 rfl ?_
  refine j_callV 26 (As := [.int (i32 (1)), .int (i32 (1))]) (kc2 := 0) (ks2 := 0) dX10_noGroup_23 rfl mvX10_fails lk_X10_176 hM.md rfl ⟨Nat.le_of_ble_eq_true rfl, rfl⟩ rfl rfl (Nat.le_of_ble_eq_true rfl) ⟨Nat.le_of_ble_eq_true rfl, Nat.le_of_ble_eq_true rfl⟩ ⟨Nat.le_of_ble_eq_true rfl, Nat.le_of_ble_eq_true rfl⟩ (r_fails1 hM 1 (by decide) (by decide) (by decide) hg0) x_d (k_d1 ?_)
  exact j_zret dX10_noGroup_26 rfl (Or.inr rfl) (⟨rfl, rfl, rfl⟩)

set_option maxRecDepth 20000 in
theorem r_noCall0 {w : Wd} {sh : Shp} {g : Mem} {d : Nat → Int} {m : Nat} (hM : MdS sh.1 m) (hI : Inv d) {x : Int} (hx : R32 x) (hg0 : g m 0 = 0) (h0 : 0 ≤ x ∧ x < d 5) : CT w mX10_noCall [.ref (m), .int (i32 (x))] sh (upR g (m + 2) d) (dQ (some (.int (i32 (0)))) sh (upR g (m + 2) d)) := by
  have hb := hI.1
  have hb0 := hb.1
  have hb1 := hb.2.1
  have hb2 := hb.2.2.1
  have hb3 := hb.2.2.2.1
  have hb4 := hb.2.2.2.2.1
  have hb5 := hb.2.2.2.2.2.1
  refine j_entry (by decide) rfl (Nat.le_of_ble_eq_true rfl) (fun h => by cases h) rfl ?_
  show J w mX10_noCall 0 [(0, .ref (m)), (1, .int (i32 (x)))] [] sh (upR g (m + 2) d) 0 0 _
  refine j_aload_n 1 0 dX10_noCall_0 rfl rfl ?_
  refine j_iload_n 2 1 dX10_noCall_1 rfl rfl ?_
  refine j_iconst 3 dX10_noCall_2 rfl ?_
  refine j_aload_n 4 0 dX10_noCall_3 rfl rfl ?_
  refine j_getr 7 dX10_noCall_4 rfl fl_X10_17 hM.md rfl (fun _ _ => rfl) rfl ?_
  refine j_iconst 8 dX10_noCall_7 rfl ?_
  refine j_iald_d 9 5 dX10_noCall_8 rfl hM.dat rfl rfl (show 5 < 729 by omega) (fun r_8 => ?_)
  refine j_iconst 10 dX10_noCall_9 rfl ?_
  refine j_isub 11 dX10_noCall_10 rfl ?_
  refine j_callS 14 (As := [.int (i32 (x)), .int (i32 (0)), .int (i32 ((d (5)) - (1)))]) (kc2 := 0) (ks2 := 0) dX10_noCall_11 rfl msX10_in lk_X10_57 rfl rfl (Nat.le_of_ble_eq_true rfl) ⟨Nat.le_of_ble_eq_true rfl, Nat.le_of_ble_eq_true rfl⟩ ⟨Nat.le_of_ble_eq_true rfl, Nat.le_of_ble_eq_true rfl⟩ (r_in hx (r32 (by decide) (by decide)) (r32 (by omega) (by omega))) x_d (k_d1 ?_)
  refine j_if_ne 17 21 dX10_noCall_14 rfl rfl (r01 (b01_r _)) (fun c_14 => ?_) (fun c_14 => absurd c_14 (by rw [decide_eq_true (show 0 ≤ x ∧ x ≤ d 5 - 1 by omega)]; decide))
  refine j_iconst 22 dX10_noCall_21 rfl ?_
  refine j_iconst 23 dX10_noCall_22 rfl ?_
  refine j_callV 26 (As := [.int (i32 (0)), .int (i32 (1))]) (kc2 := 0) (ks2 := 0) dX10_noCall_23 rfl mvX10_fails lk_X10_176 hM.md rfl ⟨Nat.le_of_ble_eq_true rfl, rfl⟩ rfl rfl (Nat.le_of_ble_eq_true rfl) ⟨Nat.le_of_ble_eq_true rfl, Nat.le_of_ble_eq_true rfl⟩ ⟨Nat.le_of_ble_eq_true rfl, Nat.le_of_ble_eq_true rfl⟩ (r_fails0 hM 1 hg0) x_d (k_d1 ?_)
  exact j_zret dX10_noCall_26 rfl (Or.inl rfl) (⟨rfl, rfl, rfl⟩)

set_option maxRecDepth 20000 in
theorem r_noCall1 {w : Wd} {sh : Shp} {g : Mem} {d : Nat → Int} {m : Nat} (hM : MdS sh.1 m) (hI : Inv d) {x : Int} (hx : R32 x) (hg0 : g m 0 = 0) (h0 : ¬ (0 ≤ x ∧ x < d 5)) : CT w mX10_noCall [.ref (m), .int (i32 (x))] sh (upR g (m + 2) d) (dQ (some (.int (i32 (1)))) sh (upR (up2 g m 0 1) (m + 2) d)) := by
  have hb := hI.1
  have hb0 := hb.1
  have hb1 := hb.2.1
  have hb2 := hb.2.2.1
  have hb3 := hb.2.2.2.1
  have hb4 := hb.2.2.2.2.1
  have hb5 := hb.2.2.2.2.2.1
  refine j_entry (by decide) rfl (Nat.le_of_ble_eq_true rfl) (fun h => by cases h) rfl ?_
  show J w mX10_noCall 0 [(0, .ref (m)), (1, .int (i32 (x)))] [] sh (upR g (m + 2) d) 0 0 _
  refine j_aload_n 1 0 dX10_noCall_0 rfl rfl ?_
  refine j_iload_n 2 1 dX10_noCall_1 rfl rfl ?_
  refine j_iconst 3 dX10_noCall_2 rfl ?_
  refine j_aload_n 4 0 dX10_noCall_3 rfl rfl ?_
  refine j_getr 7 dX10_noCall_4 rfl fl_X10_17 hM.md rfl (fun _ _ => rfl) rfl ?_
  refine j_iconst 8 dX10_noCall_7 rfl ?_
  refine j_iald_d 9 5 dX10_noCall_8 rfl hM.dat rfl rfl (show 5 < 729 by omega) (fun r_8 => ?_)
  refine j_iconst 10 dX10_noCall_9 rfl ?_
  refine j_isub 11 dX10_noCall_10 rfl ?_
  refine j_callS 14 (As := [.int (i32 (x)), .int (i32 (0)), .int (i32 ((d (5)) - (1)))]) (kc2 := 0) (ks2 := 0) dX10_noCall_11 rfl msX10_in lk_X10_57 rfl rfl (Nat.le_of_ble_eq_true rfl) ⟨Nat.le_of_ble_eq_true rfl, Nat.le_of_ble_eq_true rfl⟩ ⟨Nat.le_of_ble_eq_true rfl, Nat.le_of_ble_eq_true rfl⟩ (r_in hx (r32 (by decide) (by decide)) (r32 (by omega) (by omega))) x_d (k_d1 ?_)
  refine j_if_ne 17 21 dX10_noCall_14 rfl rfl (r01 (b01_r _)) (fun c_14 => absurd c_14 (by rw [decide_eq_false (show ¬ (0 ≤ x ∧ x ≤ d 5 - 1) by omega)]; decide)) (fun c_14 => ?_)
  refine j_iconst 18 dX10_noCall_17 rfl ?_
  refine j_goto 22 dX10_noCall_18 rfl ?_
  refine j_iconst 23 dX10_noCall_22 rfl ?_
  refine j_callV 26 (As := [.int (i32 (1)), .int (i32 (1))]) (kc2 := 0) (ks2 := 0) dX10_noCall_23 rfl mvX10_fails lk_X10_176 hM.md rfl ⟨Nat.le_of_ble_eq_true rfl, rfl⟩ rfl rfl (Nat.le_of_ble_eq_true rfl) ⟨Nat.le_of_ble_eq_true rfl, Nat.le_of_ble_eq_true rfl⟩ ⟨Nat.le_of_ble_eq_true rfl, Nat.le_of_ble_eq_true rfl⟩ (r_fails1 hM 1 (by decide) (by decide) (by decide) hg0) x_d (k_d1 ?_)
  exact j_zret dX10_noCall_26 rfl (Or.inr rfl) (⟨rfl, rfl, rfl⟩)

set_option maxRecDepth 20000 in
theorem r_toldGroup2 {w : Wd} {sh : Shp} {g : Mem} {d : Nat → Int} {m : Nat} (hM : MdS sh.1 m) (hI : Inv d) {i : Nat} (hi : i < 5) : CT w mX10_toldGroup [.ref (m), .int (i32 ((i : Int))), .int (i32 (2))] sh (upR g (m + 2) d) (dQ (some (.int (i32 (s_grV d i 2)))) sh (upR g (m + 2) d)) := by
  have hb := hI.1
  have hb0 := hb.1
  have hb1 := hb.2.1
  have hb2 := hb.2.2.1
  have hb3 := hb.2.2.2.1
  have hb4 := hb.2.2.2.2.1
  have hb5 := hb.2.2.2.2.2.1
  refine j_entry (by decide) rfl (Nat.le_of_ble_eq_true rfl) (fun h => by cases h) rfl ?_
  show J w mX10_toldGroup 0 [(0, .ref (m)), (1, .int (i32 ((i : Int)))), (2, .int (i32 (2)))] [] sh (upR g (m + 2) d) 0 0 _
  refine j_iload_n 1 2 dX10_toldGroup_0 rfl rfl ?_
  refine j_iconst 2 dX10_toldGroup_1 rfl ?_
  refine j_icmp_ne 5 13 dX10_toldGroup_2 rfl rfl (r32 (by decide) (by decide)) (r32 (by decide) (by decide)) (fun c_2 => absurd c_2 (by decide)) (fun c_2 => ?_)
  refine j_aload_n 6 0 dX10_toldGroup_5 rfl rfl ?_
  refine j_iload_n 7 1 dX10_toldGroup_6 rfl rfl ?_
  refine j_callV 10 (As := [.int (i32 ((i : Int)))]) (kc2 := 0) (ks2 := 0) dX10_toldGroup_7 rfl mvX10_busyTrunks lk_X10_213 hM.md rfl ⟨Nat.le_of_ble_eq_true rfl, rfl⟩ rfl rfl (Nat.le_of_ble_eq_true rfl) ⟨Nat.le_of_ble_eq_true rfl, Nat.le_of_ble_eq_true rfl⟩ ⟨Nat.le_of_ble_eq_true rfl, Nat.le_of_ble_eq_true rfl⟩ (r_busyTrunks hM (by omega) (r32 (by omega) (by omega))) x_d (k_d1 ?_)
  refine j_goto 19 dX10_toldGroup_10 rfl ?_
  exact j_iret dX10_toldGroup_19 rfl (⟨rfl, rfl, rfl⟩)

set_option maxRecDepth 20000 in
theorem r_toldGroupN {w : Wd} {sh : Shp} {g : Mem} {d : Nat → Int} {m : Nat} (hM : MdS sh.1 m) (hI : Inv d) {i q : Nat} (hi : i < 5) (hq : q ≤ 6) (h2 : q ≠ 2) : CT w mX10_toldGroup [.ref (m), .int (i32 ((i : Int))), .int (i32 ((q : Int)))] sh (upR g (m + 2) d) (dQ (some (.int (i32 (s_grV d i q)))) sh (upR g (m + 2) d)) := by
  have hb := hI.1
  have hb0 := hb.1
  have hb1 := hb.2.1
  have hb2 := hb.2.2.1
  have hb3 := hb.2.2.2.1
  have hb4 := hb.2.2.2.2.1
  have hb5 := hb.2.2.2.2.2.1
  refine j_entry (by decide) rfl (Nat.le_of_ble_eq_true rfl) (fun h => by cases h) rfl ?_
  show J w mX10_toldGroup 0 [(0, .ref (m)), (1, .int (i32 ((i : Int)))), (2, .int (i32 ((q : Int))))] [] sh (upR g (m + 2) d) 0 0 _
  refine j_iload_n 1 2 dX10_toldGroup_0 rfl rfl ?_
  refine j_iconst 2 dX10_toldGroup_1 rfl ?_
  refine j_icmp_ne 5 13 dX10_toldGroup_2 rfl rfl (r32 (by omega) (by omega)) (r32 (by decide) (by decide)) (fun c_2 => ?_) (fun c_2 => absurd c_2 (by omega))
  refine j_aload_n 14 0 dX10_toldGroup_13 rfl rfl ?_
  refine j_iload_n 15 1 dX10_toldGroup_14 rfl rfl ?_
  refine j_iload_n 16 2 dX10_toldGroup_15 rfl rfl ?_
  refine j_callV 19 (As := [.int (i32 ((i : Int))), .int (i32 ((q : Int)))]) (kc2 := 0) (ks2 := 0) dX10_toldGroup_16 rfl mvX10_ofGroup lk_X10_210 hM.md rfl ⟨Nat.le_of_ble_eq_true rfl, rfl⟩ rfl rfl (Nat.le_of_ble_eq_true rfl) ⟨Nat.le_of_ble_eq_true rfl, Nat.le_of_ble_eq_true rfl⟩ ⟨Nat.le_of_ble_eq_true rfl, Nat.le_of_ble_eq_true rfl⟩ (r_ofGroup hM i q (50 + 9 * i + q) rfl rfl rfl hi (by omega)) x_d (k_d1 ?_)
  exact j_iret dX10_toldGroup_19 rfl (q_i (by unfold s_grV; rw [if_neg h2]))

theorem r_toldGroup {w : Wd} {sh : Shp} {g : Mem} {d : Nat → Int} {m : Nat} (hM : MdS sh.1 m) (hI : Inv d) {i q : Nat} (hi : i < 5) (hq : q ≤ 6) : CT w mX10_toldGroup [.ref m, .int (i32 (i : Int)), .int (i32 (q : Int))] sh (upR g (m + 2) d) (dQ (some (.int (i32 (s_grV d i q)))) sh (upR g (m + 2) d)) := by
  by_cases h : q = 2
  · subst h; exact r_toldGroup2 hM hI hi
  · exact r_toldGroupN hM hI hi hq h

set_option maxRecDepth 20000 in
theorem r_group {w : Wd} {sh : Shp} {g : Mem} {d : Nat → Int} {m : Nat} (hM : MdS sh.1 m) (hI : Inv d) {i q : Nat} (hi : (i : Int) < d 3) (hq : q ≤ 6) : CT w mX10_group [.ref (m), .int (i32 ((i : Int))), .int (i32 ((q : Int)))] sh (upR g (m + 2) d) (dQ (some (.int (i32 (s_grV d i q)))) sh (upR (up2 g m 0 0) (m + 2) d)) := by
  have hb := hI.1
  have hb0 := hb.1
  have hb1 := hb.2.1
  have hb2 := hb.2.2.1
  have hb3 := hb.2.2.2.1
  have hb4 := hb.2.2.2.2.1
  have hb5 := hb.2.2.2.2.2.1
  refine j_entry (by decide) rfl (Nat.le_of_ble_eq_true rfl) (fun h => by cases h) rfl ?_
  show J w mX10_group 0 [(0, .ref (m)), (1, .int (i32 ((i : Int)))), (2, .int (i32 ((q : Int))))] [] sh (upR g (m + 2) d) 0 0 _
  refine j_aload_n 1 0 dX10_group_0 rfl rfl ?_
  refine j_iconst 2 dX10_group_1 rfl ?_
  refine j_puti 5 dX10_group_2 rfl fl_X10_35 hM.md rfl rfl rfl (r32 (by decide) (by decide)) ?_
  refine j_mem (up2_upR_n (by omega)) ?_
  refine j_aload_n 6 0 dX10_group_5 rfl rfl ?_
  refine j_iload_n 7 1 dX10_group_6 rfl rfl ?_
  refine j_callV 10 (As := [.int (i32 ((i : Int)))]) (kc2 := 0) (ks2 := 0) dX10_group_7 rfl mvX10_noGroup lk_X10_282 hM.md rfl ⟨Nat.le_of_ble_eq_true rfl, rfl⟩ rfl rfl (Nat.le_of_ble_eq_true rfl) ⟨Nat.le_of_ble_eq_true rfl, Nat.le_of_ble_eq_true rfl⟩ ⟨Nat.le_of_ble_eq_true rfl, Nat.le_of_ble_eq_true rfl⟩ (r_noGroup0 hM hI (r32 (by omega) (by omega)) up2_s (by omega)) x_d (k_d1 ?_)
  refine j_if_ne 13 36 dX10_group_10 rfl rfl (r32 (by decide) (by decide)) (fun c_10 => absurd c_10 (by decide)) (fun c_10 => ?_)
  refine j_aload_n 14 0 dX10_group_13 rfl rfl ?_
  refine j_iload_n 15 2 dX10_group_14 rfl rfl ?_
  refine j_iconst 16 dX10_group_15 rfl ?_
  refine j_bipush 18 dX10_group_16 rfl (by decide) ?_
  refine j_callS 21 (As := [.int (i32 ((q : Int))), .int (i32 (0)), .int (i32 (6))]) (kc2 := 0) (ks2 := 0) dX10_group_18 rfl msX10_in lk_X10_57 rfl rfl (Nat.le_of_ble_eq_true rfl) ⟨Nat.le_of_ble_eq_true rfl, Nat.le_of_ble_eq_true rfl⟩ ⟨Nat.le_of_ble_eq_true rfl, Nat.le_of_ble_eq_true rfl⟩ (r_in (r32 (by omega) (by omega)) (r32 (by decide) (by decide)) (r32 (by decide) (by decide))) x_d (k_d1 ?_)
  refine j_if_ne 24 28 dX10_group_21 rfl rfl (r01 (b01_r _)) (fun c_21 => ?_) (fun c_21 => absurd c_21 (by rw [decide_eq_true (show 0 ≤ (q : Int) ∧ (q : Int) ≤ 6 by omega)]; decide))
  refine j_iconst 29 dX10_group_28 rfl ?_
  refine j_iconst 30 dX10_group_29 rfl ?_
  refine j_callV 33 (As := [.int (i32 (0)), .int (i32 (2))]) (kc2 := 0) (ks2 := 0) dX10_group_30 rfl mvX10_fails lk_X10_176 hM.md rfl ⟨Nat.le_of_ble_eq_true rfl, rfl⟩ rfl rfl (Nat.le_of_ble_eq_true rfl) ⟨Nat.le_of_ble_eq_true rfl, Nat.le_of_ble_eq_true rfl⟩ ⟨Nat.le_of_ble_eq_true rfl, Nat.le_of_ble_eq_true rfl⟩ (r_fails0 hM 2 up2_s) x_d (k_d1 ?_)
  refine j_if_eq 36 40 dX10_group_33 rfl rfl (r32 (by decide) (by decide)) (fun c_33 => ?_) (fun c_33 => absurd c_33 (by decide))
  refine j_aload_n 41 0 dX10_group_40 rfl rfl ?_
  refine j_iload_n 42 1 dX10_group_41 rfl rfl ?_
  refine j_iload_n 43 2 dX10_group_42 rfl rfl ?_
  refine j_callV 46 (As := [.int (i32 ((i : Int))), .int (i32 ((q : Int)))]) (kc2 := 0) (ks2 := 0) dX10_group_43 rfl mvX10_toldGroup lk_X10_285 hM.md rfl ⟨Nat.le_of_ble_eq_true rfl, rfl⟩ rfl rfl (Nat.le_of_ble_eq_true rfl) ⟨Nat.le_of_ble_eq_true rfl, Nat.le_of_ble_eq_true rfl⟩ ⟨Nat.le_of_ble_eq_true rfl, Nat.le_of_ble_eq_true rfl⟩ (r_toldGroup hM hI (by omega) hq) x_d (k_d1 ?_)
  exact j_iret dX10_group_46 rfl (⟨rfl, rfl, rfl⟩)

set_option maxRecDepth 20000 in
theorem r_groupB {w : Wd} {sh : Shp} {g : Mem} {d : Nat → Int} {m : Nat} (hM : MdS sh.1 m) (hI : Inv d) {x q : Int} (hx : R32 x) (hq : R32 q) (h0 : ¬ (0 ≤ x ∧ x < d 3)) : CT w mX10_group [.ref (m), .int (i32 (x)), .int (i32 (q))] sh (upR g (m + 2) d) (dQ (some (.int (i32 (0)))) sh (upR (up2 (up2 g m 0 0) m 0 1) (m + 2) d)) := by
  have hb := hI.1
  have hb0 := hb.1
  have hb1 := hb.2.1
  have hb2 := hb.2.2.1
  have hb3 := hb.2.2.2.1
  have hb4 := hb.2.2.2.2.1
  have hb5 := hb.2.2.2.2.2.1
  refine j_entry (by decide) rfl (Nat.le_of_ble_eq_true rfl) (fun h => by cases h) rfl ?_
  show J w mX10_group 0 [(0, .ref (m)), (1, .int (i32 (x))), (2, .int (i32 (q)))] [] sh (upR g (m + 2) d) 0 0 _
  refine j_aload_n 1 0 dX10_group_0 rfl rfl ?_
  refine j_iconst 2 dX10_group_1 rfl ?_
  refine j_puti 5 dX10_group_2 rfl fl_X10_35 hM.md rfl rfl rfl (r32 (by decide) (by decide)) ?_
  refine j_mem (up2_upR_n (by omega)) ?_
  refine j_aload_n 6 0 dX10_group_5 rfl rfl ?_
  refine j_iload_n 7 1 dX10_group_6 rfl rfl ?_
  refine j_callV 10 (As := [.int (i32 (x))]) (kc2 := 0) (ks2 := 0) dX10_group_7 rfl mvX10_noGroup lk_X10_282 hM.md rfl ⟨Nat.le_of_ble_eq_true rfl, rfl⟩ rfl rfl (Nat.le_of_ble_eq_true rfl) ⟨Nat.le_of_ble_eq_true rfl, Nat.le_of_ble_eq_true rfl⟩ ⟨Nat.le_of_ble_eq_true rfl, Nat.le_of_ble_eq_true rfl⟩ (r_noGroup1 hM hI hx up2_s (by omega)) x_d (k_d1 ?_)
  refine j_if_ne 13 36 dX10_group_10 rfl rfl (r32 (by decide) (by decide)) (fun c_10 => ?_) (fun c_10 => absurd c_10 (by decide))
  refine j_iconst 37 dX10_group_36 rfl ?_
  refine j_goto 46 dX10_group_37 rfl ?_
  exact j_iret dX10_group_46 rfl (⟨rfl, rfl, rfl⟩)

set_option maxRecDepth 20000 in
theorem r_groupI {w : Wd} {sh : Shp} {g : Mem} {d : Nat → Int} {m : Nat} (hM : MdS sh.1 m) (hI : Inv d) {i : Nat} {q : Int} (hi : (i : Int) < d 3) (hq : R32 q) (hb9 : q < 0 ∨ 6 < q) : CT w mX10_group [.ref (m), .int (i32 ((i : Int))), .int (i32 (q))] sh (upR g (m + 2) d) (dQ (some (.int (i32 (0)))) sh (upR (up2 (up2 g m 0 0) m 0 2) (m + 2) d)) := by
  have hb := hI.1
  have hb0 := hb.1
  have hb1 := hb.2.1
  have hb2 := hb.2.2.1
  have hb3 := hb.2.2.2.1
  have hb4 := hb.2.2.2.2.1
  have hb5 := hb.2.2.2.2.2.1
  refine j_entry (by decide) rfl (Nat.le_of_ble_eq_true rfl) (fun h => by cases h) rfl ?_
  show J w mX10_group 0 [(0, .ref (m)), (1, .int (i32 ((i : Int)))), (2, .int (i32 (q)))] [] sh (upR g (m + 2) d) 0 0 _
  refine j_aload_n 1 0 dX10_group_0 rfl rfl ?_
  refine j_iconst 2 dX10_group_1 rfl ?_
  refine j_puti 5 dX10_group_2 rfl fl_X10_35 hM.md rfl rfl rfl (r32 (by decide) (by decide)) ?_
  refine j_mem (up2_upR_n (by omega)) ?_
  refine j_aload_n 6 0 dX10_group_5 rfl rfl ?_
  refine j_iload_n 7 1 dX10_group_6 rfl rfl ?_
  refine j_callV 10 (As := [.int (i32 ((i : Int)))]) (kc2 := 0) (ks2 := 0) dX10_group_7 rfl mvX10_noGroup lk_X10_282 hM.md rfl ⟨Nat.le_of_ble_eq_true rfl, rfl⟩ rfl rfl (Nat.le_of_ble_eq_true rfl) ⟨Nat.le_of_ble_eq_true rfl, Nat.le_of_ble_eq_true rfl⟩ ⟨Nat.le_of_ble_eq_true rfl, Nat.le_of_ble_eq_true rfl⟩ (r_noGroup0 hM hI (r32 (by omega) (by omega)) up2_s (by omega)) x_d (k_d1 ?_)
  refine j_if_ne 13 36 dX10_group_10 rfl rfl (r32 (by decide) (by decide)) (fun c_10 => absurd c_10 (by decide)) (fun c_10 => ?_)
  refine j_aload_n 14 0 dX10_group_13 rfl rfl ?_
  refine j_iload_n 15 2 dX10_group_14 rfl rfl ?_
  refine j_iconst 16 dX10_group_15 rfl ?_
  refine j_bipush 18 dX10_group_16 rfl (by decide) ?_
  refine j_callS 21 (As := [.int (i32 (q)), .int (i32 (0)), .int (i32 (6))]) (kc2 := 0) (ks2 := 0) dX10_group_18 rfl msX10_in lk_X10_57 rfl rfl (Nat.le_of_ble_eq_true rfl) ⟨Nat.le_of_ble_eq_true rfl, Nat.le_of_ble_eq_true rfl⟩ ⟨Nat.le_of_ble_eq_true rfl, Nat.le_of_ble_eq_true rfl⟩ (r_in hq (r32 (by decide) (by decide)) (r32 (by decide) (by decide))) x_d (k_d1 ?_)
  refine j_if_ne 24 28 dX10_group_21 rfl rfl (r01 (b01_r _)) (fun c_21 => absurd c_21 (by rw [decide_eq_false (show ¬ (0 ≤ q ∧ q ≤ 6) by omega)]; decide)) (fun c_21 => ?_)
  refine j_iconst 25 dX10_group_24 rfl ?_
  refine j_goto 29 dX10_group_25 rfl ?_
  refine j_iconst 30 dX10_group_29 rfl ?_
  refine j_callV 33 (As := [.int (i32 (1)), .int (i32 (2))]) (kc2 := 0) (ks2 := 0) dX10_group_30 rfl mvX10_fails lk_X10_176 hM.md rfl ⟨Nat.le_of_ble_eq_true rfl, rfl⟩ rfl rfl (Nat.le_of_ble_eq_true rfl) ⟨Nat.le_of_ble_eq_true rfl, Nat.le_of_ble_eq_true rfl⟩ ⟨Nat.le_of_ble_eq_true rfl, Nat.le_of_ble_eq_true rfl⟩ (r_fails1 hM 2 (by decide) (by decide) (by decide) up2_s) x_d (k_d1 ?_)
  refine j_if_eq 36 40 dX10_group_33 rfl rfl (r32 (by decide) (by decide)) (fun c_33 => absurd c_33 (by decide)) (fun c_33 => ?_)
  refine j_iconst 37 dX10_group_36 rfl ?_
  refine j_goto 46 dX10_group_37 rfl ?_
  exact j_iret dX10_group_46 rfl (⟨rfl, rfl, rfl⟩)

set_option maxRecDepth 20000 in
theorem r_register {w : Wd} {sh : Shp} {g : Mem} {d : Nat → Int} {m : Nat} (hM : MdS sh.1 m) (hI : Inv d) {i q : Nat} (hi : (i : Int) < d 0) (hq : q ≤ 2) : CT w mX10_register [.ref (m), .int (i32 ((i : Int))), .int (i32 ((q : Int)))] sh (upR g (m + 2) d) (dQ (some (.int (i32 (d (151 + 3 * i + q))))) sh (upR (up2 g m 0 0) (m + 2) d)) := by
  have hb := hI.1
  have hb0 := hb.1
  have hb1 := hb.2.1
  have hb2 := hb.2.2.1
  have hb3 := hb.2.2.2.1
  have hb4 := hb.2.2.2.2.1
  have hb5 := hb.2.2.2.2.2.1
  refine j_entry (by decide) rfl (Nat.le_of_ble_eq_true rfl) (fun h => by cases h) rfl ?_
  show J w mX10_register 0 [(0, .ref (m)), (1, .int (i32 ((i : Int)))), (2, .int (i32 ((q : Int))))] [] sh (upR g (m + 2) d) 0 0 _
  refine j_aload_n 1 0 dX10_register_0 rfl rfl ?_
  refine j_iconst 2 dX10_register_1 rfl ?_
  refine j_puti 5 dX10_register_2 rfl fl_X10_35 hM.md rfl rfl rfl (r32 (by decide) (by decide)) ?_
  refine j_mem (up2_upR_n (by omega)) ?_
  refine j_aload_n 6 0 dX10_register_5 rfl rfl ?_
  refine j_iload_n 7 1 dX10_register_6 rfl rfl ?_
  refine j_iconst 8 dX10_register_7 rfl ?_
  refine j_aload_n 9 0 dX10_register_8 rfl rfl ?_
  refine j_getr 12 dX10_register_9 rfl fl_X10_17 hM.md rfl (fun _ _ => rfl) rfl ?_
  refine j_iconst 13 dX10_register_12 rfl ?_
  refine j_iald_d 14 0 dX10_register_13 rfl hM.dat rfl rfl (show 0 < 729 by omega) (fun r_13 => ?_)
  refine j_iconst 15 dX10_register_14 rfl ?_
  refine j_isub 16 dX10_register_15 rfl ?_
  refine j_callS 19 (As := [.int (i32 ((i : Int))), .int (i32 (0)), .int (i32 ((d (0)) - (1)))]) (kc2 := 0) (ks2 := 0) dX10_register_16 rfl msX10_in lk_X10_57 rfl rfl (Nat.le_of_ble_eq_true rfl) ⟨Nat.le_of_ble_eq_true rfl, Nat.le_of_ble_eq_true rfl⟩ ⟨Nat.le_of_ble_eq_true rfl, Nat.le_of_ble_eq_true rfl⟩ (r_in (r32 (by omega) (by omega)) (r32 (by decide) (by decide)) (r32 (by omega) (by omega))) x_d (k_d1 ?_)
  refine j_if_ne 22 26 dX10_register_19 rfl rfl (r01 (b01_r _)) (fun c_19 => ?_) (fun c_19 => absurd c_19 (by rw [decide_eq_true (show 0 ≤ (i : Int) ∧ (i : Int) ≤ d 0 - 1 by omega)]; decide))
  refine j_iconst 27 dX10_register_26 rfl ?_
  refine j_iconst 28 dX10_register_27 rfl ?_
  refine j_callV 31 (As := [.int (i32 (0)), .int (i32 (1))]) (kc2 := 0) (ks2 := 0) dX10_register_28 rfl mvX10_fails lk_X10_176 hM.md rfl ⟨Nat.le_of_ble_eq_true rfl, rfl⟩ rfl rfl (Nat.le_of_ble_eq_true rfl) ⟨Nat.le_of_ble_eq_true rfl, Nat.le_of_ble_eq_true rfl⟩ ⟨Nat.le_of_ble_eq_true rfl, Nat.le_of_ble_eq_true rfl⟩ (r_fails0 hM 1 up2_s) x_d (k_d1 ?_)
  refine j_if_ne 34 56 dX10_register_31 rfl rfl (r32 (by decide) (by decide)) (fun c_31 => absurd c_31 (by decide)) (fun c_31 => ?_)
  refine j_aload_n 35 0 dX10_register_34 rfl rfl ?_
  refine j_iload_n 36 2 dX10_register_35 rfl rfl ?_
  refine j_iconst 37 dX10_register_36 rfl ?_
  refine j_iconst 38 dX10_register_37 rfl ?_
  refine j_callS 41 (As := [.int (i32 ((q : Int))), .int (i32 (0)), .int (i32 (2))]) (kc2 := 0) (ks2 := 0) dX10_register_38 rfl msX10_in lk_X10_57 rfl rfl (Nat.le_of_ble_eq_true rfl) ⟨Nat.le_of_ble_eq_true rfl, Nat.le_of_ble_eq_true rfl⟩ ⟨Nat.le_of_ble_eq_true rfl, Nat.le_of_ble_eq_true rfl⟩ (r_in (r32 (by omega) (by omega)) (r32 (by decide) (by decide)) (r32 (by decide) (by decide))) x_d (k_d1 ?_)
  refine j_if_ne 44 48 dX10_register_41 rfl rfl (r01 (b01_r _)) (fun c_41 => ?_) (fun c_41 => absurd c_41 (by rw [decide_eq_true (show 0 ≤ (q : Int) ∧ (q : Int) ≤ 2 by omega)]; decide))
  refine j_iconst 49 dX10_register_48 rfl ?_
  refine j_iconst 50 dX10_register_49 rfl ?_
  refine j_callV 53 (As := [.int (i32 (0)), .int (i32 (2))]) (kc2 := 0) (ks2 := 0) dX10_register_50 rfl mvX10_fails lk_X10_176 hM.md rfl ⟨Nat.le_of_ble_eq_true rfl, rfl⟩ rfl rfl (Nat.le_of_ble_eq_true rfl) ⟨Nat.le_of_ble_eq_true rfl, Nat.le_of_ble_eq_true rfl⟩ ⟨Nat.le_of_ble_eq_true rfl, Nat.le_of_ble_eq_true rfl⟩ (r_fails0 hM 2 up2_s) x_d (k_d1 ?_)
  refine j_if_eq 56 60 dX10_register_53 rfl rfl (r32 (by decide) (by decide)) (fun c_53 => ?_) (fun c_53 => absurd c_53 (by decide))
  refine j_aload_n 61 0 dX10_register_60 rfl rfl ?_
  refine j_getr 64 dX10_register_61 rfl fl_X10_17 hM.md rfl (fun _ _ => rfl) rfl ?_
  refine j_sipush 67 dX10_register_64 rfl (by decide) ?_
  refine j_iconst 68 dX10_register_67 rfl ?_
  refine j_iload_n 69 1 dX10_register_68 rfl rfl ?_
  refine j_imul 70 dX10_register_69 rfl ?_
  refine j_iadd 71 dX10_register_70 rfl ?_
  refine j_iload_n 72 2 dX10_register_71 rfl rfl ?_
  refine j_iadd 73 dX10_register_72 rfl ?_
  refine j_iald_d 74 (151 + 3 * i + q) dX10_register_73 rfl hM.dat rfl (by omega) (show 151 + 3 * i + q < 729 by omega) (fun r_73 => ?_)
  exact j_iret dX10_register_74 rfl (⟨rfl, rfl, rfl⟩)

set_option maxRecDepth 20000 in
theorem r_registerB {w : Wd} {sh : Shp} {g : Mem} {d : Nat → Int} {m : Nat} (hM : MdS sh.1 m) (hI : Inv d) {x q : Int} (hx : R32 x) (hq : R32 q) (h0 : ¬ (0 ≤ x ∧ x < d 0)) : CT w mX10_register [.ref (m), .int (i32 (x)), .int (i32 (q))] sh (upR g (m + 2) d) (dQ (some (.int (i32 (0)))) sh (upR (up2 (up2 g m 0 0) m 0 1) (m + 2) d)) := by
  have hb := hI.1
  have hb0 := hb.1
  have hb1 := hb.2.1
  have hb2 := hb.2.2.1
  have hb3 := hb.2.2.2.1
  have hb4 := hb.2.2.2.2.1
  have hb5 := hb.2.2.2.2.2.1
  refine j_entry (by decide) rfl (Nat.le_of_ble_eq_true rfl) (fun h => by cases h) rfl ?_
  show J w mX10_register 0 [(0, .ref (m)), (1, .int (i32 (x))), (2, .int (i32 (q)))] [] sh (upR g (m + 2) d) 0 0 _
  refine j_aload_n 1 0 dX10_register_0 rfl rfl ?_
  refine j_iconst 2 dX10_register_1 rfl ?_
  refine j_puti 5 dX10_register_2 rfl fl_X10_35 hM.md rfl rfl rfl (r32 (by decide) (by decide)) ?_
  refine j_mem (up2_upR_n (by omega)) ?_
  refine j_aload_n 6 0 dX10_register_5 rfl rfl ?_
  refine j_iload_n 7 1 dX10_register_6 rfl rfl ?_
  refine j_iconst 8 dX10_register_7 rfl ?_
  refine j_aload_n 9 0 dX10_register_8 rfl rfl ?_
  refine j_getr 12 dX10_register_9 rfl fl_X10_17 hM.md rfl (fun _ _ => rfl) rfl ?_
  refine j_iconst 13 dX10_register_12 rfl ?_
  refine j_iald_d 14 0 dX10_register_13 rfl hM.dat rfl rfl (show 0 < 729 by omega) (fun r_13 => ?_)
  refine j_iconst 15 dX10_register_14 rfl ?_
  refine j_isub 16 dX10_register_15 rfl ?_
  refine j_callS 19 (As := [.int (i32 (x)), .int (i32 (0)), .int (i32 ((d (0)) - (1)))]) (kc2 := 0) (ks2 := 0) dX10_register_16 rfl msX10_in lk_X10_57 rfl rfl (Nat.le_of_ble_eq_true rfl) ⟨Nat.le_of_ble_eq_true rfl, Nat.le_of_ble_eq_true rfl⟩ ⟨Nat.le_of_ble_eq_true rfl, Nat.le_of_ble_eq_true rfl⟩ (r_in hx (r32 (by decide) (by decide)) (r32 (by omega) (by omega))) x_d (k_d1 ?_)
  refine j_if_ne 22 26 dX10_register_19 rfl rfl (r01 (b01_r _)) (fun c_19 => absurd c_19 (by rw [decide_eq_false (show ¬ (0 ≤ x ∧ x ≤ d 0 - 1) by omega)]; decide)) (fun c_19 => ?_)
  refine j_iconst 23 dX10_register_22 rfl ?_
  refine j_goto 27 dX10_register_23 rfl ?_
  refine j_iconst 28 dX10_register_27 rfl ?_
  refine j_callV 31 (As := [.int (i32 (1)), .int (i32 (1))]) (kc2 := 0) (ks2 := 0) dX10_register_28 rfl mvX10_fails lk_X10_176 hM.md rfl ⟨Nat.le_of_ble_eq_true rfl, rfl⟩ rfl rfl (Nat.le_of_ble_eq_true rfl) ⟨Nat.le_of_ble_eq_true rfl, Nat.le_of_ble_eq_true rfl⟩ ⟨Nat.le_of_ble_eq_true rfl, Nat.le_of_ble_eq_true rfl⟩ (r_fails1 hM 1 (by decide) (by decide) (by decide) up2_s) x_d (k_d1 ?_)
  refine j_if_ne 34 56 dX10_register_31 rfl rfl (r32 (by decide) (by decide)) (fun c_31 => ?_) (fun c_31 => absurd c_31 (by decide))
  refine j_iconst 57 dX10_register_56 rfl ?_
  refine j_goto 74 dX10_register_57 rfl ?_
  exact j_iret dX10_register_74 rfl (⟨rfl, rfl, rfl⟩)

set_option maxRecDepth 20000 in
theorem r_registerI {w : Wd} {sh : Shp} {g : Mem} {d : Nat → Int} {m : Nat} (hM : MdS sh.1 m) (hI : Inv d) {i : Nat} {q : Int} (hi : (i : Int) < d 0) (hq : R32 q) (hb9 : q < 0 ∨ 2 < q) : CT w mX10_register [.ref (m), .int (i32 ((i : Int))), .int (i32 (q))] sh (upR g (m + 2) d) (dQ (some (.int (i32 (0)))) sh (upR (up2 (up2 g m 0 0) m 0 2) (m + 2) d)) := by
  have hb := hI.1
  have hb0 := hb.1
  have hb1 := hb.2.1
  have hb2 := hb.2.2.1
  have hb3 := hb.2.2.2.1
  have hb4 := hb.2.2.2.2.1
  have hb5 := hb.2.2.2.2.2.1
  refine j_entry (by decide) rfl (Nat.le_of_ble_eq_true rfl) (fun h => by cases h) rfl ?_
  show J w mX10_register 0 [(0, .ref (m)), (1, .int (i32 ((i : Int)))), (2, .int (i32 (q)))] [] sh (upR g (m + 2) d) 0 0 _
  refine j_aload_n 1 0 dX10_register_0 rfl rfl ?_
  refine j_iconst 2 dX10_register_1 rfl ?_
  refine j_puti 5 dX10_register_2 rfl fl_X10_35 hM.md rfl rfl rfl (r32 (by decide) (by decide)) ?_
  refine j_mem (up2_upR_n (by omega)) ?_
  refine j_aload_n 6 0 dX10_register_5 rfl rfl ?_
  refine j_iload_n 7 1 dX10_register_6 rfl rfl ?_
  refine j_iconst 8 dX10_register_7 rfl ?_
  refine j_aload_n 9 0 dX10_register_8 rfl rfl ?_
  refine j_getr 12 dX10_register_9 rfl fl_X10_17 hM.md rfl (fun _ _ => rfl) rfl ?_
  refine j_iconst 13 dX10_register_12 rfl ?_
  refine j_iald_d 14 0 dX10_register_13 rfl hM.dat rfl rfl (show 0 < 729 by omega) (fun r_13 => ?_)
  refine j_iconst 15 dX10_register_14 rfl ?_
  refine j_isub 16 dX10_register_15 rfl ?_
  refine j_callS 19 (As := [.int (i32 ((i : Int))), .int (i32 (0)), .int (i32 ((d (0)) - (1)))]) (kc2 := 0) (ks2 := 0) dX10_register_16 rfl msX10_in lk_X10_57 rfl rfl (Nat.le_of_ble_eq_true rfl) ⟨Nat.le_of_ble_eq_true rfl, Nat.le_of_ble_eq_true rfl⟩ ⟨Nat.le_of_ble_eq_true rfl, Nat.le_of_ble_eq_true rfl⟩ (r_in (r32 (by omega) (by omega)) (r32 (by decide) (by decide)) (r32 (by omega) (by omega))) x_d (k_d1 ?_)
  refine j_if_ne 22 26 dX10_register_19 rfl rfl (r01 (b01_r _)) (fun c_19 => ?_) (fun c_19 => absurd c_19 (by rw [decide_eq_true (show 0 ≤ (i : Int) ∧ (i : Int) ≤ d 0 - 1 by omega)]; decide))
  refine j_iconst 27 dX10_register_26 rfl ?_
  refine j_iconst 28 dX10_register_27 rfl ?_
  refine j_callV 31 (As := [.int (i32 (0)), .int (i32 (1))]) (kc2 := 0) (ks2 := 0) dX10_register_28 rfl mvX10_fails lk_X10_176 hM.md rfl ⟨Nat.le_of_ble_eq_true rfl, rfl⟩ rfl rfl (Nat.le_of_ble_eq_true rfl) ⟨Nat.le_of_ble_eq_true rfl, Nat.le_of_ble_eq_true rfl⟩ ⟨Nat.le_of_ble_eq_true rfl, Nat.le_of_ble_eq_true rfl⟩ (r_fails0 hM 1 up2_s) x_d (k_d1 ?_)
  refine j_if_ne 34 56 dX10_register_31 rfl rfl (r32 (by decide) (by decide)) (fun c_31 => absurd c_31 (by decide)) (fun c_31 => ?_)
  refine j_aload_n 35 0 dX10_register_34 rfl rfl ?_
  refine j_iload_n 36 2 dX10_register_35 rfl rfl ?_
  refine j_iconst 37 dX10_register_36 rfl ?_
  refine j_iconst 38 dX10_register_37 rfl ?_
  refine j_callS 41 (As := [.int (i32 (q)), .int (i32 (0)), .int (i32 (2))]) (kc2 := 0) (ks2 := 0) dX10_register_38 rfl msX10_in lk_X10_57 rfl rfl (Nat.le_of_ble_eq_true rfl) ⟨Nat.le_of_ble_eq_true rfl, Nat.le_of_ble_eq_true rfl⟩ ⟨Nat.le_of_ble_eq_true rfl, Nat.le_of_ble_eq_true rfl⟩ (r_in hq (r32 (by decide) (by decide)) (r32 (by decide) (by decide))) x_d (k_d1 ?_)
  refine j_if_ne 44 48 dX10_register_41 rfl rfl (r01 (b01_r _)) (fun c_41 => absurd c_41 (by rw [decide_eq_false (show ¬ (0 ≤ q ∧ q ≤ 2) by omega)]; decide)) (fun c_41 => ?_)
  refine j_iconst 45 dX10_register_44 rfl ?_
  refine j_goto 49 dX10_register_45 rfl ?_
  refine j_iconst 50 dX10_register_49 rfl ?_
  refine j_callV 53 (As := [.int (i32 (1)), .int (i32 (2))]) (kc2 := 0) (ks2 := 0) dX10_register_50 rfl mvX10_fails lk_X10_176 hM.md rfl ⟨Nat.le_of_ble_eq_true rfl, rfl⟩ rfl rfl (Nat.le_of_ble_eq_true rfl) ⟨Nat.le_of_ble_eq_true rfl, Nat.le_of_ble_eq_true rfl⟩ ⟨Nat.le_of_ble_eq_true rfl, Nat.le_of_ble_eq_true rfl⟩ (r_fails1 hM 2 (by decide) (by decide) (by decide) up2_s) x_d (k_d1 ?_)
  refine j_if_eq 56 60 dX10_register_53 rfl rfl (r32 (by decide) (by decide)) (fun c_53 => absurd c_53 (by decide)) (fun c_53 => ?_)
  refine j_iconst 57 dX10_register_56 rfl ?_
  refine j_goto 74 dX10_register_57 rfl ?_
  exact j_iret dX10_register_74 rfl (⟨rfl, rfl, rfl⟩)

set_option maxRecDepth 20000 in
theorem r_marker {w : Wd} {sh : Shp} {g : Mem} {d : Nat → Int} {m : Nat} (hM : MdS sh.1 m) (hI : Inv d) {i q : Nat} (hi : (i : Int) < d 1) (hq : q ≤ 1) : CT w mX10_marker [.ref (m), .int (i32 ((i : Int))), .int (i32 ((q : Int)))] sh (upR g (m + 2) d) (dQ (some (.int (i32 (d (163 + 2 * i + q))))) sh (upR (up2 g m 0 0) (m + 2) d)) := by
  have hb := hI.1
  have hb0 := hb.1
  have hb1 := hb.2.1
  have hb2 := hb.2.2.1
  have hb3 := hb.2.2.2.1
  have hb4 := hb.2.2.2.2.1
  have hb5 := hb.2.2.2.2.2.1
  refine j_entry (by decide) rfl (Nat.le_of_ble_eq_true rfl) (fun h => by cases h) rfl ?_
  show J w mX10_marker 0 [(0, .ref (m)), (1, .int (i32 ((i : Int)))), (2, .int (i32 ((q : Int))))] [] sh (upR g (m + 2) d) 0 0 _
  refine j_aload_n 1 0 dX10_marker_0 rfl rfl ?_
  refine j_iconst 2 dX10_marker_1 rfl ?_
  refine j_puti 5 dX10_marker_2 rfl fl_X10_35 hM.md rfl rfl rfl (r32 (by decide) (by decide)) ?_
  refine j_mem (up2_upR_n (by omega)) ?_
  refine j_aload_n 6 0 dX10_marker_5 rfl rfl ?_
  refine j_iload_n 7 1 dX10_marker_6 rfl rfl ?_
  refine j_iconst 8 dX10_marker_7 rfl ?_
  refine j_aload_n 9 0 dX10_marker_8 rfl rfl ?_
  refine j_getr 12 dX10_marker_9 rfl fl_X10_17 hM.md rfl (fun _ _ => rfl) rfl ?_
  refine j_iconst 13 dX10_marker_12 rfl ?_
  refine j_iald_d 14 1 dX10_marker_13 rfl hM.dat rfl rfl (show 1 < 729 by omega) (fun r_13 => ?_)
  refine j_iconst 15 dX10_marker_14 rfl ?_
  refine j_isub 16 dX10_marker_15 rfl ?_
  refine j_callS 19 (As := [.int (i32 ((i : Int))), .int (i32 (0)), .int (i32 ((d (1)) - (1)))]) (kc2 := 0) (ks2 := 0) dX10_marker_16 rfl msX10_in lk_X10_57 rfl rfl (Nat.le_of_ble_eq_true rfl) ⟨Nat.le_of_ble_eq_true rfl, Nat.le_of_ble_eq_true rfl⟩ ⟨Nat.le_of_ble_eq_true rfl, Nat.le_of_ble_eq_true rfl⟩ (r_in (r32 (by omega) (by omega)) (r32 (by decide) (by decide)) (r32 (by omega) (by omega))) x_d (k_d1 ?_)
  refine j_if_ne 22 26 dX10_marker_19 rfl rfl (r01 (b01_r _)) (fun c_19 => ?_) (fun c_19 => absurd c_19 (by rw [decide_eq_true (show 0 ≤ (i : Int) ∧ (i : Int) ≤ d 1 - 1 by omega)]; decide))
  refine j_iconst 27 dX10_marker_26 rfl ?_
  refine j_iconst 28 dX10_marker_27 rfl ?_
  refine j_callV 31 (As := [.int (i32 (0)), .int (i32 (1))]) (kc2 := 0) (ks2 := 0) dX10_marker_28 rfl mvX10_fails lk_X10_176 hM.md rfl ⟨Nat.le_of_ble_eq_true rfl, rfl⟩ rfl rfl (Nat.le_of_ble_eq_true rfl) ⟨Nat.le_of_ble_eq_true rfl, Nat.le_of_ble_eq_true rfl⟩ ⟨Nat.le_of_ble_eq_true rfl, Nat.le_of_ble_eq_true rfl⟩ (r_fails0 hM 1 up2_s) x_d (k_d1 ?_)
  refine j_if_ne 34 56 dX10_marker_31 rfl rfl (r32 (by decide) (by decide)) (fun c_31 => absurd c_31 (by decide)) (fun c_31 => ?_)
  refine j_aload_n 35 0 dX10_marker_34 rfl rfl ?_
  refine j_iload_n 36 2 dX10_marker_35 rfl rfl ?_
  refine j_iconst 37 dX10_marker_36 rfl ?_
  refine j_iconst 38 dX10_marker_37 rfl ?_
  refine j_callS 41 (As := [.int (i32 ((q : Int))), .int (i32 (0)), .int (i32 (1))]) (kc2 := 0) (ks2 := 0) dX10_marker_38 rfl msX10_in lk_X10_57 rfl rfl (Nat.le_of_ble_eq_true rfl) ⟨Nat.le_of_ble_eq_true rfl, Nat.le_of_ble_eq_true rfl⟩ ⟨Nat.le_of_ble_eq_true rfl, Nat.le_of_ble_eq_true rfl⟩ (r_in (r32 (by omega) (by omega)) (r32 (by decide) (by decide)) (r32 (by decide) (by decide))) x_d (k_d1 ?_)
  refine j_if_ne 44 48 dX10_marker_41 rfl rfl (r01 (b01_r _)) (fun c_41 => ?_) (fun c_41 => absurd c_41 (by rw [decide_eq_true (show 0 ≤ (q : Int) ∧ (q : Int) ≤ 1 by omega)]; decide))
  refine j_iconst 49 dX10_marker_48 rfl ?_
  refine j_iconst 50 dX10_marker_49 rfl ?_
  refine j_callV 53 (As := [.int (i32 (0)), .int (i32 (2))]) (kc2 := 0) (ks2 := 0) dX10_marker_50 rfl mvX10_fails lk_X10_176 hM.md rfl ⟨Nat.le_of_ble_eq_true rfl, rfl⟩ rfl rfl (Nat.le_of_ble_eq_true rfl) ⟨Nat.le_of_ble_eq_true rfl, Nat.le_of_ble_eq_true rfl⟩ ⟨Nat.le_of_ble_eq_true rfl, Nat.le_of_ble_eq_true rfl⟩ (r_fails0 hM 2 up2_s) x_d (k_d1 ?_)
  refine j_if_eq 56 60 dX10_marker_53 rfl rfl (r32 (by decide) (by decide)) (fun c_53 => ?_) (fun c_53 => absurd c_53 (by decide))
  refine j_aload_n 61 0 dX10_marker_60 rfl rfl ?_
  refine j_getr 64 dX10_marker_61 rfl fl_X10_17 hM.md rfl (fun _ _ => rfl) rfl ?_
  refine j_sipush 67 dX10_marker_64 rfl (by decide) ?_
  refine j_iconst 68 dX10_marker_67 rfl ?_
  refine j_iload_n 69 1 dX10_marker_68 rfl rfl ?_
  refine j_imul 70 dX10_marker_69 rfl ?_
  refine j_iadd 71 dX10_marker_70 rfl ?_
  refine j_iload_n 72 2 dX10_marker_71 rfl rfl ?_
  refine j_iadd 73 dX10_marker_72 rfl ?_
  refine j_iald_d 74 (163 + 2 * i + q) dX10_marker_73 rfl hM.dat rfl (by omega) (show 163 + 2 * i + q < 729 by omega) (fun r_73 => ?_)
  exact j_iret dX10_marker_74 rfl (⟨rfl, rfl, rfl⟩)

set_option maxRecDepth 20000 in
theorem r_markerB {w : Wd} {sh : Shp} {g : Mem} {d : Nat → Int} {m : Nat} (hM : MdS sh.1 m) (hI : Inv d) {x q : Int} (hx : R32 x) (hq : R32 q) (h0 : ¬ (0 ≤ x ∧ x < d 1)) : CT w mX10_marker [.ref (m), .int (i32 (x)), .int (i32 (q))] sh (upR g (m + 2) d) (dQ (some (.int (i32 (0)))) sh (upR (up2 (up2 g m 0 0) m 0 1) (m + 2) d)) := by
  have hb := hI.1
  have hb0 := hb.1
  have hb1 := hb.2.1
  have hb2 := hb.2.2.1
  have hb3 := hb.2.2.2.1
  have hb4 := hb.2.2.2.2.1
  have hb5 := hb.2.2.2.2.2.1
  refine j_entry (by decide) rfl (Nat.le_of_ble_eq_true rfl) (fun h => by cases h) rfl ?_
  show J w mX10_marker 0 [(0, .ref (m)), (1, .int (i32 (x))), (2, .int (i32 (q)))] [] sh (upR g (m + 2) d) 0 0 _
  refine j_aload_n 1 0 dX10_marker_0 rfl rfl ?_
  refine j_iconst 2 dX10_marker_1 rfl ?_
  refine j_puti 5 dX10_marker_2 rfl fl_X10_35 hM.md rfl rfl rfl (r32 (by decide) (by decide)) ?_
  refine j_mem (up2_upR_n (by omega)) ?_
  refine j_aload_n 6 0 dX10_marker_5 rfl rfl ?_
  refine j_iload_n 7 1 dX10_marker_6 rfl rfl ?_
  refine j_iconst 8 dX10_marker_7 rfl ?_
  refine j_aload_n 9 0 dX10_marker_8 rfl rfl ?_
  refine j_getr 12 dX10_marker_9 rfl fl_X10_17 hM.md rfl (fun _ _ => rfl) rfl ?_
  refine j_iconst 13 dX10_marker_12 rfl ?_
  refine j_iald_d 14 1 dX10_marker_13 rfl hM.dat rfl rfl (show 1 < 729 by omega) (fun r_13 => ?_)
  refine j_iconst 15 dX10_marker_14 rfl ?_
  refine j_isub 16 dX10_marker_15 rfl ?_
  refine j_callS 19 (As := [.int (i32 (x)), .int (i32 (0)), .int (i32 ((d (1)) - (1)))]) (kc2 := 0) (ks2 := 0) dX10_marker_16 rfl msX10_in lk_X10_57 rfl rfl (Nat.le_of_ble_eq_true rfl) ⟨Nat.le_of_ble_eq_true rfl, Nat.le_of_ble_eq_true rfl⟩ ⟨Nat.le_of_ble_eq_true rfl, Nat.le_of_ble_eq_true rfl⟩ (r_in hx (r32 (by decide) (by decide)) (r32 (by omega) (by omega))) x_d (k_d1 ?_)
  refine j_if_ne 22 26 dX10_marker_19 rfl rfl (r01 (b01_r _)) (fun c_19 => absurd c_19 (by rw [decide_eq_false (show ¬ (0 ≤ x ∧ x ≤ d 1 - 1) by omega)]; decide)) (fun c_19 => ?_)
  refine j_iconst 23 dX10_marker_22 rfl ?_
  refine j_goto 27 dX10_marker_23 rfl ?_
  refine j_iconst 28 dX10_marker_27 rfl ?_
  refine j_callV 31 (As := [.int (i32 (1)), .int (i32 (1))]) (kc2 := 0) (ks2 := 0) dX10_marker_28 rfl mvX10_fails lk_X10_176 hM.md rfl ⟨Nat.le_of_ble_eq_true rfl, rfl⟩ rfl rfl (Nat.le_of_ble_eq_true rfl) ⟨Nat.le_of_ble_eq_true rfl, Nat.le_of_ble_eq_true rfl⟩ ⟨Nat.le_of_ble_eq_true rfl, Nat.le_of_ble_eq_true rfl⟩ (r_fails1 hM 1 (by decide) (by decide) (by decide) up2_s) x_d (k_d1 ?_)
  refine j_if_ne 34 56 dX10_marker_31 rfl rfl (r32 (by decide) (by decide)) (fun c_31 => ?_) (fun c_31 => absurd c_31 (by decide))
  refine j_iconst 57 dX10_marker_56 rfl ?_
  refine j_goto 74 dX10_marker_57 rfl ?_
  exact j_iret dX10_marker_74 rfl (⟨rfl, rfl, rfl⟩)

set_option maxRecDepth 20000 in
theorem r_markerI {w : Wd} {sh : Shp} {g : Mem} {d : Nat → Int} {m : Nat} (hM : MdS sh.1 m) (hI : Inv d) {i : Nat} {q : Int} (hi : (i : Int) < d 1) (hq : R32 q) (hb9 : q < 0 ∨ 1 < q) : CT w mX10_marker [.ref (m), .int (i32 ((i : Int))), .int (i32 (q))] sh (upR g (m + 2) d) (dQ (some (.int (i32 (0)))) sh (upR (up2 (up2 g m 0 0) m 0 2) (m + 2) d)) := by
  have hb := hI.1
  have hb0 := hb.1
  have hb1 := hb.2.1
  have hb2 := hb.2.2.1
  have hb3 := hb.2.2.2.1
  have hb4 := hb.2.2.2.2.1
  have hb5 := hb.2.2.2.2.2.1
  refine j_entry (by decide) rfl (Nat.le_of_ble_eq_true rfl) (fun h => by cases h) rfl ?_
  show J w mX10_marker 0 [(0, .ref (m)), (1, .int (i32 ((i : Int)))), (2, .int (i32 (q)))] [] sh (upR g (m + 2) d) 0 0 _
  refine j_aload_n 1 0 dX10_marker_0 rfl rfl ?_
  refine j_iconst 2 dX10_marker_1 rfl ?_
  refine j_puti 5 dX10_marker_2 rfl fl_X10_35 hM.md rfl rfl rfl (r32 (by decide) (by decide)) ?_
  refine j_mem (up2_upR_n (by omega)) ?_
  refine j_aload_n 6 0 dX10_marker_5 rfl rfl ?_
  refine j_iload_n 7 1 dX10_marker_6 rfl rfl ?_
  refine j_iconst 8 dX10_marker_7 rfl ?_
  refine j_aload_n 9 0 dX10_marker_8 rfl rfl ?_
  refine j_getr 12 dX10_marker_9 rfl fl_X10_17 hM.md rfl (fun _ _ => rfl) rfl ?_
  refine j_iconst 13 dX10_marker_12 rfl ?_
  refine j_iald_d 14 1 dX10_marker_13 rfl hM.dat rfl rfl (show 1 < 729 by omega) (fun r_13 => ?_)
  refine j_iconst 15 dX10_marker_14 rfl ?_
  refine j_isub 16 dX10_marker_15 rfl ?_
  refine j_callS 19 (As := [.int (i32 ((i : Int))), .int (i32 (0)), .int (i32 ((d (1)) - (1)))]) (kc2 := 0) (ks2 := 0) dX10_marker_16 rfl msX10_in lk_X10_57 rfl rfl (Nat.le_of_ble_eq_true rfl) ⟨Nat.le_of_ble_eq_true rfl, Nat.le_of_ble_eq_true rfl⟩ ⟨Nat.le_of_ble_eq_true rfl, Nat.le_of_ble_eq_true rfl⟩ (r_in (r32 (by omega) (by omega)) (r32 (by decide) (by decide)) (r32 (by omega) (by omega))) x_d (k_d1 ?_)
  refine j_if_ne 22 26 dX10_marker_19 rfl rfl (r01 (b01_r _)) (fun c_19 => ?_) (fun c_19 => absurd c_19 (by rw [decide_eq_true (show 0 ≤ (i : Int) ∧ (i : Int) ≤ d 1 - 1 by omega)]; decide))
  refine j_iconst 27 dX10_marker_26 rfl ?_
  refine j_iconst 28 dX10_marker_27 rfl ?_
  refine j_callV 31 (As := [.int (i32 (0)), .int (i32 (1))]) (kc2 := 0) (ks2 := 0) dX10_marker_28 rfl mvX10_fails lk_X10_176 hM.md rfl ⟨Nat.le_of_ble_eq_true rfl, rfl⟩ rfl rfl (Nat.le_of_ble_eq_true rfl) ⟨Nat.le_of_ble_eq_true rfl, Nat.le_of_ble_eq_true rfl⟩ ⟨Nat.le_of_ble_eq_true rfl, Nat.le_of_ble_eq_true rfl⟩ (r_fails0 hM 1 up2_s) x_d (k_d1 ?_)
  refine j_if_ne 34 56 dX10_marker_31 rfl rfl (r32 (by decide) (by decide)) (fun c_31 => absurd c_31 (by decide)) (fun c_31 => ?_)
  refine j_aload_n 35 0 dX10_marker_34 rfl rfl ?_
  refine j_iload_n 36 2 dX10_marker_35 rfl rfl ?_
  refine j_iconst 37 dX10_marker_36 rfl ?_
  refine j_iconst 38 dX10_marker_37 rfl ?_
  refine j_callS 41 (As := [.int (i32 (q)), .int (i32 (0)), .int (i32 (1))]) (kc2 := 0) (ks2 := 0) dX10_marker_38 rfl msX10_in lk_X10_57 rfl rfl (Nat.le_of_ble_eq_true rfl) ⟨Nat.le_of_ble_eq_true rfl, Nat.le_of_ble_eq_true rfl⟩ ⟨Nat.le_of_ble_eq_true rfl, Nat.le_of_ble_eq_true rfl⟩ (r_in hq (r32 (by decide) (by decide)) (r32 (by decide) (by decide))) x_d (k_d1 ?_)
  refine j_if_ne 44 48 dX10_marker_41 rfl rfl (r01 (b01_r _)) (fun c_41 => absurd c_41 (by rw [decide_eq_false (show ¬ (0 ≤ q ∧ q ≤ 1) by omega)]; decide)) (fun c_41 => ?_)
  refine j_iconst 45 dX10_marker_44 rfl ?_
  refine j_goto 49 dX10_marker_45 rfl ?_
  refine j_iconst 50 dX10_marker_49 rfl ?_
  refine j_callV 53 (As := [.int (i32 (1)), .int (i32 (2))]) (kc2 := 0) (ks2 := 0) dX10_marker_50 rfl mvX10_fails lk_X10_176 hM.md rfl ⟨Nat.le_of_ble_eq_true rfl, rfl⟩ rfl rfl (Nat.le_of_ble_eq_true rfl) ⟨Nat.le_of_ble_eq_true rfl, Nat.le_of_ble_eq_true rfl⟩ ⟨Nat.le_of_ble_eq_true rfl, Nat.le_of_ble_eq_true rfl⟩ (r_fails1 hM 2 (by decide) (by decide) (by decide) up2_s) x_d (k_d1 ?_)
  refine j_if_eq 56 60 dX10_marker_53 rfl rfl (r32 (by decide) (by decide)) (fun c_53 => absurd c_53 (by decide)) (fun c_53 => ?_)
  refine j_iconst 57 dX10_marker_56 rfl ?_
  refine j_goto 74 dX10_marker_57 rfl ?_
  exact j_iret dX10_marker_74 rfl (⟨rfl, rfl, rfl⟩)

set_option maxRecDepth 20000 in
theorem r_call {w : Wd} {sh : Shp} {g : Mem} {d : Nat → Int} {m : Nat} (hM : MdS sh.1 m) (hI : Inv d) {i q : Nat} (hi : (i : Int) < d 5) (hq : q ≤ 10) : CT w mX10_call [.ref (m), .int (i32 ((i : Int))), .int (i32 ((q : Int)))] sh (upR g (m + 2) d) (dQ (some (.int (i32 (d (169 + 14 * i + q))))) sh (upR (up2 g m 0 0) (m + 2) d)) := by
  have hb := hI.1
  have hb0 := hb.1
  have hb1 := hb.2.1
  have hb2 := hb.2.2.1
  have hb3 := hb.2.2.2.1
  have hb4 := hb.2.2.2.2.1
  have hb5 := hb.2.2.2.2.2.1
  refine j_entry (by decide) rfl (Nat.le_of_ble_eq_true rfl) (fun h => by cases h) rfl ?_
  show J w mX10_call 0 [(0, .ref (m)), (1, .int (i32 ((i : Int)))), (2, .int (i32 ((q : Int))))] [] sh (upR g (m + 2) d) 0 0 _
  refine j_aload_n 1 0 dX10_call_0 rfl rfl ?_
  refine j_iconst 2 dX10_call_1 rfl ?_
  refine j_puti 5 dX10_call_2 rfl fl_X10_35 hM.md rfl rfl rfl (r32 (by decide) (by decide)) ?_
  refine j_mem (up2_upR_n (by omega)) ?_
  refine j_aload_n 6 0 dX10_call_5 rfl rfl ?_
  refine j_iload_n 7 1 dX10_call_6 rfl rfl ?_
  refine j_callV 10 (As := [.int (i32 ((i : Int)))]) (kc2 := 0) (ks2 := 0) dX10_call_7 rfl mvX10_noCall lk_X10_288 hM.md rfl ⟨Nat.le_of_ble_eq_true rfl, rfl⟩ rfl rfl (Nat.le_of_ble_eq_true rfl) ⟨Nat.le_of_ble_eq_true rfl, Nat.le_of_ble_eq_true rfl⟩ ⟨Nat.le_of_ble_eq_true rfl, Nat.le_of_ble_eq_true rfl⟩ (r_noCall0 hM hI (r32 (by omega) (by omega)) up2_s (by omega)) x_d (k_d1 ?_)
  refine j_if_ne 13 36 dX10_call_10 rfl rfl (r32 (by decide) (by decide)) (fun c_10 => absurd c_10 (by decide)) (fun c_10 => ?_)
  refine j_aload_n 14 0 dX10_call_13 rfl rfl ?_
  refine j_iload_n 15 2 dX10_call_14 rfl rfl ?_
  refine j_iconst 16 dX10_call_15 rfl ?_
  refine j_bipush 18 dX10_call_16 rfl (by decide) ?_
  refine j_callS 21 (As := [.int (i32 ((q : Int))), .int (i32 (0)), .int (i32 (10))]) (kc2 := 0) (ks2 := 0) dX10_call_18 rfl msX10_in lk_X10_57 rfl rfl (Nat.le_of_ble_eq_true rfl) ⟨Nat.le_of_ble_eq_true rfl, Nat.le_of_ble_eq_true rfl⟩ ⟨Nat.le_of_ble_eq_true rfl, Nat.le_of_ble_eq_true rfl⟩ (r_in (r32 (by omega) (by omega)) (r32 (by decide) (by decide)) (r32 (by decide) (by decide))) x_d (k_d1 ?_)
  refine j_if_ne 24 28 dX10_call_21 rfl rfl (r01 (b01_r _)) (fun c_21 => ?_) (fun c_21 => absurd c_21 (by rw [decide_eq_true (show 0 ≤ (q : Int) ∧ (q : Int) ≤ 10 by omega)]; decide))
  refine j_iconst 29 dX10_call_28 rfl ?_
  refine j_iconst 30 dX10_call_29 rfl ?_
  refine j_callV 33 (As := [.int (i32 (0)), .int (i32 (2))]) (kc2 := 0) (ks2 := 0) dX10_call_30 rfl mvX10_fails lk_X10_176 hM.md rfl ⟨Nat.le_of_ble_eq_true rfl, rfl⟩ rfl rfl (Nat.le_of_ble_eq_true rfl) ⟨Nat.le_of_ble_eq_true rfl, Nat.le_of_ble_eq_true rfl⟩ ⟨Nat.le_of_ble_eq_true rfl, Nat.le_of_ble_eq_true rfl⟩ (r_fails0 hM 2 up2_s) x_d (k_d1 ?_)
  refine j_if_eq 36 40 dX10_call_33 rfl rfl (r32 (by decide) (by decide)) (fun c_33 => ?_) (fun c_33 => absurd c_33 (by decide))
  refine j_aload_n 41 0 dX10_call_40 rfl rfl ?_
  refine j_iload_n 42 1 dX10_call_41 rfl rfl ?_
  refine j_iload_n 43 2 dX10_call_42 rfl rfl ?_
  refine j_callV 46 (As := [.int (i32 ((i : Int))), .int (i32 ((q : Int)))]) (kc2 := 0) (ks2 := 0) dX10_call_43 rfl mvX10_of lk_X10_192 hM.md rfl ⟨Nat.le_of_ble_eq_true rfl, rfl⟩ rfl rfl (Nat.le_of_ble_eq_true rfl) ⟨Nat.le_of_ble_eq_true rfl, Nat.le_of_ble_eq_true rfl⟩ ⟨Nat.le_of_ble_eq_true rfl, Nat.le_of_ble_eq_true rfl⟩ (r_of hM i q (169 + 14 * i + q) rfl rfl rfl (by omega) (by omega)) x_d (k_d1 ?_)
  exact j_iret dX10_call_46 rfl (⟨rfl, rfl, rfl⟩)

set_option maxRecDepth 20000 in
theorem r_callB {w : Wd} {sh : Shp} {g : Mem} {d : Nat → Int} {m : Nat} (hM : MdS sh.1 m) (hI : Inv d) {x q : Int} (hx : R32 x) (hq : R32 q) (h0 : ¬ (0 ≤ x ∧ x < d 5)) : CT w mX10_call [.ref (m), .int (i32 (x)), .int (i32 (q))] sh (upR g (m + 2) d) (dQ (some (.int (i32 (0)))) sh (upR (up2 (up2 g m 0 0) m 0 1) (m + 2) d)) := by
  have hb := hI.1
  have hb0 := hb.1
  have hb1 := hb.2.1
  have hb2 := hb.2.2.1
  have hb3 := hb.2.2.2.1
  have hb4 := hb.2.2.2.2.1
  have hb5 := hb.2.2.2.2.2.1
  refine j_entry (by decide) rfl (Nat.le_of_ble_eq_true rfl) (fun h => by cases h) rfl ?_
  show J w mX10_call 0 [(0, .ref (m)), (1, .int (i32 (x))), (2, .int (i32 (q)))] [] sh (upR g (m + 2) d) 0 0 _
  refine j_aload_n 1 0 dX10_call_0 rfl rfl ?_
  refine j_iconst 2 dX10_call_1 rfl ?_
  refine j_puti 5 dX10_call_2 rfl fl_X10_35 hM.md rfl rfl rfl (r32 (by decide) (by decide)) ?_
  refine j_mem (up2_upR_n (by omega)) ?_
  refine j_aload_n 6 0 dX10_call_5 rfl rfl ?_
  refine j_iload_n 7 1 dX10_call_6 rfl rfl ?_
  refine j_callV 10 (As := [.int (i32 (x))]) (kc2 := 0) (ks2 := 0) dX10_call_7 rfl mvX10_noCall lk_X10_288 hM.md rfl ⟨Nat.le_of_ble_eq_true rfl, rfl⟩ rfl rfl (Nat.le_of_ble_eq_true rfl) ⟨Nat.le_of_ble_eq_true rfl, Nat.le_of_ble_eq_true rfl⟩ ⟨Nat.le_of_ble_eq_true rfl, Nat.le_of_ble_eq_true rfl⟩ (r_noCall1 hM hI hx up2_s (by omega)) x_d (k_d1 ?_)
  refine j_if_ne 13 36 dX10_call_10 rfl rfl (r32 (by decide) (by decide)) (fun c_10 => ?_) (fun c_10 => absurd c_10 (by decide))
  refine j_iconst 37 dX10_call_36 rfl ?_
  refine j_goto 46 dX10_call_37 rfl ?_
  exact j_iret dX10_call_46 rfl (⟨rfl, rfl, rfl⟩)

set_option maxRecDepth 20000 in
theorem r_callI {w : Wd} {sh : Shp} {g : Mem} {d : Nat → Int} {m : Nat} (hM : MdS sh.1 m) (hI : Inv d) {i : Nat} {q : Int} (hi : (i : Int) < d 5) (hq : R32 q) (hb9 : q < 0 ∨ 10 < q) : CT w mX10_call [.ref (m), .int (i32 ((i : Int))), .int (i32 (q))] sh (upR g (m + 2) d) (dQ (some (.int (i32 (0)))) sh (upR (up2 (up2 g m 0 0) m 0 2) (m + 2) d)) := by
  have hb := hI.1
  have hb0 := hb.1
  have hb1 := hb.2.1
  have hb2 := hb.2.2.1
  have hb3 := hb.2.2.2.1
  have hb4 := hb.2.2.2.2.1
  have hb5 := hb.2.2.2.2.2.1
  refine j_entry (by decide) rfl (Nat.le_of_ble_eq_true rfl) (fun h => by cases h) rfl ?_
  show J w mX10_call 0 [(0, .ref (m)), (1, .int (i32 ((i : Int)))), (2, .int (i32 (q)))] [] sh (upR g (m + 2) d) 0 0 _
  refine j_aload_n 1 0 dX10_call_0 rfl rfl ?_
  refine j_iconst 2 dX10_call_1 rfl ?_
  refine j_puti 5 dX10_call_2 rfl fl_X10_35 hM.md rfl rfl rfl (r32 (by decide) (by decide)) ?_
  refine j_mem (up2_upR_n (by omega)) ?_
  refine j_aload_n 6 0 dX10_call_5 rfl rfl ?_
  refine j_iload_n 7 1 dX10_call_6 rfl rfl ?_
  refine j_callV 10 (As := [.int (i32 ((i : Int)))]) (kc2 := 0) (ks2 := 0) dX10_call_7 rfl mvX10_noCall lk_X10_288 hM.md rfl ⟨Nat.le_of_ble_eq_true rfl, rfl⟩ rfl rfl (Nat.le_of_ble_eq_true rfl) ⟨Nat.le_of_ble_eq_true rfl, Nat.le_of_ble_eq_true rfl⟩ ⟨Nat.le_of_ble_eq_true rfl, Nat.le_of_ble_eq_true rfl⟩ (r_noCall0 hM hI (r32 (by omega) (by omega)) up2_s (by omega)) x_d (k_d1 ?_)
  refine j_if_ne 13 36 dX10_call_10 rfl rfl (r32 (by decide) (by decide)) (fun c_10 => absurd c_10 (by decide)) (fun c_10 => ?_)
  refine j_aload_n 14 0 dX10_call_13 rfl rfl ?_
  refine j_iload_n 15 2 dX10_call_14 rfl rfl ?_
  refine j_iconst 16 dX10_call_15 rfl ?_
  refine j_bipush 18 dX10_call_16 rfl (by decide) ?_
  refine j_callS 21 (As := [.int (i32 (q)), .int (i32 (0)), .int (i32 (10))]) (kc2 := 0) (ks2 := 0) dX10_call_18 rfl msX10_in lk_X10_57 rfl rfl (Nat.le_of_ble_eq_true rfl) ⟨Nat.le_of_ble_eq_true rfl, Nat.le_of_ble_eq_true rfl⟩ ⟨Nat.le_of_ble_eq_true rfl, Nat.le_of_ble_eq_true rfl⟩ (r_in hq (r32 (by decide) (by decide)) (r32 (by decide) (by decide))) x_d (k_d1 ?_)
  refine j_if_ne 24 28 dX10_call_21 rfl rfl (r01 (b01_r _)) (fun c_21 => absurd c_21 (by rw [decide_eq_false (show ¬ (0 ≤ q ∧ q ≤ 10) by omega)]; decide)) (fun c_21 => ?_)
  refine j_iconst 25 dX10_call_24 rfl ?_
  refine j_goto 29 dX10_call_25 rfl ?_
  refine j_iconst 30 dX10_call_29 rfl ?_
  refine j_callV 33 (As := [.int (i32 (1)), .int (i32 (2))]) (kc2 := 0) (ks2 := 0) dX10_call_30 rfl mvX10_fails lk_X10_176 hM.md rfl ⟨Nat.le_of_ble_eq_true rfl, rfl⟩ rfl rfl (Nat.le_of_ble_eq_true rfl) ⟨Nat.le_of_ble_eq_true rfl, Nat.le_of_ble_eq_true rfl⟩ ⟨Nat.le_of_ble_eq_true rfl, Nat.le_of_ble_eq_true rfl⟩ (r_fails1 hM 2 (by decide) (by decide) (by decide) up2_s) x_d (k_d1 ?_)
  refine j_if_eq 36 40 dX10_call_33 rfl rfl (r32 (by decide) (by decide)) (fun c_33 => absurd c_33 (by decide)) (fun c_33 => ?_)
  refine j_iconst 37 dX10_call_36 rfl ?_
  refine j_goto 46 dX10_call_37 rfl ?_
  exact j_iret dX10_call_46 rfl (⟨rfl, rfl, rfl⟩)

set_option maxRecDepth 20000 in
theorem r_digit {w : Wd} {sh : Shp} {g : Mem} {d : Nat → Int} {m : Nat} (hM : MdS sh.1 m) (hI : Inv d) {i j : Nat} (hi : (i : Int) < d 5) (hj : (j : Int) < d (170 + 14 * i)) : CT w mX10_digit [.ref (m), .int (i32 ((i : Int))), .int (i32 ((j : Int)))] sh (upR g (m + 2) d) (dQ (some (.int (i32 (s_dv d i (j + 1) % 10)))) sh (upR (up2 g m 0 0) (m + 2) d)) := by
  have hb := hI.1
  have hb0 := hb.1
  have hb1 := hb.2.1
  have hb2 := hb.2.2.1
  have hb3 := hb.2.2.2.1
  have hb4 := hb.2.2.2.2.1
  have hb5 := hb.2.2.2.2.2.1
  have hcb := hb.2.2.2.2.2.2.2.2.2 i (by omega)
  have hcb2 := hI.2.1.2.2.2.2.1 i hi
  have hp6 : pw (d (170 + 14 * i)).toNat ≤ pw 6 := pw_le (by omega)
  have hp : pw 6 = 1000000 := rfl
  have hdv := dv_rng (d := d) (c := i) (many := j + 1) hcb.2.2 (by omega)
  refine j_entry (by decide) rfl (Nat.le_of_ble_eq_true rfl) (fun h => by cases h) rfl ?_
  show J w mX10_digit 0 [(0, .ref (m)), (1, .int (i32 ((i : Int)))), (2, .int (i32 ((j : Int))))] [] sh (upR g (m + 2) d) 0 0 _
  refine j_aload_n 1 0 dX10_digit_0 rfl rfl ?_
  refine j_iconst 2 dX10_digit_1 rfl ?_
  refine j_puti 5 dX10_digit_2 rfl fl_X10_35 hM.md rfl rfl rfl (r32 (by decide) (by decide)) ?_
  refine j_mem (up2_upR_n (by omega)) ?_
  refine j_aload_n 6 0 dX10_digit_5 rfl rfl ?_
  refine j_iload_n 7 1 dX10_digit_6 rfl rfl ?_
  refine j_callV 10 (As := [.int (i32 ((i : Int)))]) (kc2 := 0) (ks2 := 0) dX10_digit_7 rfl mvX10_noCall lk_X10_288 hM.md rfl ⟨Nat.le_of_ble_eq_true rfl, rfl⟩ rfl rfl (Nat.le_of_ble_eq_true rfl) ⟨Nat.le_of_ble_eq_true rfl, Nat.le_of_ble_eq_true rfl⟩ ⟨Nat.le_of_ble_eq_true rfl, Nat.le_of_ble_eq_true rfl⟩ (r_noCall0 hM hI (r32 (by omega) (by omega)) up2_s (by omega)) x_d (k_d1 ?_)
  refine j_if_ne 13 42 dX10_digit_10 rfl rfl (r32 (by decide) (by decide)) (fun c_10 => absurd c_10 (by decide)) (fun c_10 => ?_)
  refine j_aload_n 14 0 dX10_digit_13 rfl rfl ?_
  refine j_iload_n 15 2 dX10_digit_14 rfl rfl ?_
  refine j_iconst 16 dX10_digit_15 rfl ?_
  refine j_aload_n 17 0 dX10_digit_16 rfl rfl ?_
  refine j_iload_n 18 1 dX10_digit_17 rfl rfl ?_
  refine j_iconst 19 dX10_digit_18 rfl ?_
  refine j_callV 22 (As := [.int (i32 ((i : Int))), .int (i32 (1))]) (kc2 := 0) (ks2 := 0) dX10_digit_19 rfl mvX10_of lk_X10_192 hM.md rfl ⟨Nat.le_of_ble_eq_true rfl, rfl⟩ rfl rfl (Nat.le_of_ble_eq_true rfl) ⟨Nat.le_of_ble_eq_true rfl, Nat.le_of_ble_eq_true rfl⟩ ⟨Nat.le_of_ble_eq_true rfl, Nat.le_of_ble_eq_true rfl⟩ (r_of hM i 1 (170 + 14 * i) rfl rfl (by omega) (by omega) (by decide)) x_d (k_d1 ?_)
  refine j_iconst 23 dX10_digit_22 rfl ?_
  refine j_isub 24 dX10_digit_23 rfl ?_
  refine j_callS 27 (As := [.int (i32 ((j : Int))), .int (i32 (0)), .int (i32 ((d (170 + 14 * i)) - (1)))]) (kc2 := 0) (ks2 := 0) dX10_digit_24 rfl msX10_in lk_X10_57 rfl rfl (Nat.le_of_ble_eq_true rfl) ⟨Nat.le_of_ble_eq_true rfl, Nat.le_of_ble_eq_true rfl⟩ ⟨Nat.le_of_ble_eq_true rfl, Nat.le_of_ble_eq_true rfl⟩ (r_in (r32 (by omega) (by omega)) (r32 (by decide) (by decide)) (r32 (by omega) (by omega))) x_d (k_d1 ?_)
  refine j_if_ne 30 34 dX10_digit_27 rfl rfl (r01 (b01_r _)) (fun c_27 => ?_) (fun c_27 => absurd c_27 (by rw [decide_eq_true (show 0 ≤ (j : Int) ∧ (j : Int) ≤ d (170 + 14 * i) - 1 by omega)]; decide))
  refine j_iconst 35 dX10_digit_34 rfl ?_
  refine j_iconst 36 dX10_digit_35 rfl ?_
  refine j_callV 39 (As := [.int (i32 (0)), .int (i32 (2))]) (kc2 := 0) (ks2 := 0) dX10_digit_36 rfl mvX10_fails lk_X10_176 hM.md rfl ⟨Nat.le_of_ble_eq_true rfl, rfl⟩ rfl rfl (Nat.le_of_ble_eq_true rfl) ⟨Nat.le_of_ble_eq_true rfl, Nat.le_of_ble_eq_true rfl⟩ ⟨Nat.le_of_ble_eq_true rfl, Nat.le_of_ble_eq_true rfl⟩ (r_fails0 hM 2 up2_s) x_d (k_d1 ?_)
  refine j_if_eq 42 46 dX10_digit_39 rfl rfl (r32 (by decide) (by decide)) (fun c_39 => ?_) (fun c_39 => absurd c_39 (by decide))
  refine j_aload_n 47 0 dX10_digit_46 rfl rfl ?_
  refine j_iload_n 48 1 dX10_digit_47 rfl rfl ?_
  refine j_iload_n 49 2 dX10_digit_48 rfl rfl ?_
  refine j_iconst 50 dX10_digit_49 rfl ?_
  refine j_iadd 51 dX10_digit_50 rfl ?_
  refine j_callV 54 (As := [.int (i32 ((i : Int))), .int (i32 (((j : Int)) + (1)))]) (kc2 := 0) (ks2 := 0) dX10_digit_51 rfl mvX10_dialledValue lk_X10_248 hM.md rfl ⟨Nat.le_of_ble_eq_true rfl, rfl⟩ rfl rfl (Nat.le_of_ble_eq_true rfl) ⟨Nat.le_of_ble_eq_true rfl, Nat.le_of_ble_eq_true rfl⟩ ⟨Nat.le_of_ble_eq_true rfl, Nat.le_of_ble_eq_true rfl⟩ (r_dialledValue hM i rfl (by omega) (j + 1) (by omega) hcb (by omega)) x_d (k_d1 ?_)
  refine j_bipush 56 dX10_digit_54 rfl (by decide) ?_
  refine j_irem 57 dX10_digit_56 rfl (by first | decide | exact hdv.1 | exact hdv.2) (by first | decide | exact hdv.1 | exact hdv.2) (by first | decide | exact hdv.1 | exact hdv.2) (by first | decide | exact hdv.1 | exact hdv.2) ?_
  exact j_iret dX10_digit_57 rfl (⟨rfl, rfl, rfl⟩)

set_option maxRecDepth 20000 in
theorem r_digitB {w : Wd} {sh : Shp} {g : Mem} {d : Nat → Int} {m : Nat} (hM : MdS sh.1 m) (hI : Inv d) {x k : Int} (hx : R32 x) (hk : R32 k) (h0 : ¬ (0 ≤ x ∧ x < d 5)) : CT w mX10_digit [.ref (m), .int (i32 (x)), .int (i32 (k))] sh (upR g (m + 2) d) (dQ (some (.int (i32 (0)))) sh (upR (up2 (up2 g m 0 0) m 0 1) (m + 2) d)) := by
  have hb := hI.1
  have hb0 := hb.1
  have hb1 := hb.2.1
  have hb2 := hb.2.2.1
  have hb3 := hb.2.2.2.1
  have hb4 := hb.2.2.2.2.1
  have hb5 := hb.2.2.2.2.2.1
  refine j_entry (by decide) rfl (Nat.le_of_ble_eq_true rfl) (fun h => by cases h) rfl ?_
  show J w mX10_digit 0 [(0, .ref (m)), (1, .int (i32 (x))), (2, .int (i32 (k)))] [] sh (upR g (m + 2) d) 0 0 _
  refine j_aload_n 1 0 dX10_digit_0 rfl rfl ?_
  refine j_iconst 2 dX10_digit_1 rfl ?_
  refine j_puti 5 dX10_digit_2 rfl fl_X10_35 hM.md rfl rfl rfl (r32 (by decide) (by decide)) ?_
  refine j_mem (up2_upR_n (by omega)) ?_
  refine j_aload_n 6 0 dX10_digit_5 rfl rfl ?_
  refine j_iload_n 7 1 dX10_digit_6 rfl rfl ?_
  refine j_callV 10 (As := [.int (i32 (x))]) (kc2 := 0) (ks2 := 0) dX10_digit_7 rfl mvX10_noCall lk_X10_288 hM.md rfl ⟨Nat.le_of_ble_eq_true rfl, rfl⟩ rfl rfl (Nat.le_of_ble_eq_true rfl) ⟨Nat.le_of_ble_eq_true rfl, Nat.le_of_ble_eq_true rfl⟩ ⟨Nat.le_of_ble_eq_true rfl, Nat.le_of_ble_eq_true rfl⟩ (r_noCall1 hM hI hx up2_s (by omega)) x_d (k_d1 ?_)
  refine j_if_ne 13 42 dX10_digit_10 rfl rfl (r32 (by decide) (by decide)) (fun c_10 => ?_) (fun c_10 => absurd c_10 (by decide))
  refine j_iconst 43 dX10_digit_42 rfl ?_
  refine j_goto 57 dX10_digit_43 rfl ?_
  exact j_iret dX10_digit_57 rfl (⟨rfl, rfl, rfl⟩)

set_option maxRecDepth 20000 in
theorem r_digitN {w : Wd} {sh : Shp} {g : Mem} {d : Nat → Int} {m : Nat} (hM : MdS sh.1 m) (hI : Inv d) {i : Nat} {k : Int} (hi : (i : Int) < d 5) (hk : R32 k) (hb9 : k < 0 ∨ d (170 + 14 * i) ≤ k) : CT w mX10_digit [.ref (m), .int (i32 ((i : Int))), .int (i32 (k))] sh (upR g (m + 2) d) (dQ (some (.int (i32 (0)))) sh (upR (up2 (up2 g m 0 0) m 0 2) (m + 2) d)) := by
  have hb := hI.1
  have hb0 := hb.1
  have hb1 := hb.2.1
  have hb2 := hb.2.2.1
  have hb3 := hb.2.2.2.1
  have hb4 := hb.2.2.2.2.1
  have hb5 := hb.2.2.2.2.2.1
  have hcb := hb.2.2.2.2.2.2.2.2.2 i (by omega)
  refine j_entry (by decide) rfl (Nat.le_of_ble_eq_true rfl) (fun h => by cases h) rfl ?_
  show J w mX10_digit 0 [(0, .ref (m)), (1, .int (i32 ((i : Int)))), (2, .int (i32 (k)))] [] sh (upR g (m + 2) d) 0 0 _
  refine j_aload_n 1 0 dX10_digit_0 rfl rfl ?_
  refine j_iconst 2 dX10_digit_1 rfl ?_
  refine j_puti 5 dX10_digit_2 rfl fl_X10_35 hM.md rfl rfl rfl (r32 (by decide) (by decide)) ?_
  refine j_mem (up2_upR_n (by omega)) ?_
  refine j_aload_n 6 0 dX10_digit_5 rfl rfl ?_
  refine j_iload_n 7 1 dX10_digit_6 rfl rfl ?_
  refine j_callV 10 (As := [.int (i32 ((i : Int)))]) (kc2 := 0) (ks2 := 0) dX10_digit_7 rfl mvX10_noCall lk_X10_288 hM.md rfl ⟨Nat.le_of_ble_eq_true rfl, rfl⟩ rfl rfl (Nat.le_of_ble_eq_true rfl) ⟨Nat.le_of_ble_eq_true rfl, Nat.le_of_ble_eq_true rfl⟩ ⟨Nat.le_of_ble_eq_true rfl, Nat.le_of_ble_eq_true rfl⟩ (r_noCall0 hM hI (r32 (by omega) (by omega)) up2_s (by omega)) x_d (k_d1 ?_)
  refine j_if_ne 13 42 dX10_digit_10 rfl rfl (r32 (by decide) (by decide)) (fun c_10 => absurd c_10 (by decide)) (fun c_10 => ?_)
  refine j_aload_n 14 0 dX10_digit_13 rfl rfl ?_
  refine j_iload_n 15 2 dX10_digit_14 rfl rfl ?_
  refine j_iconst 16 dX10_digit_15 rfl ?_
  refine j_aload_n 17 0 dX10_digit_16 rfl rfl ?_
  refine j_iload_n 18 1 dX10_digit_17 rfl rfl ?_
  refine j_iconst 19 dX10_digit_18 rfl ?_
  refine j_callV 22 (As := [.int (i32 ((i : Int))), .int (i32 (1))]) (kc2 := 0) (ks2 := 0) dX10_digit_19 rfl mvX10_of lk_X10_192 hM.md rfl ⟨Nat.le_of_ble_eq_true rfl, rfl⟩ rfl rfl (Nat.le_of_ble_eq_true rfl) ⟨Nat.le_of_ble_eq_true rfl, Nat.le_of_ble_eq_true rfl⟩ ⟨Nat.le_of_ble_eq_true rfl, Nat.le_of_ble_eq_true rfl⟩ (r_of hM i 1 (170 + 14 * i) rfl rfl (by omega) (by omega) (by decide)) x_d (k_d1 ?_)
  refine j_iconst 23 dX10_digit_22 rfl ?_
  refine j_isub 24 dX10_digit_23 rfl ?_
  refine j_callS 27 (As := [.int (i32 (k)), .int (i32 (0)), .int (i32 ((d (170 + 14 * i)) - (1)))]) (kc2 := 0) (ks2 := 0) dX10_digit_24 rfl msX10_in lk_X10_57 rfl rfl (Nat.le_of_ble_eq_true rfl) ⟨Nat.le_of_ble_eq_true rfl, Nat.le_of_ble_eq_true rfl⟩ ⟨Nat.le_of_ble_eq_true rfl, Nat.le_of_ble_eq_true rfl⟩ (r_in hk (r32 (by decide) (by decide)) (r32 (by omega) (by omega))) x_d (k_d1 ?_)
  refine j_if_ne 30 34 dX10_digit_27 rfl rfl (r01 (b01_r _)) (fun c_27 => absurd c_27 (by rw [decide_eq_false (show ¬ (0 ≤ k ∧ k ≤ d (170 + 14 * i) - 1) by omega)]; decide)) (fun c_27 => ?_)
  refine j_iconst 31 dX10_digit_30 rfl ?_
  refine j_goto 35 dX10_digit_31 rfl ?_
  refine j_iconst 36 dX10_digit_35 rfl ?_
  refine j_callV 39 (As := [.int (i32 (1)), .int (i32 (2))]) (kc2 := 0) (ks2 := 0) dX10_digit_36 rfl mvX10_fails lk_X10_176 hM.md rfl ⟨Nat.le_of_ble_eq_true rfl, rfl⟩ rfl rfl (Nat.le_of_ble_eq_true rfl) ⟨Nat.le_of_ble_eq_true rfl, Nat.le_of_ble_eq_true rfl⟩ ⟨Nat.le_of_ble_eq_true rfl, Nat.le_of_ble_eq_true rfl⟩ (r_fails1 hM 2 (by decide) (by decide) (by decide) up2_s) x_d (k_d1 ?_)
  refine j_if_eq 42 46 dX10_digit_39 rfl rfl (r32 (by decide) (by decide)) (fun c_39 => absurd c_39 (by decide)) (fun c_39 => ?_)
  refine j_iconst 43 dX10_digit_42 rfl ?_
  refine j_goto 57 dX10_digit_43 rfl ?_
  exact j_iret dX10_digit_57 rfl (⟨rfl, rfl, rfl⟩)

set_option maxRecDepth 20000 in
theorem r_foremost0 {w : Wd} {sh : Shp} {g : Mem} {d : Nat → Int} {m : Nat} (hM : MdS sh.1 m) (hI : Inv d) {b : Int} (hbr : R32 b) (hb9 : b = 0) : CT w mX10_foremost [.ref (m), .int (i32 (b))] sh (upR g (m + 2) d) (dQ (some (.int (i32 (s_foremost d 1)))) sh (upR (up2 g m 0 0) (m + 2) d)) := by
  have hb := hI.1
  have hb0 := hb.1
  have hb1 := hb.2.1
  have hb2 := hb.2.2.1
  have hb3 := hb.2.2.2.1
  have hb4 := hb.2.2.2.2.1
  have hb5 := hb.2.2.2.2.2.1
  refine j_entry (by decide) rfl (Nat.le_of_ble_eq_true rfl) (fun h => by cases h) rfl ?_
  show J w mX10_foremost 0 [(0, .ref (m)), (1, .int (i32 (b)))] [] sh (upR g (m + 2) d) 0 0 _
  refine j_aload_n 1 0 dX10_foremost_0 rfl rfl ?_
  refine j_iconst 2 dX10_foremost_1 rfl ?_
  refine j_puti 5 dX10_foremost_2 rfl fl_X10_35 hM.md rfl rfl rfl (r32 (by decide) (by decide)) ?_
  refine j_mem (up2_upR_n (by omega)) ?_
  refine j_aload_n 6 0 dX10_foremost_5 rfl rfl ?_
  refine j_iload_n 7 1 dX10_foremost_6 rfl rfl ?_
  refine j_if_eq 10 14 dX10_foremost_7 rfl rfl hbr (fun c_7 => ?_) (fun c_7 => absurd c_7 (by omega))
  refine j_iconst 15 dX10_foremost_14 rfl ?_
  refine j_callV 18 (As := [.int (i32 (1))]) (kc2 := 0) (ks2 := 0) dX10_foremost_15 rfl mvX10_foremostOf lk_X10_258 hM.md rfl ⟨Nat.le_of_ble_eq_true rfl, rfl⟩ rfl rfl (Nat.le_of_ble_eq_true rfl) ⟨Nat.le_of_ble_eq_true rfl, Nat.le_of_ble_eq_true rfl⟩ ⟨Nat.le_of_ble_eq_true rfl, Nat.le_of_ble_eq_true rfl⟩ (r_foremostOf hM (by omega) (r32 (by decide) (by decide))) x_d (k_d1 ?_)
  exact j_iret dX10_foremost_18 rfl (⟨rfl, rfl, rfl⟩)

set_option maxRecDepth 20000 in
theorem r_foremost1 {w : Wd} {sh : Shp} {g : Mem} {d : Nat → Int} {m : Nat} (hM : MdS sh.1 m) (hI : Inv d) {b : Int} (hbr : R32 b) (hb9 : b ≠ 0) : CT w mX10_foremost [.ref (m), .int (i32 (b))] sh (upR g (m + 2) d) (dQ (some (.int (i32 (s_foremost d 3)))) sh (upR (up2 g m 0 0) (m + 2) d)) := by
  have hb := hI.1
  have hb0 := hb.1
  have hb1 := hb.2.1
  have hb2 := hb.2.2.1
  have hb3 := hb.2.2.2.1
  have hb4 := hb.2.2.2.2.1
  have hb5 := hb.2.2.2.2.2.1
  refine j_entry (by decide) rfl (Nat.le_of_ble_eq_true rfl) (fun h => by cases h) rfl ?_
  show J w mX10_foremost 0 [(0, .ref (m)), (1, .int (i32 (b)))] [] sh (upR g (m + 2) d) 0 0 _
  refine j_aload_n 1 0 dX10_foremost_0 rfl rfl ?_
  refine j_iconst 2 dX10_foremost_1 rfl ?_
  refine j_puti 5 dX10_foremost_2 rfl fl_X10_35 hM.md rfl rfl rfl (r32 (by decide) (by decide)) ?_
  refine j_mem (up2_upR_n (by omega)) ?_
  refine j_aload_n 6 0 dX10_foremost_5 rfl rfl ?_
  refine j_iload_n 7 1 dX10_foremost_6 rfl rfl ?_
  refine j_if_eq 10 14 dX10_foremost_7 rfl rfl hbr (fun c_7 => absurd c_7 (by omega)) (fun c_7 => ?_)
  refine j_iconst 11 dX10_foremost_10 rfl ?_
  refine j_goto 15 dX10_foremost_11 rfl ?_
  refine j_callV 18 (As := [.int (i32 (3))]) (kc2 := 0) (ks2 := 0) dX10_foremost_15 rfl mvX10_foremostOf lk_X10_258 hM.md rfl ⟨Nat.le_of_ble_eq_true rfl, rfl⟩ rfl rfl (Nat.le_of_ble_eq_true rfl) ⟨Nat.le_of_ble_eq_true rfl, Nat.le_of_ble_eq_true rfl⟩ ⟨Nat.le_of_ble_eq_true rfl, Nat.le_of_ble_eq_true rfl⟩ (r_foremostOf hM (by omega) (r32 (by decide) (by decide))) x_d (k_d1 ?_)
  exact j_iret dX10_foremost_18 rfl (⟨rfl, rfl, rfl⟩)

set_option maxRecDepth 20000 in
theorem r_thrown {w : Wd} {sh : Shp} {g : Mem} {m : Nat} (hM : MdS sh.1 m)  : CT w mX10_thrown [.ref (m)] sh g (dQ (some (.int (i32 (g m 0)))) sh g) := by
  refine j_entry (by decide) rfl (Nat.le_of_ble_eq_true rfl) (fun h => by cases h) rfl ?_
  show J w mX10_thrown 0 [(0, .ref (m))] [] sh g 0 0 _
  refine j_aload_n 1 0 dX10_thrown_0 rfl rfl ?_
  refine j_geti 4 dX10_thrown_1 rfl fl_X10_35 hM.md rfl rfl (fun r_1 => ?_)
  exact j_iret dX10_thrown_4 rfl (⟨rfl, rfl, rfl⟩)

set_option maxRecDepth 20000 in
theorem r_errorOffset {w : Wd} {sh : Shp} {g : Mem} {m : Nat} (hM : MdS sh.1 m)  : CT w mX10_errorOffset [.ref (m)] sh g (dQ (some (.int (i32 (g m 7)))) sh (up2 g m 0 0)) := by
  refine j_entry (by decide) rfl (Nat.le_of_ble_eq_true rfl) (fun h => by cases h) rfl ?_
  show J w mX10_errorOffset 0 [(0, .ref (m))] [] sh g 0 0 _
  refine j_aload_n 1 0 dX10_errorOffset_0 rfl rfl ?_
  refine j_iconst 2 dX10_errorOffset_1 rfl ?_
  refine j_puti 5 dX10_errorOffset_2 rfl fl_X10_35 hM.md rfl rfl rfl (r32 (by decide) (by decide)) ?_
  refine j_mn (fun g_2 hg_2 => ?_)
  refine j_aload_n 6 0 dX10_errorOffset_5 rfl rfl ?_
  refine j_geti 9 dX10_errorOffset_6 rfl fl_X10_13 hM.md rfl rfl (fun r_6 => ?_)
  exact j_iret dX10_errorOffset_9 rfl (q_gi (by rw [hg_2]; exact up2_k (by decide)) hg_2)

def svF (d : Nat → Int) : Nat → Nat
  | 0 => 0
  | k + 1 => svF d k + s_cnt d (6 + (k : Int))

set_option maxRecDepth 20000 in
theorem r_service {w : Wd} {sh : Shp} {g : Mem} {d : Nat → Int} {m : Nat} (hM : MdS sh.1 m) (hI : Inv d)  : CT w mX10_service [.ref (m)] sh (upR g (m + 2) d) (dQ (some (.float (s_srv d))) sh (upR (up2 g m 0 0) (m + 2) d)) := by
  have hb := hI.1
  have hb0 := hb.1
  have hb1 := hb.2.1
  have hb2 := hb.2.2.1
  have hb3 := hb.2.2.2.1
  have hb4 := hb.2.2.2.2.1
  have hb5 := hb.2.2.2.2.2.1
  refine j_entry (by decide) rfl (Nat.le_of_ble_eq_true rfl) (fun h => by cases h) rfl ?_
  show J w mX10_service 0 [(0, .ref (m))] [] sh (upR g (m + 2) d) 0 0 _
  refine j_aload_n 1 0 dX10_service_0 rfl rfl ?_
  refine j_iconst 2 dX10_service_1 rfl ?_
  refine j_puti 5 dX10_service_2 rfl fl_X10_35 hM.md rfl rfl rfl (r32 (by decide) (by decide)) ?_
  refine j_mem (up2_upR_n (by omega)) ?_
  refine j_iconst 6 dX10_service_5 rfl ?_
  refine j_istore_n 7 (L2 := [(1, .int (i32 (0))), (0, .ref (m))]) dX10_service_6 rfl rfl (Nat.le_of_ble_eq_true rfl) rfl ?_
  refine j_bipush 9 dX10_service_7 rfl (by decide) ?_
  refine j_istore_n 10 (L2 := [(2, .int (i32 (6))), (1, .int (i32 (0))), (0, .ref (m))]) dX10_service_9 rfl rfl (Nat.le_of_ble_eq_true rfl) rfl ?_
  suffices lp_10 : ∀ (n_10 : Nat) (k : Nat) (z : Int), 5 - k < n_10 → k ≤ 5 → z = (svF d k : Int) → svF d k ≤ 40 * k → J w mX10_service 10 [(2, .int (i32 (6 + (k : Int)))), (1, .int (i32 (z))), (0, .ref (m))] [] sh (upR (up2 g (m) 0 (0)) (m + 2) d) 0 0 (dQ (some (.float (s_srv d))) sh (upR (up2 g m 0 0) (m + 2) d)) by
    exact lp_10 _ 0 0 (Nat.lt_succ_self _) (by omega) rfl (Nat.zero_le _)
  intro n_10
  induction n_10 with
  | zero => intro k z h_; exact absurd h_ (Nat.not_lt_zero _)
  | succ n_10 ih_10 =>
    intro k z hn_10 hk hz hz2
    refine j_iload_n 11 0 dX10_service_10 rfl rfl ?_
    refine j_bipush 13 dX10_service_11 rfl (by decide) ?_
    refine j_icmp_gt 16 30 dX10_service_13 rfl rfl (r32 (by omega) (by omega)) (r32 (by decide) (by decide)) (fun c_13 => ?_) (fun c_13 => ?_)
    · have hk5 : k = 5 := by omega
      have hz5 : svF d k = s_cnt d 6 + s_cnt d 7 + s_cnt d 8 + s_cnt d 9 + s_cnt d 10 := by rw [hk5]; show 0 + s_cnt d 6 + s_cnt d 7 + s_cnt d 8 + s_cnt d 9 + s_cnt d 10 = _; omega
      refine j_iload_n 31 1 dX10_service_30 rfl rfl ?_
      refine j_if_ne 34 38 dX10_service_31 rfl rfl (r32 (by omega) (by omega)) (fun c_31 => ?_) (fun c_31 => ?_)
      · refine j_aload_n 39 2 dX10_service_38 rfl rfl ?_
        refine j_bipush 41 dX10_service_39 rfl (by decide) ?_
        refine j_callV 44 (As := [.int (i32 (6))]) (kc2 := 0) (ks2 := 0) dX10_service_41 rfl mvX10_callsThat lk_X10_227 hM.md rfl ⟨Nat.le_of_ble_eq_true rfl, rfl⟩ rfl rfl (Nat.le_of_ble_eq_true rfl) ⟨Nat.le_of_ble_eq_true rfl, Nat.le_of_ble_eq_true rfl⟩ ⟨Nat.le_of_ble_eq_true rfl, Nat.le_of_ble_eq_true rfl⟩ (r_callsThat hM (by omega) (r32 (by decide) (by decide))) x_d (k_d1 ?_)
        refine j_i2f 45 dX10_service_44 rfl ?_
        refine j_iload_n 46 1 dX10_service_45 rfl rfl ?_
        refine j_i2f 47 dX10_service_46 rfl ?_
        refine j_fdiv 48 dX10_service_47 rfl (fd_num (by omega)) ?_
        exact j_fret dX10_service_48 rfl (q_f (by unfold s_srv; first | (rw [if_pos (by omega)]; done) | (rw [if_neg (by omega), hz, hz5]; rfl)))
      · refine j_fconst1 35 dX10_service_34 rfl ?_
        refine j_goto 48 dX10_service_35 rfl ?_
        exact j_fret dX10_service_48 rfl (q_f (by unfold s_srv; first | (rw [if_pos (by omega)]; done) | (rw [if_neg (by omega), hz, hz5]; rfl)))
    · refine j_iload_n 17 1 dX10_service_16 rfl rfl ?_
      refine j_aload_n 18 2 dX10_service_17 rfl rfl ?_
      refine j_iload_n 19 0 dX10_service_18 rfl rfl ?_
      refine j_callV 22 (As := [.int (i32 (6 + (k : Int)))]) (kc2 := 0) (ks2 := 0) dX10_service_19 rfl mvX10_callsThat lk_X10_227 hM.md rfl ⟨Nat.le_of_ble_eq_true rfl, rfl⟩ rfl rfl (Nat.le_of_ble_eq_true rfl) ⟨Nat.le_of_ble_eq_true rfl, Nat.le_of_ble_eq_true rfl⟩ ⟨Nat.le_of_ble_eq_true rfl, Nat.le_of_ble_eq_true rfl⟩ (r_callsThat hM (by omega) (r32 (by omega) (by omega))) x_d (k_d1 ?_)
      refine j_iadd 23 dX10_service_22 rfl ?_
      refine j_istore_n 24 (L2 := [(1, .int (i32 ((z) + ((s_cnt d (6 + (k : Int)) : Int))))), (2, .int (i32 (6 + (k : Int)))), (0, .ref (m))]) dX10_service_23 rfl rfl (Nat.le_of_ble_eq_true rfl) rfl ?_
      refine j_iinc 27 1 (y := 6 + ((k + 1 : Nat) : Int)) (L2 := [(2, .int (i32 (6 + ((k + 1 : Nat) : Int)))), (1, .int (i32 ((z) + ((s_cnt d (6 + (k : Int)) : Int))))), (0, .ref (m))]) dX10_service_24 rfl rfl (by omega) (Nat.le_of_ble_eq_true rfl) rfl ?_
      refine j_goto 10 dX10_service_27 rfl ?_
      exact ih_10 (k + 1) _ (by omega) (by omega) (by rw [hz]; show _ = ((svF d k + s_cnt d (6 + (k : Int)) : Nat) : Int); omega) (by show svF d k + s_cnt d (6 + (k : Int)) ≤ _; have := cnt_le (fun (c : Nat) => decide ((c : Int) < d 5) && decide (d (173 + 14 * c) = 6 + (k : Int))) 40; have h2 : s_cnt d (6 + (k : Int)) ≤ 40 := this; omega)

set_option maxRecDepth 20000 in
theorem r_traffic {w : Wd} {sh : Shp} {g : Mem} {d : Nat → Int} {m : Nat} (hM : MdS sh.1 m) (hI : Inv d) {i : Nat} (hi : (i : Int) < d 3) (h6 : 0 ≤ d 6 ∧ d 6 ≤ 2000000) : CT w mX10_traffic [.ref (m), .int (i32 ((i : Int)))] sh (upR g (m + 2) d) (dQ (some (.float (s_trf d i))) sh (upR (up2 g m 0 0) (m + 2) d)) := by
  have hb := hI.1
  have hb0 := hb.1
  have hb1 := hb.2.1
  have hb2 := hb.2.2.1
  have hb3 := hb.2.2.2.1
  have hb4 := hb.2.2.2.2.1
  have hb5 := hb.2.2.2.2.2.1
  have hg := hI.2.1.2.2.2.2.2 i hi
  have hp1 : 1 * d 6 ≤ d (50 + 9 * i) * d 6 := Int.mul_le_mul_of_nonneg_right (by omega) h6.1
  have hp2 : d (50 + 9 * i) * d 6 ≤ 8 * d 6 := Int.mul_le_mul_of_nonneg_right (by omega) h6.1
  refine j_entry (by decide) rfl (Nat.le_of_ble_eq_true rfl) (fun h => by cases h) rfl ?_
  show J w mX10_traffic 0 [(0, .ref (m)), (1, .int (i32 ((i : Int))))] [] sh (upR g (m + 2) d) 0 0 _
  refine j_aload_n 1 0 dX10_traffic_0 rfl rfl ?_
  refine j_iconst 2 dX10_traffic_1 rfl ?_
  refine j_puti 5 dX10_traffic_2 rfl fl_X10_35 hM.md rfl rfl rfl (r32 (by decide) (by decide)) ?_
  refine j_mem (up2_upR_n (by omega)) ?_
  refine j_aload_n 6 0 dX10_traffic_5 rfl rfl ?_
  refine j_iload_n 7 1 dX10_traffic_6 rfl rfl ?_
  refine j_callV 10 (As := [.int (i32 ((i : Int)))]) (kc2 := 0) (ks2 := 0) dX10_traffic_7 rfl mvX10_noGroup lk_X10_282 hM.md rfl ⟨Nat.le_of_ble_eq_true rfl, rfl⟩ rfl rfl (Nat.le_of_ble_eq_true rfl) ⟨Nat.le_of_ble_eq_true rfl, Nat.le_of_ble_eq_true rfl⟩ ⟨Nat.le_of_ble_eq_true rfl, Nat.le_of_ble_eq_true rfl⟩ (r_noGroup0 hM hI (r32 (by omega) (by omega)) up2_s (by omega)) x_d (k_d1 ?_)
  refine j_if_ne 13 23 dX10_traffic_10 rfl rfl (r32 (by decide) (by decide)) (fun c_10 => absurd c_10 (by decide)) (fun c_10 => ?_)
  refine j_aload_n 14 0 dX10_traffic_13 rfl rfl ?_
  refine j_getr 17 dX10_traffic_14 rfl fl_X10_17 hM.md rfl (fun _ _ => rfl) rfl ?_
  refine j_bipush 19 dX10_traffic_17 rfl (by decide) ?_
  refine j_iald_d 20 6 dX10_traffic_19 rfl hM.dat rfl rfl (show 6 < 729 by omega) (fun r_19 => ?_)
  refine j_if_ne 23 25 dX10_traffic_20 rfl rfl r_19 (fun c_20 => ?_) (fun c_20 => ?_)
  · refine j_aload_n 26 0 dX10_traffic_25 rfl rfl ?_
    refine j_iload_n 27 1 dX10_traffic_26 rfl rfl ?_
    refine j_bipush 29 dX10_traffic_27 rfl (by decide) ?_
    refine j_callV 32 (As := [.int (i32 ((i : Int))), .int (i32 (6))]) (kc2 := 0) (ks2 := 0) dX10_traffic_29 rfl mvX10_ofGroup lk_X10_210 hM.md rfl ⟨Nat.le_of_ble_eq_true rfl, rfl⟩ rfl rfl (Nat.le_of_ble_eq_true rfl) ⟨Nat.le_of_ble_eq_true rfl, Nat.le_of_ble_eq_true rfl⟩ ⟨Nat.le_of_ble_eq_true rfl, Nat.le_of_ble_eq_true rfl⟩ (r_ofGroup hM i 6 (56 + 9 * i) rfl rfl (by omega) (by omega) (by decide)) x_d (k_d1 ?_)
    refine j_i2f 33 dX10_traffic_32 rfl ?_
    refine j_aload_n 34 0 dX10_traffic_33 rfl rfl ?_
    refine j_iload_n 35 1 dX10_traffic_34 rfl rfl ?_
    refine j_iconst 36 dX10_traffic_35 rfl ?_
    refine j_callV 39 (As := [.int (i32 ((i : Int))), .int (i32 (0))]) (kc2 := 0) (ks2 := 0) dX10_traffic_36 rfl mvX10_ofGroup lk_X10_210 hM.md rfl ⟨Nat.le_of_ble_eq_true rfl, rfl⟩ rfl rfl (Nat.le_of_ble_eq_true rfl) ⟨Nat.le_of_ble_eq_true rfl, Nat.le_of_ble_eq_true rfl⟩ ⟨Nat.le_of_ble_eq_true rfl, Nat.le_of_ble_eq_true rfl⟩ (r_ofGroup hM i 0 (50 + 9 * i) rfl rfl (by omega) (by omega) (by decide)) x_d (k_d1 ?_)
    refine j_aload_n 40 0 dX10_traffic_39 rfl rfl ?_
    refine j_getr 43 dX10_traffic_40 rfl fl_X10_17 hM.md rfl (fun _ _ => rfl) rfl ?_
    refine j_bipush 45 dX10_traffic_43 rfl (by decide) ?_
    refine j_iald_d 46 6 dX10_traffic_45 rfl hM.dat rfl rfl (show 6 < 729 by omega) (fun r_45 => ?_)
    refine j_imul 47 dX10_traffic_46 rfl ?_
    refine j_i2f 48 dX10_traffic_47 rfl ?_
    refine j_fdiv 49 dX10_traffic_48 rfl (fd_num (by omega)) ?_
    exact j_fret dX10_traffic_49 rfl (q_f (by unfold s_trf; rw [if_neg (by omega)]))
  · refine j_fconst0 24 dX10_traffic_23 rfl ?_
    exact j_fret dX10_traffic_24 rfl (q_f (by unfold s_trf; rw [if_pos (by omega)]))

set_option maxRecDepth 20000 in
theorem r_trafficB {w : Wd} {sh : Shp} {g : Mem} {d : Nat → Int} {m : Nat} (hM : MdS sh.1 m) (hI : Inv d) {x : Int} (hx : R32 x) (h0 : ¬ (0 ≤ x ∧ x < d 3)) : CT w mX10_traffic [.ref (m), .int (i32 (x))] sh (upR g (m + 2) d) (dQ (some (.float FP.fconst0)) sh (upR (up2 (up2 g m 0 0) m 0 1) (m + 2) d)) := by
  have hb := hI.1
  have hb0 := hb.1
  have hb1 := hb.2.1
  have hb2 := hb.2.2.1
  have hb3 := hb.2.2.2.1
  have hb4 := hb.2.2.2.2.1
  have hb5 := hb.2.2.2.2.2.1
  refine j_entry (by decide) rfl (Nat.le_of_ble_eq_true rfl) (fun h => by cases h) rfl ?_
  show J w mX10_traffic 0 [(0, .ref (m)), (1, .int (i32 (x)))] [] sh (upR g (m + 2) d) 0 0 _
  refine j_aload_n 1 0 dX10_traffic_0 rfl rfl ?_
  refine j_iconst 2 dX10_traffic_1 rfl ?_
  refine j_puti 5 dX10_traffic_2 rfl fl_X10_35 hM.md rfl rfl rfl (r32 (by decide) (by decide)) ?_
  refine j_mem (up2_upR_n (by omega)) ?_
  refine j_aload_n 6 0 dX10_traffic_5 rfl rfl ?_
  refine j_iload_n 7 1 dX10_traffic_6 rfl rfl ?_
  refine j_callV 10 (As := [.int (i32 (x))]) (kc2 := 0) (ks2 := 0) dX10_traffic_7 rfl mvX10_noGroup lk_X10_282 hM.md rfl ⟨Nat.le_of_ble_eq_true rfl, rfl⟩ rfl rfl (Nat.le_of_ble_eq_true rfl) ⟨Nat.le_of_ble_eq_true rfl, Nat.le_of_ble_eq_true rfl⟩ ⟨Nat.le_of_ble_eq_true rfl, Nat.le_of_ble_eq_true rfl⟩ (r_noGroup1 hM hI hx up2_s (by omega)) x_d (k_d1 ?_)
  refine j_if_ne 13 23 dX10_traffic_10 rfl rfl (r32 (by decide) (by decide)) (fun c_10 => ?_) (fun c_10 => absurd c_10 (by decide))
  refine j_fconst0 24 dX10_traffic_23 rfl ?_
  exact j_fret dX10_traffic_24 rfl (⟨rfl, rfl, rfl⟩)
