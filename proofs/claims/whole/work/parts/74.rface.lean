/-! the reference: forecasts and changes -/
theorem upR_id2 {g : Mem} {a : Nat} {d : Nat → Int} (h : g a = d) : upR g a d = g := by rw [← h]; exact upR_id
theorem r_copyDA {w : Wd} {sh : Shp} {g : Mem} {d : Nat → Int} {m : Nat} (hM : MdS sh.1 m) : CT w mX10_copy [.ref (m + 2), .ref (m + 4)] sh (upR g (m + 2) d) (dQ none sh (upR (upR g (m + 4) d) (m + 2) d)) := by
  have h := r_copy (w := w) (g := upR g (m + 2) d) hM.dat hM.asi (by omega)
  rw [upR_s, upR_comm (by omega)] at h
  exact h
theorem r_copyAD {w : Wd} {sh : Shp} {g : Mem} {d e : Nat → Int} {m : Nat} (hM : MdS sh.1 m) (he : g (m + 4) = e) : CT w mX10_copy [.ref (m + 4), .ref (m + 2)] sh (upR g (m + 2) d) (dQ none sh (upR g (m + 2) e)) := by
  have h := r_copy (w := w) (g := upR g (m + 2) d) hM.asi hM.dat (by omega)
  rw [upR_n (by omega), he, upR_upR] at h
  exact h

set_option maxRecDepth 20000 in
theorem r_foretold {w : Wd} {sh : Shp} {g : Mem} {d : Nat → Int} {m : Nat} (hM : MdS sh.1 m) (hP : PI d) {n : Nat} {x : Int} (hn : 1 ≤ n ∧ n ≤ 600) (hx : 0 ≤ x ∧ x ≤ 11) : CT w mX10_foretold [.ref (m), .int (i32 ((n : Int))), .int (i32 (x))] sh (upR g (m + 2) d) (dQ (some (.int (i32 ((s_cnt (tk d n) x : Int))))) sh (upR (upR (up2 g m 0 0) (m + 4) d) (m + 2) d)) := by
  have hI := hP.1
  have hb := hI.1
  have hb0 := hb.1
  have hb1 := hb.2.1
  have hb2 := hb.2.2.1
  have hb3 := hb.2.2.2.1
  have hb4 := hb.2.2.2.2.1
  have hb5 := hb.2.2.2.2.2.1
  refine j_entry (by decide) rfl (Nat.le_of_ble_eq_true rfl) (fun h => by cases h) rfl ?_
  show J w mX10_foretold 0 [(0, .ref (m)), (1, .int (i32 ((n : Int)))), (2, .int (i32 (x)))] [] sh (upR g (m + 2) d) 0 0 _
  refine j_aload_n 1 0 dX10_foretold_0 rfl rfl ?_
  refine j_iconst 2 dX10_foretold_1 rfl ?_
  refine j_puti 5 dX10_foretold_2 rfl fl_X10_35 hM.md rfl rfl rfl (r32 (by decide) (by decide)) ?_
  refine j_mem (up2_upR_n (by omega)) ?_
  refine j_aload_n 6 0 dX10_foretold_5 rfl rfl ?_
  refine j_iload_n 7 1 dX10_foretold_6 rfl rfl ?_
  refine j_iconst 8 dX10_foretold_7 rfl ?_
  refine j_sipush 11 dX10_foretold_8 rfl (by decide) ?_
  refine j_callS 14 (As := [.int (i32 ((n : Int))), .int (i32 (1)), .int (i32 (600))]) (kc2 := 0) (ks2 := 0) dX10_foretold_11 rfl msX10_in lk_X10_57 rfl rfl (Nat.le_of_ble_eq_true rfl) ⟨Nat.le_of_ble_eq_true rfl, Nat.le_of_ble_eq_true rfl⟩ ⟨Nat.le_of_ble_eq_true rfl, Nat.le_of_ble_eq_true rfl⟩ (r_in (r32 (by omega) (by omega)) (r32 (by decide) (by decide)) (r32 (by decide) (by decide))) x_d (k_d1 ?_)
  refine j_if_eq 17 27 dX10_foretold_14 rfl rfl (r01 (b01_r _)) (fun c_14 => absurd c_14 (by rw [decide_eq_true (show 1 ≤ (n : Int) ∧ (n : Int) ≤ 600 by omega)]; decide)) (fun c_14 => ?_)
  refine j_iload_n 18 2 dX10_foretold_17 rfl rfl ?_
  refine j_iconst 19 dX10_foretold_18 rfl ?_
  refine j_bipush 21 dX10_foretold_19 rfl (by decide) ?_
  refine j_callS 24 (As := [.int (i32 (x)), .int (i32 (0)), .int (i32 (11))]) (kc2 := 0) (ks2 := 0) dX10_foretold_21 rfl msX10_in lk_X10_57 rfl rfl (Nat.le_of_ble_eq_true rfl) ⟨Nat.le_of_ble_eq_true rfl, Nat.le_of_ble_eq_true rfl⟩ ⟨Nat.le_of_ble_eq_true rfl, Nat.le_of_ble_eq_true rfl⟩ (r_in (r32 (by omega) (by omega)) (r32 (by decide) (by decide)) (r32 (by decide) (by decide))) x_d (k_d1 ?_)
  refine j_if_ne 27 31 dX10_foretold_24 rfl rfl (r01 (b01_r _)) (fun c_24 => ?_) (fun c_24 => absurd c_24 (by rw [decide_eq_true (show 0 ≤ x ∧ x ≤ 11 by omega)]; decide))
  refine j_iconst 32 dX10_foretold_31 rfl ?_
  refine j_iconst 33 dX10_foretold_32 rfl ?_
  refine j_callV 36 (As := [.int (i32 (0)), .int (i32 (1))]) (kc2 := 0) (ks2 := 0) dX10_foretold_33 rfl mvX10_fails lk_X10_176 hM.md rfl ⟨Nat.le_of_ble_eq_true rfl, rfl⟩ rfl rfl (Nat.le_of_ble_eq_true rfl) ⟨Nat.le_of_ble_eq_true rfl, Nat.le_of_ble_eq_true rfl⟩ ⟨Nat.le_of_ble_eq_true rfl, Nat.le_of_ble_eq_true rfl⟩ (r_fails0 hM 1 up2_s) x_d (k_d1 ?_)
  refine j_if_eq 39 41 dX10_foretold_36 rfl rfl (r32 (by decide) (by decide)) (fun c_36 => ?_) (fun c_36 => absurd c_36 (by decide))
  refine j_aload_n 42 0 dX10_foretold_41 rfl rfl ?_
  refine j_getr 45 dX10_foretold_42 rfl fl_X10_17 hM.md rfl (fun _ _ => rfl) rfl ?_
  refine j_aload_n 46 0 dX10_foretold_45 rfl rfl ?_
  refine j_getr 49 dX10_foretold_46 rfl fl_X10_23 hM.md rfl (fun _ _ => rfl) rfl ?_
  refine j_callS 52 (As := [.ref (m + 2), .ref (m + 4)]) (kc2 := 0) (ks2 := 0) dX10_foretold_49 rfl msX10_copy lk_X10_188 rfl rfl (Nat.le_of_ble_eq_true rfl) ⟨Nat.le_of_ble_eq_true rfl, Nat.le_of_ble_eq_true rfl⟩ ⟨Nat.le_of_ble_eq_true rfl, Nat.le_of_ble_eq_true rfl⟩ (r_copyDA hM) x_d (k_d0 ?_)
  refine j_iconst 53 dX10_foretold_52 rfl ?_
  refine j_istore_n 54 (L2 := [(3, .int (i32 (0))), (0, .ref (m)), (1, .int (i32 ((n : Int)))), (2, .int (i32 (x)))]) dX10_foretold_53 rfl rfl (Nat.le_of_ble_eq_true rfl) rfl ?_
  suffices lp_54 : ∀ (n_54 : Nat) (k : Nat) (da : Nat → Int), n - k < n_54 → k ≤ n → da = tk d k → J w mX10_foretold 54 [(3, .int (i32 ((k : Int)))), (0, .ref (m)), (1, .int (i32 ((n : Int)))), (2, .int (i32 (x)))] [] sh (upR (upR (up2 g (m) 0 (0)) (m + 4) d) (m + 2) da) 0 0 (dQ (some (.int (i32 ((s_cnt (tk d n) x : Int))))) sh (upR (upR (up2 g m 0 0) (m + 4) d) (m + 2) d)) by
    exact lp_54 _ 0 d (Nat.lt_succ_self _) (by omega) rfl
  intro n_54
  induction n_54 with
  | zero => intro k da h_; exact absurd h_ (Nat.not_lt_zero _)
  | succ n_54 ih_54 =>
    intro k da hn_54 hk hda
    have hIa : Inv da := by rw [hda]; exact (pi_tk hP k).1.1
    refine j_iload_n 55 0 dX10_foretold_54 rfl rfl ?_
    refine j_iload_n 56 2 dX10_foretold_55 rfl rfl ?_
    refine j_icmp_ge 59 69 dX10_foretold_56 rfl rfl (r32 (by omega) (by omega)) (r32 (by omega) (by omega)) (fun c_56 => ?_) (fun c_56 => ?_)
    · refine j_aload_n 70 1 dX10_foretold_69 rfl rfl ?_
      refine j_iload_n 71 3 dX10_foretold_70 rfl rfl ?_
      refine j_callV 74 (As := [.int (i32 (x))]) (kc2 := 0) (ks2 := 0) dX10_foretold_71 rfl mvX10_callsThat lk_X10_227 hM.md rfl ⟨Nat.le_of_ble_eq_true rfl, rfl⟩ rfl rfl (Nat.le_of_ble_eq_true rfl) ⟨Nat.le_of_ble_eq_true rfl, Nat.le_of_ble_eq_true rfl⟩ ⟨Nat.le_of_ble_eq_true rfl, Nat.le_of_ble_eq_true rfl⟩ (r_callsThat hM (hIa.1.2.2.2.2.2.1.2) (r32 (by omega) (by omega))) x_d (k_d1 ?_)
      refine j_istore_n 75 (L2 := [(3, .int (i32 ((s_cnt da x : Int)))), (0, .ref (m)), (1, .int (i32 ((n : Int)))), (2, .int (i32 (x)))]) dX10_foretold_74 rfl rfl (Nat.le_of_ble_eq_true rfl) rfl ?_
      refine j_aload_n 76 1 dX10_foretold_75 rfl rfl ?_
      refine j_getr 79 dX10_foretold_76 rfl fl_X10_23 hM.md rfl (fun _ _ => rfl) rfl ?_
      refine j_aload_n 80 1 dX10_foretold_79 rfl rfl ?_
      refine j_getr 83 dX10_foretold_80 rfl fl_X10_17 hM.md rfl (fun _ _ => rfl) rfl ?_
      refine j_callS 86 (As := [.ref (m + 4), .ref (m + 2)]) (kc2 := 0) (ks2 := 0) dX10_foretold_83 rfl msX10_copy lk_X10_188 rfl rfl (Nat.le_of_ble_eq_true rfl) ⟨Nat.le_of_ble_eq_true rfl, Nat.le_of_ble_eq_true rfl⟩ ⟨Nat.le_of_ble_eq_true rfl, Nat.le_of_ble_eq_true rfl⟩ (r_copyAD hM upR_s) x_d (k_d0 ?_)
      refine j_iload_n 87 0 dX10_foretold_86 rfl rfl ?_
      exact j_iret dX10_foretold_87 rfl (⟨by rw [hda, show k = n by omega], rfl, rfl⟩)
    · refine j_aload_n 60 1 dX10_foretold_59 rfl rfl ?_
      refine j_callV 63 (As := []) (kc2 := 0) (ks2 := 0) dX10_foretold_60 rfl mvX10_passTick lk_X10_294 hM.md rfl ⟨Nat.le_of_ble_eq_true rfl, rfl⟩ rfl rfl (Nat.le_of_ble_eq_true rfl) ⟨Nat.le_of_ble_eq_true rfl, Nat.le_of_ble_eq_true rfl⟩ ⟨Nat.le_of_ble_eq_true rfl, Nat.le_of_ble_eq_true rfl⟩ (r_passTick hM hIa) x_d (k_d0 ?_)
      refine j_iinc 66 0 (y := ((k + 1 : Nat) : Int)) (L2 := [(3, .int (i32 (((k + 1 : Nat) : Int)))), (0, .ref (m)), (1, .int (i32 ((n : Int)))), (2, .int (i32 (x)))]) dX10_foretold_63 rfl rfl (by omega) (Nat.le_of_ble_eq_true rfl) rfl ?_
      refine j_goto 54 dX10_foretold_66 rfl ?_
      exact ih_54 (k + 1) (s_tick da) (by omega) (by omega) (by rw [hda]; rfl)

set_option maxRecDepth 20000 in
theorem r_foretoldI {w : Wd} {sh : Shp} {g : Mem} {d : Nat → Int} {m : Nat} (hM : MdS sh.1 m) (hP : PI d) {n x : Int} (hn : R32 n) (hx : R32 x) (hb9 : n < 1 ∨ 600 < n ∨ x < 0 ∨ 11 < x) : CT w mX10_foretold [.ref (m), .int (i32 (n)), .int (i32 (x))] sh (upR g (m + 2) d) (dQ (some (.int (i32 (0)))) sh (upR (up2 (up2 g m 0 0) m 0 1) (m + 2) d)) := by
  have hI := hP.1
  have hb := hI.1
  have hb0 := hb.1
  have hb1 := hb.2.1
  have hb2 := hb.2.2.1
  have hb3 := hb.2.2.2.1
  have hb4 := hb.2.2.2.2.1
  have hb5 := hb.2.2.2.2.2.1
  refine j_entry (by decide) rfl (Nat.le_of_ble_eq_true rfl) (fun h => by cases h) rfl ?_
  show J w mX10_foretold 0 [(0, .ref (m)), (1, .int (i32 (n))), (2, .int (i32 (x)))] [] sh (upR g (m + 2) d) 0 0 _
  refine j_aload_n 1 0 dX10_foretold_0 rfl rfl ?_
  refine j_iconst 2 dX10_foretold_1 rfl ?_
  refine j_puti 5 dX10_foretold_2 rfl fl_X10_35 hM.md rfl rfl rfl (r32 (by decide) (by decide)) ?_
  refine j_mem (up2_upR_n (by omega)) ?_
  refine j_aload_n 6 0 dX10_foretold_5 rfl rfl ?_
  refine j_iload_n 7 1 dX10_foretold_6 rfl rfl ?_
  refine j_iconst 8 dX10_foretold_7 rfl ?_
  refine j_sipush 11 dX10_foretold_8 rfl (by decide) ?_
  refine j_callS 14 (As := [.int (i32 (n)), .int (i32 (1)), .int (i32 (600))]) (kc2 := 0) (ks2 := 0) dX10_foretold_11 rfl msX10_in lk_X10_57 rfl rfl (Nat.le_of_ble_eq_true rfl) ⟨Nat.le_of_ble_eq_true rfl, Nat.le_of_ble_eq_true rfl⟩ ⟨Nat.le_of_ble_eq_true rfl, Nat.le_of_ble_eq_true rfl⟩ (r_in hn (r32 (by decide) (by decide)) (r32 (by decide) (by decide))) x_d (k_d1 ?_)
  refine j_if_eq 17 27 dX10_foretold_14 rfl rfl (r01 (b01_r _)) (fun c_14 => ?_) (fun c_14 => ?_)
  · refine j_iconst 28 dX10_foretold_27 rfl ?_
    refine j_goto 32 dX10_foretold_28 rfl ?_
    refine j_iconst 33 dX10_foretold_32 rfl ?_
    refine j_callV 36 (As := [.int (i32 (1)), .int (i32 (1))]) (kc2 := 0) (ks2 := 0) dX10_foretold_33 rfl mvX10_fails lk_X10_176 hM.md rfl ⟨Nat.le_of_ble_eq_true rfl, rfl⟩ rfl rfl (Nat.le_of_ble_eq_true rfl) ⟨Nat.le_of_ble_eq_true rfl, Nat.le_of_ble_eq_true rfl⟩ ⟨Nat.le_of_ble_eq_true rfl, Nat.le_of_ble_eq_true rfl⟩ (r_fails1 hM 1 (by decide) (by decide) (by decide) up2_s) x_d (k_d1 ?_)
    refine j_if_eq 39 41 dX10_foretold_36 rfl rfl (r32 (by decide) (by decide)) (fun c_36 => absurd c_36 (by decide)) (fun c_36 => ?_)
    refine j_iconst 40 dX10_foretold_39 rfl ?_
    exact j_iret dX10_foretold_40 rfl (⟨rfl, rfl, rfl⟩)
  · have h13 := of_decide_eq_true (b01_1 c_14)
    refine j_iload_n 18 2 dX10_foretold_17 rfl rfl ?_
    refine j_iconst 19 dX10_foretold_18 rfl ?_
    refine j_bipush 21 dX10_foretold_19 rfl (by decide) ?_
    refine j_callS 24 (As := [.int (i32 (x)), .int (i32 (0)), .int (i32 (11))]) (kc2 := 0) (ks2 := 0) dX10_foretold_21 rfl msX10_in lk_X10_57 rfl rfl (Nat.le_of_ble_eq_true rfl) ⟨Nat.le_of_ble_eq_true rfl, Nat.le_of_ble_eq_true rfl⟩ ⟨Nat.le_of_ble_eq_true rfl, Nat.le_of_ble_eq_true rfl⟩ (r_in hx (r32 (by decide) (by decide)) (r32 (by decide) (by decide))) x_d (k_d1 ?_)
    refine j_if_ne 27 31 dX10_foretold_24 rfl rfl (r01 (b01_r _)) (fun c_24 => absurd c_24 (by rw [decide_eq_false (show ¬ (0 ≤ x ∧ x ≤ 11) by omega)]; decide)) (fun c_24 => ?_)
    refine j_iconst 28 dX10_foretold_27 rfl ?_
    refine j_goto 32 dX10_foretold_28 rfl ?_
    refine j_iconst 33 dX10_foretold_32 rfl ?_
    refine j_callV 36 (As := [.int (i32 (1)), .int (i32 (1))]) (kc2 := 0) (ks2 := 0) dX10_foretold_33 rfl mvX10_fails lk_X10_176 hM.md rfl ⟨Nat.le_of_ble_eq_true rfl, rfl⟩ rfl rfl (Nat.le_of_ble_eq_true rfl) ⟨Nat.le_of_ble_eq_true rfl, Nat.le_of_ble_eq_true rfl⟩ ⟨Nat.le_of_ble_eq_true rfl, Nat.le_of_ble_eq_true rfl⟩ (r_fails1 hM 1 (by decide) (by decide) (by decide) up2_s) x_d (k_d1 ?_)
    refine j_if_eq 39 41 dX10_foretold_36 rfl rfl (r32 (by decide) (by decide)) (fun c_36 => absurd c_36 (by decide)) (fun c_36 => ?_)
    refine j_iconst 40 dX10_foretold_39 rfl ?_
    exact j_iret dX10_foretold_40 rfl (⟨rfl, rfl, rfl⟩)

set_option maxRecDepth 20000 in
theorem r_overIn {w : Wd} {sh : Shp} {g : Mem} {d : Nat → Int} {m : Nat} (hM : MdS sh.1 m) (hP : PI d) {c : Nat} (hc : (c : Int) < d 5) (hc40 : c < 40) : CT w mX10_overIn [.ref (m), .int (i32 ((c : Int)))] sh (upR g (m + 2) d) (dQ (some (.int (i32 (fst (fun (k : Nat) => decide (5 < tk d k (173 + 14 * c))) 601)))) sh (upR (upR (up2 g m 0 0) (m + 4) d) (m + 2) d)) := by
  have hI := hP.1
  have hb := hI.1
  have hb0 := hb.1
  have hb1 := hb.2.1
  have hb2 := hb.2.2.1
  have hb3 := hb.2.2.2.1
  have hb4 := hb.2.2.2.2.1
  have hb5 := hb.2.2.2.2.2.1
  refine j_entry (by decide) rfl (Nat.le_of_ble_eq_true rfl) (fun h => by cases h) rfl ?_
  show J w mX10_overIn 0 [(0, .ref (m)), (1, .int (i32 ((c : Int))))] [] sh (upR g (m + 2) d) 0 0 _
  refine j_aload_n 1 0 dX10_overIn_0 rfl rfl ?_
  refine j_iconst 2 dX10_overIn_1 rfl ?_
  refine j_puti 5 dX10_overIn_2 rfl fl_X10_35 hM.md rfl rfl rfl (r32 (by decide) (by decide)) ?_
  refine j_mem (up2_upR_n (by omega)) ?_
  refine j_aload_n 6 0 dX10_overIn_5 rfl rfl ?_
  refine j_iload_n 7 1 dX10_overIn_6 rfl rfl ?_
  refine j_callV 10 (As := [.int (i32 ((c : Int)))]) (kc2 := 0) (ks2 := 0) dX10_overIn_7 rfl mvX10_noCall lk_X10_288 hM.md rfl ⟨Nat.le_of_ble_eq_true rfl, rfl⟩ rfl rfl (Nat.le_of_ble_eq_true rfl) ⟨Nat.le_of_ble_eq_true rfl, Nat.le_of_ble_eq_true rfl⟩ ⟨Nat.le_of_ble_eq_true rfl, Nat.le_of_ble_eq_true rfl⟩ (r_noCall0 hM hI (r32 (by omega) (by omega)) up2_s (by omega)) x_d (k_d1 ?_)
  refine j_if_eq 13 15 dX10_overIn_10 rfl rfl (r32 (by decide) (by decide)) (fun c_10 => ?_) (fun c_10 => absurd c_10 (by decide))
  refine j_iconst 16 dX10_overIn_15 rfl ?_
  refine j_istore_n 17 (L2 := [(2, .int (i32 (-1))), (0, .ref (m)), (1, .int (i32 ((c : Int))))]) dX10_overIn_16 rfl rfl (Nat.le_of_ble_eq_true rfl) rfl ?_
  refine j_aload_n 18 1 dX10_overIn_17 rfl rfl ?_
  refine j_getr 21 dX10_overIn_18 rfl fl_X10_17 hM.md rfl (fun _ _ => rfl) rfl ?_
  refine j_aload_n 22 1 dX10_overIn_21 rfl rfl ?_
  refine j_getr 25 dX10_overIn_22 rfl fl_X10_23 hM.md rfl (fun _ _ => rfl) rfl ?_
  refine j_callS 28 (As := [.ref (m + 2), .ref (m + 4)]) (kc2 := 0) (ks2 := 0) dX10_overIn_25 rfl msX10_copy lk_X10_188 rfl rfl (Nat.le_of_ble_eq_true rfl) ⟨Nat.le_of_ble_eq_true rfl, Nat.le_of_ble_eq_true rfl⟩ ⟨Nat.le_of_ble_eq_true rfl, Nat.le_of_ble_eq_true rfl⟩ (r_copyDA hM) x_d (k_d0 ?_)
  refine j_iconst 29 dX10_overIn_28 rfl ?_
  refine j_istore_n 30 (L2 := [(3, .int (i32 (0))), (2, .int (i32 (-1))), (0, .ref (m)), (1, .int (i32 ((c : Int))))]) dX10_overIn_29 rfl rfl (Nat.le_of_ble_eq_true rfl) rfl ?_
  suffices lp_30 : ∀ (n_30 : Nat) (k : Nat) (f : Int) (da : Nat → Int), 601 - k < n_30 → k ≤ 601 → R32 f → da = tk d (k - 1) → ((f = -1 ∧ ∀ j, j < k → (fun (k : Nat) => decide (5 < tk d k (173 + 14 * c))) j = false) ∨ (0 ≤ f ∧ f = fst (fun (k : Nat) => decide (5 < tk d k (173 + 14 * c))) 601)) → J w mX10_overIn 30 [(3, .int (i32 ((k : Int)))), (2, .int (i32 (f))), (0, .ref (m)), (1, .int (i32 ((c : Int))))] [] sh (upR (upR (up2 g (m) 0 (0)) (m + 4) d) (m + 2) da) 0 0 (dQ (some (.int (i32 (fst (fun (k : Nat) => decide (5 < tk d k (173 + 14 * c))) 601)))) sh (upR (upR (up2 g m 0 0) (m + 4) d) (m + 2) d)) by
    exact lp_30 _ 0 (-1) d (Nat.lt_succ_self _) (by omega) (r32 (by decide) (by decide)) rfl (Or.inl ⟨rfl, fun j hj => absurd hj (Nat.not_lt_zero j)⟩)
  intro n_30
  induction n_30 with
  | zero => intro k f da h_; exact absurd h_ (Nat.not_lt_zero _)
  | succ n_30 ih_30 =>
    intro k f da hn_30 hk hfr hda hf
    have hIa : Inv da := by rw [hda]; exact (pi_tk hP _).1.1
    refine j_iload_n 31 0 dX10_overIn_30 rfl rfl ?_
    refine j_sipush 34 dX10_overIn_31 rfl (by decide) ?_
    refine j_icmp_gt 37 69 dX10_overIn_34 rfl rfl (r32 (by omega) (by omega)) (r32 (by decide) (by decide)) (fun c_34 => ?_) (fun c_34 => ?_)
    · have hk601 : k = 601 := by omega
      refine j_aload_n 70 2 dX10_overIn_69 rfl rfl ?_
      refine j_getr 73 dX10_overIn_70 rfl fl_X10_23 hM.md rfl (fun _ _ => rfl) rfl ?_
      refine j_aload_n 74 2 dX10_overIn_73 rfl rfl ?_
      refine j_getr 77 dX10_overIn_74 rfl fl_X10_17 hM.md rfl (fun _ _ => rfl) rfl ?_
      refine j_callS 80 (As := [.ref (m + 4), .ref (m + 2)]) (kc2 := 0) (ks2 := 0) dX10_overIn_77 rfl msX10_copy lk_X10_188 rfl rfl (Nat.le_of_ble_eq_true rfl) ⟨Nat.le_of_ble_eq_true rfl, Nat.le_of_ble_eq_true rfl⟩ ⟨Nat.le_of_ble_eq_true rfl, Nat.le_of_ble_eq_true rfl⟩ (r_copyAD hM upR_s) x_d (k_d0 ?_)
      refine j_iload_n 81 1 dX10_overIn_80 rfl rfl ?_
      exact j_iret dX10_overIn_81 rfl (⟨by rw [show f = fst (fun (k : Nat) => decide (5 < tk d k (173 + 14 * c))) 601 from hf.elim (fun q => q.1.trans (fst_none (fun j hj => q.2 j (by omega))).symm) (fun q => q.2)], rfl, rfl⟩)
    · refine j_iload_n 38 1 dX10_overIn_37 rfl rfl ?_
      refine j_iconst 39 dX10_overIn_38 rfl ?_
      refine j_icmp_ne 42 69 dX10_overIn_39 rfl rfl hfr (r32 (by decide) (by decide)) (fun c_39 => ?_) (fun c_39 => ?_)
      · refine j_aload_n 70 2 dX10_overIn_69 rfl rfl ?_
        refine j_getr 73 dX10_overIn_70 rfl fl_X10_23 hM.md rfl (fun _ _ => rfl) rfl ?_
        refine j_aload_n 74 2 dX10_overIn_73 rfl rfl ?_
        refine j_getr 77 dX10_overIn_74 rfl fl_X10_17 hM.md rfl (fun _ _ => rfl) rfl ?_
        refine j_callS 80 (As := [.ref (m + 4), .ref (m + 2)]) (kc2 := 0) (ks2 := 0) dX10_overIn_77 rfl msX10_copy lk_X10_188 rfl rfl (Nat.le_of_ble_eq_true rfl) ⟨Nat.le_of_ble_eq_true rfl, Nat.le_of_ble_eq_true rfl⟩ ⟨Nat.le_of_ble_eq_true rfl, Nat.le_of_ble_eq_true rfl⟩ (r_copyAD hM upR_s) x_d (k_d0 ?_)
        refine j_iload_n 81 1 dX10_overIn_80 rfl rfl ?_
        exact j_iret dX10_overIn_81 rfl (⟨by rw [show f = fst (fun (k : Nat) => decide (5 < tk d k (173 + 14 * c))) 601 from hf.elim (fun q => q.1.trans (fst_none (fun j hj => q.2 j (by omega))).symm) (fun q => q.2)], rfl, rfl⟩)
      · have hpj : ∀ j, j < k → (fun (k : Nat) => decide (5 < tk d k (173 + 14 * c))) j = false := hf.elim (fun q => q.2) (fun q => absurd c_39 (by omega))
        refine j_iload_n 43 0 dX10_overIn_42 rfl rfl ?_
        refine j_if_le 46 50 dX10_overIn_43 rfl rfl (r32 (by omega) (by omega)) (fun c_43 => ?_) (fun c_43 => ?_)
        · refine j_d (d2 := tk d k) (by rw [hda, show k - 1 = k by omega]) ?_
          refine j_rgd hM.dat rfl (fun hR => ?_)
          refine j_aload_n 51 2 dX10_overIn_50 rfl rfl ?_
          refine j_iload_n 52 3 dX10_overIn_51 rfl rfl ?_
          refine j_iconst 53 dX10_overIn_52 rfl ?_
          refine j_callV 56 (As := [.int (i32 ((c : Int))), .int (i32 (4))]) (kc2 := 0) (ks2 := 0) dX10_overIn_53 rfl mvX10_of lk_X10_192 hM.md rfl ⟨Nat.le_of_ble_eq_true rfl, rfl⟩ rfl rfl (Nat.le_of_ble_eq_true rfl) ⟨Nat.le_of_ble_eq_true rfl, Nat.le_of_ble_eq_true rfl⟩ ⟨Nat.le_of_ble_eq_true rfl, Nat.le_of_ble_eq_true rfl⟩ (r_of hM c 4 (173 + 14 * c) rfl rfl (by omega) hc40 (by decide)) x_d (k_d1 ?_)
          refine j_bipush 58 dX10_overIn_56 rfl (by decide) ?_
          refine j_icmp_lt 61 63 dX10_overIn_58 rfl rfl (hR _) (r32 (by decide) (by decide)) (fun c_58 => ?_) (fun c_58 => ?_)
          · have hfr2 := hfr
            have hf2 : (f = -1 ∧ ∀ j, j < k + 1 → (fun (k : Nat) => decide (5 < tk d k (173 + 14 * c))) j = false) ∨ (0 ≤ f ∧ f = fst (fun (k : Nat) => decide (5 < tk d k (173 + 14 * c))) 601) := Or.inl ⟨c_39, lt_step hpj (decide_eq_false (by omega))⟩
            refine j_iinc 66 0 (y := ((k + 1 : Nat) : Int)) (L2 := [(3, .int (i32 (((k + 1 : Nat) : Int)))), (2, .int (i32 (f))), (0, .ref (m)), (1, .int (i32 ((c : Int))))]) dX10_overIn_63 rfl rfl (by omega) (Nat.le_of_ble_eq_true rfl) rfl ?_
            refine j_goto 30 dX10_overIn_66 rfl ?_
            exact ih_30 (k + 1) _ (tk d k) (by omega) (by omega) hfr2 (by rw [Nat.add_sub_cancel]) hf2
          · have hfr2 : R32 (k : Int) := r32 (by omega) (by omega)
            have hf2 : ((k : Int) = -1 ∧ ∀ j, j < k + 1 → (fun (k : Nat) => decide (5 < tk d k (173 + 14 * c))) j = false) ∨ (0 ≤ (k : Int) ∧ (k : Int) = fst (fun (k : Nat) => decide (5 < tk d k (173 + 14 * c))) 601) := Or.inr ⟨by omega, (fst_hit (p := (fun (k : Nat) => decide (5 < tk d k (173 + 14 * c)))) (by omega) hpj (decide_eq_true (by omega))).symm⟩
            refine j_iload_n 62 0 dX10_overIn_61 rfl rfl ?_
            refine j_istore_n 63 (L2 := [(2, .int (i32 ((k : Int)))), (3, .int (i32 ((k : Int)))), (0, .ref (m)), (1, .int (i32 ((c : Int))))]) dX10_overIn_62 rfl rfl (Nat.le_of_ble_eq_true rfl) rfl ?_
            refine j_iinc 66 1 (y := ((k + 1 : Nat) : Int)) (L2 := [(3, .int (i32 (((k + 1 : Nat) : Int)))), (2, .int (i32 ((k : Int)))), (0, .ref (m)), (1, .int (i32 ((c : Int))))]) dX10_overIn_63 rfl rfl (by omega) (Nat.le_of_ble_eq_true rfl) rfl ?_
            refine j_goto 30 dX10_overIn_66 rfl ?_
            exact ih_30 (k + 1) _ (tk d k) (by omega) (by omega) hfr2 (by rw [Nat.add_sub_cancel]) hf2
        · refine j_aload_n 47 2 dX10_overIn_46 rfl rfl ?_
          refine j_callV 50 (As := []) (kc2 := 0) (ks2 := 0) dX10_overIn_47 rfl mvX10_passTick lk_X10_294 hM.md rfl ⟨Nat.le_of_ble_eq_true rfl, rfl⟩ rfl rfl (Nat.le_of_ble_eq_true rfl) ⟨Nat.le_of_ble_eq_true rfl, Nat.le_of_ble_eq_true rfl⟩ ⟨Nat.le_of_ble_eq_true rfl, Nat.le_of_ble_eq_true rfl⟩ (r_passTick hM hIa) x_d (k_d0 ?_)
          refine j_d (d2 := tk d k) (by rw [hda]; show s_tick (tk d (k - 1)) = tk d k; obtain ⟨j, rfl⟩ : ∃ j, k = j + 1 := ⟨k - 1, by omega⟩; rfl) ?_
          refine j_rgd hM.dat rfl (fun hR => ?_)
          refine j_aload_n 51 2 dX10_overIn_50 rfl rfl ?_
          refine j_iload_n 52 3 dX10_overIn_51 rfl rfl ?_
          refine j_iconst 53 dX10_overIn_52 rfl ?_
          refine j_callV 56 (As := [.int (i32 ((c : Int))), .int (i32 (4))]) (kc2 := 0) (ks2 := 0) dX10_overIn_53 rfl mvX10_of lk_X10_192 hM.md rfl ⟨Nat.le_of_ble_eq_true rfl, rfl⟩ rfl rfl (Nat.le_of_ble_eq_true rfl) ⟨Nat.le_of_ble_eq_true rfl, Nat.le_of_ble_eq_true rfl⟩ ⟨Nat.le_of_ble_eq_true rfl, Nat.le_of_ble_eq_true rfl⟩ (r_of hM c 4 (173 + 14 * c) rfl rfl (by omega) hc40 (by decide)) x_d (k_d1 ?_)
          refine j_bipush 58 dX10_overIn_56 rfl (by decide) ?_
          refine j_icmp_lt 61 63 dX10_overIn_58 rfl rfl (hR _) (r32 (by decide) (by decide)) (fun c_58 => ?_) (fun c_58 => ?_)
          · have hfr2 := hfr
            have hf2 : (f = -1 ∧ ∀ j, j < k + 1 → (fun (k : Nat) => decide (5 < tk d k (173 + 14 * c))) j = false) ∨ (0 ≤ f ∧ f = fst (fun (k : Nat) => decide (5 < tk d k (173 + 14 * c))) 601) := Or.inl ⟨c_39, lt_step hpj (decide_eq_false (by omega))⟩
            refine j_iinc 66 0 (y := ((k + 1 : Nat) : Int)) (L2 := [(3, .int (i32 (((k + 1 : Nat) : Int)))), (2, .int (i32 (f))), (0, .ref (m)), (1, .int (i32 ((c : Int))))]) dX10_overIn_63 rfl rfl (by omega) (Nat.le_of_ble_eq_true rfl) rfl ?_
            refine j_goto 30 dX10_overIn_66 rfl ?_
            exact ih_30 (k + 1) _ (tk d k) (by omega) (by omega) hfr2 (by rw [Nat.add_sub_cancel]) hf2
          · have hfr2 : R32 (k : Int) := r32 (by omega) (by omega)
            have hf2 : ((k : Int) = -1 ∧ ∀ j, j < k + 1 → (fun (k : Nat) => decide (5 < tk d k (173 + 14 * c))) j = false) ∨ (0 ≤ (k : Int) ∧ (k : Int) = fst (fun (k : Nat) => decide (5 < tk d k (173 + 14 * c))) 601) := Or.inr ⟨by omega, (fst_hit (p := (fun (k : Nat) => decide (5 < tk d k (173 + 14 * c)))) (by omega) hpj (decide_eq_true (by omega))).symm⟩
            refine j_iload_n 62 0 dX10_overIn_61 rfl rfl ?_
            refine j_istore_n 63 (L2 := [(2, .int (i32 ((k : Int)))), (3, .int (i32 ((k : Int)))), (0, .ref (m)), (1, .int (i32 ((c : Int))))]) dX10_overIn_62 rfl rfl (Nat.le_of_ble_eq_true rfl) rfl ?_
            refine j_iinc 66 1 (y := ((k + 1 : Nat) : Int)) (L2 := [(3, .int (i32 (((k + 1 : Nat) : Int)))), (2, .int (i32 ((k : Int)))), (0, .ref (m)), (1, .int (i32 ((c : Int))))]) dX10_overIn_63 rfl rfl (by omega) (Nat.le_of_ble_eq_true rfl) rfl ?_
            refine j_goto 30 dX10_overIn_66 rfl ?_
            exact ih_30 (k + 1) _ (tk d k) (by omega) (by omega) hfr2 (by rw [Nat.add_sub_cancel]) hf2

set_option maxRecDepth 20000 in
theorem r_overInB {w : Wd} {sh : Shp} {g : Mem} {d : Nat → Int} {m : Nat} (hM : MdS sh.1 m) (hP : PI d) {x : Int} (hx : R32 x) (h0 : ¬ (0 ≤ x ∧ x < d 5)) : CT w mX10_overIn [.ref (m), .int (i32 (x))] sh (upR g (m + 2) d) (dQ (some (.int (i32 (0)))) sh (upR (up2 (up2 g m 0 0) m 0 1) (m + 2) d)) := by
  have hI := hP.1
  have hb := hI.1
  have hb0 := hb.1
  have hb1 := hb.2.1
  have hb2 := hb.2.2.1
  have hb3 := hb.2.2.2.1
  have hb4 := hb.2.2.2.2.1
  have hb5 := hb.2.2.2.2.2.1
  refine j_entry (by decide) rfl (Nat.le_of_ble_eq_true rfl) (fun h => by cases h) rfl ?_
  show J w mX10_overIn 0 [(0, .ref (m)), (1, .int (i32 (x)))] [] sh (upR g (m + 2) d) 0 0 _
  refine j_aload_n 1 0 dX10_overIn_0 rfl rfl ?_
  refine j_iconst 2 dX10_overIn_1 rfl ?_
  refine j_puti 5 dX10_overIn_2 rfl fl_X10_35 hM.md rfl rfl rfl (r32 (by decide) (by decide)) ?_
  refine j_mem (up2_upR_n (by omega)) ?_
  refine j_aload_n 6 0 dX10_overIn_5 rfl rfl ?_
  refine j_iload_n 7 1 dX10_overIn_6 rfl rfl ?_
  refine j_callV 10 (As := [.int (i32 (x))]) (kc2 := 0) (ks2 := 0) dX10_overIn_7 rfl mvX10_noCall lk_X10_288 hM.md rfl ⟨Nat.le_of_ble_eq_true rfl, rfl⟩ rfl rfl (Nat.le_of_ble_eq_true rfl) ⟨Nat.le_of_ble_eq_true rfl, Nat.le_of_ble_eq_true rfl⟩ ⟨Nat.le_of_ble_eq_true rfl, Nat.le_of_ble_eq_true rfl⟩ (r_noCall1 hM hI hx up2_s (by omega)) x_d (k_d1 ?_)
  refine j_if_eq 13 15 dX10_overIn_10 rfl rfl (r32 (by decide) (by decide)) (fun c_10 => absurd c_10 (by decide)) (fun c_10 => ?_)
  refine j_iconst 14 dX10_overIn_13 rfl ?_
  exact j_iret dX10_overIn_14 rfl (⟨rfl, rfl, rfl⟩)

set_option maxRecDepth 20000 in
theorem r_bestGuard {w : Wd} {sh : Shp} {g : Mem} {d : Nat → Int} {m : Nat} (hM : MdS sh.1 m) (hP : PI d)  : CT w mX10_bestGuard [.ref (m)] sh (upR g (m + 2) d) (dQ (some (.int (i32 ((bgF d 40).1)))) sh (upR (upR (up2 g m 0 0) (m + 4) d) (m + 2) d)) := by
  have hI := hP.1
  have hb := hI.1
  have hb0 := hb.1
  have hb1 := hb.2.1
  have hb2 := hb.2.2.1
  have hb3 := hb.2.2.2.1
  have hb4 := hb.2.2.2.2.1
  have hb5 := hb.2.2.2.2.2.1
  refine j_entry (by decide) rfl (Nat.le_of_ble_eq_true rfl) (fun h => by cases h) rfl ?_
  show J w mX10_bestGuard 0 [(0, .ref (m))] [] sh (upR g (m + 2) d) 0 0 _
  refine j_aload_n 1 0 dX10_bestGuard_0 rfl rfl ?_
  refine j_iconst 2 dX10_bestGuard_1 rfl ?_
  refine j_puti 5 dX10_bestGuard_2 rfl fl_X10_35 hM.md rfl rfl rfl (r32 (by decide) (by decide)) ?_
  refine j_mem (up2_upR_n (by omega)) ?_
  refine j_iconst 6 dX10_bestGuard_5 rfl ?_
  refine j_istore_n 7 (L2 := [(1, .int (i32 (1))), (0, .ref (m))]) dX10_bestGuard_6 rfl rfl (Nat.le_of_ble_eq_true rfl) rfl ?_
  refine j_iconst 8 dX10_bestGuard_7 rfl ?_
  refine j_istore_n 9 (L2 := [(2, .int (i32 (-1))), (1, .int (i32 (1))), (0, .ref (m))]) dX10_bestGuard_8 rfl rfl (Nat.le_of_ble_eq_true rfl) rfl ?_
  refine j_aload_n 10 2 dX10_bestGuard_9 rfl rfl ?_
  refine j_getr 13 dX10_bestGuard_10 rfl fl_X10_17 hM.md rfl (fun _ _ => rfl) rfl ?_
  refine j_aload_n 14 2 dX10_bestGuard_13 rfl rfl ?_
  refine j_getr 17 dX10_bestGuard_14 rfl fl_X10_23 hM.md rfl (fun _ _ => rfl) rfl ?_
  refine j_callS 20 (As := [.ref (m + 2), .ref (m + 4)]) (kc2 := 0) (ks2 := 0) dX10_bestGuard_17 rfl msX10_copy lk_X10_188 rfl rfl (Nat.le_of_ble_eq_true rfl) ⟨Nat.le_of_ble_eq_true rfl, Nat.le_of_ble_eq_true rfl⟩ ⟨Nat.le_of_ble_eq_true rfl, Nat.le_of_ble_eq_true rfl⟩ (r_copyDA hM) x_d (k_d0 ?_)
  refine j_iconst 21 dX10_bestGuard_20 rfl ?_
  refine j_istore_n 22 (L2 := [(3, .int (i32 (1))), (2, .int (i32 (-1))), (1, .int (i32 (1))), (0, .ref (m))]) dX10_bestGuard_21 rfl rfl (Nat.le_of_ble_eq_true rfl) rfl ?_
  suffices lp_22 : ∀ (n_22 : Nat) (k : Nat) (best : Int) (most : Int), 40 - k < n_22 → k ≤ 40 → R32 best → R32 most → best = (bgF d k).1 → most = (bgF d k).2 → J w mX10_bestGuard 22 [(3, .int (i32 (((k + 1 : Nat) : Int)))), (2, .int (i32 (most))), (1, .int (i32 (best))), (0, .ref (m))] [] sh (upR (upR (up2 g (m) 0 (0)) (m + 4) d) (m + 2) d) 0 0 (dQ (some (.int (i32 ((bgF d 40).1)))) sh (upR (upR (up2 g m 0 0) (m + 4) d) (m + 2) d)) by
    exact lp_22 _ 0 1 (-1) (Nat.lt_succ_self _) (by omega) (r32 (by decide) (by decide)) (r32 (by decide) (by decide)) rfl rfl
  intro n_22
  induction n_22 with
  | zero => intro k best most h_; exact absurd h_ (Nat.not_lt_zero _)
  | succ n_22 ih_22 =>
    intro k best most hn_22 hk hbr hmr hbe hme
    refine j_iload_n 23 0 dX10_bestGuard_22 rfl rfl ?_
    refine j_bipush 25 dX10_bestGuard_23 rfl (by decide) ?_
    refine j_icmp_gt 28 96 dX10_bestGuard_25 rfl rfl (r32 (by omega) (by omega)) (r32 (by decide) (by decide)) (fun c_25 => ?_) (fun c_25 => ?_)
    · refine j_iload_n 97 2 dX10_bestGuard_96 rfl rfl ?_
      exact j_iret dX10_bestGuard_97 rfl (⟨by rw [hbe, show k = 40 by omega], rfl, rfl⟩)
    · refine j_aload_n 29 3 dX10_bestGuard_28 rfl rfl ?_
      refine j_getr 32 dX10_bestGuard_29 rfl fl_X10_17 hM.md rfl (fun _ _ => rfl) rfl ?_
      refine j_bipush 34 dX10_bestGuard_32 rfl (by decide) ?_
      refine j_iload_n 35 0 dX10_bestGuard_34 rfl rfl ?_
      refine j_iast_d 36 19 dX10_bestGuard_35 rfl hM.dat rfl rfl (show 19 < 729 by decide) (r32 (by omega) (by omega)) ?_
      have hP1 : PI (ud d 19 ((k + 1 : Nat) : Int)) := ⟨hI.rule (q := 19) (by decide) (by omega) (by show ((k + 1 : Nat) : Int) ≤ 40; omega), r9_ud hP.2 (Or.inr fun j => by omega)⟩
      refine j_iconst 37 dX10_bestGuard_36 rfl ?_
      refine j_istore 39 (L2 := [(4, .int (i32 (0))), (3, .int (i32 (((k + 1 : Nat) : Int)))), (2, .int (i32 (most))), (1, .int (i32 (best))), (0, .ref (m))]) dX10_bestGuard_37 rfl (Nat.le_of_ble_eq_true rfl) rfl ?_
      suffices lp_39 : ∀ (n_39 : Nat) (j : Nat) (da : Nat → Int), 300 - j < n_39 → j ≤ 300 → da = tk (ud d 19 ((k + 1 : Nat) : Int)) j → J w mX10_bestGuard 39 [(4, .int (i32 ((j : Int)))), (3, .int (i32 (((k + 1 : Nat) : Int)))), (2, .int (i32 (most))), (1, .int (i32 (best))), (0, .ref (m))] [] sh (upR (upR (up2 g (m) 0 (0)) (m + 4) d) (m + 2) da) 0 0 (dQ (some (.int (i32 ((bgF d 40).1)))) sh (upR (upR (up2 g m 0 0) (m + 4) d) (m + 2) d)) by
        exact lp_39 _ 0 (ud d 19 (((k + 1 : Nat) : Int))) (Nat.lt_succ_self _) (by omega) rfl
      intro n_39
      induction n_39 with
      | zero => intro j da h_; exact absurd h_ (Nat.not_lt_zero _)
      | succ n_39 ih_39 =>
        intro j da hn_39 hj hda
        have hIa : Inv da := by rw [hda]; exact (pi_tk hP1 j).1.1
        refine j_iload 41 0 dX10_bestGuard_39 rfl rfl ?_
        refine j_sipush 44 dX10_bestGuard_41 rfl (by decide) ?_
        refine j_icmp_ge 47 57 dX10_bestGuard_44 rfl rfl (r32 (by omega) (by omega)) (r32 (by decide) (by decide)) (fun c_44 => ?_) (fun c_44 => ?_)
        · refine j_aload_n 58 4 dX10_bestGuard_57 rfl rfl ?_
          refine j_bipush 60 dX10_bestGuard_58 rfl (by decide) ?_
          refine j_callV 63 (As := [.int (i32 (6))]) (kc2 := 0) (ks2 := 0) dX10_bestGuard_60 rfl mvX10_callsThat lk_X10_227 hM.md rfl ⟨Nat.le_of_ble_eq_true rfl, rfl⟩ rfl rfl (Nat.le_of_ble_eq_true rfl) ⟨Nat.le_of_ble_eq_true rfl, Nat.le_of_ble_eq_true rfl⟩ ⟨Nat.le_of_ble_eq_true rfl, Nat.le_of_ble_eq_true rfl⟩ (r_callsThat hM (hIa.1.2.2.2.2.2.1.2) (r32 (by decide) (by decide))) x_d (k_d1 ?_)
          have hcl : s_cnt da 6 ≤ 40 := cnt_le _ 40
          have hbN : bgN d (k + 1) = (s_cnt da 6 : Int) := by rw [hda, show j = 300 by omega]; rfl
          refine j_top (y := bgN d (k + 1)) hbN.symm ?_
          refine j_istore 65 (L2 := [(4, .int (i32 (bgN d (k + 1)))), (3, .int (i32 (((k + 1 : Nat) : Int)))), (2, .int (i32 (most))), (1, .int (i32 (best))), (0, .ref (m))]) dX10_bestGuard_63 rfl (Nat.le_of_ble_eq_true rfl) rfl ?_
          refine j_aload_n 66 4 dX10_bestGuard_65 rfl rfl ?_
          refine j_getr 69 dX10_bestGuard_66 rfl fl_X10_23 hM.md rfl (fun _ _ => rfl) rfl ?_
          refine j_aload_n 70 4 dX10_bestGuard_69 rfl rfl ?_
          refine j_getr 73 dX10_bestGuard_70 rfl fl_X10_17 hM.md rfl (fun _ _ => rfl) rfl ?_
          refine j_callS 76 (As := [.ref (m + 4), .ref (m + 2)]) (kc2 := 0) (ks2 := 0) dX10_bestGuard_73 rfl msX10_copy lk_X10_188 rfl rfl (Nat.le_of_ble_eq_true rfl) ⟨Nat.le_of_ble_eq_true rfl, Nat.le_of_ble_eq_true rfl⟩ ⟨Nat.le_of_ble_eq_true rfl, Nat.le_of_ble_eq_true rfl⟩ (r_copyAD hM upR_s) x_d (k_d0 ?_)
          refine j_iload 78 0 dX10_bestGuard_76 rfl rfl ?_
          refine j_iload_n 79 2 dX10_bestGuard_78 rfl rfl ?_
          refine j_icmp_gt 82 85 dX10_bestGuard_79 rfl rfl (r32 (by omega) (by omega)) hmr (fun c_79 => ?_) (fun c_79 => ?_)
          · have hbe2 : ((k + 1 : Nat) : Int) = (bgF d (k + 1)).1 := by unfold bgF; rw [if_pos (by omega)]
            have hme2 : bgN d (k + 1) = (bgF d (k + 1)).2 := by unfold bgF; rw [if_pos (by omega)]
            refine j_iload_n 86 1 dX10_bestGuard_85 rfl rfl ?_
            refine j_istore_n 87 (L2 := [(1, .int (i32 (((k + 1 : Nat) : Int)))), (4, .int (i32 (bgN d (k + 1)))), (3, .int (i32 (((k + 1 : Nat) : Int)))), (2, .int (i32 (most))), (0, .ref (m))]) dX10_bestGuard_86 rfl rfl (Nat.le_of_ble_eq_true rfl) rfl ?_
            refine j_iload 89 1 dX10_bestGuard_87 rfl rfl ?_
            refine j_istore_n 90 (L2 := [(2, .int (i32 (bgN d (k + 1)))), (1, .int (i32 (((k + 1 : Nat) : Int)))), (4, .int (i32 (bgN d (k + 1)))), (3, .int (i32 (((k + 1 : Nat) : Int)))), (0, .ref (m))]) dX10_bestGuard_89 rfl rfl (Nat.le_of_ble_eq_true rfl) rfl ?_
            refine j_iinc 93 3 (y := ((k + 1 + 1 : Nat) : Int)) (L2 := [(3, .int (i32 (((k + 1 + 1 : Nat) : Int)))), (2, .int (i32 (bgN d (k + 1)))), (1, .int (i32 (((k + 1 : Nat) : Int)))), (4, .int (i32 (bgN d (k + 1)))), (0, .ref (m))]) dX10_bestGuard_90 rfl rfl (by omega) (Nat.le_of_ble_eq_true rfl) rfl ?_
            refine j_goto 22 dX10_bestGuard_93 rfl ?_
            refine j_sub [0, 1, 2, 4] rfl ?_
            exact ih_22 (k + 1) _ _ (by omega) (by omega) (by first | exact hbr | exact (r32 (by omega) (by omega))) (by first | exact hmr | exact (r32 (by omega) (by omega))) hbe2 hme2
          · have hbe2 : best = (bgF d (k + 1)).1 := by unfold bgF; rw [if_neg (by omega)]; exact hbe
            have hme2 : most = (bgF d (k + 1)).2 := by unfold bgF; rw [if_neg (by omega)]; exact hme
            refine j_goto 90 dX10_bestGuard_82 rfl ?_
            refine j_iinc 93 1 (y := ((k + 1 + 1 : Nat) : Int)) (L2 := [(3, .int (i32 (((k + 1 + 1 : Nat) : Int)))), (4, .int (i32 (bgN d (k + 1)))), (2, .int (i32 (most))), (1, .int (i32 (best))), (0, .ref (m))]) dX10_bestGuard_90 rfl rfl (by omega) (Nat.le_of_ble_eq_true rfl) rfl ?_
            refine j_goto 22 dX10_bestGuard_93 rfl ?_
            refine j_sub [0, 2, 3, 4] rfl ?_
            exact ih_22 (k + 1) _ _ (by omega) (by omega) (by first | exact hbr | exact (r32 (by omega) (by omega))) (by first | exact hmr | exact (r32 (by omega) (by omega))) hbe2 hme2
        · refine j_aload_n 48 4 dX10_bestGuard_47 rfl rfl ?_
          refine j_callV 51 (As := []) (kc2 := 0) (ks2 := 0) dX10_bestGuard_48 rfl mvX10_passTick lk_X10_294 hM.md rfl ⟨Nat.le_of_ble_eq_true rfl, rfl⟩ rfl rfl (Nat.le_of_ble_eq_true rfl) ⟨Nat.le_of_ble_eq_true rfl, Nat.le_of_ble_eq_true rfl⟩ ⟨Nat.le_of_ble_eq_true rfl, Nat.le_of_ble_eq_true rfl⟩ (r_passTick hM hIa) x_d (k_d0 ?_)
          refine j_iinc 54 0 (y := ((j + 1 : Nat) : Int)) (L2 := [(4, .int (i32 (((j + 1 : Nat) : Int)))), (3, .int (i32 (((k + 1 : Nat) : Int)))), (2, .int (i32 (most))), (1, .int (i32 (best))), (0, .ref (m))]) dX10_bestGuard_51 rfl rfl (by omega) (Nat.le_of_ble_eq_true rfl) rfl ?_
          refine j_goto 39 dX10_bestGuard_54 rfl ?_
          exact ih_39 (j + 1) (s_tick da) (by omega) (by omega) (by rw [hda]; rfl)

theorem HR.thr {g : Mem} {m c : Nat} {hist : Nat → (Nat → Int)} {d : Nat → Int} (H : HR g m hist c) {x : Int} : HR (upR (up2 g m 0 x) (m + 2) d) m hist c :=
  H.same (by rw [upR_at (by omega)]; exact up2_k (by decide)) (fun a h1 h2 => by rw [upR_n (by omega)]; exact up2_row (by omega))
/-- the memory behind 'remember' -/
def RM (g g2 : Mem) (m : Nat) (d : Nat → Int) (hist : Nat → (Nat → Int)) (c9 : Nat) : Prop := HR g2 m (push d hist) (if c9 < 8 then c9 + 1 else 8) ∧ g2 (m + 2) = d ∧ (∀ a, a ≠ m → a ≠ m + 2 → (a < m + 6 ∨ m + 14 ≤ a) → g2 a = g a) ∧ (∀ j, j ≠ 0 → j ≠ 12 → g2 m j = g m j) ∧ g2 m 0 = 0
theorem rem_RM {g g2 : Mem} {m c9 : Nat} {d : Nat → Int} {hist : Nat → (Nat → Int)} (h : HR g2 m (push ((upR (up2 g m 0 0) (m + 2) d) (m + 2)) hist) (if c9 < 8 then c9 + 1 else 8) ∧ (∀ a, a ≠ m → (a < m + 6 ∨ m + 14 ≤ a) → g2 a = (upR (up2 g m 0 0) (m + 2) d) a) ∧ ∀ j, j ≠ 12 → g2 m j = (upR (up2 g m 0 0) (m + 2) d) m j) : RM g g2 m d hist c9 := by
  obtain ⟨h1, h2, h3⟩ := h
  rw [upR_s] at h1
  refine ⟨h1, by rw [h2 _ (by omega) (by omega), upR_s], fun a a1 a2 a3 => by rw [h2 a a1 a3, upR_n a2]; exact up2_row a1, fun j j0 j1 => by rw [h3 j j1, upR_at (by omega)]; exact up2_k j0, by rw [h3 0 (by decide), upR_at (by omega)]; exact up2_s⟩
theorem RM.out {g g2 : Mem} {m c9 : Nat} {d e : Nat → Int} {hist : Nat → (Nat → Int)} (h : RM g g2 m d hist c9) : (upR g2 (m + 2) e) (m + 2) = e ∧ HR (upR g2 (m + 2) e) m (push d hist) (if c9 < 8 then c9 + 1 else 8) ∧ (∀ a, a ≠ m → a ≠ m + 2 → (a < m + 6 ∨ m + 14 ≤ a) → (upR g2 (m + 2) e) a = g a) ∧ (∀ j, j ≠ 0 → j ≠ 12 → (upR g2 (m + 2) e) m j = g m j) ∧ (upR g2 (m + 2) e) m 0 = 0 := by
  obtain ⟨h1, h2, h3, h4, h5⟩ := h
  exact ⟨upR_s, h1.same (upR_at (by omega)) (fun a a1 a2 => upR_n (by omega)), fun a a1 a2 a3 => by rw [upR_n a2]; exact h3 a a1 a2 a3, fun j j0 j1 => by rw [upR_at (by omega)]; exact h4 j j0 j1, by rw [upR_at (by omega)]; exact h5⟩

set_option maxRecDepth 20000 in
theorem r_pass {w : Wd} {sh : Shp} {g : Mem} {d : Nat → Int} {m : Nat} (hM : MdS sh.1 m) (hP : PI d) {c9 : Nat} {hist : Nat → (Nat → Int)} (hH : HR g m hist c9) {n : Nat} (hn : 1 ≤ n ∧ n ≤ 300) : CT w mX10_pass [.ref (m), .int (i32 ((n : Int)))] sh (upR g (m + 2) d) (iQ sh (fun z g2 => z = (s_cnt (tk d n) 6 : Int) - (s_cnt d 6 : Int) ∧ g2 (m + 2) = tk d n ∧ HR g2 m (push d hist) (if c9 < 8 then c9 + 1 else 8) ∧ (∀ a, a ≠ m → a ≠ m + 2 → (a < m + 6 ∨ m + 14 ≤ a) → g2 a = g a) ∧ (∀ j, j ≠ 0 → j ≠ 12 → g2 m j = g m j) ∧ g2 m 0 = 0)) := by
  have hI := hP.1
  have hb := hI.1
  have hb0 := hb.1
  have hb1 := hb.2.1
  have hb2 := hb.2.2.1
  have hb3 := hb.2.2.2.1
  have hb4 := hb.2.2.2.2.1
  have hb5 := hb.2.2.2.2.2.1
  refine j_entry (by decide) rfl (Nat.le_of_ble_eq_true rfl) (fun h => by cases h) rfl ?_
  show J w mX10_pass 0 [(0, .ref (m)), (1, .int (i32 ((n : Int))))] [] sh (upR g (m + 2) d) 0 0 _
  refine j_aload_n 1 0 dX10_pass_0 rfl rfl ?_
  refine j_iconst 2 dX10_pass_1 rfl ?_
  refine j_puti 5 dX10_pass_2 rfl fl_X10_35 hM.md rfl rfl rfl (r32 (by decide) (by decide)) ?_
  refine j_mem (up2_upR_n (by omega)) ?_
  refine j_aload_n 6 0 dX10_pass_5 rfl rfl ?_
  refine j_iload_n 7 1 dX10_pass_6 rfl rfl ?_
  refine j_iconst 8 dX10_pass_7 rfl ?_
  refine j_sipush 11 dX10_pass_8 rfl (by decide) ?_
  refine j_callS 14 (As := [.int (i32 ((n : Int))), .int (i32 (1)), .int (i32 (300))]) (kc2 := 0) (ks2 := 0) dX10_pass_11 rfl msX10_in lk_X10_57 rfl rfl (Nat.le_of_ble_eq_true rfl) ⟨Nat.le_of_ble_eq_true rfl, Nat.le_of_ble_eq_true rfl⟩ ⟨Nat.le_of_ble_eq_true rfl, Nat.le_of_ble_eq_true rfl⟩ (r_in (r32 (by omega) (by omega)) (r32 (by decide) (by decide)) (r32 (by decide) (by decide))) x_d (k_d1 ?_)
  refine j_if_ne 17 21 dX10_pass_14 rfl rfl (r01 (b01_r _)) (fun c_14 => ?_) (fun c_14 => absurd c_14 (by rw [decide_eq_true (show 1 ≤ (n : Int) ∧ (n : Int) ≤ 300 by omega)]; decide))
  refine j_iconst 22 dX10_pass_21 rfl ?_
  refine j_iconst 23 dX10_pass_22 rfl ?_
  refine j_callV 26 (As := [.int (i32 (0)), .int (i32 (1))]) (kc2 := 0) (ks2 := 0) dX10_pass_23 rfl mvX10_fails lk_X10_176 hM.md rfl ⟨Nat.le_of_ble_eq_true rfl, rfl⟩ rfl rfl (Nat.le_of_ble_eq_true rfl) ⟨Nat.le_of_ble_eq_true rfl, Nat.le_of_ble_eq_true rfl⟩ ⟨Nat.le_of_ble_eq_true rfl, Nat.le_of_ble_eq_true rfl⟩ (r_fails0 hM 1 up2_s) x_d (k_d1 ?_)
  refine j_if_eq 29 31 dX10_pass_26 rfl rfl (r32 (by decide) (by decide)) (fun c_26 => ?_) (fun c_26 => absurd c_26 (by decide))
  refine j_aload_n 32 0 dX10_pass_31 rfl rfl ?_
  refine j_callV 35 (As := []) (kc2 := 0) (ks2 := 0) dX10_pass_32 rfl mvX10_remember lk_X10_185 hM.md rfl ⟨Nat.le_of_ble_eq_true rfl, rfl⟩ rfl rfl (Nat.le_of_ble_eq_true rfl) ⟨Nat.le_of_ble_eq_true rfl, Nat.le_of_ble_eq_true rfl⟩ ⟨Nat.le_of_ble_eq_true rfl, Nat.le_of_ble_eq_true rfl⟩ (r_remember hM hH.thr) x_v (k_v fun g_32 h_32 => ?_)
  have hRM : RM g g_32 m d hist c9 := rem_RM h_32
  refine j_mem (upR_id2 hRM.2.1).symm ?_
  refine j_aload_n 36 0 dX10_pass_35 rfl rfl ?_
  refine j_bipush 38 dX10_pass_36 rfl (by decide) ?_
  refine j_callV 41 (As := [.int (i32 (6))]) (kc2 := 0) (ks2 := 0) dX10_pass_38 rfl mvX10_callsThat lk_X10_227 hM.md rfl ⟨Nat.le_of_ble_eq_true rfl, rfl⟩ rfl rfl (Nat.le_of_ble_eq_true rfl) ⟨Nat.le_of_ble_eq_true rfl, Nat.le_of_ble_eq_true rfl⟩ ⟨Nat.le_of_ble_eq_true rfl, Nat.le_of_ble_eq_true rfl⟩ (r_callsThat hM (by omega) (r32 (by decide) (by decide))) x_d (k_d1 ?_)
  refine j_istore_n 42 (L2 := [(2, .int (i32 ((s_cnt d 6 : Int)))), (0, .ref (m)), (1, .int (i32 ((n : Int))))]) dX10_pass_41 rfl rfl (Nat.le_of_ble_eq_true rfl) rfl ?_
  refine j_iconst 43 dX10_pass_42 rfl ?_
  refine j_istore_n 44 (L2 := [(3, .int (i32 (0))), (2, .int (i32 ((s_cnt d 6 : Int)))), (0, .ref (m)), (1, .int (i32 ((n : Int))))]) dX10_pass_43 rfl rfl (Nat.le_of_ble_eq_true rfl) rfl ?_
  suffices lp_44 : ∀ (n_44 : Nat) (k : Nat) (da : Nat → Int), n - k < n_44 → k ≤ n → da = tk d k → J w mX10_pass 44 [(3, .int (i32 ((k : Int)))), (2, .int (i32 ((s_cnt d 6 : Int)))), (0, .ref (m)), (1, .int (i32 ((n : Int))))] [] sh (upR g_32 (m + 2) da) 0 0 (iQ sh (fun z g2 => z = (s_cnt (tk d n) 6 : Int) - (s_cnt d 6 : Int) ∧ g2 (m + 2) = tk d n ∧ HR g2 m (push d hist) (if c9 < 8 then c9 + 1 else 8) ∧ (∀ a, a ≠ m → a ≠ m + 2 → (a < m + 6 ∨ m + 14 ≤ a) → g2 a = g a) ∧ (∀ j, j ≠ 0 → j ≠ 12 → g2 m j = g m j) ∧ g2 m 0 = 0)) by
    exact lp_44 _ 0 d (Nat.lt_succ_self _) (by omega) rfl
  intro n_44
  induction n_44 with
  | zero => intro k da h_; exact absurd h_ (Nat.not_lt_zero _)
  | succ n_44 ih_44 =>
    intro k da hn_44 hk hda
    have hIa : Inv da := by rw [hda]; exact (pi_tk hP k).1.1
    refine j_iload_n 45 0 dX10_pass_44 rfl rfl ?_
    refine j_iload_n 46 3 dX10_pass_45 rfl rfl ?_
    refine j_icmp_ge 49 59 dX10_pass_46 rfl rfl (r32 (by omega) (by omega)) (r32 (by omega) (by omega)) (fun c_46 => ?_) (fun c_46 => ?_)
    · refine j_aload_n 60 2 dX10_pass_59 rfl rfl ?_
      refine j_bipush 62 dX10_pass_60 rfl (by decide) ?_
      refine j_callV 65 (As := [.int (i32 (6))]) (kc2 := 0) (ks2 := 0) dX10_pass_62 rfl mvX10_callsThat lk_X10_227 hM.md rfl ⟨Nat.le_of_ble_eq_true rfl, rfl⟩ rfl rfl (Nat.le_of_ble_eq_true rfl) ⟨Nat.le_of_ble_eq_true rfl, Nat.le_of_ble_eq_true rfl⟩ ⟨Nat.le_of_ble_eq_true rfl, Nat.le_of_ble_eq_true rfl⟩ (r_callsThat hM (hIa.1.2.2.2.2.2.1.2) (r32 (by decide) (by decide))) x_d (k_d1 ?_)
      refine j_iload_n 66 1 dX10_pass_65 rfl rfl ?_
      refine j_isub 67 dX10_pass_66 rfl ?_
      have hdn : da = tk d n := by rw [hda, show k = n by omega]
      exact j_iret dX10_pass_67 rfl (⟨_, rfl, rfl, by rw [hdn], by rw [hdn]; exact hRM.out⟩)
    · refine j_aload_n 50 2 dX10_pass_49 rfl rfl ?_
      refine j_callV 53 (As := []) (kc2 := 0) (ks2 := 0) dX10_pass_50 rfl mvX10_passTick lk_X10_294 hM.md rfl ⟨Nat.le_of_ble_eq_true rfl, rfl⟩ rfl rfl (Nat.le_of_ble_eq_true rfl) ⟨Nat.le_of_ble_eq_true rfl, Nat.le_of_ble_eq_true rfl⟩ ⟨Nat.le_of_ble_eq_true rfl, Nat.le_of_ble_eq_true rfl⟩ (r_passTick hM hIa) x_d (k_d0 ?_)
      refine j_iinc 56 0 (y := ((k + 1 : Nat) : Int)) (L2 := [(3, .int (i32 (((k + 1 : Nat) : Int)))), (2, .int (i32 ((s_cnt d 6 : Int)))), (0, .ref (m)), (1, .int (i32 ((n : Int))))]) dX10_pass_53 rfl rfl (by omega) (Nat.le_of_ble_eq_true rfl) rfl ?_
      refine j_goto 44 dX10_pass_56 rfl ?_
      exact ih_44 (k + 1) (s_tick da) (by omega) (by omega) (by rw [hda]; rfl)

set_option maxRecDepth 20000 in
theorem r_passI {w : Wd} {sh : Shp} {g : Mem} {d : Nat → Int} {m : Nat} (hM : MdS sh.1 m) (hP : PI d) {n : Int} (hn : R32 n) (hb9 : n < 1 ∨ 300 < n) : CT w mX10_pass [.ref (m), .int (i32 (n))] sh (upR g (m + 2) d) (dQ (some (.int (i32 (0)))) sh (upR (up2 (up2 g m 0 0) m 0 1) (m + 2) d)) := by
  have hI := hP.1
  have hb := hI.1
  have hb0 := hb.1
  have hb1 := hb.2.1
  have hb2 := hb.2.2.1
  have hb3 := hb.2.2.2.1
  have hb4 := hb.2.2.2.2.1
  have hb5 := hb.2.2.2.2.2.1
  refine j_entry (by decide) rfl (Nat.le_of_ble_eq_true rfl) (fun h => by cases h) rfl ?_
  show J w mX10_pass 0 [(0, .ref (m)), (1, .int (i32 (n)))] [] sh (upR g (m + 2) d) 0 0 _
  refine j_aload_n 1 0 dX10_pass_0 rfl rfl ?_
  refine j_iconst 2 dX10_pass_1 rfl ?_
  refine j_puti 5 dX10_pass_2 rfl fl_X10_35 hM.md rfl rfl rfl (r32 (by decide) (by decide)) ?_
  refine j_mem (up2_upR_n (by omega)) ?_
  refine j_aload_n 6 0 dX10_pass_5 rfl rfl ?_
  refine j_iload_n 7 1 dX10_pass_6 rfl rfl ?_
  refine j_iconst 8 dX10_pass_7 rfl ?_
  refine j_sipush 11 dX10_pass_8 rfl (by decide) ?_
  refine j_callS 14 (As := [.int (i32 (n)), .int (i32 (1)), .int (i32 (300))]) (kc2 := 0) (ks2 := 0) dX10_pass_11 rfl msX10_in lk_X10_57 rfl rfl (Nat.le_of_ble_eq_true rfl) ⟨Nat.le_of_ble_eq_true rfl, Nat.le_of_ble_eq_true rfl⟩ ⟨Nat.le_of_ble_eq_true rfl, Nat.le_of_ble_eq_true rfl⟩ (r_in hn (r32 (by decide) (by decide)) (r32 (by decide) (by decide))) x_d (k_d1 ?_)
  refine j_if_ne 17 21 dX10_pass_14 rfl rfl (r01 (b01_r _)) (fun c_14 => absurd c_14 (by rw [decide_eq_false (show ¬ (1 ≤ n ∧ n ≤ 300) by omega)]; decide)) (fun c_14 => ?_)
  refine j_iconst 18 dX10_pass_17 rfl ?_
  refine j_goto 22 dX10_pass_18 rfl ?_
  refine j_iconst 23 dX10_pass_22 rfl ?_
  refine j_callV 26 (As := [.int (i32 (1)), .int (i32 (1))]) (kc2 := 0) (ks2 := 0) dX10_pass_23 rfl mvX10_fails lk_X10_176 hM.md rfl ⟨Nat.le_of_ble_eq_true rfl, rfl⟩ rfl rfl (Nat.le_of_ble_eq_true rfl) ⟨Nat.le_of_ble_eq_true rfl, Nat.le_of_ble_eq_true rfl⟩ ⟨Nat.le_of_ble_eq_true rfl, Nat.le_of_ble_eq_true rfl⟩ (r_fails1 hM 1 (by decide) (by decide) (by decide) up2_s) x_d (k_d1 ?_)
  refine j_if_eq 29 31 dX10_pass_26 rfl rfl (r32 (by decide) (by decide)) (fun c_26 => absurd c_26 (by decide)) (fun c_26 => ?_)
  refine j_iconst 30 dX10_pass_29 rfl ?_
  exact j_iret dX10_pass_30 rfl (⟨rfl, rfl, rfl⟩)

set_option maxRecDepth 20000 in
theorem r_rule19 {w : Wd} {sh : Shp} {g : Mem} {d : Nat → Int} {m : Nat} (hM : MdS sh.1 m) (hP : PI d) {c9 : Nat} {hist : Nat → (Nat → Int)} (hH : HR g m hist c9) {v1 : Int} (hv1 : 1 ≤ v1) (hv2 : v1 ≤ most 19) : CT w mX10_rule [.ref (m), .int (i32 (19)), .int (i32 (v1))] sh (upR g (m + 2) d) (iQ sh (fun z g2 => z = d 19 ∧ g2 (m + 2) = ud d 19 v1 ∧ HR g2 m (push d hist) (if c9 < 8 then c9 + 1 else 8) ∧ (∀ a, a ≠ m → a ≠ m + 2 → (a < m + 6 ∨ m + 14 ≤ a) → g2 a = g a) ∧ (∀ j, j ≠ 0 → j ≠ 12 → g2 m j = g m j) ∧ g2 m 0 = 0)) := by
  have hI := hP.1
  have hb := hI.1
  have hb0 := hb.1
  have hb1 := hb.2.1
  have hb2 := hb.2.2.1
  have hb3 := hb.2.2.2.1
  have hb4 := hb.2.2.2.2.1
  have hb5 := hb.2.2.2.2.2.1
  refine j_entry (by decide) rfl (Nat.le_of_ble_eq_true rfl) (fun h => by cases h) rfl ?_
  show J w mX10_rule 0 [(0, .ref (m)), (1, .int (i32 (19))), (2, .int (i32 (v1)))] [] sh (upR g (m + 2) d) 0 0 _
  refine j_aload_n 1 0 dX10_rule_0 rfl rfl ?_
  refine j_iconst 2 dX10_rule_1 rfl ?_
  refine j_puti 5 dX10_rule_2 rfl fl_X10_35 hM.md rfl rfl rfl (r32 (by decide) (by decide)) ?_
  refine j_mem (up2_upR_n (by omega)) ?_
  refine j_aload_n 6 0 dX10_rule_5 rfl rfl ?_
  refine j_iload_n 7 1 dX10_rule_6 rfl rfl ?_
  refine j_bipush 9 dX10_rule_7 rfl (by decide) ?_
  refine j_bipush 11 dX10_rule_9 rfl (by decide) ?_
  refine j_callS 14 (As := [.int (i32 (19)), .int (i32 (19)), .int (i32 (21))]) (kc2 := 0) (ks2 := 0) dX10_rule_11 rfl msX10_in lk_X10_57 rfl rfl (Nat.le_of_ble_eq_true rfl) ⟨Nat.le_of_ble_eq_true rfl, Nat.le_of_ble_eq_true rfl⟩ ⟨Nat.le_of_ble_eq_true rfl, Nat.le_of_ble_eq_true rfl⟩ (r_in (r32 (by decide) (by decide)) (r32 (by decide) (by decide)) (r32 (by decide) (by decide))) x_d (k_d1 ?_)
  refine j_if_eq 17 49 dX10_rule_14 rfl rfl (r01 (b01_r _)) (fun c_14 => absurd c_14 (by decide)) (fun c_14 => ?_)
  refine j_iload_n 18 2 dX10_rule_17 rfl rfl ?_
  refine j_iconst 19 dX10_rule_18 rfl ?_
  refine j_iload_n 20 1 dX10_rule_19 rfl rfl ?_
  refine j_bipush 22 dX10_rule_20 rfl (by decide) ?_
  refine j_icmp_ne 25 30 dX10_rule_22 rfl rfl (r32 (by decide) (by decide)) (r32 (by decide) (by decide)) (fun c_22 => absurd c_22 (by decide)) (fun c_22 => ?_)
  refine j_bipush 27 dX10_rule_25 rfl (by decide) ?_
  refine j_goto 43 dX10_rule_27 rfl ?_
  refine j_callS 46 (As := [.int (i32 (v1)), .int (i32 (1)), .int (i32 (40))]) (kc2 := 0) (ks2 := 0) dX10_rule_43 rfl msX10_in lk_X10_57 rfl rfl (Nat.le_of_ble_eq_true rfl) ⟨Nat.le_of_ble_eq_true rfl, Nat.le_of_ble_eq_true rfl⟩ ⟨Nat.le_of_ble_eq_true rfl, Nat.le_of_ble_eq_true rfl⟩ (r_in (by have := most_r 19; exact ⟨by omega, by omega⟩) (r32 (by decide) (by decide)) (r32 (by decide) (by decide))) x_d (k_d1 ?_)
  refine j_if_ne 49 53 dX10_rule_46 rfl rfl (r01 (b01_r _)) (fun c_46 => ?_) (fun c_46 => absurd c_46 (by rw [decide_eq_true (show 1 ≤ v1 ∧ v1 ≤ 40 from ⟨hv1, hv2⟩)]; decide))
  refine j_iconst 54 dX10_rule_53 rfl ?_
  refine j_iconst 55 dX10_rule_54 rfl ?_
  refine j_callV 58 (As := [.int (i32 (0)), .int (i32 (1))]) (kc2 := 0) (ks2 := 0) dX10_rule_55 rfl mvX10_fails lk_X10_176 hM.md rfl ⟨Nat.le_of_ble_eq_true rfl, rfl⟩ rfl rfl (Nat.le_of_ble_eq_true rfl) ⟨Nat.le_of_ble_eq_true rfl, Nat.le_of_ble_eq_true rfl⟩ ⟨Nat.le_of_ble_eq_true rfl, Nat.le_of_ble_eq_true rfl⟩ (r_fails0 hM 1 up2_s) x_d (k_d1 ?_)
  refine j_if_eq 61 63 dX10_rule_58 rfl rfl (r32 (by decide) (by decide)) (fun c_58 => ?_) (fun c_58 => absurd c_58 (by decide))
  refine j_aload_n 64 0 dX10_rule_63 rfl rfl ?_
  refine j_callV 67 (As := []) (kc2 := 0) (ks2 := 0) dX10_rule_64 rfl mvX10_remember lk_X10_185 hM.md rfl ⟨Nat.le_of_ble_eq_true rfl, rfl⟩ rfl rfl (Nat.le_of_ble_eq_true rfl) ⟨Nat.le_of_ble_eq_true rfl, Nat.le_of_ble_eq_true rfl⟩ ⟨Nat.le_of_ble_eq_true rfl, Nat.le_of_ble_eq_true rfl⟩ (r_remember hM hH.thr) x_v (k_v fun g_64 h_64 => ?_)
  have hRM : RM g g_64 m d hist c9 := rem_RM h_64
  refine j_mem (upR_id2 hRM.2.1).symm ?_
  refine j_aload_n 68 0 dX10_rule_67 rfl rfl ?_
  refine j_getr 71 dX10_rule_68 rfl fl_X10_17 hM.md rfl (fun _ _ => rfl) rfl ?_
  refine j_iload_n 72 1 dX10_rule_71 rfl rfl ?_
  refine j_iald_d 73 19 dX10_rule_72 rfl hM.dat rfl rfl (show 19 < 729 by decide) (fun r_72 => ?_)
  refine j_istore_n 74 (L2 := [(3, .int (i32 (d (19)))), (0, .ref (m)), (1, .int (i32 (19))), (2, .int (i32 (v1)))]) dX10_rule_73 rfl rfl (Nat.le_of_ble_eq_true rfl) rfl ?_
  refine j_aload_n 75 1 dX10_rule_74 rfl rfl ?_
  refine j_getr 78 dX10_rule_75 rfl fl_X10_17 hM.md rfl (fun _ _ => rfl) rfl ?_
  refine j_iload_n 79 2 dX10_rule_78 rfl rfl ?_
  refine j_iload_n 80 3 dX10_rule_79 rfl rfl ?_
  refine j_iast_d 81 19 dX10_rule_80 rfl hM.dat rfl rfl (show 19 < 729 by decide) (by have := most_r 19; exact ⟨by omega, by omega⟩) ?_
  refine j_iload_n 82 0 dX10_rule_81 rfl rfl ?_
  exact j_iret dX10_rule_82 rfl (⟨_, rfl, rfl, rfl, hRM.out⟩)

set_option maxRecDepth 20000 in
theorem r_rule20 {w : Wd} {sh : Shp} {g : Mem} {d : Nat → Int} {m : Nat} (hM : MdS sh.1 m) (hP : PI d) {c9 : Nat} {hist : Nat → (Nat → Int)} (hH : HR g m hist c9) {v1 : Int} (hv1 : 1 ≤ v1) (hv2 : v1 ≤ most 20) : CT w mX10_rule [.ref (m), .int (i32 (20)), .int (i32 (v1))] sh (upR g (m + 2) d) (iQ sh (fun z g2 => z = d 20 ∧ g2 (m + 2) = ud d 20 v1 ∧ HR g2 m (push d hist) (if c9 < 8 then c9 + 1 else 8) ∧ (∀ a, a ≠ m → a ≠ m + 2 → (a < m + 6 ∨ m + 14 ≤ a) → g2 a = g a) ∧ (∀ j, j ≠ 0 → j ≠ 12 → g2 m j = g m j) ∧ g2 m 0 = 0)) := by
  have hI := hP.1
  have hb := hI.1
  have hb0 := hb.1
  have hb1 := hb.2.1
  have hb2 := hb.2.2.1
  have hb3 := hb.2.2.2.1
  have hb4 := hb.2.2.2.2.1
  have hb5 := hb.2.2.2.2.2.1
  refine j_entry (by decide) rfl (Nat.le_of_ble_eq_true rfl) (fun h => by cases h) rfl ?_
  show J w mX10_rule 0 [(0, .ref (m)), (1, .int (i32 (20))), (2, .int (i32 (v1)))] [] sh (upR g (m + 2) d) 0 0 _
  refine j_aload_n 1 0 dX10_rule_0 rfl rfl ?_
  refine j_iconst 2 dX10_rule_1 rfl ?_
  refine j_puti 5 dX10_rule_2 rfl fl_X10_35 hM.md rfl rfl rfl (r32 (by decide) (by decide)) ?_
  refine j_mem (up2_upR_n (by omega)) ?_
  refine j_aload_n 6 0 dX10_rule_5 rfl rfl ?_
  refine j_iload_n 7 1 dX10_rule_6 rfl rfl ?_
  refine j_bipush 9 dX10_rule_7 rfl (by decide) ?_
  refine j_bipush 11 dX10_rule_9 rfl (by decide) ?_
  refine j_callS 14 (As := [.int (i32 (20)), .int (i32 (19)), .int (i32 (21))]) (kc2 := 0) (ks2 := 0) dX10_rule_11 rfl msX10_in lk_X10_57 rfl rfl (Nat.le_of_ble_eq_true rfl) ⟨Nat.le_of_ble_eq_true rfl, Nat.le_of_ble_eq_true rfl⟩ ⟨Nat.le_of_ble_eq_true rfl, Nat.le_of_ble_eq_true rfl⟩ (r_in (r32 (by decide) (by decide)) (r32 (by decide) (by decide)) (r32 (by decide) (by decide))) x_d (k_d1 ?_)
  refine j_if_eq 17 49 dX10_rule_14 rfl rfl (r01 (b01_r _)) (fun c_14 => absurd c_14 (by decide)) (fun c_14 => ?_)
  refine j_iload_n 18 2 dX10_rule_17 rfl rfl ?_
  refine j_iconst 19 dX10_rule_18 rfl ?_
  refine j_iload_n 20 1 dX10_rule_19 rfl rfl ?_
  refine j_bipush 22 dX10_rule_20 rfl (by decide) ?_
  refine j_icmp_ne 25 30 dX10_rule_22 rfl rfl (r32 (by decide) (by decide)) (r32 (by decide) (by decide)) (fun c_22 => ?_) (fun c_22 => absurd c_22 (by decide))
  refine j_iload_n 31 1 dX10_rule_30 rfl rfl ?_
  refine j_bipush 33 dX10_rule_31 rfl (by decide) ?_
  refine j_icmp_ne 36 41 dX10_rule_33 rfl rfl (r32 (by decide) (by decide)) (r32 (by decide) (by decide)) (fun c_33 => absurd c_33 (by decide)) (fun c_33 => ?_)
  refine j_bipush 38 dX10_rule_36 rfl (by decide) ?_
  refine j_goto 43 dX10_rule_38 rfl ?_
  refine j_callS 46 (As := [.int (i32 (v1)), .int (i32 (1)), .int (i32 (20))]) (kc2 := 0) (ks2 := 0) dX10_rule_43 rfl msX10_in lk_X10_57 rfl rfl (Nat.le_of_ble_eq_true rfl) ⟨Nat.le_of_ble_eq_true rfl, Nat.le_of_ble_eq_true rfl⟩ ⟨Nat.le_of_ble_eq_true rfl, Nat.le_of_ble_eq_true rfl⟩ (r_in (by have := most_r 20; exact ⟨by omega, by omega⟩) (r32 (by decide) (by decide)) (r32 (by decide) (by decide))) x_d (k_d1 ?_)
  refine j_if_ne 49 53 dX10_rule_46 rfl rfl (r01 (b01_r _)) (fun c_46 => ?_) (fun c_46 => absurd c_46 (by rw [decide_eq_true (show 1 ≤ v1 ∧ v1 ≤ 20 from ⟨hv1, hv2⟩)]; decide))
  refine j_iconst 54 dX10_rule_53 rfl ?_
  refine j_iconst 55 dX10_rule_54 rfl ?_
  refine j_callV 58 (As := [.int (i32 (0)), .int (i32 (1))]) (kc2 := 0) (ks2 := 0) dX10_rule_55 rfl mvX10_fails lk_X10_176 hM.md rfl ⟨Nat.le_of_ble_eq_true rfl, rfl⟩ rfl rfl (Nat.le_of_ble_eq_true rfl) ⟨Nat.le_of_ble_eq_true rfl, Nat.le_of_ble_eq_true rfl⟩ ⟨Nat.le_of_ble_eq_true rfl, Nat.le_of_ble_eq_true rfl⟩ (r_fails0 hM 1 up2_s) x_d (k_d1 ?_)
  refine j_if_eq 61 63 dX10_rule_58 rfl rfl (r32 (by decide) (by decide)) (fun c_58 => ?_) (fun c_58 => absurd c_58 (by decide))
  refine j_aload_n 64 0 dX10_rule_63 rfl rfl ?_
  refine j_callV 67 (As := []) (kc2 := 0) (ks2 := 0) dX10_rule_64 rfl mvX10_remember lk_X10_185 hM.md rfl ⟨Nat.le_of_ble_eq_true rfl, rfl⟩ rfl rfl (Nat.le_of_ble_eq_true rfl) ⟨Nat.le_of_ble_eq_true rfl, Nat.le_of_ble_eq_true rfl⟩ ⟨Nat.le_of_ble_eq_true rfl, Nat.le_of_ble_eq_true rfl⟩ (r_remember hM hH.thr) x_v (k_v fun g_64 h_64 => ?_)
  have hRM : RM g g_64 m d hist c9 := rem_RM h_64
  refine j_mem (upR_id2 hRM.2.1).symm ?_
  refine j_aload_n 68 0 dX10_rule_67 rfl rfl ?_
  refine j_getr 71 dX10_rule_68 rfl fl_X10_17 hM.md rfl (fun _ _ => rfl) rfl ?_
  refine j_iload_n 72 1 dX10_rule_71 rfl rfl ?_
  refine j_iald_d 73 20 dX10_rule_72 rfl hM.dat rfl rfl (show 20 < 729 by decide) (fun r_72 => ?_)
  refine j_istore_n 74 (L2 := [(3, .int (i32 (d (20)))), (0, .ref (m)), (1, .int (i32 (20))), (2, .int (i32 (v1)))]) dX10_rule_73 rfl rfl (Nat.le_of_ble_eq_true rfl) rfl ?_
  refine j_aload_n 75 1 dX10_rule_74 rfl rfl ?_
  refine j_getr 78 dX10_rule_75 rfl fl_X10_17 hM.md rfl (fun _ _ => rfl) rfl ?_
  refine j_iload_n 79 2 dX10_rule_78 rfl rfl ?_
  refine j_iload_n 80 3 dX10_rule_79 rfl rfl ?_
  refine j_iast_d 81 20 dX10_rule_80 rfl hM.dat rfl rfl (show 20 < 729 by decide) (by have := most_r 20; exact ⟨by omega, by omega⟩) ?_
  refine j_iload_n 82 0 dX10_rule_81 rfl rfl ?_
  exact j_iret dX10_rule_82 rfl (⟨_, rfl, rfl, rfl, hRM.out⟩)

set_option maxRecDepth 20000 in
theorem r_rule21 {w : Wd} {sh : Shp} {g : Mem} {d : Nat → Int} {m : Nat} (hM : MdS sh.1 m) (hP : PI d) {c9 : Nat} {hist : Nat → (Nat → Int)} (hH : HR g m hist c9) {v1 : Int} (hv1 : 1 ≤ v1) (hv2 : v1 ≤ most 21) : CT w mX10_rule [.ref (m), .int (i32 (21)), .int (i32 (v1))] sh (upR g (m + 2) d) (iQ sh (fun z g2 => z = d 21 ∧ g2 (m + 2) = ud d 21 v1 ∧ HR g2 m (push d hist) (if c9 < 8 then c9 + 1 else 8) ∧ (∀ a, a ≠ m → a ≠ m + 2 → (a < m + 6 ∨ m + 14 ≤ a) → g2 a = g a) ∧ (∀ j, j ≠ 0 → j ≠ 12 → g2 m j = g m j) ∧ g2 m 0 = 0)) := by
  have hI := hP.1
  have hb := hI.1
  have hb0 := hb.1
  have hb1 := hb.2.1
  have hb2 := hb.2.2.1
  have hb3 := hb.2.2.2.1
  have hb4 := hb.2.2.2.2.1
  have hb5 := hb.2.2.2.2.2.1
  refine j_entry (by decide) rfl (Nat.le_of_ble_eq_true rfl) (fun h => by cases h) rfl ?_
  show J w mX10_rule 0 [(0, .ref (m)), (1, .int (i32 (21))), (2, .int (i32 (v1)))] [] sh (upR g (m + 2) d) 0 0 _
  refine j_aload_n 1 0 dX10_rule_0 rfl rfl ?_
  refine j_iconst 2 dX10_rule_1 rfl ?_
  refine j_puti 5 dX10_rule_2 rfl fl_X10_35 hM.md rfl rfl rfl (r32 (by decide) (by decide)) ?_
  refine j_mem (up2_upR_n (by omega)) ?_
  refine j_aload_n 6 0 dX10_rule_5 rfl rfl ?_
  refine j_iload_n 7 1 dX10_rule_6 rfl rfl ?_
  refine j_bipush 9 dX10_rule_7 rfl (by decide) ?_
  refine j_bipush 11 dX10_rule_9 rfl (by decide) ?_
  refine j_callS 14 (As := [.int (i32 (21)), .int (i32 (19)), .int (i32 (21))]) (kc2 := 0) (ks2 := 0) dX10_rule_11 rfl msX10_in lk_X10_57 rfl rfl (Nat.le_of_ble_eq_true rfl) ⟨Nat.le_of_ble_eq_true rfl, Nat.le_of_ble_eq_true rfl⟩ ⟨Nat.le_of_ble_eq_true rfl, Nat.le_of_ble_eq_true rfl⟩ (r_in (r32 (by decide) (by decide)) (r32 (by decide) (by decide)) (r32 (by decide) (by decide))) x_d (k_d1 ?_)
  refine j_if_eq 17 49 dX10_rule_14 rfl rfl (r01 (b01_r _)) (fun c_14 => absurd c_14 (by decide)) (fun c_14 => ?_)
  refine j_iload_n 18 2 dX10_rule_17 rfl rfl ?_
  refine j_iconst 19 dX10_rule_18 rfl ?_
  refine j_iload_n 20 1 dX10_rule_19 rfl rfl ?_
  refine j_bipush 22 dX10_rule_20 rfl (by decide) ?_
  refine j_icmp_ne 25 30 dX10_rule_22 rfl rfl (r32 (by decide) (by decide)) (r32 (by decide) (by decide)) (fun c_22 => ?_) (fun c_22 => absurd c_22 (by decide))
  refine j_iload_n 31 1 dX10_rule_30 rfl rfl ?_
  refine j_bipush 33 dX10_rule_31 rfl (by decide) ?_
  refine j_icmp_ne 36 41 dX10_rule_33 rfl rfl (r32 (by decide) (by decide)) (r32 (by decide) (by decide)) (fun c_33 => ?_) (fun c_33 => absurd c_33 (by decide))
  refine j_bipush 43 dX10_rule_41 rfl (by decide) ?_
  refine j_callS 46 (As := [.int (i32 (v1)), .int (i32 (1)), .int (i32 (9))]) (kc2 := 0) (ks2 := 0) dX10_rule_43 rfl msX10_in lk_X10_57 rfl rfl (Nat.le_of_ble_eq_true rfl) ⟨Nat.le_of_ble_eq_true rfl, Nat.le_of_ble_eq_true rfl⟩ ⟨Nat.le_of_ble_eq_true rfl, Nat.le_of_ble_eq_true rfl⟩ (r_in (by have := most_r 21; exact ⟨by omega, by omega⟩) (r32 (by decide) (by decide)) (r32 (by decide) (by decide))) x_d (k_d1 ?_)
  refine j_if_ne 49 53 dX10_rule_46 rfl rfl (r01 (b01_r _)) (fun c_46 => ?_) (fun c_46 => absurd c_46 (by rw [decide_eq_true (show 1 ≤ v1 ∧ v1 ≤ 9 from ⟨hv1, hv2⟩)]; decide))
  refine j_iconst 54 dX10_rule_53 rfl ?_
  refine j_iconst 55 dX10_rule_54 rfl ?_
  refine j_callV 58 (As := [.int (i32 (0)), .int (i32 (1))]) (kc2 := 0) (ks2 := 0) dX10_rule_55 rfl mvX10_fails lk_X10_176 hM.md rfl ⟨Nat.le_of_ble_eq_true rfl, rfl⟩ rfl rfl (Nat.le_of_ble_eq_true rfl) ⟨Nat.le_of_ble_eq_true rfl, Nat.le_of_ble_eq_true rfl⟩ ⟨Nat.le_of_ble_eq_true rfl, Nat.le_of_ble_eq_true rfl⟩ (r_fails0 hM 1 up2_s) x_d (k_d1 ?_)
  refine j_if_eq 61 63 dX10_rule_58 rfl rfl (r32 (by decide) (by decide)) (fun c_58 => ?_) (fun c_58 => absurd c_58 (by decide))
  refine j_aload_n 64 0 dX10_rule_63 rfl rfl ?_
  refine j_callV 67 (As := []) (kc2 := 0) (ks2 := 0) dX10_rule_64 rfl mvX10_remember lk_X10_185 hM.md rfl ⟨Nat.le_of_ble_eq_true rfl, rfl⟩ rfl rfl (Nat.le_of_ble_eq_true rfl) ⟨Nat.le_of_ble_eq_true rfl, Nat.le_of_ble_eq_true rfl⟩ ⟨Nat.le_of_ble_eq_true rfl, Nat.le_of_ble_eq_true rfl⟩ (r_remember hM hH.thr) x_v (k_v fun g_64 h_64 => ?_)
  have hRM : RM g g_64 m d hist c9 := rem_RM h_64
  refine j_mem (upR_id2 hRM.2.1).symm ?_
  refine j_aload_n 68 0 dX10_rule_67 rfl rfl ?_
  refine j_getr 71 dX10_rule_68 rfl fl_X10_17 hM.md rfl (fun _ _ => rfl) rfl ?_
  refine j_iload_n 72 1 dX10_rule_71 rfl rfl ?_
  refine j_iald_d 73 21 dX10_rule_72 rfl hM.dat rfl rfl (show 21 < 729 by decide) (fun r_72 => ?_)
  refine j_istore_n 74 (L2 := [(3, .int (i32 (d (21)))), (0, .ref (m)), (1, .int (i32 (21))), (2, .int (i32 (v1)))]) dX10_rule_73 rfl rfl (Nat.le_of_ble_eq_true rfl) rfl ?_
  refine j_aload_n 75 1 dX10_rule_74 rfl rfl ?_
  refine j_getr 78 dX10_rule_75 rfl fl_X10_17 hM.md rfl (fun _ _ => rfl) rfl ?_
  refine j_iload_n 79 2 dX10_rule_78 rfl rfl ?_
  refine j_iload_n 80 3 dX10_rule_79 rfl rfl ?_
  refine j_iast_d 81 21 dX10_rule_80 rfl hM.dat rfl rfl (show 21 < 729 by decide) (by have := most_r 21; exact ⟨by omega, by omega⟩) ?_
  refine j_iload_n 82 0 dX10_rule_81 rfl rfl ?_
  exact j_iret dX10_rule_82 rfl (⟨_, rfl, rfl, rfl, hRM.out⟩)

set_option maxRecDepth 20000 in
theorem r_ruleI {w : Wd} {sh : Shp} {g : Mem} {d : Nat → Int} {m : Nat} (hM : MdS sh.1 m) (hP : PI d) {q v1 : Int} (hq : R32 q) (hv1 : R32 v1) (hb9 : v1 < 1 ∨ most q < v1) : CT w mX10_rule [.ref (m), .int (i32 (q)), .int (i32 (v1))] sh (upR g (m + 2) d) (dQ (some (.int (i32 (0)))) sh (upR (up2 (up2 g m 0 0) m 0 1) (m + 2) d)) := by
  have hI := hP.1
  have hb := hI.1
  have hb0 := hb.1
  have hb1 := hb.2.1
  have hb2 := hb.2.2.1
  have hb3 := hb.2.2.2.1
  have hb4 := hb.2.2.2.2.1
  have hb5 := hb.2.2.2.2.2.1
  refine j_entry (by decide) rfl (Nat.le_of_ble_eq_true rfl) (fun h => by cases h) rfl ?_
  show J w mX10_rule 0 [(0, .ref (m)), (1, .int (i32 (q))), (2, .int (i32 (v1)))] [] sh (upR g (m + 2) d) 0 0 _
  refine j_aload_n 1 0 dX10_rule_0 rfl rfl ?_
  refine j_iconst 2 dX10_rule_1 rfl ?_
  refine j_puti 5 dX10_rule_2 rfl fl_X10_35 hM.md rfl rfl rfl (r32 (by decide) (by decide)) ?_
  refine j_mem (up2_upR_n (by omega)) ?_
  refine j_aload_n 6 0 dX10_rule_5 rfl rfl ?_
  refine j_iload_n 7 1 dX10_rule_6 rfl rfl ?_
  refine j_bipush 9 dX10_rule_7 rfl (by decide) ?_
  refine j_bipush 11 dX10_rule_9 rfl (by decide) ?_
  refine j_callS 14 (As := [.int (i32 (q)), .int (i32 (19)), .int (i32 (21))]) (kc2 := 0) (ks2 := 0) dX10_rule_11 rfl msX10_in lk_X10_57 rfl rfl (Nat.le_of_ble_eq_true rfl) ⟨Nat.le_of_ble_eq_true rfl, Nat.le_of_ble_eq_true rfl⟩ ⟨Nat.le_of_ble_eq_true rfl, Nat.le_of_ble_eq_true rfl⟩ (r_in hq (r32 (by decide) (by decide)) (r32 (by decide) (by decide))) x_d (k_d1 ?_)
  refine j_if_eq 17 49 dX10_rule_14 rfl rfl (r01 (b01_r _)) (fun c_14 => ?_) (fun c_14 => ?_)
  · refine j_iconst 50 dX10_rule_49 rfl ?_
    refine j_goto 54 dX10_rule_50 rfl ?_
    refine j_iconst 55 dX10_rule_54 rfl ?_
    refine j_callV 58 (As := [.int (i32 (1)), .int (i32 (1))]) (kc2 := 0) (ks2 := 0) dX10_rule_55 rfl mvX10_fails lk_X10_176 hM.md rfl ⟨Nat.le_of_ble_eq_true rfl, rfl⟩ rfl rfl (Nat.le_of_ble_eq_true rfl) ⟨Nat.le_of_ble_eq_true rfl, Nat.le_of_ble_eq_true rfl⟩ ⟨Nat.le_of_ble_eq_true rfl, Nat.le_of_ble_eq_true rfl⟩ (r_fails1 hM 1 (by decide) (by decide) (by decide) up2_s) x_d (k_d1 ?_)
    refine j_if_eq 61 63 dX10_rule_58 rfl rfl (r32 (by decide) (by decide)) (fun c_58 => absurd c_58 (by decide)) (fun c_58 => ?_)
    refine j_iconst 62 dX10_rule_61 rfl ?_
    exact j_iret dX10_rule_62 rfl (⟨rfl, rfl, rfl⟩)
  · have h14 := of_decide_eq_true (b01_1 c_14)
    refine j_iload_n 18 2 dX10_rule_17 rfl rfl ?_
    refine j_iconst 19 dX10_rule_18 rfl ?_
    refine j_iload_n 20 1 dX10_rule_19 rfl rfl ?_
    refine j_bipush 22 dX10_rule_20 rfl (by decide) ?_
    refine j_icmp_ne 25 30 dX10_rule_22 rfl rfl hq (r32 (by decide) (by decide)) (fun c_22 => ?_) (fun c_22 => ?_)
    · refine j_iload_n 31 1 dX10_rule_30 rfl rfl ?_
      refine j_bipush 33 dX10_rule_31 rfl (by decide) ?_
      refine j_icmp_ne 36 41 dX10_rule_33 rfl rfl hq (r32 (by decide) (by decide)) (fun c_33 => ?_) (fun c_33 => ?_)
      · refine j_bipush 43 dX10_rule_41 rfl (by decide) ?_
        refine j_callS 46 (As := [.int (i32 (v1)), .int (i32 (1)), .int (i32 (9))]) (kc2 := 0) (ks2 := 0) dX10_rule_43 rfl msX10_in lk_X10_57 rfl rfl (Nat.le_of_ble_eq_true rfl) ⟨Nat.le_of_ble_eq_true rfl, Nat.le_of_ble_eq_true rfl⟩ ⟨Nat.le_of_ble_eq_true rfl, Nat.le_of_ble_eq_true rfl⟩ (r_in hv1 (r32 (by decide) (by decide)) (r32 (by decide) (by decide))) x_d (k_d1 ?_)
        refine j_if_ne 49 53 dX10_rule_46 rfl rfl (r01 (b01_r _)) (fun c_46 => absurd c_46 (by rw [decide_eq_false (by unfold most at hb9; omega)]; decide)) (fun c_46 => ?_)
        refine j_iconst 50 dX10_rule_49 rfl ?_
        refine j_goto 54 dX10_rule_50 rfl ?_
        refine j_iconst 55 dX10_rule_54 rfl ?_
        refine j_callV 58 (As := [.int (i32 (1)), .int (i32 (1))]) (kc2 := 0) (ks2 := 0) dX10_rule_55 rfl mvX10_fails lk_X10_176 hM.md rfl ⟨Nat.le_of_ble_eq_true rfl, rfl⟩ rfl rfl (Nat.le_of_ble_eq_true rfl) ⟨Nat.le_of_ble_eq_true rfl, Nat.le_of_ble_eq_true rfl⟩ ⟨Nat.le_of_ble_eq_true rfl, Nat.le_of_ble_eq_true rfl⟩ (r_fails1 hM 1 (by decide) (by decide) (by decide) up2_s) x_d (k_d1 ?_)
        refine j_if_eq 61 63 dX10_rule_58 rfl rfl (r32 (by decide) (by decide)) (fun c_58 => absurd c_58 (by decide)) (fun c_58 => ?_)
        refine j_iconst 62 dX10_rule_61 rfl ?_
        exact j_iret dX10_rule_62 rfl (⟨rfl, rfl, rfl⟩)
      · refine j_bipush 38 dX10_rule_36 rfl (by decide) ?_
        refine j_goto 43 dX10_rule_38 rfl ?_
        refine j_callS 46 (As := [.int (i32 (v1)), .int (i32 (1)), .int (i32 (20))]) (kc2 := 0) (ks2 := 0) dX10_rule_43 rfl msX10_in lk_X10_57 rfl rfl (Nat.le_of_ble_eq_true rfl) ⟨Nat.le_of_ble_eq_true rfl, Nat.le_of_ble_eq_true rfl⟩ ⟨Nat.le_of_ble_eq_true rfl, Nat.le_of_ble_eq_true rfl⟩ (r_in hv1 (r32 (by decide) (by decide)) (r32 (by decide) (by decide))) x_d (k_d1 ?_)
        refine j_if_ne 49 53 dX10_rule_46 rfl rfl (r01 (b01_r _)) (fun c_46 => absurd c_46 (by rw [decide_eq_false (by unfold most at hb9; omega)]; decide)) (fun c_46 => ?_)
        refine j_iconst 50 dX10_rule_49 rfl ?_
        refine j_goto 54 dX10_rule_50 rfl ?_
        refine j_iconst 55 dX10_rule_54 rfl ?_
        refine j_callV 58 (As := [.int (i32 (1)), .int (i32 (1))]) (kc2 := 0) (ks2 := 0) dX10_rule_55 rfl mvX10_fails lk_X10_176 hM.md rfl ⟨Nat.le_of_ble_eq_true rfl, rfl⟩ rfl rfl (Nat.le_of_ble_eq_true rfl) ⟨Nat.le_of_ble_eq_true rfl, Nat.le_of_ble_eq_true rfl⟩ ⟨Nat.le_of_ble_eq_true rfl, Nat.le_of_ble_eq_true rfl⟩ (r_fails1 hM 1 (by decide) (by decide) (by decide) up2_s) x_d (k_d1 ?_)
        refine j_if_eq 61 63 dX10_rule_58 rfl rfl (r32 (by decide) (by decide)) (fun c_58 => absurd c_58 (by decide)) (fun c_58 => ?_)
        refine j_iconst 62 dX10_rule_61 rfl ?_
        exact j_iret dX10_rule_62 rfl (⟨rfl, rfl, rfl⟩)
    · refine j_bipush 27 dX10_rule_25 rfl (by decide) ?_
      refine j_goto 43 dX10_rule_27 rfl ?_
      refine j_callS 46 (As := [.int (i32 (v1)), .int (i32 (1)), .int (i32 (40))]) (kc2 := 0) (ks2 := 0) dX10_rule_43 rfl msX10_in lk_X10_57 rfl rfl (Nat.le_of_ble_eq_true rfl) ⟨Nat.le_of_ble_eq_true rfl, Nat.le_of_ble_eq_true rfl⟩ ⟨Nat.le_of_ble_eq_true rfl, Nat.le_of_ble_eq_true rfl⟩ (r_in hv1 (r32 (by decide) (by decide)) (r32 (by decide) (by decide))) x_d (k_d1 ?_)
      refine j_if_ne 49 53 dX10_rule_46 rfl rfl (r01 (b01_r _)) (fun c_46 => absurd c_46 (by rw [decide_eq_false (by unfold most at hb9; omega)]; decide)) (fun c_46 => ?_)
      refine j_iconst 50 dX10_rule_49 rfl ?_
      refine j_goto 54 dX10_rule_50 rfl ?_
      refine j_iconst 55 dX10_rule_54 rfl ?_
      refine j_callV 58 (As := [.int (i32 (1)), .int (i32 (1))]) (kc2 := 0) (ks2 := 0) dX10_rule_55 rfl mvX10_fails lk_X10_176 hM.md rfl ⟨Nat.le_of_ble_eq_true rfl, rfl⟩ rfl rfl (Nat.le_of_ble_eq_true rfl) ⟨Nat.le_of_ble_eq_true rfl, Nat.le_of_ble_eq_true rfl⟩ ⟨Nat.le_of_ble_eq_true rfl, Nat.le_of_ble_eq_true rfl⟩ (r_fails1 hM 1 (by decide) (by decide) (by decide) up2_s) x_d (k_d1 ?_)
      refine j_if_eq 61 63 dX10_rule_58 rfl rfl (r32 (by decide) (by decide)) (fun c_58 => absurd c_58 (by decide)) (fun c_58 => ?_)
      refine j_iconst 62 dX10_rule_61 rfl ?_
      exact j_iret dX10_rule_62 rfl (⟨rfl, rfl, rfl⟩)

set_option maxRecDepth 20000 in
theorem r_undo0 {w : Wd} {sh : Shp} {g : Mem} {m : Nat} (hM : MdS sh.1 m) {hist : Nat → (Nat → Int)} (hH : HR g m hist 0) : CT w mX10_undo [.ref (m)] sh g (dQ (some (.int (i32 (-1)))) sh (up2 g m 0 0)) := by
  refine j_entry (by decide) rfl (Nat.le_of_ble_eq_true rfl) (fun h => by cases h) rfl ?_
  show J w mX10_undo 0 [(0, .ref (m))] [] sh g 0 0 _
  refine j_aload_n 1 0 dX10_undo_0 rfl rfl ?_
  refine j_iconst 2 dX10_undo_1 rfl ?_
  refine j_puti 5 dX10_undo_2 rfl fl_X10_35 hM.md rfl rfl rfl (r32 (by decide) (by decide)) ?_
  refine j_mn (fun g_2 hg_2 => ?_)
  refine j_aload_n 6 0 dX10_undo_5 rfl rfl ?_
  refine j_geti 9 dX10_undo_6 rfl fl_X10_297 hM.md rfl rfl (fun r_6 => ?_)
  refine j_top (y := 0) ((by rw [hg_2, up2_k (by decide)]; exact hH.1)) ?_
  refine j_if_ne 12 14 dX10_undo_9 rfl rfl (r32 (by decide) (by decide)) (fun c_9 => absurd c_9 (by decide)) (fun c_9 => ?_)
  refine j_iconst 13 dX10_undo_12 rfl ?_
  exact j_iret dX10_undo_13 rfl (q_gi rfl hg_2)

set_option maxRecDepth 20000 in
theorem r_undo1 {w : Wd} {sh : Shp} {g : Mem} {m : Nat} (hM : MdS sh.1 m) {c9 : Nat} {hist : Nat → (Nat → Int)} (hH : HR g m hist c9) (h1 : 1 ≤ c9) : CT w mX10_undo [.ref (m)] sh g (iQ sh (fun z g2 => z = (c9 : Int) - 1 ∧ g2 (m + 2) = hist 0 ∧ HR g2 m (fun j => hist (j + 1)) (c9 - 1) ∧ (∀ a, a ≠ m → a ≠ m + 2 → (a < m + 6 ∨ m + 14 ≤ a) → g2 a = g a) ∧ (∀ j, j ≠ 0 → j ≠ 12 → g2 m j = g m j) ∧ g2 m 0 = 0)) := by
  have hH8 := hH.2.1
  refine j_entry (by decide) rfl (Nat.le_of_ble_eq_true rfl) (fun h => by cases h) rfl ?_
  show J w mX10_undo 0 [(0, .ref (m))] [] sh g 0 0 _
  refine j_aload_n 1 0 dX10_undo_0 rfl rfl ?_
  refine j_iconst 2 dX10_undo_1 rfl ?_
  refine j_puti 5 dX10_undo_2 rfl fl_X10_35 hM.md rfl rfl rfl (r32 (by decide) (by decide)) ?_
  refine j_mn (fun g_2 hg_2 => ?_)
  refine j_aload_n 6 0 dX10_undo_5 rfl rfl ?_
  refine j_geti 9 dX10_undo_6 rfl fl_X10_297 hM.md rfl rfl (fun r_6 => ?_)
  refine j_top (y := (c9 : Int)) ((by rw [hg_2, up2_k (by decide)]; exact hH.1)) ?_
  refine j_if_ne 12 14 dX10_undo_9 rfl rfl (r32 (by omega) (by omega)) (fun c_9 => ?_) (fun c_9 => absurd c_9 (by omega))
  refine j_aload_n 15 0 dX10_undo_14 rfl rfl ?_
  refine j_dup 16 dX10_undo_15 rfl rfl ?_
  refine j_geti 19 dX10_undo_16 rfl fl_X10_297 hM.md rfl rfl (fun r_16 => ?_)
  refine j_top (y := (c9 : Int)) ((by rw [hg_2, up2_k (by decide)]; exact hH.1)) ?_
  refine j_iconst 20 dX10_undo_19 rfl ?_
  refine j_isub 21 dX10_undo_20 rfl ?_
  refine j_puti 24 dX10_undo_21 rfl fl_X10_297 hM.md rfl rfl rfl (r32 (by omega) (by omega)) ?_
  refine j_mn (fun g_21 hg_21 => ?_)
  refine j_aload_n 25 0 dX10_undo_24 rfl rfl ?_
  refine j_getr 28 dX10_undo_25 rfl fl_X10_28 hM.md rfl (fun _ _ => rfl) rfl ?_
  refine j_aload_n 29 0 dX10_undo_28 rfl rfl ?_
  refine j_geti 32 dX10_undo_29 rfl fl_X10_297 hM.md rfl rfl (fun r_29 => ?_)
  refine j_top (y := (c9 : Int) - 1) ((by rw [hg_21]; exact up2_s)) ?_
  refine j_aald 33 (c9 - 1) dX10_undo_32 rfl hM.his (Nat.le_of_ble_eq_true rfl) rfl rfl (by omega) (show c9 - 1 < 8 by omega) rfl ?_
  refine j_aload_n 34 0 dX10_undo_33 rfl rfl ?_
  refine j_getr 37 dX10_undo_34 rfl fl_X10_17 hM.md rfl (fun _ _ => rfl) rfl ?_
  refine j_callS 40 (As := [.ref (m + 6 + (c9 - 1)), .ref (m + 2)]) (kc2 := 0) (ks2 := 0) dX10_undo_37 rfl msX10_copy lk_X10_188 rfl rfl (Nat.le_of_ble_eq_true rfl) ⟨Nat.le_of_ble_eq_true rfl, Nat.le_of_ble_eq_true rfl⟩ ⟨Nat.le_of_ble_eq_true rfl, Nat.le_of_ble_eq_true rfl⟩ (r_copy (hM.hi (c9 - 1) (by omega)) hM.dat (by omega)) x_d (k_d0 ?_)
  refine j_aload_n 41 0 dX10_undo_40 rfl rfl ?_
  refine j_geti 44 dX10_undo_41 rfl fl_X10_297 hM.md rfl rfl (fun r_41 => ?_)
  refine j_top (y := (c9 : Int) - 1) ((by rw [upR_at (by omega), hg_21]; exact up2_s)) ?_
  exact j_iret dX10_undo_44 rfl (⟨_, rfl, rfl, rfl, by rw [upR_s, hg_21, up2_row (by omega), hg_2, up2_row (by omega)]; exact hH.2.2 0 (by omega), ⟨by rw [upR_at (by omega), hg_21, up2_s]; omega, by omega, fun j hj => by rw [upR_n (by omega), hg_21, up2_row (by omega), hg_2, up2_row (by omega), show c9 - 1 - 1 - j = c9 - 1 - (j + 1) by omega]; exact hH.2.2 (j + 1) (by omega)⟩, fun a a1 a2 a3 => by rw [upR_n a2, hg_21, up2_row a1, hg_2, up2_row a1], fun j j0 j1 => by rw [upR_at (by omega), hg_21, up2_k j1, hg_2, up2_k j0], by rw [upR_at (by omega), hg_21, up2_k (by decide), hg_2]; exact up2_s⟩)
