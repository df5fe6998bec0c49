/-! the reference: the value of digits, look, append -/

set_option maxRecDepth 20000 in
theorem r_valueOf {w : Wd} {sh : Shp} {g : Mem} {d : Nat → Int} {m : Nat} (hM : MdS sh.1 m) {n : Nat} (hn : n ≤ 6) : CT w mX10_valueOf [.ref (m), .int (i32 ((n : Int)))] sh (upR g (m + 2) d) (dQ (some (.int (i32 (if bdB (g (m + 1)) n = true then bv (g (m + 1)) n else -1)))) sh (upR g (m + 2) d)) := by
  refine j_entry (by decide) rfl (Nat.le_of_ble_eq_true rfl) (fun h => by cases h) rfl ?_
  show J w mX10_valueOf 0 [(0, .ref (m)), (1, .int (i32 ((n : Int))))] [] sh (upR g (m + 2) d) 0 0 _
  refine j_iconst 1 dX10_valueOf_0 rfl ?_
  refine j_istore_n 2 (L2 := [(2, .int (i32 (0))), (0, .ref (m)), (1, .int (i32 ((n : Int))))]) dX10_valueOf_1 rfl rfl (Nat.le_of_ble_eq_true rfl) rfl ?_
  refine j_iconst 3 dX10_valueOf_2 rfl ?_
  refine j_istore_n 4 (L2 := [(3, .int (i32 (0))), (2, .int (i32 (0))), (0, .ref (m)), (1, .int (i32 ((n : Int))))]) dX10_valueOf_3 rfl rfl (Nat.le_of_ble_eq_true rfl) rfl ?_
  suffices lp_4 : ∀ (n_4 : Nat) (k : Nat) (v : Int), n - k < n_4 → k ≤ n → v = bv (g (m + 1)) k → bdB (g (m + 1)) k = true → J w mX10_valueOf 4 [(3, .int (i32 ((k : Int)))), (2, .int (i32 (v))), (0, .ref (m)), (1, .int (i32 ((n : Int))))] [] sh (upR g (m + 2) d) 0 0 (dQ (some (.int (i32 (if bdB (g (m + 1)) n = true then bv (g (m + 1)) n else -1)))) sh (upR g (m + 2) d)) by
    exact lp_4 _ 0 0 (Nat.lt_succ_self _) (by omega) rfl rfl
  intro n_4
  induction n_4 with
  | zero => intro k v h_; exact absurd h_ (Nat.not_lt_zero _)
  | succ n_4 ih_4 =>
    intro k v hn_4 hk hv hd
    refine j_iload_n 5 0 dX10_valueOf_4 rfl rfl ?_
    refine j_iload_n 6 3 dX10_valueOf_5 rfl rfl ?_
    refine j_icmp_ge 9 48 dX10_valueOf_6 rfl rfl (r32 (by omega) (by omega)) (r32 (by omega) (by omega)) (fun c_6 => ?_) (fun c_6 => ?_)
    · refine j_iload_n 49 1 dX10_valueOf_48 rfl rfl ?_
      exact j_iret dX10_valueOf_49 rfl (q_i (by rw [show n = k by omega, hd, if_pos rfl]; exact hv))
    · refine j_aload_n 10 2 dX10_valueOf_9 rfl rfl ?_
      refine j_getr 13 dX10_valueOf_10 rfl fl_X10_9 hM.md rfl (fun _ _ => rfl) rfl ?_
      refine j_iload_n 14 0 dX10_valueOf_13 rfl rfl ?_
      refine j_iald 15 k dX10_valueOf_14 rfl hM.buf rfl rfl (show k < 700 by omega) (fun r_14 => ?_)
      refine j_top (y := g (m + 1) (k)) (upR_at (by omega)) ?_
      refine j_bipush 17 dX10_valueOf_15 rfl (by decide) ?_
      refine j_bipush 19 dX10_valueOf_17 rfl (by decide) ?_
      refine j_callS 22 (As := [.int (i32 (g (m + 1) (k))), .int (i32 (48)), .int (i32 (57))]) (kc2 := 0) (ks2 := 0) dX10_valueOf_19 rfl msX10_in lk_X10_57 rfl rfl (Nat.le_of_ble_eq_true rfl) ⟨Nat.le_of_ble_eq_true rfl, Nat.le_of_ble_eq_true rfl⟩ ⟨Nat.le_of_ble_eq_true rfl, Nat.le_of_ble_eq_true rfl⟩ (r_in (R32_upR (by omega) r_14) (r32 (by decide) (by decide)) (r32 (by decide) (by decide))) x_d (k_d1 ?_)
      refine j_if_ne 25 27 dX10_valueOf_22 rfl rfl (r01 (b01_r _)) (fun c_22 => ?_) (fun c_22 => ?_)
      · have hdg := of_decide_eq_true (b01_1 c_22)
        refine j_bipush 29 dX10_valueOf_27 rfl (by decide) ?_
        refine j_iload_n 30 1 dX10_valueOf_29 rfl rfl ?_
        refine j_imul 31 dX10_valueOf_30 rfl ?_
        refine j_aload_n 32 2 dX10_valueOf_31 rfl rfl ?_
        refine j_getr 35 dX10_valueOf_32 rfl fl_X10_9 hM.md rfl (fun _ _ => rfl) rfl ?_
        refine j_iload_n 36 0 dX10_valueOf_35 rfl rfl ?_
        refine j_iald 37 k dX10_valueOf_36 rfl hM.buf rfl rfl (show k < 700 by omega) (fun r_36 => ?_)
        refine j_top (y := g (m + 1) (k)) (upR_at (by omega)) ?_
        refine j_iadd 38 dX10_valueOf_37 rfl ?_
        refine j_bipush 40 dX10_valueOf_38 rfl (by decide) ?_
        refine j_isub 41 dX10_valueOf_40 rfl ?_
        refine j_istore_n 42 (L2 := [(2, .int (i32 ((((10) * (v)) + (g (m + 1) (k))) - (48)))), (3, .int (i32 ((k : Int)))), (0, .ref (m)), (1, .int (i32 ((n : Int))))]) dX10_valueOf_41 rfl rfl (Nat.le_of_ble_eq_true rfl) rfl ?_
        refine j_iinc 45 1 (y := ((k + 1 : Nat) : Int)) (L2 := [(3, .int (i32 (((k + 1 : Nat) : Int)))), (2, .int (i32 ((((10) * (v)) + (g (m + 1) (k))) - (48)))), (0, .ref (m)), (1, .int (i32 ((n : Int))))]) dX10_valueOf_42 rfl rfl (by omega) (Nat.le_of_ble_eq_true rfl) rfl ?_
        refine j_goto 4 dX10_valueOf_45 rfl ?_
        exact ih_4 (k + 1) _ (by omega) (by omega) (by rw [hv]; rfl) (bdB_s hd (by omega) (by omega))
      · have hz : bdB (g (m + 1)) n = false := bdB_f (k := k) (by omega) (fun q => by rw [decide_eq_true q] at c_22; exact absurd c_22 (by decide))
        refine j_iconst 26 dX10_valueOf_25 rfl ?_
        exact j_iret dX10_valueOf_26 rfl (q_i (by rw [hz]; rfl))

set_option maxRecDepth 20000 in
theorem r_look0 {w : Wd} {sh : Shp} {g : Mem} {d : Nat → Int} {m : Nat} (hM : MdS sh.1 m) (hI : Inv d) {n : Nat} (hn : 1 ≤ n ∧ n ≤ 6) (hf : (n : Int) ≤ g m 2) (hd : bdB (g (m + 1)) n = true)  : CT w mX10_look [.ref (m), .int (i32 ((n : Int))), .int (i32 (0))] sh (upR g (m + 2) d) (dQ (some (.int (i32 (s_look d n (bv (g (m + 1)) n) 0)))) sh (upR (up2 g m 0 0) (m + 2) d)) := by
  have hb := hI.1
  have hb0 := hb.1
  have hb1 := hb.2.1
  have hb2 := hb.2.2.1
  have hb3 := hb.2.2.2.1
  have hb4 := hb.2.2.2.2.1
  have hb5 := hb.2.2.2.2.2.1
  have hbr := bv_rng hd
  have hp6 : pw n ≤ pw 6 := pw_le hn.2
  have hp : pw 6 = 1000000 := rfl
  have hrr := routeFor_rng d n (bv (g (m + 1)) n)
  have hl : ∀ r : Nat, (r : Int) < d 4 → 0 ≤ d (95 + 7 * r) := fun r hr => (hb.2.2.2.2.2.2.1 r (by omega)).1
  have hT1 : up2 g m 0 0 (m + 1) = g (m + 1) := up2_row (by omega)
  refine j_entry (by decide) rfl (Nat.le_of_ble_eq_true rfl) (fun h => by cases h) rfl ?_
  show J w mX10_look 0 [(0, .ref (m)), (1, .int (i32 ((n : Int)))), (2, .int (i32 (0)))] [] sh (upR g (m + 2) d) 0 0 _
  refine j_aload_n 1 0 dX10_look_0 rfl rfl ?_
  refine j_iconst 2 dX10_look_1 rfl ?_
  refine j_puti 5 dX10_look_2 rfl fl_X10_35 hM.md rfl rfl rfl (r32 (by decide) (by decide)) ?_
  refine j_mem (up2_upR_n (by omega)) ?_
  refine j_aload_n 6 0 dX10_look_5 rfl rfl ?_
  refine j_iload_n 7 1 dX10_look_6 rfl rfl ?_
  refine j_iconst 8 dX10_look_7 rfl ?_
  refine j_bipush 10 dX10_look_8 rfl (by decide) ?_
  refine j_callS 13 (As := [.int (i32 ((n : Int))), .int (i32 (1)), .int (i32 (6))]) (kc2 := 0) (ks2 := 0) dX10_look_10 rfl msX10_in lk_X10_57 rfl rfl (Nat.le_of_ble_eq_true rfl) ⟨Nat.le_of_ble_eq_true rfl, Nat.le_of_ble_eq_true rfl⟩ ⟨Nat.le_of_ble_eq_true rfl, Nat.le_of_ble_eq_true rfl⟩ (r_in (r32 (by omega) (by omega)) (r32 (by decide) (by decide)) (r32 (by decide) (by decide))) x_d (k_d1 ?_)
  refine j_if_eq 16 33 dX10_look_13 rfl rfl (r01 (b01_r _)) (fun c_13 => absurd c_13 (by rw [decide_eq_true (show 1 ≤ (n : Int) ∧ (n : Int) ≤ 6 by omega)]; decide)) (fun c_13 => ?_)
  refine j_iload_n 17 1 dX10_look_16 rfl rfl ?_
  refine j_aload_n 18 0 dX10_look_17 rfl rfl ?_
  refine j_geti 21 dX10_look_18 rfl fl_X10_38 hM.md rfl rfl (fun r_18 => ?_)
  refine j_top (y := (up2 g (m) 0 (0)) (m) 2) (upR_at (by omega)) ?_
  refine j_top (y := g m 2) ((up2_k (by decide))) ?_
  refine j_icmp_gt 24 33 dX10_look_21 rfl rfl (r32 (by omega) (by omega)) (by have h := r_18; rw [upR_at (by omega), up2_k (by decide)] at h; exact h) (fun c_21 => absurd c_21 (by omega)) (fun c_21 => ?_)
  refine j_iload_n 25 2 dX10_look_24 rfl rfl ?_
  refine j_iconst 26 dX10_look_25 rfl ?_
  refine j_iconst 27 dX10_look_26 rfl ?_
  refine j_callS 30 (As := [.int (i32 (0)), .int (i32 (0)), .int (i32 (3))]) (kc2 := 0) (ks2 := 0) dX10_look_27 rfl msX10_in lk_X10_57 rfl rfl (Nat.le_of_ble_eq_true rfl) ⟨Nat.le_of_ble_eq_true rfl, Nat.le_of_ble_eq_true rfl⟩ ⟨Nat.le_of_ble_eq_true rfl, Nat.le_of_ble_eq_true rfl⟩ (r_in (r32 (by decide) (by decide)) (r32 (by decide) (by decide)) (r32 (by decide) (by decide))) x_d (k_d1 ?_)
  refine j_if_ne 33 37 dX10_look_30 rfl rfl (r01 (b01_r _)) (fun c_30 => ?_) (fun c_30 => absurd c_30 (by decide))
  refine j_iconst 38 dX10_look_37 rfl ?_
  refine j_iconst 39 dX10_look_38 rfl ?_
  refine j_callV 42 (As := [.int (i32 (0)), .int (i32 (1))]) (kc2 := 0) (ks2 := 0) dX10_look_39 rfl mvX10_fails lk_X10_176 hM.md rfl ⟨Nat.le_of_ble_eq_true rfl, rfl⟩ rfl rfl (Nat.le_of_ble_eq_true rfl) ⟨Nat.le_of_ble_eq_true rfl, Nat.le_of_ble_eq_true rfl⟩ ⟨Nat.le_of_ble_eq_true rfl, Nat.le_of_ble_eq_true rfl⟩ (r_fails0 hM 1 up2_s) x_d (k_d1 ?_)
  refine j_if_eq 45 47 dX10_look_42 rfl rfl (r32 (by decide) (by decide)) (fun c_42 => ?_) (fun c_42 => absurd c_42 (by decide))
  refine j_aload_n 48 0 dX10_look_47 rfl rfl ?_
  refine j_iload_n 49 1 dX10_look_48 rfl rfl ?_
  refine j_callV 52 (As := [.int (i32 ((n : Int)))]) (kc2 := 0) (ks2 := 0) dX10_look_49 rfl mvX10_valueOf lk_X10_291 hM.md rfl ⟨Nat.le_of_ble_eq_true rfl, rfl⟩ rfl rfl (Nat.le_of_ble_eq_true rfl) ⟨Nat.le_of_ble_eq_true rfl, Nat.le_of_ble_eq_true rfl⟩ ⟨Nat.le_of_ble_eq_true rfl, Nat.le_of_ble_eq_true rfl⟩ (r_valueOf (g := up2 g m 0 0) hM hn.2) x_d (k_d1 ?_)
  refine j_top (y := bv (g (m + 1)) n) (by rw [hT1, if_pos hd]) ?_
  refine j_istore_n 53 (L2 := [(3, .int (i32 (bv (g (m + 1)) n))), (0, .ref (m)), (1, .int (i32 ((n : Int)))), (2, .int (i32 (0)))]) dX10_look_52 rfl rfl (Nat.le_of_ble_eq_true rfl) rfl ?_
  refine j_aload_n 54 1 dX10_look_53 rfl rfl ?_
  refine j_iload_n 55 0 dX10_look_54 rfl rfl ?_
  refine j_iconst 56 dX10_look_55 rfl ?_
  refine j_icmp_ne 59 63 dX10_look_56 rfl rfl (r32 (by omega) (by omega)) (r32 (by decide) (by decide)) (fun c_56 => ?_) (fun c_56 => absurd c_56 (by omega))
  refine j_iconst 64 dX10_look_63 rfl ?_
  refine j_iconst 65 dX10_look_64 rfl ?_
  refine j_callV 68 (As := [.int (i32 (0)), .int (i32 (1))]) (kc2 := 0) (ks2 := 0) dX10_look_65 rfl mvX10_fails lk_X10_176 hM.md rfl ⟨Nat.le_of_ble_eq_true rfl, rfl⟩ rfl rfl (Nat.le_of_ble_eq_true rfl) ⟨Nat.le_of_ble_eq_true rfl, Nat.le_of_ble_eq_true rfl⟩ ⟨Nat.le_of_ble_eq_true rfl, Nat.le_of_ble_eq_true rfl⟩ (r_fails0 hM 1 up2_s) x_d (k_d1 ?_)
  refine j_if_eq 71 73 dX10_look_68 rfl rfl (r32 (by decide) (by decide)) (fun c_68 => ?_) (fun c_68 => absurd c_68 (by decide))
  refine j_aload_n 74 1 dX10_look_73 rfl rfl ?_
  refine j_getr 77 dX10_look_74 rfl fl_X10_17 hM.md rfl (fun _ _ => rfl) rfl ?_
  refine j_iload_n 78 2 dX10_look_77 rfl rfl ?_
  refine j_iload_n 79 0 dX10_look_78 rfl rfl ?_
  refine j_callS 82 (As := [.ref (m + 2), .int (i32 ((n : Int))), .int (i32 (bv (g (m + 1)) n))]) (kc2 := 0) (ks2 := 0) dX10_look_79 rfl msX10_lineOf lk_X10_116 rfl rfl (Nat.le_of_ble_eq_true rfl) ⟨Nat.le_of_ble_eq_true rfl, Nat.le_of_ble_eq_true rfl⟩ ⟨Nat.le_of_ble_eq_true rfl, Nat.le_of_ble_eq_true rfl⟩ (r_lineD hM.dat (by omega) (r32 (by omega) (by omega)) (r32 (by omega) (by omega))) x_d (k_d1 ?_)
  refine j_istore 84 (L2 := [(4, .int (i32 (s_lineOf d (n : Int) (bv (g (m + 1)) n)))), (3, .int (i32 (bv (g (m + 1)) n))), (0, .ref (m)), (1, .int (i32 ((n : Int)))), (2, .int (i32 (0)))]) dX10_look_82 rfl (Nat.le_of_ble_eq_true rfl) rfl ?_
  refine j_aload_n 85 2 dX10_look_84 rfl rfl ?_
  refine j_iload_n 86 3 dX10_look_85 rfl rfl ?_
  refine j_iload_n 87 1 dX10_look_86 rfl rfl ?_
  refine j_callV 90 (As := [.int (i32 ((n : Int))), .int (i32 (bv (g (m + 1)) n))]) (kc2 := 0) (ks2 := 0) dX10_look_87 rfl mvX10_routeFor lk_X10_198 hM.md rfl ⟨Nat.le_of_ble_eq_true rfl, rfl⟩ rfl rfl (Nat.le_of_ble_eq_true rfl) ⟨Nat.le_of_ble_eq_true rfl, Nat.le_of_ble_eq_true rfl⟩ ⟨Nat.le_of_ble_eq_true rfl, Nat.le_of_ble_eq_true rfl⟩ (r_routeFor hM n hbr.1 (by omega) hn.2 (by omega) hl rfl) x_d (k_d1 ?_)
  refine j_istore 92 (L2 := [(5, .int (i32 (s_routeFor d n (bv (g (m + 1)) n)))), (4, .int (i32 (s_lineOf d (n : Int) (bv (g (m + 1)) n)))), (3, .int (i32 (bv (g (m + 1)) n))), (0, .ref (m)), (1, .int (i32 ((n : Int)))), (2, .int (i32 (0)))]) dX10_look_90 rfl (Nat.le_of_ble_eq_true rfl) rfl ?_
  refine j_iload_n 93 5 dX10_look_92 rfl rfl ?_
  refine j_tabIn 120 dX10_look_93 (r32 (by decide) (by decide)) (by decide) (by decide) rfl rfl ?_
  refine j_iload 122 1 dX10_look_120 rfl rfl ?_
  exact j_iret dX10_look_122 rfl (⟨rfl, rfl, rfl⟩)

set_option maxRecDepth 20000 in
theorem r_look1 {w : Wd} {sh : Shp} {g : Mem} {d : Nat → Int} {m : Nat} (hM : MdS sh.1 m) (hI : Inv d) {n : Nat} (hn : 1 ≤ n ∧ n ≤ 6) (hf : (n : Int) ≤ g m 2) (hd : bdB (g (m + 1)) n = true)  : CT w mX10_look [.ref (m), .int (i32 ((n : Int))), .int (i32 (1))] sh (upR g (m + 2) d) (dQ (some (.int (i32 (s_look d n (bv (g (m + 1)) n) 1)))) sh (upR (up2 g m 0 0) (m + 2) d)) := by
  have hb := hI.1
  have hb0 := hb.1
  have hb1 := hb.2.1
  have hb2 := hb.2.2.1
  have hb3 := hb.2.2.2.1
  have hb4 := hb.2.2.2.2.1
  have hb5 := hb.2.2.2.2.2.1
  have hbr := bv_rng hd
  have hp6 : pw n ≤ pw 6 := pw_le hn.2
  have hp : pw 6 = 1000000 := rfl
  have hrr := routeFor_rng d n (bv (g (m + 1)) n)
  have hl : ∀ r : Nat, (r : Int) < d 4 → 0 ≤ d (95 + 7 * r) := fun r hr => (hb.2.2.2.2.2.2.1 r (by omega)).1
  have hT1 : up2 g m 0 0 (m + 1) = g (m + 1) := up2_row (by omega)
  refine j_entry (by decide) rfl (Nat.le_of_ble_eq_true rfl) (fun h => by cases h) rfl ?_
  show J w mX10_look 0 [(0, .ref (m)), (1, .int (i32 ((n : Int)))), (2, .int (i32 (1)))] [] sh (upR g (m + 2) d) 0 0 _
  refine j_aload_n 1 0 dX10_look_0 rfl rfl ?_
  refine j_iconst 2 dX10_look_1 rfl ?_
  refine j_puti 5 dX10_look_2 rfl fl_X10_35 hM.md rfl rfl rfl (r32 (by decide) (by decide)) ?_
  refine j_mem (up2_upR_n (by omega)) ?_
  refine j_aload_n 6 0 dX10_look_5 rfl rfl ?_
  refine j_iload_n 7 1 dX10_look_6 rfl rfl ?_
  refine j_iconst 8 dX10_look_7 rfl ?_
  refine j_bipush 10 dX10_look_8 rfl (by decide) ?_
  refine j_callS 13 (As := [.int (i32 ((n : Int))), .int (i32 (1)), .int (i32 (6))]) (kc2 := 0) (ks2 := 0) dX10_look_10 rfl msX10_in lk_X10_57 rfl rfl (Nat.le_of_ble_eq_true rfl) ⟨Nat.le_of_ble_eq_true rfl, Nat.le_of_ble_eq_true rfl⟩ ⟨Nat.le_of_ble_eq_true rfl, Nat.le_of_ble_eq_true rfl⟩ (r_in (r32 (by omega) (by omega)) (r32 (by decide) (by decide)) (r32 (by decide) (by decide))) x_d (k_d1 ?_)
  refine j_if_eq 16 33 dX10_look_13 rfl rfl (r01 (b01_r _)) (fun c_13 => absurd c_13 (by rw [decide_eq_true (show 1 ≤ (n : Int) ∧ (n : Int) ≤ 6 by omega)]; decide)) (fun c_13 => ?_)
  refine j_iload_n 17 1 dX10_look_16 rfl rfl ?_
  refine j_aload_n 18 0 dX10_look_17 rfl rfl ?_
  refine j_geti 21 dX10_look_18 rfl fl_X10_38 hM.md rfl rfl (fun r_18 => ?_)
  refine j_top (y := (up2 g (m) 0 (0)) (m) 2) (upR_at (by omega)) ?_
  refine j_top (y := g m 2) ((up2_k (by decide))) ?_
  refine j_icmp_gt 24 33 dX10_look_21 rfl rfl (r32 (by omega) (by omega)) (by have h := r_18; rw [upR_at (by omega), up2_k (by decide)] at h; exact h) (fun c_21 => absurd c_21 (by omega)) (fun c_21 => ?_)
  refine j_iload_n 25 2 dX10_look_24 rfl rfl ?_
  refine j_iconst 26 dX10_look_25 rfl ?_
  refine j_iconst 27 dX10_look_26 rfl ?_
  refine j_callS 30 (As := [.int (i32 (1)), .int (i32 (0)), .int (i32 (3))]) (kc2 := 0) (ks2 := 0) dX10_look_27 rfl msX10_in lk_X10_57 rfl rfl (Nat.le_of_ble_eq_true rfl) ⟨Nat.le_of_ble_eq_true rfl, Nat.le_of_ble_eq_true rfl⟩ ⟨Nat.le_of_ble_eq_true rfl, Nat.le_of_ble_eq_true rfl⟩ (r_in (r32 (by decide) (by decide)) (r32 (by decide) (by decide)) (r32 (by decide) (by decide))) x_d (k_d1 ?_)
  refine j_if_ne 33 37 dX10_look_30 rfl rfl (r01 (b01_r _)) (fun c_30 => ?_) (fun c_30 => absurd c_30 (by decide))
  refine j_iconst 38 dX10_look_37 rfl ?_
  refine j_iconst 39 dX10_look_38 rfl ?_
  refine j_callV 42 (As := [.int (i32 (0)), .int (i32 (1))]) (kc2 := 0) (ks2 := 0) dX10_look_39 rfl mvX10_fails lk_X10_176 hM.md rfl ⟨Nat.le_of_ble_eq_true rfl, rfl⟩ rfl rfl (Nat.le_of_ble_eq_true rfl) ⟨Nat.le_of_ble_eq_true rfl, Nat.le_of_ble_eq_true rfl⟩ ⟨Nat.le_of_ble_eq_true rfl, Nat.le_of_ble_eq_true rfl⟩ (r_fails0 hM 1 up2_s) x_d (k_d1 ?_)
  refine j_if_eq 45 47 dX10_look_42 rfl rfl (r32 (by decide) (by decide)) (fun c_42 => ?_) (fun c_42 => absurd c_42 (by decide))
  refine j_aload_n 48 0 dX10_look_47 rfl rfl ?_
  refine j_iload_n 49 1 dX10_look_48 rfl rfl ?_
  refine j_callV 52 (As := [.int (i32 ((n : Int)))]) (kc2 := 0) (ks2 := 0) dX10_look_49 rfl mvX10_valueOf lk_X10_291 hM.md rfl ⟨Nat.le_of_ble_eq_true rfl, rfl⟩ rfl rfl (Nat.le_of_ble_eq_true rfl) ⟨Nat.le_of_ble_eq_true rfl, Nat.le_of_ble_eq_true rfl⟩ ⟨Nat.le_of_ble_eq_true rfl, Nat.le_of_ble_eq_true rfl⟩ (r_valueOf (g := up2 g m 0 0) hM hn.2) x_d (k_d1 ?_)
  refine j_top (y := bv (g (m + 1)) n) (by rw [hT1, if_pos hd]) ?_
  refine j_istore_n 53 (L2 := [(3, .int (i32 (bv (g (m + 1)) n))), (0, .ref (m)), (1, .int (i32 ((n : Int)))), (2, .int (i32 (1)))]) dX10_look_52 rfl rfl (Nat.le_of_ble_eq_true rfl) rfl ?_
  refine j_aload_n 54 1 dX10_look_53 rfl rfl ?_
  refine j_iload_n 55 0 dX10_look_54 rfl rfl ?_
  refine j_iconst 56 dX10_look_55 rfl ?_
  refine j_icmp_ne 59 63 dX10_look_56 rfl rfl (r32 (by omega) (by omega)) (r32 (by decide) (by decide)) (fun c_56 => ?_) (fun c_56 => absurd c_56 (by omega))
  refine j_iconst 64 dX10_look_63 rfl ?_
  refine j_iconst 65 dX10_look_64 rfl ?_
  refine j_callV 68 (As := [.int (i32 (0)), .int (i32 (1))]) (kc2 := 0) (ks2 := 0) dX10_look_65 rfl mvX10_fails lk_X10_176 hM.md rfl ⟨Nat.le_of_ble_eq_true rfl, rfl⟩ rfl rfl (Nat.le_of_ble_eq_true rfl) ⟨Nat.le_of_ble_eq_true rfl, Nat.le_of_ble_eq_true rfl⟩ ⟨Nat.le_of_ble_eq_true rfl, Nat.le_of_ble_eq_true rfl⟩ (r_fails0 hM 1 up2_s) x_d (k_d1 ?_)
  refine j_if_eq 71 73 dX10_look_68 rfl rfl (r32 (by decide) (by decide)) (fun c_68 => ?_) (fun c_68 => absurd c_68 (by decide))
  refine j_aload_n 74 1 dX10_look_73 rfl rfl ?_
  refine j_getr 77 dX10_look_74 rfl fl_X10_17 hM.md rfl (fun _ _ => rfl) rfl ?_
  refine j_iload_n 78 2 dX10_look_77 rfl rfl ?_
  refine j_iload_n 79 0 dX10_look_78 rfl rfl ?_
  refine j_callS 82 (As := [.ref (m + 2), .int (i32 ((n : Int))), .int (i32 (bv (g (m + 1)) n))]) (kc2 := 0) (ks2 := 0) dX10_look_79 rfl msX10_lineOf lk_X10_116 rfl rfl (Nat.le_of_ble_eq_true rfl) ⟨Nat.le_of_ble_eq_true rfl, Nat.le_of_ble_eq_true rfl⟩ ⟨Nat.le_of_ble_eq_true rfl, Nat.le_of_ble_eq_true rfl⟩ (r_lineD hM.dat (by omega) (r32 (by omega) (by omega)) (r32 (by omega) (by omega))) x_d (k_d1 ?_)
  refine j_istore 84 (L2 := [(4, .int (i32 (s_lineOf d (n : Int) (bv (g (m + 1)) n)))), (3, .int (i32 (bv (g (m + 1)) n))), (0, .ref (m)), (1, .int (i32 ((n : Int)))), (2, .int (i32 (1)))]) dX10_look_82 rfl (Nat.le_of_ble_eq_true rfl) rfl ?_
  refine j_aload_n 85 2 dX10_look_84 rfl rfl ?_
  refine j_iload_n 86 3 dX10_look_85 rfl rfl ?_
  refine j_iload_n 87 1 dX10_look_86 rfl rfl ?_
  refine j_callV 90 (As := [.int (i32 ((n : Int))), .int (i32 (bv (g (m + 1)) n))]) (kc2 := 0) (ks2 := 0) dX10_look_87 rfl mvX10_routeFor lk_X10_198 hM.md rfl ⟨Nat.le_of_ble_eq_true rfl, rfl⟩ rfl rfl (Nat.le_of_ble_eq_true rfl) ⟨Nat.le_of_ble_eq_true rfl, Nat.le_of_ble_eq_true rfl⟩ ⟨Nat.le_of_ble_eq_true rfl, Nat.le_of_ble_eq_true rfl⟩ (r_routeFor hM n hbr.1 (by omega) hn.2 (by omega) hl rfl) x_d (k_d1 ?_)
  refine j_istore 92 (L2 := [(5, .int (i32 (s_routeFor d n (bv (g (m + 1)) n)))), (4, .int (i32 (s_lineOf d (n : Int) (bv (g (m + 1)) n)))), (3, .int (i32 (bv (g (m + 1)) n))), (0, .ref (m)), (1, .int (i32 ((n : Int)))), (2, .int (i32 (1)))]) dX10_look_90 rfl (Nat.le_of_ble_eq_true rfl) rfl ?_
  refine j_iload_n 93 5 dX10_look_92 rfl rfl ?_
  refine j_tabIn 123 dX10_look_93 (r32 (by decide) (by decide)) (by decide) (by decide) rfl rfl ?_
  refine j_iload 125 0 dX10_look_123 rfl rfl ?_
  exact j_iret dX10_look_125 rfl (⟨rfl, rfl, rfl⟩)

set_option maxRecDepth 20000 in
theorem r_look2 {w : Wd} {sh : Shp} {g : Mem} {d : Nat → Int} {m : Nat} (hM : MdS sh.1 m) (hI : Inv d) {n : Nat} (hn : 1 ≤ n ∧ n ≤ 6) (hf : (n : Int) ≤ g m 2) (hd : bdB (g (m + 1)) n = true)  : CT w mX10_look [.ref (m), .int (i32 ((n : Int))), .int (i32 (2))] sh (upR g (m + 2) d) (dQ (some (.int (i32 (s_look d n (bv (g (m + 1)) n) 2)))) sh (upR (up2 g m 0 0) (m + 2) d)) := by
  have hb := hI.1
  have hb0 := hb.1
  have hb1 := hb.2.1
  have hb2 := hb.2.2.1
  have hb3 := hb.2.2.2.1
  have hb4 := hb.2.2.2.2.1
  have hb5 := hb.2.2.2.2.2.1
  have hbr := bv_rng hd
  have hp6 : pw n ≤ pw 6 := pw_le hn.2
  have hp : pw 6 = 1000000 := rfl
  have hrr := routeFor_rng d n (bv (g (m + 1)) n)
  have hl : ∀ r : Nat, (r : Int) < d 4 → 0 ≤ d (95 + 7 * r) := fun r hr => (hb.2.2.2.2.2.2.1 r (by omega)).1
  have hT1 : up2 g m 0 0 (m + 1) = g (m + 1) := up2_row (by omega)
  refine j_entry (by decide) rfl (Nat.le_of_ble_eq_true rfl) (fun h => by cases h) rfl ?_
  show J w mX10_look 0 [(0, .ref (m)), (1, .int (i32 ((n : Int)))), (2, .int (i32 (2)))] [] sh (upR g (m + 2) d) 0 0 _
  refine j_aload_n 1 0 dX10_look_0 rfl rfl ?_
  refine j_iconst 2 dX10_look_1 rfl ?_
  refine j_puti 5 dX10_look_2 rfl fl_X10_35 hM.md rfl rfl rfl (r32 (by decide) (by decide)) ?_
  refine j_mem (up2_upR_n (by omega)) ?_
  refine j_aload_n 6 0 dX10_look_5 rfl rfl ?_
  refine j_iload_n 7 1 dX10_look_6 rfl rfl ?_
  refine j_iconst 8 dX10_look_7 rfl ?_
  refine j_bipush 10 dX10_look_8 rfl (by decide) ?_
  refine j_callS 13 (As := [.int (i32 ((n : Int))), .int (i32 (1)), .int (i32 (6))]) (kc2 := 0) (ks2 := 0) dX10_look_10 rfl msX10_in lk_X10_57 rfl rfl (Nat.le_of_ble_eq_true rfl) ⟨Nat.le_of_ble_eq_true rfl, Nat.le_of_ble_eq_true rfl⟩ ⟨Nat.le_of_ble_eq_true rfl, Nat.le_of_ble_eq_true rfl⟩ (r_in (r32 (by omega) (by omega)) (r32 (by decide) (by decide)) (r32 (by decide) (by decide))) x_d (k_d1 ?_)
  refine j_if_eq 16 33 dX10_look_13 rfl rfl (r01 (b01_r _)) (fun c_13 => absurd c_13 (by rw [decide_eq_true (show 1 ≤ (n : Int) ∧ (n : Int) ≤ 6 by omega)]; decide)) (fun c_13 => ?_)
  refine j_iload_n 17 1 dX10_look_16 rfl rfl ?_
  refine j_aload_n 18 0 dX10_look_17 rfl rfl ?_
  refine j_geti 21 dX10_look_18 rfl fl_X10_38 hM.md rfl rfl (fun r_18 => ?_)
  refine j_top (y := (up2 g (m) 0 (0)) (m) 2) (upR_at (by omega)) ?_
  refine j_top (y := g m 2) ((up2_k (by decide))) ?_
  refine j_icmp_gt 24 33 dX10_look_21 rfl rfl (r32 (by omega) (by omega)) (by have h := r_18; rw [upR_at (by omega), up2_k (by decide)] at h; exact h) (fun c_21 => absurd c_21 (by omega)) (fun c_21 => ?_)
  refine j_iload_n 25 2 dX10_look_24 rfl rfl ?_
  refine j_iconst 26 dX10_look_25 rfl ?_
  refine j_iconst 27 dX10_look_26 rfl ?_
  refine j_callS 30 (As := [.int (i32 (2)), .int (i32 (0)), .int (i32 (3))]) (kc2 := 0) (ks2 := 0) dX10_look_27 rfl msX10_in lk_X10_57 rfl rfl (Nat.le_of_ble_eq_true rfl) ⟨Nat.le_of_ble_eq_true rfl, Nat.le_of_ble_eq_true rfl⟩ ⟨Nat.le_of_ble_eq_true rfl, Nat.le_of_ble_eq_true rfl⟩ (r_in (r32 (by decide) (by decide)) (r32 (by decide) (by decide)) (r32 (by decide) (by decide))) x_d (k_d1 ?_)
  refine j_if_ne 33 37 dX10_look_30 rfl rfl (r01 (b01_r _)) (fun c_30 => ?_) (fun c_30 => absurd c_30 (by decide))
  refine j_iconst 38 dX10_look_37 rfl ?_
  refine j_iconst 39 dX10_look_38 rfl ?_
  refine j_callV 42 (As := [.int (i32 (0)), .int (i32 (1))]) (kc2 := 0) (ks2 := 0) dX10_look_39 rfl mvX10_fails lk_X10_176 hM.md rfl ⟨Nat.le_of_ble_eq_true rfl, rfl⟩ rfl rfl (Nat.le_of_ble_eq_true rfl) ⟨Nat.le_of_ble_eq_true rfl, Nat.le_of_ble_eq_true rfl⟩ ⟨Nat.le_of_ble_eq_true rfl, Nat.le_of_ble_eq_true rfl⟩ (r_fails0 hM 1 up2_s) x_d (k_d1 ?_)
  refine j_if_eq 45 47 dX10_look_42 rfl rfl (r32 (by decide) (by decide)) (fun c_42 => ?_) (fun c_42 => absurd c_42 (by decide))
  refine j_aload_n 48 0 dX10_look_47 rfl rfl ?_
  refine j_iload_n 49 1 dX10_look_48 rfl rfl ?_
  refine j_callV 52 (As := [.int (i32 ((n : Int)))]) (kc2 := 0) (ks2 := 0) dX10_look_49 rfl mvX10_valueOf lk_X10_291 hM.md rfl ⟨Nat.le_of_ble_eq_true rfl, rfl⟩ rfl rfl (Nat.le_of_ble_eq_true rfl) ⟨Nat.le_of_ble_eq_true rfl, Nat.le_of_ble_eq_true rfl⟩ ⟨Nat.le_of_ble_eq_true rfl, Nat.le_of_ble_eq_true rfl⟩ (r_valueOf (g := up2 g m 0 0) hM hn.2) x_d (k_d1 ?_)
  refine j_top (y := bv (g (m + 1)) n) (by rw [hT1, if_pos hd]) ?_
  refine j_istore_n 53 (L2 := [(3, .int (i32 (bv (g (m + 1)) n))), (0, .ref (m)), (1, .int (i32 ((n : Int)))), (2, .int (i32 (2)))]) dX10_look_52 rfl rfl (Nat.le_of_ble_eq_true rfl) rfl ?_
  refine j_aload_n 54 1 dX10_look_53 rfl rfl ?_
  refine j_iload_n 55 0 dX10_look_54 rfl rfl ?_
  refine j_iconst 56 dX10_look_55 rfl ?_
  refine j_icmp_ne 59 63 dX10_look_56 rfl rfl (r32 (by omega) (by omega)) (r32 (by decide) (by decide)) (fun c_56 => ?_) (fun c_56 => absurd c_56 (by omega))
  refine j_iconst 64 dX10_look_63 rfl ?_
  refine j_iconst 65 dX10_look_64 rfl ?_
  refine j_callV 68 (As := [.int (i32 (0)), .int (i32 (1))]) (kc2 := 0) (ks2 := 0) dX10_look_65 rfl mvX10_fails lk_X10_176 hM.md rfl ⟨Nat.le_of_ble_eq_true rfl, rfl⟩ rfl rfl (Nat.le_of_ble_eq_true rfl) ⟨Nat.le_of_ble_eq_true rfl, Nat.le_of_ble_eq_true rfl⟩ ⟨Nat.le_of_ble_eq_true rfl, Nat.le_of_ble_eq_true rfl⟩ (r_fails0 hM 1 up2_s) x_d (k_d1 ?_)
  refine j_if_eq 71 73 dX10_look_68 rfl rfl (r32 (by decide) (by decide)) (fun c_68 => ?_) (fun c_68 => absurd c_68 (by decide))
  refine j_aload_n 74 1 dX10_look_73 rfl rfl ?_
  refine j_getr 77 dX10_look_74 rfl fl_X10_17 hM.md rfl (fun _ _ => rfl) rfl ?_
  refine j_iload_n 78 2 dX10_look_77 rfl rfl ?_
  refine j_iload_n 79 0 dX10_look_78 rfl rfl ?_
  refine j_callS 82 (As := [.ref (m + 2), .int (i32 ((n : Int))), .int (i32 (bv (g (m + 1)) n))]) (kc2 := 0) (ks2 := 0) dX10_look_79 rfl msX10_lineOf lk_X10_116 rfl rfl (Nat.le_of_ble_eq_true rfl) ⟨Nat.le_of_ble_eq_true rfl, Nat.le_of_ble_eq_true rfl⟩ ⟨Nat.le_of_ble_eq_true rfl, Nat.le_of_ble_eq_true rfl⟩ (r_lineD hM.dat (by omega) (r32 (by omega) (by omega)) (r32 (by omega) (by omega))) x_d (k_d1 ?_)
  refine j_istore 84 (L2 := [(4, .int (i32 (s_lineOf d (n : Int) (bv (g (m + 1)) n)))), (3, .int (i32 (bv (g (m + 1)) n))), (0, .ref (m)), (1, .int (i32 ((n : Int)))), (2, .int (i32 (2)))]) dX10_look_82 rfl (Nat.le_of_ble_eq_true rfl) rfl ?_
  refine j_aload_n 85 2 dX10_look_84 rfl rfl ?_
  refine j_iload_n 86 3 dX10_look_85 rfl rfl ?_
  refine j_iload_n 87 1 dX10_look_86 rfl rfl ?_
  refine j_callV 90 (As := [.int (i32 ((n : Int))), .int (i32 (bv (g (m + 1)) n))]) (kc2 := 0) (ks2 := 0) dX10_look_87 rfl mvX10_routeFor lk_X10_198 hM.md rfl ⟨Nat.le_of_ble_eq_true rfl, rfl⟩ rfl rfl (Nat.le_of_ble_eq_true rfl) ⟨Nat.le_of_ble_eq_true rfl, Nat.le_of_ble_eq_true rfl⟩ ⟨Nat.le_of_ble_eq_true rfl, Nat.le_of_ble_eq_true rfl⟩ (r_routeFor hM n hbr.1 (by omega) hn.2 (by omega) hl rfl) x_d (k_d1 ?_)
  refine j_istore 92 (L2 := [(5, .int (i32 (s_routeFor d n (bv (g (m + 1)) n)))), (4, .int (i32 (s_lineOf d (n : Int) (bv (g (m + 1)) n)))), (3, .int (i32 (bv (g (m + 1)) n))), (0, .ref (m)), (1, .int (i32 ((n : Int)))), (2, .int (i32 (2)))]) dX10_look_90 rfl (Nat.le_of_ble_eq_true rfl) rfl ?_
  refine j_iload_n 93 5 dX10_look_92 rfl rfl ?_
  refine j_tabIn 126 dX10_look_93 (r32 (by decide) (by decide)) (by decide) (by decide) rfl rfl ?_
  refine j_aload_n 127 3 dX10_look_126 rfl rfl ?_
  refine j_iload_n 128 4 dX10_look_127 rfl rfl ?_
  refine j_iload_n 129 2 dX10_look_128 rfl rfl ?_
  refine j_callV 132 (As := [.int (i32 ((n : Int))), .int (i32 (bv (g (m + 1)) n))]) (kc2 := 0) (ks2 := 0) dX10_look_129 rfl mvX10_isComplete lk_X10_254 hM.md rfl ⟨Nat.le_of_ble_eq_true rfl, rfl⟩ rfl rfl (Nat.le_of_ble_eq_true rfl) ⟨Nat.le_of_ble_eq_true rfl, Nat.le_of_ble_eq_true rfl⟩ ⟨Nat.le_of_ble_eq_true rfl, Nat.le_of_ble_eq_true rfl⟩ (r_isComplete hM n rfl hn.2 hbr.1 (by omega) (by omega) (by omega) hl) x_d (k_d1 ?_)
  refine j_if_eq 135 139 dX10_look_132 rfl rfl (r01 (b01_r _)) (fun c_132 => ?_) (fun c_132 => ?_)
  · have hz : (0 : Int) = b01 (s_isComplete d n (bv (g (m + 1)) n)) := by rw [b01_0 c_132]; rfl
    refine j_iconst 140 dX10_look_139 rfl ?_
    exact j_iret dX10_look_140 rfl (q_i hz)
  · have hz : (1 : Int) = b01 (s_isComplete d n (bv (g (m + 1)) n)) := by rw [b01_1 c_132]; rfl
    refine j_iconst 136 dX10_look_135 rfl ?_
    refine j_goto 140 dX10_look_136 rfl ?_
    exact j_iret dX10_look_140 rfl (q_i hz)

set_option maxRecDepth 20000 in
theorem r_look3 {w : Wd} {sh : Shp} {g : Mem} {d : Nat → Int} {m : Nat} (hM : MdS sh.1 m) (hI : Inv d) {n : Nat} (hn : 1 ≤ n ∧ n ≤ 6) (hf : (n : Int) ≤ g m 2) (hd : bdB (g (m + 1)) n = true)  : CT w mX10_look [.ref (m), .int (i32 ((n : Int))), .int (i32 (3))] sh (upR g (m + 2) d) (dQ (some (.int (i32 (s_look d n (bv (g (m + 1)) n) 3)))) sh (upR (up2 g m 0 0) (m + 2) d)) := by
  have hb := hI.1
  have hb0 := hb.1
  have hb1 := hb.2.1
  have hb2 := hb.2.2.1
  have hb3 := hb.2.2.2.1
  have hb4 := hb.2.2.2.2.1
  have hb5 := hb.2.2.2.2.2.1
  have hbr := bv_rng hd
  have hp6 : pw n ≤ pw 6 := pw_le hn.2
  have hp : pw 6 = 1000000 := rfl
  have hrr := routeFor_rng d n (bv (g (m + 1)) n)
  have hl : ∀ r : Nat, (r : Int) < d 4 → 0 ≤ d (95 + 7 * r) := fun r hr => (hb.2.2.2.2.2.2.1 r (by omega)).1
  have hT1 : up2 g m 0 0 (m + 1) = g (m + 1) := up2_row (by omega)
  refine j_entry (by decide) rfl (Nat.le_of_ble_eq_true rfl) (fun h => by cases h) rfl ?_
  show J w mX10_look 0 [(0, .ref (m)), (1, .int (i32 ((n : Int)))), (2, .int (i32 (3)))] [] sh (upR g (m + 2) d) 0 0 _
  refine j_aload_n 1 0 dX10_look_0 rfl rfl ?_
  refine j_iconst 2 dX10_look_1 rfl ?_
  refine j_puti 5 dX10_look_2 rfl fl_X10_35 hM.md rfl rfl rfl (r32 (by decide) (by decide)) ?_
  refine j_mem (up2_upR_n (by omega)) ?_
  refine j_aload_n 6 0 dX10_look_5 rfl rfl ?_
  refine j_iload_n 7 1 dX10_look_6 rfl rfl ?_
  refine j_iconst 8 dX10_look_7 rfl ?_
  refine j_bipush 10 dX10_look_8 rfl (by decide) ?_
  refine j_callS 13 (As := [.int (i32 ((n : Int))), .int (i32 (1)), .int (i32 (6))]) (kc2 := 0) (ks2 := 0) dX10_look_10 rfl msX10_in lk_X10_57 rfl rfl (Nat.le_of_ble_eq_true rfl) ⟨Nat.le_of_ble_eq_true rfl, Nat.le_of_ble_eq_true rfl⟩ ⟨Nat.le_of_ble_eq_true rfl, Nat.le_of_ble_eq_true rfl⟩ (r_in (r32 (by omega) (by omega)) (r32 (by decide) (by decide)) (r32 (by decide) (by decide))) x_d (k_d1 ?_)
  refine j_if_eq 16 33 dX10_look_13 rfl rfl (r01 (b01_r _)) (fun c_13 => absurd c_13 (by rw [decide_eq_true (show 1 ≤ (n : Int) ∧ (n : Int) ≤ 6 by omega)]; decide)) (fun c_13 => ?_)
  refine j_iload_n 17 1 dX10_look_16 rfl rfl ?_
  refine j_aload_n 18 0 dX10_look_17 rfl rfl ?_
  refine j_geti 21 dX10_look_18 rfl fl_X10_38 hM.md rfl rfl (fun r_18 => ?_)
  refine j_top (y := (up2 g (m) 0 (0)) (m) 2) (upR_at (by omega)) ?_
  refine j_top (y := g m 2) ((up2_k (by decide))) ?_
  refine j_icmp_gt 24 33 dX10_look_21 rfl rfl (r32 (by omega) (by omega)) (by have h := r_18; rw [upR_at (by omega), up2_k (by decide)] at h; exact h) (fun c_21 => absurd c_21 (by omega)) (fun c_21 => ?_)
  refine j_iload_n 25 2 dX10_look_24 rfl rfl ?_
  refine j_iconst 26 dX10_look_25 rfl ?_
  refine j_iconst 27 dX10_look_26 rfl ?_
  refine j_callS 30 (As := [.int (i32 (3)), .int (i32 (0)), .int (i32 (3))]) (kc2 := 0) (ks2 := 0) dX10_look_27 rfl msX10_in lk_X10_57 rfl rfl (Nat.le_of_ble_eq_true rfl) ⟨Nat.le_of_ble_eq_true rfl, Nat.le_of_ble_eq_true rfl⟩ ⟨Nat.le_of_ble_eq_true rfl, Nat.le_of_ble_eq_true rfl⟩ (r_in (r32 (by decide) (by decide)) (r32 (by decide) (by decide)) (r32 (by decide) (by decide))) x_d (k_d1 ?_)
  refine j_if_ne 33 37 dX10_look_30 rfl rfl (r01 (b01_r _)) (fun c_30 => ?_) (fun c_30 => absurd c_30 (by decide))
  refine j_iconst 38 dX10_look_37 rfl ?_
  refine j_iconst 39 dX10_look_38 rfl ?_
  refine j_callV 42 (As := [.int (i32 (0)), .int (i32 (1))]) (kc2 := 0) (ks2 := 0) dX10_look_39 rfl mvX10_fails lk_X10_176 hM.md rfl ⟨Nat.le_of_ble_eq_true rfl, rfl⟩ rfl rfl (Nat.le_of_ble_eq_true rfl) ⟨Nat.le_of_ble_eq_true rfl, Nat.le_of_ble_eq_true rfl⟩ ⟨Nat.le_of_ble_eq_true rfl, Nat.le_of_ble_eq_true rfl⟩ (r_fails0 hM 1 up2_s) x_d (k_d1 ?_)
  refine j_if_eq 45 47 dX10_look_42 rfl rfl (r32 (by decide) (by decide)) (fun c_42 => ?_) (fun c_42 => absurd c_42 (by decide))
  refine j_aload_n 48 0 dX10_look_47 rfl rfl ?_
  refine j_iload_n 49 1 dX10_look_48 rfl rfl ?_
  refine j_callV 52 (As := [.int (i32 ((n : Int)))]) (kc2 := 0) (ks2 := 0) dX10_look_49 rfl mvX10_valueOf lk_X10_291 hM.md rfl ⟨Nat.le_of_ble_eq_true rfl, rfl⟩ rfl rfl (Nat.le_of_ble_eq_true rfl) ⟨Nat.le_of_ble_eq_true rfl, Nat.le_of_ble_eq_true rfl⟩ ⟨Nat.le_of_ble_eq_true rfl, Nat.le_of_ble_eq_true rfl⟩ (r_valueOf (g := up2 g m 0 0) hM hn.2) x_d (k_d1 ?_)
  refine j_top (y := bv (g (m + 1)) n) (by rw [hT1, if_pos hd]) ?_
  refine j_istore_n 53 (L2 := [(3, .int (i32 (bv (g (m + 1)) n))), (0, .ref (m)), (1, .int (i32 ((n : Int)))), (2, .int (i32 (3)))]) dX10_look_52 rfl rfl (Nat.le_of_ble_eq_true rfl) rfl ?_
  refine j_aload_n 54 1 dX10_look_53 rfl rfl ?_
  refine j_iload_n 55 0 dX10_look_54 rfl rfl ?_
  refine j_iconst 56 dX10_look_55 rfl ?_
  refine j_icmp_ne 59 63 dX10_look_56 rfl rfl (r32 (by omega) (by omega)) (r32 (by decide) (by decide)) (fun c_56 => ?_) (fun c_56 => absurd c_56 (by omega))
  refine j_iconst 64 dX10_look_63 rfl ?_
  refine j_iconst 65 dX10_look_64 rfl ?_
  refine j_callV 68 (As := [.int (i32 (0)), .int (i32 (1))]) (kc2 := 0) (ks2 := 0) dX10_look_65 rfl mvX10_fails lk_X10_176 hM.md rfl ⟨Nat.le_of_ble_eq_true rfl, rfl⟩ rfl rfl (Nat.le_of_ble_eq_true rfl) ⟨Nat.le_of_ble_eq_true rfl, Nat.le_of_ble_eq_true rfl⟩ ⟨Nat.le_of_ble_eq_true rfl, Nat.le_of_ble_eq_true rfl⟩ (r_fails0 hM 1 up2_s) x_d (k_d1 ?_)
  refine j_if_eq 71 73 dX10_look_68 rfl rfl (r32 (by decide) (by decide)) (fun c_68 => ?_) (fun c_68 => absurd c_68 (by decide))
  refine j_aload_n 74 1 dX10_look_73 rfl rfl ?_
  refine j_getr 77 dX10_look_74 rfl fl_X10_17 hM.md rfl (fun _ _ => rfl) rfl ?_
  refine j_iload_n 78 2 dX10_look_77 rfl rfl ?_
  refine j_iload_n 79 0 dX10_look_78 rfl rfl ?_
  refine j_callS 82 (As := [.ref (m + 2), .int (i32 ((n : Int))), .int (i32 (bv (g (m + 1)) n))]) (kc2 := 0) (ks2 := 0) dX10_look_79 rfl msX10_lineOf lk_X10_116 rfl rfl (Nat.le_of_ble_eq_true rfl) ⟨Nat.le_of_ble_eq_true rfl, Nat.le_of_ble_eq_true rfl⟩ ⟨Nat.le_of_ble_eq_true rfl, Nat.le_of_ble_eq_true rfl⟩ (r_lineD hM.dat (by omega) (r32 (by omega) (by omega)) (r32 (by omega) (by omega))) x_d (k_d1 ?_)
  refine j_istore 84 (L2 := [(4, .int (i32 (s_lineOf d (n : Int) (bv (g (m + 1)) n)))), (3, .int (i32 (bv (g (m + 1)) n))), (0, .ref (m)), (1, .int (i32 ((n : Int)))), (2, .int (i32 (3)))]) dX10_look_82 rfl (Nat.le_of_ble_eq_true rfl) rfl ?_
  refine j_aload_n 85 2 dX10_look_84 rfl rfl ?_
  refine j_iload_n 86 3 dX10_look_85 rfl rfl ?_
  refine j_iload_n 87 1 dX10_look_86 rfl rfl ?_
  refine j_callV 90 (As := [.int (i32 ((n : Int))), .int (i32 (bv (g (m + 1)) n))]) (kc2 := 0) (ks2 := 0) dX10_look_87 rfl mvX10_routeFor lk_X10_198 hM.md rfl ⟨Nat.le_of_ble_eq_true rfl, rfl⟩ rfl rfl (Nat.le_of_ble_eq_true rfl) ⟨Nat.le_of_ble_eq_true rfl, Nat.le_of_ble_eq_true rfl⟩ ⟨Nat.le_of_ble_eq_true rfl, Nat.le_of_ble_eq_true rfl⟩ (r_routeFor hM n hbr.1 (by omega) hn.2 (by omega) hl rfl) x_d (k_d1 ?_)
  refine j_istore 92 (L2 := [(5, .int (i32 (s_routeFor d n (bv (g (m + 1)) n)))), (4, .int (i32 (s_lineOf d (n : Int) (bv (g (m + 1)) n)))), (3, .int (i32 (bv (g (m + 1)) n))), (0, .ref (m)), (1, .int (i32 ((n : Int)))), (2, .int (i32 (3)))]) dX10_look_90 rfl (Nat.le_of_ble_eq_true rfl) rfl ?_
  refine j_iload_n 93 5 dX10_look_92 rfl rfl ?_
  refine j_tabOut 141 dX10_look_93 (r32 (by decide) (by decide)) (Or.inr (by decide)) rfl ?_
  refine j_iload 143 1 dX10_look_141 rfl rfl ?_
  refine j_iconst 144 dX10_look_143 rfl ?_
  refine j_icmp_ne 147 156 dX10_look_144 rfl rfl (fst_r32 _ (by decide)) (r32 (by decide) (by decide)) (fun c_144 => ?_) (fun c_144 => ?_)
  · have hz : s_groupFor d n (bv (g (m + 1)) n) = -1 := if_neg (fun a => c_144 a.1)
    refine j_iconst 157 dX10_look_156 rfl ?_
    exact j_iret dX10_look_157 rfl (q_i hz.symm)
  · refine j_aload_n 148 3 dX10_look_147 rfl rfl ?_
    refine j_iload_n 149 4 dX10_look_148 rfl rfl ?_
    refine j_iload_n 150 2 dX10_look_149 rfl rfl ?_
    refine j_callV 153 (As := [.int (i32 ((n : Int))), .int (i32 (bv (g (m + 1)) n))]) (kc2 := 0) (ks2 := 0) dX10_look_150 rfl mvX10_isComplete lk_X10_254 hM.md rfl ⟨Nat.le_of_ble_eq_true rfl, rfl⟩ rfl rfl (Nat.le_of_ble_eq_true rfl) ⟨Nat.le_of_ble_eq_true rfl, Nat.le_of_ble_eq_true rfl⟩ ⟨Nat.le_of_ble_eq_true rfl, Nat.le_of_ble_eq_true rfl⟩ (r_isComplete hM n rfl hn.2 hbr.1 (by omega) (by omega) (by omega) hl) x_d (k_d1 ?_)
    refine j_if_ne 156 158 dX10_look_153 rfl rfl (r01 (b01_r _)) (fun c_153 => ?_) (fun c_153 => ?_)
    · have hcc : s_lineOf d (n : Int) (bv (g (m + 1)) n) = -1 ∧ s_isComplete d n (bv (g (m + 1)) n) = true := ⟨c_144, b01_1 c_153⟩
      have hrn := complete_ok hcc.2 hcc.1
      have hcn := hb.2.2.2.2.2.2.1 (s_routeFor d n (bv (g (m + 1)) n)).toNat (by omega)
      have hcl := s_chF_le d (s_routeFor d n (bv (g (m + 1)) n)).toNat (d (98 + 7 * (s_routeFor d n (bv (g (m + 1)) n)).toNat)).toNat 0
      rw [show s_chF d (s_routeFor d n (bv (g (m + 1)) n)).toNat (d (98 + 7 * (s_routeFor d n (bv (g (m + 1)) n)).toNat)).toNat 0 = s_choiceOf d (s_routeFor d n (bv (g (m + 1)) n)).toNat from rfl] at hcl
      refine j_aload_n 159 3 dX10_look_158 rfl rfl ?_
      refine j_iload 161 0 dX10_look_159 rfl rfl ?_
      refine j_callV 164 (As := [.int (i32 (s_routeFor d n (bv (g (m + 1)) n)))]) (kc2 := 0) (ks2 := 0) dX10_look_161 rfl mvX10_choiceOf lk_X10_239 hM.md rfl ⟨Nat.le_of_ble_eq_true rfl, rfl⟩ rfl rfl (Nat.le_of_ble_eq_true rfl) ⟨Nat.le_of_ble_eq_true rfl, Nat.le_of_ble_eq_true rfl⟩ ⟨Nat.le_of_ble_eq_true rfl, Nat.le_of_ble_eq_true rfl⟩ (r_choiceOf hM (s_routeFor d n (bv (g (m + 1)) n)).toNat (by omega) (by omega) (by omega) hcn.2.1 hcn.2.2 (fun j hj => hb.2.2.2.2.2.2.2.1 (s_routeFor d n (bv (g (m + 1)) n)).toNat j (by omega) hj) hb.2.2.2.2.2.2.2.2.1) x_d (k_d1 ?_)
      refine j_istore 166 (L2 := [(6, .int (i32 ((s_choiceOf d (s_routeFor d n (bv (g (m + 1)) n)).toNat : Int)))), (5, .int (i32 (s_routeFor d n (bv (g (m + 1)) n)))), (4, .int (i32 (s_lineOf d (n : Int) (bv (g (m + 1)) n)))), (3, .int (i32 (bv (g (m + 1)) n))), (0, .ref (m)), (1, .int (i32 ((n : Int)))), (2, .int (i32 (3)))]) dX10_look_164 rfl (Nat.le_of_ble_eq_true rfl) rfl ?_
      refine j_iload 168 0 dX10_look_166 rfl rfl ?_
      refine j_aload_n 169 4 dX10_look_168 rfl rfl ?_
      refine j_getr 172 dX10_look_169 rfl fl_X10_17 hM.md rfl (fun _ _ => rfl) rfl ?_
      refine j_bipush 174 dX10_look_172 rfl (by decide) ?_
      refine j_bipush 176 dX10_look_174 rfl (by decide) ?_
      refine j_iload 178 1 dX10_look_176 rfl rfl ?_
      refine j_imul 179 dX10_look_178 rfl ?_
      refine j_iadd 180 dX10_look_179 rfl ?_
      refine j_iconst 181 dX10_look_180 rfl ?_
      refine j_iadd 182 dX10_look_181 rfl ?_
      refine j_iald_d 183 (98 + 7 * (s_routeFor d n (bv (g (m + 1)) n)).toNat) dX10_look_182 rfl hM.dat rfl (by omega) (show 98 + 7 * (s_routeFor d n (bv (g (m + 1)) n)).toNat < 729 by omega) (fun r_182 => ?_)
      refine j_icmp_ne 186 190 dX10_look_183 rfl rfl (r32 (by omega) (by omega)) r_182 (fun c_183 => ?_) (fun c_183 => ?_)
      · have hz : s_groupFor d n (bv (g (m + 1)) n) = d (99 + 7 * (s_routeFor d n (bv (g (m + 1)) n)).toNat + s_choiceOf d (s_routeFor d n (bv (g (m + 1)) n)).toNat) := by unfold s_groupFor; rw [if_pos hcc, if_neg (by omega)]
        refine j_aload_n 191 4 dX10_look_190 rfl rfl ?_
        refine j_getr 194 dX10_look_191 rfl fl_X10_17 hM.md rfl (fun _ _ => rfl) rfl ?_
        refine j_bipush 196 dX10_look_194 rfl (by decide) ?_
        refine j_bipush 198 dX10_look_196 rfl (by decide) ?_
        refine j_iload 200 1 dX10_look_198 rfl rfl ?_
        refine j_imul 201 dX10_look_200 rfl ?_
        refine j_iadd 202 dX10_look_201 rfl ?_
        refine j_iconst 203 dX10_look_202 rfl ?_
        refine j_iadd 204 dX10_look_203 rfl ?_
        refine j_iload 206 0 dX10_look_204 rfl rfl ?_
        refine j_iadd 207 dX10_look_206 rfl ?_
        refine j_iald_d 208 (99 + 7 * (s_routeFor d n (bv (g (m + 1)) n)).toNat + s_choiceOf d (s_routeFor d n (bv (g (m + 1)) n)).toNat) dX10_look_207 rfl hM.dat rfl (by omega) (show 99 + 7 * (s_routeFor d n (bv (g (m + 1)) n)).toNat + s_choiceOf d (s_routeFor d n (bv (g (m + 1)) n)).toNat < 729 by omega) (fun r_207 => ?_)
        exact j_iret dX10_look_208 rfl (q_i hz.symm)
      · have hz : s_groupFor d n (bv (g (m + 1)) n) = -1 := by unfold s_groupFor; rw [if_pos hcc, if_pos (by omega)]
        refine j_iconst 187 dX10_look_186 rfl ?_
        refine j_goto 208 dX10_look_187 rfl ?_
        exact j_iret dX10_look_208 rfl (q_i hz.symm)
    · have hz : s_groupFor d n (bv (g (m + 1)) n) = -1 := if_neg (fun a => by rw [a.2] at c_153; exact absurd c_153 (by decide))
      refine j_iconst 157 dX10_look_156 rfl ?_
      exact j_iret dX10_look_157 rfl (q_i hz.symm)

theorem r_look {w : Wd} {sh : Shp} {g : Mem} {d : Nat → Int} {m : Nat} (hM : MdS sh.1 m) (hI : Inv d) {n : Nat} (hn : 1 ≤ n ∧ n ≤ 6) (hf : (n : Int) ≤ g m 2) (hd : bdB (g (m + 1)) n = true) {q : Int} (hq : 0 ≤ q ∧ q ≤ 3) : CT w mX10_look [.ref m, .int (i32 (n : Int)), .int (i32 q)] sh (upR g (m + 2) d) (dQ (some (.int (i32 (s_look d n (bv (g (m + 1)) n) q.toNat)))) sh (upR (up2 g m 0 0) (m + 2) d)) := by
  by_cases q0 : q = 0
  · rw [q0]; exact r_look0 hM hI hn hf hd
  by_cases q1 : q = 1
  · rw [q1]; exact r_look1 hM hI hn hf hd
  by_cases q2 : q = 2
  · rw [q2]; exact r_look2 hM hI hn hf hd
  by_cases q3 : q = 3
  · rw [q3]; exact r_look3 hM hI hn hf hd
  omega

set_option maxRecDepth 20000 in
theorem r_lookI {w : Wd} {sh : Shp} {g : Mem} {d : Nat → Int} {m : Nat} (hM : MdS sh.1 m) (hI : Inv d) {x q : Int} (hx : R32 x) (hq : R32 q) (hb9 : ¬ (1 ≤ x ∧ x ≤ 6 ∧ x ≤ g m 2) ∨ q < 0 ∨ 3 < q) : CT w mX10_look [.ref (m), .int (i32 (x)), .int (i32 (q))] sh (upR g (m + 2) d) (dQ (some (.int (i32 (0)))) sh (upR (up2 (up2 g m 0 0) m 0 1) (m + 2) d)) := by
  refine j_entry (by decide) rfl (Nat.le_of_ble_eq_true rfl) (fun h => by cases h) rfl ?_
  show J w mX10_look 0 [(0, .ref (m)), (1, .int (i32 (x))), (2, .int (i32 (q)))] [] sh (upR g (m + 2) d) 0 0 _
  refine j_aload_n 1 0 dX10_look_0 rfl rfl ?_
  refine j_iconst 2 dX10_look_1 rfl ?_
  refine j_puti 5 dX10_look_2 rfl fl_X10_35 hM.md rfl rfl rfl (r32 (by decide) (by decide)) ?_
  refine j_mem (up2_upR_n (by omega)) ?_
  refine j_aload_n 6 0 dX10_look_5 rfl rfl ?_
  refine j_iload_n 7 1 dX10_look_6 rfl rfl ?_
  refine j_iconst 8 dX10_look_7 rfl ?_
  refine j_bipush 10 dX10_look_8 rfl (by decide) ?_
  refine j_callS 13 (As := [.int (i32 (x)), .int (i32 (1)), .int (i32 (6))]) (kc2 := 0) (ks2 := 0) dX10_look_10 rfl msX10_in lk_X10_57 rfl rfl (Nat.le_of_ble_eq_true rfl) ⟨Nat.le_of_ble_eq_true rfl, Nat.le_of_ble_eq_true rfl⟩ ⟨Nat.le_of_ble_eq_true rfl, Nat.le_of_ble_eq_true rfl⟩ (r_in hx (r32 (by decide) (by decide)) (r32 (by decide) (by decide))) x_d (k_d1 ?_)
  refine j_if_eq 16 33 dX10_look_13 rfl rfl (r01 (b01_r _)) (fun c_13 => ?_) (fun c_13 => ?_)
  · refine j_iconst 34 dX10_look_33 rfl ?_
    refine j_goto 38 dX10_look_34 rfl ?_
    refine j_iconst 39 dX10_look_38 rfl ?_
    refine j_callV 42 (As := [.int (i32 (1)), .int (i32 (1))]) (kc2 := 0) (ks2 := 0) dX10_look_39 rfl mvX10_fails lk_X10_176 hM.md rfl ⟨Nat.le_of_ble_eq_true rfl, rfl⟩ rfl rfl (Nat.le_of_ble_eq_true rfl) ⟨Nat.le_of_ble_eq_true rfl, Nat.le_of_ble_eq_true rfl⟩ ⟨Nat.le_of_ble_eq_true rfl, Nat.le_of_ble_eq_true rfl⟩ (r_fails1 hM 1 (by decide) (by decide) (by decide) up2_s) x_d (k_d1 ?_)
    refine j_if_eq 45 47 dX10_look_42 rfl rfl (r32 (by decide) (by decide)) (fun c_42 => absurd c_42 (by decide)) (fun c_42 => ?_)
    refine j_iconst 46 dX10_look_45 rfl ?_
    exact j_iret dX10_look_46 rfl (⟨rfl, rfl, rfl⟩)
  · have h13 := of_decide_eq_true (b01_1 c_13)
    refine j_iload_n 17 1 dX10_look_16 rfl rfl ?_
    refine j_aload_n 18 0 dX10_look_17 rfl rfl ?_
    refine j_geti 21 dX10_look_18 rfl fl_X10_38 hM.md rfl rfl (fun r_18 => ?_)
    refine j_top (y := (up2 g (m) 0 (0)) (m) 2) (upR_at (by omega)) ?_
    refine j_top (y := g m 2) ((up2_k (by decide))) ?_
    refine j_icmp_gt 24 33 dX10_look_21 rfl rfl hx (by have h := r_18; rw [upR_at (by omega), up2_k (by decide)] at h; exact h) (fun c_21 => ?_) (fun c_21 => ?_)
    · refine j_iconst 34 dX10_look_33 rfl ?_
      refine j_goto 38 dX10_look_34 rfl ?_
      refine j_iconst 39 dX10_look_38 rfl ?_
      refine j_callV 42 (As := [.int (i32 (1)), .int (i32 (1))]) (kc2 := 0) (ks2 := 0) dX10_look_39 rfl mvX10_fails lk_X10_176 hM.md rfl ⟨Nat.le_of_ble_eq_true rfl, rfl⟩ rfl rfl (Nat.le_of_ble_eq_true rfl) ⟨Nat.le_of_ble_eq_true rfl, Nat.le_of_ble_eq_true rfl⟩ ⟨Nat.le_of_ble_eq_true rfl, Nat.le_of_ble_eq_true rfl⟩ (r_fails1 hM 1 (by decide) (by decide) (by decide) up2_s) x_d (k_d1 ?_)
      refine j_if_eq 45 47 dX10_look_42 rfl rfl (r32 (by decide) (by decide)) (fun c_42 => absurd c_42 (by decide)) (fun c_42 => ?_)
      refine j_iconst 46 dX10_look_45 rfl ?_
      exact j_iret dX10_look_46 rfl (⟨rfl, rfl, rfl⟩)
    · refine j_iload_n 25 2 dX10_look_24 rfl rfl ?_
      refine j_iconst 26 dX10_look_25 rfl ?_
      refine j_iconst 27 dX10_look_26 rfl ?_
      refine j_callS 30 (As := [.int (i32 (q)), .int (i32 (0)), .int (i32 (3))]) (kc2 := 0) (ks2 := 0) dX10_look_27 rfl msX10_in lk_X10_57 rfl rfl (Nat.le_of_ble_eq_true rfl) ⟨Nat.le_of_ble_eq_true rfl, Nat.le_of_ble_eq_true rfl⟩ ⟨Nat.le_of_ble_eq_true rfl, Nat.le_of_ble_eq_true rfl⟩ (r_in hq (r32 (by decide) (by decide)) (r32 (by decide) (by decide))) x_d (k_d1 ?_)
      refine j_if_ne 33 37 dX10_look_30 rfl rfl (r01 (b01_r _)) (fun c_30 => absurd c_30 (by rw [decide_eq_false (show ¬ (0 ≤ q ∧ q ≤ 3) by omega)]; decide)) (fun c_30 => ?_)
      refine j_iconst 34 dX10_look_33 rfl ?_
      refine j_goto 38 dX10_look_34 rfl ?_
      refine j_iconst 39 dX10_look_38 rfl ?_
      refine j_callV 42 (As := [.int (i32 (1)), .int (i32 (1))]) (kc2 := 0) (ks2 := 0) dX10_look_39 rfl mvX10_fails lk_X10_176 hM.md rfl ⟨Nat.le_of_ble_eq_true rfl, rfl⟩ rfl rfl (Nat.le_of_ble_eq_true rfl) ⟨Nat.le_of_ble_eq_true rfl, Nat.le_of_ble_eq_true rfl⟩ ⟨Nat.le_of_ble_eq_true rfl, Nat.le_of_ble_eq_true rfl⟩ (r_fails1 hM 1 (by decide) (by decide) (by decide) up2_s) x_d (k_d1 ?_)
      refine j_if_eq 45 47 dX10_look_42 rfl rfl (r32 (by decide) (by decide)) (fun c_42 => absurd c_42 (by decide)) (fun c_42 => ?_)
      refine j_iconst 46 dX10_look_45 rfl ?_
      exact j_iret dX10_look_46 rfl (⟨rfl, rfl, rfl⟩)

set_option maxRecDepth 20000 in
theorem r_lookD {w : Wd} {sh : Shp} {g : Mem} {d : Nat → Int} {m : Nat} (hM : MdS sh.1 m) (hI : Inv d) {n : Nat} {q : Int} (hn : 1 ≤ n ∧ n ≤ 6) (hf : (n : Int) ≤ g m 2) (hd : bdB (g (m + 1)) n = false) (hq : 0 ≤ q ∧ q ≤ 3) : CT w mX10_look [.ref (m), .int (i32 ((n : Int))), .int (i32 (q))] sh (upR g (m + 2) d) (dQ (some (.int (i32 (0)))) sh (upR (up2 (up2 g m 0 0) m 0 1) (m + 2) d)) := by
  have hT1 : up2 g m 0 0 (m + 1) = g (m + 1) := up2_row (by omega)
  refine j_entry (by decide) rfl (Nat.le_of_ble_eq_true rfl) (fun h => by cases h) rfl ?_
  show J w mX10_look 0 [(0, .ref (m)), (1, .int (i32 ((n : Int)))), (2, .int (i32 (q)))] [] sh (upR g (m + 2) d) 0 0 _
  refine j_aload_n 1 0 dX10_look_0 rfl rfl ?_
  refine j_iconst 2 dX10_look_1 rfl ?_
  refine j_puti 5 dX10_look_2 rfl fl_X10_35 hM.md rfl rfl rfl (r32 (by decide) (by decide)) ?_
  refine j_mem (up2_upR_n (by omega)) ?_
  refine j_aload_n 6 0 dX10_look_5 rfl rfl ?_
  refine j_iload_n 7 1 dX10_look_6 rfl rfl ?_
  refine j_iconst 8 dX10_look_7 rfl ?_
  refine j_bipush 10 dX10_look_8 rfl (by decide) ?_
  refine j_callS 13 (As := [.int (i32 ((n : Int))), .int (i32 (1)), .int (i32 (6))]) (kc2 := 0) (ks2 := 0) dX10_look_10 rfl msX10_in lk_X10_57 rfl rfl (Nat.le_of_ble_eq_true rfl) ⟨Nat.le_of_ble_eq_true rfl, Nat.le_of_ble_eq_true rfl⟩ ⟨Nat.le_of_ble_eq_true rfl, Nat.le_of_ble_eq_true rfl⟩ (r_in (r32 (by omega) (by omega)) (r32 (by decide) (by decide)) (r32 (by decide) (by decide))) x_d (k_d1 ?_)
  refine j_if_eq 16 33 dX10_look_13 rfl rfl (r01 (b01_r _)) (fun c_13 => absurd c_13 (by rw [decide_eq_true (show 1 ≤ (n : Int) ∧ (n : Int) ≤ 6 by omega)]; decide)) (fun c_13 => ?_)
  refine j_iload_n 17 1 dX10_look_16 rfl rfl ?_
  refine j_aload_n 18 0 dX10_look_17 rfl rfl ?_
  refine j_geti 21 dX10_look_18 rfl fl_X10_38 hM.md rfl rfl (fun r_18 => ?_)
  refine j_top (y := (up2 g (m) 0 (0)) (m) 2) (upR_at (by omega)) ?_
  refine j_top (y := g m 2) ((up2_k (by decide))) ?_
  refine j_icmp_gt 24 33 dX10_look_21 rfl rfl (r32 (by omega) (by omega)) (by have h := r_18; rw [upR_at (by omega), up2_k (by decide)] at h; exact h) (fun c_21 => absurd c_21 (by omega)) (fun c_21 => ?_)
  refine j_iload_n 25 2 dX10_look_24 rfl rfl ?_
  refine j_iconst 26 dX10_look_25 rfl ?_
  refine j_iconst 27 dX10_look_26 rfl ?_
  refine j_callS 30 (As := [.int (i32 (q)), .int (i32 (0)), .int (i32 (3))]) (kc2 := 0) (ks2 := 0) dX10_look_27 rfl msX10_in lk_X10_57 rfl rfl (Nat.le_of_ble_eq_true rfl) ⟨Nat.le_of_ble_eq_true rfl, Nat.le_of_ble_eq_true rfl⟩ ⟨Nat.le_of_ble_eq_true rfl, Nat.le_of_ble_eq_true rfl⟩ (r_in (r32 (by omega) (by omega)) (r32 (by decide) (by decide)) (r32 (by decide) (by decide))) x_d (k_d1 ?_)
  refine j_if_ne 33 37 dX10_look_30 rfl rfl (r01 (b01_r _)) (fun c_30 => ?_) (fun c_30 => absurd c_30 (by rw [decide_eq_true (show 0 ≤ q ∧ q ≤ 3 by omega)]; decide))
  refine j_iconst 38 dX10_look_37 rfl ?_
  refine j_iconst 39 dX10_look_38 rfl ?_
  refine j_callV 42 (As := [.int (i32 (0)), .int (i32 (1))]) (kc2 := 0) (ks2 := 0) dX10_look_39 rfl mvX10_fails lk_X10_176 hM.md rfl ⟨Nat.le_of_ble_eq_true rfl, rfl⟩ rfl rfl (Nat.le_of_ble_eq_true rfl) ⟨Nat.le_of_ble_eq_true rfl, Nat.le_of_ble_eq_true rfl⟩ ⟨Nat.le_of_ble_eq_true rfl, Nat.le_of_ble_eq_true rfl⟩ (r_fails0 hM 1 up2_s) x_d (k_d1 ?_)
  refine j_if_eq 45 47 dX10_look_42 rfl rfl (r32 (by decide) (by decide)) (fun c_42 => ?_) (fun c_42 => absurd c_42 (by decide))
  refine j_aload_n 48 0 dX10_look_47 rfl rfl ?_
  refine j_iload_n 49 1 dX10_look_48 rfl rfl ?_
  refine j_callV 52 (As := [.int (i32 ((n : Int)))]) (kc2 := 0) (ks2 := 0) dX10_look_49 rfl mvX10_valueOf lk_X10_291 hM.md rfl ⟨Nat.le_of_ble_eq_true rfl, rfl⟩ rfl rfl (Nat.le_of_ble_eq_true rfl) ⟨Nat.le_of_ble_eq_true rfl, Nat.le_of_ble_eq_true rfl⟩ ⟨Nat.le_of_ble_eq_true rfl, Nat.le_of_ble_eq_true rfl⟩ (r_valueOf (g := up2 g m 0 0) hM hn.2) x_d (k_d1 ?_)
  refine j_top (y := -1) (by rw [hT1, hd]; rfl) ?_
  refine j_istore_n 53 (L2 := [(3, .int (i32 (-1))), (0, .ref (m)), (1, .int (i32 ((n : Int)))), (2, .int (i32 (q)))]) dX10_look_52 rfl rfl (Nat.le_of_ble_eq_true rfl) rfl ?_
  refine j_aload_n 54 1 dX10_look_53 rfl rfl ?_
  refine j_iload_n 55 0 dX10_look_54 rfl rfl ?_
  refine j_iconst 56 dX10_look_55 rfl ?_
  refine j_icmp_ne 59 63 dX10_look_56 rfl rfl (r32 (by decide) (by decide)) (r32 (by decide) (by decide)) (fun c_56 => absurd c_56 (by decide)) (fun c_56 => ?_)
  refine j_iconst 60 dX10_look_59 rfl ?_
  refine j_goto 64 dX10_look_60 rfl ?_
  refine j_iconst 65 dX10_look_64 rfl ?_
  refine j_callV 68 (As := [.int (i32 (1)), .int (i32 (1))]) (kc2 := 0) (ks2 := 0) dX10_look_65 rfl mvX10_fails lk_X10_176 hM.md rfl ⟨Nat.le_of_ble_eq_true rfl, rfl⟩ rfl rfl (Nat.le_of_ble_eq_true rfl) ⟨Nat.le_of_ble_eq_true rfl, Nat.le_of_ble_eq_true rfl⟩ ⟨Nat.le_of_ble_eq_true rfl, Nat.le_of_ble_eq_true rfl⟩ (r_fails1 hM 1 (by decide) (by decide) (by decide) up2_s) x_d (k_d1 ?_)
  refine j_if_eq 71 73 dX10_look_68 rfl rfl (r32 (by decide) (by decide)) (fun c_68 => absurd c_68 (by decide)) (fun c_68 => ?_)
  refine j_iconst 72 dX10_look_71 rfl ?_
  exact j_iret dX10_look_72 rfl (⟨rfl, rfl, rfl⟩)

def apN (g : Mem) (m nb : Nat) (w0 w1 w2 w3 w4 : Int) (k : Nat) : Mem := fun a j => if a = m ∧ j = 2 then ((nb + k : Nat) : Int) else if a = m + 1 ∧ nb ≤ j ∧ j < nb + k then apb w0 w1 w2 w3 w4 (j - nb) else g a j
section AP
variable {g : Mem} {m nb k : Nat} {w0 w1 w2 w3 w4 : Int}
theorem apN_0 (h : g m 2 = (nb : Int)) : apN g m nb w0 w1 w2 w3 w4 0 = g := by
  funext a j
  unfold apN
  split
  · next q => rw [q.1, q.2, h]; rfl
  · rw [if_neg (by omega)]
theorem apN_s : up2 (up2 (apN g m nb w0 w1 w2 w3 w4 k) (m + 1) (nb + k) (apb w0 w1 w2 w3 w4 k)) m 2 ((nb + k : Nat) + 1 : Int) = apN g m nb w0 w1 w2 w3 w4 (k + 1) := by
  funext a j
  by_cases h1 : a = m ∧ j = 2
  · obtain ⟨rfl, rfl⟩ := h1; rw [up2_s]; unfold apN; rw [if_pos ⟨rfl, rfl⟩]; omega
  · have e1 : up2 (up2 (apN g m nb w0 w1 w2 w3 w4 k) (m + 1) (nb + k) (apb w0 w1 w2 w3 w4 k)) m 2 ((nb + k : Nat) + 1 : Int) a j = up2 (apN g m nb w0 w1 w2 w3 w4 k) (m + 1) (nb + k) (apb w0 w1 w2 w3 w4 k) a j := if_neg h1
    rw [e1]
    unfold apN
    rw [if_neg h1]
    by_cases h2 : a = m + 1 ∧ j = nb + k
    · obtain ⟨rfl, rfl⟩ := h2; rw [up2_s, if_pos ⟨rfl, by omega, by omega⟩, show nb + k - nb = k by omega]
    · have e2 : ∀ (f : Mem), up2 f (m + 1) (nb + k) (apb w0 w1 w2 w3 w4 k) a j = f a j := fun f => if_neg h2
      rw [e2]
      show (if a = m ∧ j = 2 then _ else _) = _
      rw [if_neg h1]
      by_cases h3 : a = m + 1 ∧ nb ≤ j ∧ j < nb + k
      · rw [if_pos h3, if_pos ⟨h3.1, h3.2.1, by omega⟩]
      · rw [if_neg h3, if_neg (fun q => h3 ⟨q.1, q.2.1, by omega⟩)]
theorem apN_1 : apN g m nb w0 w1 w2 w3 w4 k m 2 = ((nb + k : Nat) : Int) := if_pos ⟨rfl, rfl⟩
theorem apN_o {a : Nat} (h1 : a ≠ m) (h2 : a ≠ m + 1) : apN g m nb w0 w1 w2 w3 w4 k a = g a := funext fun j => by unfold apN; rw [if_neg (fun q => h1 q.1), if_neg (fun q => h2 q.1)]
theorem apN_B {j : Nat} (h : j ≠ 2) : apN g m nb w0 w1 w2 w3 w4 k m j = g m j := by unfold apN; rw [if_neg (fun q => h q.2), if_neg (by omega)]
theorem apN_b {j : Nat} : apN g m nb w0 w1 w2 w3 w4 k (m + 1) j = if nb ≤ j ∧ j < nb + k then apb w0 w1 w2 w3 w4 (j - nb) else g (m + 1) j := by
  unfold apN
  rw [if_neg (by omega)]
  by_cases h : nb ≤ j ∧ j < nb + k
  · rw [if_pos ⟨rfl, h⟩, if_pos h]
  · rw [if_neg (fun q => h q.2), if_neg h]
theorem apb_r (k : Nat) : 0 ≤ apb w0 w1 w2 w3 w4 k ∧ apb w0 w1 w2 w3 w4 k ≤ 255 := by
  unfold apb
  split
  · exact wb_r _ _
  · split
    · exact wb_r _ _
    · split
      · exact wb_r _ _
      · split <;> exact wb_r _ _
end AP

set_option maxRecDepth 20000 in
theorem r_append1 {w : Wd} {sh : Shp} {g : Mem} {m : Nat} (hM : MdS sh.1 m) {nb : Nat} {w0 w1 w2 w3 w4 : Int} (hw0 : R32 w0) (hw1 : R32 w1) (hw2 : R32 w2) (hw3 : R32 w3) (hw4 : R32 w4) (h1 : g m 2 = (nb : Int)) (hn0 : nb ≤ 700) (hn : nb + 20 ≤ 700) : CT w mX10_append [.ref (m), .int (i32 (w0)), .int (i32 (w1)), .int (i32 (w2)), .int (i32 (w3)), .int (i32 (w4))] sh g (iQ sh (fun z g2 => z = ((nb + 20 : Nat) : Int) ∧ g2 = (apN (up2 g m 0 0) m nb w0 w1 w2 w3 w4 20))) := by
  refine j_entry (by decide) rfl (Nat.le_of_ble_eq_true rfl) (fun h => by cases h) rfl ?_
  show J w mX10_append 0 [(0, .ref (m)), (1, .int (i32 (w0))), (2, .int (i32 (w1))), (3, .int (i32 (w2))), (4, .int (i32 (w3))), (5, .int (i32 (w4)))] [] sh g 0 0 _
  refine j_aload_n 1 0 dX10_append_0 rfl rfl ?_
  refine j_iconst 2 dX10_append_1 rfl ?_
  refine j_puti 5 dX10_append_2 rfl fl_X10_35 hM.md rfl rfl rfl (r32 (by decide) (by decide)) ?_
  refine j_mn (fun g_2 hg_2 => ?_)
  refine j_aload_n 6 0 dX10_append_5 rfl rfl ?_
  refine j_mem hg_2 ?_
  refine j_geti 9 dX10_append_6 rfl fl_X10_38 hM.md rfl rfl (fun r_6 => ?_)
  refine j_top (y := (nb : Int)) ((up2_k (by decide)).trans h1) ?_
  refine j_bipush 11 dX10_append_9 rfl (by decide) ?_
  refine j_iadd 12 dX10_append_11 rfl ?_
  refine j_sipush 15 dX10_append_12 rfl (by decide) ?_
  refine j_icmp_le 18 20 dX10_append_15 rfl rfl (r32 (by omega) (by omega)) (r32 (by decide) (by decide)) (fun c_15 => ?_) (fun c_15 => absurd c_15 (by omega))
  refine j_mem (apN_0 (g := (up2 g m 0 0)) (w0 := w0) (w1 := w1) (w2 := w2) (w3 := w3) (w4 := w4) ((up2_k (by decide)).trans h1)).symm ?_
  refine j_iconst 21 dX10_append_20 rfl ?_
  refine j_istore 23 (L2 := [(6, .int (i32 (0))), (0, .ref (m)), (1, .int (i32 (w0))), (2, .int (i32 (w1))), (3, .int (i32 (w2))), (4, .int (i32 (w3))), (5, .int (i32 (w4)))]) dX10_append_21 rfl (Nat.le_of_ble_eq_true rfl) rfl ?_
  suffices lp_23 : ∀ (n_23 : Nat) (k : Nat), 20 - k < n_23 → k ≤ 20 → J w mX10_append 23 [(6, .int (i32 ((k : Int)))), (0, .ref (m)), (1, .int (i32 (w0))), (2, .int (i32 (w1))), (3, .int (i32 (w2))), (4, .int (i32 (w3))), (5, .int (i32 (w4)))] [] sh (apN (up2 g m 0 0) m nb w0 w1 w2 w3 w4 k) 0 0 (iQ sh (fun z g2 => z = ((nb + 20 : Nat) : Int) ∧ g2 = (apN (up2 g m 0 0) m nb w0 w1 w2 w3 w4 20))) by
    exact lp_23 _ 0 (Nat.lt_succ_self _) (by omega)
  intro n_23
  induction n_23 with
  | zero => intro k h_; exact absurd h_ (Nat.not_lt_zero _)
  | succ n_23 ih_23 =>
    intro k hn_23 hk
    refine j_iload 25 0 dX10_append_23 rfl rfl ?_
    refine j_bipush 27 dX10_append_25 rfl (by decide) ?_
    refine j_icmp_ge 30 120 dX10_append_27 rfl rfl (r32 (by omega) (by omega)) (r32 (by decide) (by decide)) (fun c_27 => ?_) (fun c_27 => ?_)
    · refine j_aload_n 121 1 dX10_append_120 rfl rfl ?_
      refine j_geti 124 dX10_append_121 rfl fl_X10_38 hM.md rfl rfl (fun r_121 => ?_)
      refine j_top (y := ((nb + 20 : Nat) : Int)) ((by rw [show k = 20 by omega]; exact apN_1)) ?_
      exact j_iret dX10_append_124 rfl (⟨_, rfl, rfl, rfl, by rw [show k = 20 by omega]⟩)
    · refine j_iload 32 0 dX10_append_30 rfl rfl ?_
      refine j_iconst 33 dX10_append_32 rfl ?_
      refine j_icmp_ge 36 40 dX10_append_33 rfl rfl (r32 (by omega) (by omega)) (r32 (by decide) (by decide)) (fun c_33 => ?_) (fun c_33 => ?_)
      · refine j_iload 42 0 dX10_append_40 rfl rfl ?_
        refine j_bipush 44 dX10_append_42 rfl (by decide) ?_
        refine j_icmp_ge 47 51 dX10_append_44 rfl rfl (r32 (by omega) (by omega)) (r32 (by decide) (by decide)) (fun c_44 => ?_) (fun c_44 => ?_)
        · refine j_iload 53 0 dX10_append_51 rfl rfl ?_
          refine j_bipush 55 dX10_append_53 rfl (by decide) ?_
          refine j_icmp_ge 58 62 dX10_append_55 rfl rfl (r32 (by omega) (by omega)) (r32 (by decide) (by decide)) (fun c_55 => ?_) (fun c_55 => ?_)
          · refine j_iload 64 0 dX10_append_62 rfl rfl ?_
            refine j_bipush 66 dX10_append_64 rfl (by decide) ?_
            refine j_icmp_ge 69 74 dX10_append_66 rfl rfl (r32 (by omega) (by omega)) (r32 (by decide) (by decide)) (fun c_66 => ?_) (fun c_66 => ?_)
            · refine j_iload 76 6 dX10_append_74 rfl rfl ?_
              have hap : apb w0 w1 w2 w3 w4 k = wb w4 (k % 4) := by unfold apb; rw [if_neg (by omega), if_neg (by omega), if_neg (by omega), if_neg (by omega), show k % 4 = k - 16 by omega]
              refine j_istore 78 (L2 := [(7, .int (i32 (w4))), (6, .int (i32 ((k : Int)))), (0, .ref (m)), (1, .int (i32 (w0))), (2, .int (i32 (w1))), (3, .int (i32 (w2))), (4, .int (i32 (w3))), (5, .int (i32 (w4)))]) dX10_append_76 rfl (Nat.le_of_ble_eq_true rfl) rfl ?_
              refine j_aload_n 79 2 dX10_append_78 rfl rfl ?_
              refine j_getr 82 dX10_append_79 rfl fl_X10_9 hM.md rfl (fun _ _ => rfl) rfl ?_
              refine j_aload_n 83 2 dX10_append_82 rfl rfl ?_
              refine j_geti 86 dX10_append_83 rfl fl_X10_38 hM.md rfl rfl (fun r_83 => ?_)
              refine j_top (y := ((nb + k : Nat) : Int)) (apN_1) ?_
              refine j_iload 88 0 dX10_append_86 rfl rfl ?_
              refine j_bipush 90 dX10_append_88 rfl (by decide) ?_
              refine j_bipush 92 dX10_append_90 rfl (by decide) ?_
              refine j_iload 94 1 dX10_append_92 rfl rfl ?_
              refine j_iconst 95 dX10_append_94 rfl ?_
              refine j_irem 96 dX10_append_95 rfl (by omega) (by omega) (by omega) (by omega) ?_
              refine j_top (y := ((k % 4 : Nat) : Int)) (by omega) ?_
              refine j_imul 97 dX10_append_96 rfl ?_
              refine j_isub 98 dX10_append_97 rfl ?_
              refine j_ishr 99 dX10_append_98 rfl ?_
              refine j_sipush 102 dX10_append_99 rfl (by decide) ?_
              refine j_iand 103 dX10_append_102 rfl ?_
              refine j_topI (y := apb w0 w1 w2 w3 w4 k) ((wb_ref hw4 (show k % 4 < 4 by omega)).trans (congrArg i32 hap.symm)) ?_
              refine j_iast 104 (nb + k) dX10_append_103 rfl hM.buf rfl rfl (show nb + k < 700 by omega) (by have := apb_r (w0 := w0) (w1 := w1) (w2 := w2) (w3 := w3) (w4 := w4) k; exact ⟨by omega, by omega⟩) ?_
              refine j_mn (fun g_103 hg_103 => ?_)
              refine j_aload_n 105 2 dX10_append_104 rfl rfl ?_
              refine j_dup 106 dX10_append_105 rfl rfl ?_
              refine j_geti 109 dX10_append_106 rfl fl_X10_38 hM.md rfl rfl (fun r_106 => ?_)
              refine j_top (y := ((nb + k : Nat) : Int)) ((by rw [hg_103, up2_a (by omega)]; exact apN_1)) ?_
              refine j_iconst 110 dX10_append_109 rfl ?_
              refine j_iadd 111 dX10_append_110 rfl ?_
              refine j_puti 114 dX10_append_111 rfl fl_X10_38 hM.md rfl rfl rfl (r32 (by omega) (by omega)) ?_
              refine j_mn (fun g_111 hg_111 => ?_)
              refine j_iinc 117 1 (y := ((k + 1 : Nat) : Int)) (L2 := [(6, .int (i32 (((k + 1 : Nat) : Int)))), (7, .int (i32 (w4))), (0, .ref (m)), (1, .int (i32 (w0))), (2, .int (i32 (w1))), (3, .int (i32 (w2))), (4, .int (i32 (w3))), (5, .int (i32 (w4)))]) dX10_append_114 rfl rfl (by omega) (Nat.le_of_ble_eq_true rfl) rfl ?_
              refine j_goto 23 dX10_append_117 rfl ?_
              refine j_sub [0, 2, 3, 4, 5, 6, 7] rfl ?_
              rw [hg_111, hg_103, apN_s]
              exact ih_23 (k + 1) (by omega) (by omega)
            · refine j_iload 71 5 dX10_append_69 rfl rfl ?_
              refine j_goto 76 dX10_append_71 rfl ?_
              have hap : apb w0 w1 w2 w3 w4 k = wb w3 (k % 4) := by unfold apb; rw [if_neg (by omega), if_neg (by omega), if_neg (by omega), if_pos (by omega), show k % 4 = k - 12 by omega]
              refine j_istore 78 (L2 := [(7, .int (i32 (w3))), (6, .int (i32 ((k : Int)))), (0, .ref (m)), (1, .int (i32 (w0))), (2, .int (i32 (w1))), (3, .int (i32 (w2))), (4, .int (i32 (w3))), (5, .int (i32 (w4)))]) dX10_append_76 rfl (Nat.le_of_ble_eq_true rfl) rfl ?_
              refine j_aload_n 79 2 dX10_append_78 rfl rfl ?_
              refine j_getr 82 dX10_append_79 rfl fl_X10_9 hM.md rfl (fun _ _ => rfl) rfl ?_
              refine j_aload_n 83 2 dX10_append_82 rfl rfl ?_
              refine j_geti 86 dX10_append_83 rfl fl_X10_38 hM.md rfl rfl (fun r_83 => ?_)
              refine j_top (y := ((nb + k : Nat) : Int)) (apN_1) ?_
              refine j_iload 88 0 dX10_append_86 rfl rfl ?_
              refine j_bipush 90 dX10_append_88 rfl (by decide) ?_
              refine j_bipush 92 dX10_append_90 rfl (by decide) ?_
              refine j_iload 94 1 dX10_append_92 rfl rfl ?_
              refine j_iconst 95 dX10_append_94 rfl ?_
              refine j_irem 96 dX10_append_95 rfl (by omega) (by omega) (by omega) (by omega) ?_
              refine j_top (y := ((k % 4 : Nat) : Int)) (by omega) ?_
              refine j_imul 97 dX10_append_96 rfl ?_
              refine j_isub 98 dX10_append_97 rfl ?_
              refine j_ishr 99 dX10_append_98 rfl ?_
              refine j_sipush 102 dX10_append_99 rfl (by decide) ?_
              refine j_iand 103 dX10_append_102 rfl ?_
              refine j_topI (y := apb w0 w1 w2 w3 w4 k) ((wb_ref hw3 (show k % 4 < 4 by omega)).trans (congrArg i32 hap.symm)) ?_
              refine j_iast 104 (nb + k) dX10_append_103 rfl hM.buf rfl rfl (show nb + k < 700 by omega) (by have := apb_r (w0 := w0) (w1 := w1) (w2 := w2) (w3 := w3) (w4 := w4) k; exact ⟨by omega, by omega⟩) ?_
              refine j_mn (fun g_103 hg_103 => ?_)
              refine j_aload_n 105 2 dX10_append_104 rfl rfl ?_
              refine j_dup 106 dX10_append_105 rfl rfl ?_
              refine j_geti 109 dX10_append_106 rfl fl_X10_38 hM.md rfl rfl (fun r_106 => ?_)
              refine j_top (y := ((nb + k : Nat) : Int)) ((by rw [hg_103, up2_a (by omega)]; exact apN_1)) ?_
              refine j_iconst 110 dX10_append_109 rfl ?_
              refine j_iadd 111 dX10_append_110 rfl ?_
              refine j_puti 114 dX10_append_111 rfl fl_X10_38 hM.md rfl rfl rfl (r32 (by omega) (by omega)) ?_
              refine j_mn (fun g_111 hg_111 => ?_)
              refine j_iinc 117 1 (y := ((k + 1 : Nat) : Int)) (L2 := [(6, .int (i32 (((k + 1 : Nat) : Int)))), (7, .int (i32 (w3))), (0, .ref (m)), (1, .int (i32 (w0))), (2, .int (i32 (w1))), (3, .int (i32 (w2))), (4, .int (i32 (w3))), (5, .int (i32 (w4)))]) dX10_append_114 rfl rfl (by omega) (Nat.le_of_ble_eq_true rfl) rfl ?_
              refine j_goto 23 dX10_append_117 rfl ?_
              refine j_sub [0, 2, 3, 4, 5, 6, 7] rfl ?_
              rw [hg_111, hg_103, apN_s]
              exact ih_23 (k + 1) (by omega) (by omega)
          · refine j_iload_n 59 4 dX10_append_58 rfl rfl ?_
            refine j_goto 76 dX10_append_59 rfl ?_
            have hap : apb w0 w1 w2 w3 w4 k = wb w2 (k % 4) := by unfold apb; rw [if_neg (by omega), if_neg (by omega), if_pos (by omega), show k % 4 = k - 8 by omega]
            refine j_istore 78 (L2 := [(7, .int (i32 (w2))), (6, .int (i32 ((k : Int)))), (0, .ref (m)), (1, .int (i32 (w0))), (2, .int (i32 (w1))), (3, .int (i32 (w2))), (4, .int (i32 (w3))), (5, .int (i32 (w4)))]) dX10_append_76 rfl (Nat.le_of_ble_eq_true rfl) rfl ?_
            refine j_aload_n 79 2 dX10_append_78 rfl rfl ?_
            refine j_getr 82 dX10_append_79 rfl fl_X10_9 hM.md rfl (fun _ _ => rfl) rfl ?_
            refine j_aload_n 83 2 dX10_append_82 rfl rfl ?_
            refine j_geti 86 dX10_append_83 rfl fl_X10_38 hM.md rfl rfl (fun r_83 => ?_)
            refine j_top (y := ((nb + k : Nat) : Int)) (apN_1) ?_
            refine j_iload 88 0 dX10_append_86 rfl rfl ?_
            refine j_bipush 90 dX10_append_88 rfl (by decide) ?_
            refine j_bipush 92 dX10_append_90 rfl (by decide) ?_
            refine j_iload 94 1 dX10_append_92 rfl rfl ?_
            refine j_iconst 95 dX10_append_94 rfl ?_
            refine j_irem 96 dX10_append_95 rfl (by omega) (by omega) (by omega) (by omega) ?_
            refine j_top (y := ((k % 4 : Nat) : Int)) (by omega) ?_
            refine j_imul 97 dX10_append_96 rfl ?_
            refine j_isub 98 dX10_append_97 rfl ?_
            refine j_ishr 99 dX10_append_98 rfl ?_
            refine j_sipush 102 dX10_append_99 rfl (by decide) ?_
            refine j_iand 103 dX10_append_102 rfl ?_
            refine j_topI (y := apb w0 w1 w2 w3 w4 k) ((wb_ref hw2 (show k % 4 < 4 by omega)).trans (congrArg i32 hap.symm)) ?_
            refine j_iast 104 (nb + k) dX10_append_103 rfl hM.buf rfl rfl (show nb + k < 700 by omega) (by have := apb_r (w0 := w0) (w1 := w1) (w2 := w2) (w3 := w3) (w4 := w4) k; exact ⟨by omega, by omega⟩) ?_
            refine j_mn (fun g_103 hg_103 => ?_)
            refine j_aload_n 105 2 dX10_append_104 rfl rfl ?_
            refine j_dup 106 dX10_append_105 rfl rfl ?_
            refine j_geti 109 dX10_append_106 rfl fl_X10_38 hM.md rfl rfl (fun r_106 => ?_)
            refine j_top (y := ((nb + k : Nat) : Int)) ((by rw [hg_103, up2_a (by omega)]; exact apN_1)) ?_
            refine j_iconst 110 dX10_append_109 rfl ?_
            refine j_iadd 111 dX10_append_110 rfl ?_
            refine j_puti 114 dX10_append_111 rfl fl_X10_38 hM.md rfl rfl rfl (r32 (by omega) (by omega)) ?_
            refine j_mn (fun g_111 hg_111 => ?_)
            refine j_iinc 117 1 (y := ((k + 1 : Nat) : Int)) (L2 := [(6, .int (i32 (((k + 1 : Nat) : Int)))), (7, .int (i32 (w2))), (0, .ref (m)), (1, .int (i32 (w0))), (2, .int (i32 (w1))), (3, .int (i32 (w2))), (4, .int (i32 (w3))), (5, .int (i32 (w4)))]) dX10_append_114 rfl rfl (by omega) (Nat.le_of_ble_eq_true rfl) rfl ?_
            refine j_goto 23 dX10_append_117 rfl ?_
            refine j_sub [0, 2, 3, 4, 5, 6, 7] rfl ?_
            rw [hg_111, hg_103, apN_s]
            exact ih_23 (k + 1) (by omega) (by omega)
        · refine j_iload_n 48 3 dX10_append_47 rfl rfl ?_
          refine j_goto 76 dX10_append_48 rfl ?_
          have hap : apb w0 w1 w2 w3 w4 k = wb w1 (k % 4) := by unfold apb; rw [if_neg (by omega), if_pos (by omega), show k % 4 = k - 4 by omega]
          refine j_istore 78 (L2 := [(7, .int (i32 (w1))), (6, .int (i32 ((k : Int)))), (0, .ref (m)), (1, .int (i32 (w0))), (2, .int (i32 (w1))), (3, .int (i32 (w2))), (4, .int (i32 (w3))), (5, .int (i32 (w4)))]) dX10_append_76 rfl (Nat.le_of_ble_eq_true rfl) rfl ?_
          refine j_aload_n 79 2 dX10_append_78 rfl rfl ?_
          refine j_getr 82 dX10_append_79 rfl fl_X10_9 hM.md rfl (fun _ _ => rfl) rfl ?_
          refine j_aload_n 83 2 dX10_append_82 rfl rfl ?_
          refine j_geti 86 dX10_append_83 rfl fl_X10_38 hM.md rfl rfl (fun r_83 => ?_)
          refine j_top (y := ((nb + k : Nat) : Int)) (apN_1) ?_
          refine j_iload 88 0 dX10_append_86 rfl rfl ?_
          refine j_bipush 90 dX10_append_88 rfl (by decide) ?_
          refine j_bipush 92 dX10_append_90 rfl (by decide) ?_
          refine j_iload 94 1 dX10_append_92 rfl rfl ?_
          refine j_iconst 95 dX10_append_94 rfl ?_
          refine j_irem 96 dX10_append_95 rfl (by omega) (by omega) (by omega) (by omega) ?_
          refine j_top (y := ((k % 4 : Nat) : Int)) (by omega) ?_
          refine j_imul 97 dX10_append_96 rfl ?_
          refine j_isub 98 dX10_append_97 rfl ?_
          refine j_ishr 99 dX10_append_98 rfl ?_
          refine j_sipush 102 dX10_append_99 rfl (by decide) ?_
          refine j_iand 103 dX10_append_102 rfl ?_
          refine j_topI (y := apb w0 w1 w2 w3 w4 k) ((wb_ref hw1 (show k % 4 < 4 by omega)).trans (congrArg i32 hap.symm)) ?_
          refine j_iast 104 (nb + k) dX10_append_103 rfl hM.buf rfl rfl (show nb + k < 700 by omega) (by have := apb_r (w0 := w0) (w1 := w1) (w2 := w2) (w3 := w3) (w4 := w4) k; exact ⟨by omega, by omega⟩) ?_
          refine j_mn (fun g_103 hg_103 => ?_)
          refine j_aload_n 105 2 dX10_append_104 rfl rfl ?_
          refine j_dup 106 dX10_append_105 rfl rfl ?_
          refine j_geti 109 dX10_append_106 rfl fl_X10_38 hM.md rfl rfl (fun r_106 => ?_)
          refine j_top (y := ((nb + k : Nat) : Int)) ((by rw [hg_103, up2_a (by omega)]; exact apN_1)) ?_
          refine j_iconst 110 dX10_append_109 rfl ?_
          refine j_iadd 111 dX10_append_110 rfl ?_
          refine j_puti 114 dX10_append_111 rfl fl_X10_38 hM.md rfl rfl rfl (r32 (by omega) (by omega)) ?_
          refine j_mn (fun g_111 hg_111 => ?_)
          refine j_iinc 117 1 (y := ((k + 1 : Nat) : Int)) (L2 := [(6, .int (i32 (((k + 1 : Nat) : Int)))), (7, .int (i32 (w1))), (0, .ref (m)), (1, .int (i32 (w0))), (2, .int (i32 (w1))), (3, .int (i32 (w2))), (4, .int (i32 (w3))), (5, .int (i32 (w4)))]) dX10_append_114 rfl rfl (by omega) (Nat.le_of_ble_eq_true rfl) rfl ?_
          refine j_goto 23 dX10_append_117 rfl ?_
          refine j_sub [0, 2, 3, 4, 5, 6, 7] rfl ?_
          rw [hg_111, hg_103, apN_s]
          exact ih_23 (k + 1) (by omega) (by omega)
      · refine j_iload_n 37 2 dX10_append_36 rfl rfl ?_
        refine j_goto 76 dX10_append_37 rfl ?_
        have hap : apb w0 w1 w2 w3 w4 k = wb w0 (k % 4) := by unfold apb; rw [if_pos (by omega), show k % 4 = k by omega]
        refine j_istore 78 (L2 := [(7, .int (i32 (w0))), (6, .int (i32 ((k : Int)))), (0, .ref (m)), (1, .int (i32 (w0))), (2, .int (i32 (w1))), (3, .int (i32 (w2))), (4, .int (i32 (w3))), (5, .int (i32 (w4)))]) dX10_append_76 rfl (Nat.le_of_ble_eq_true rfl) rfl ?_
        refine j_aload_n 79 2 dX10_append_78 rfl rfl ?_
        refine j_getr 82 dX10_append_79 rfl fl_X10_9 hM.md rfl (fun _ _ => rfl) rfl ?_
        refine j_aload_n 83 2 dX10_append_82 rfl rfl ?_
        refine j_geti 86 dX10_append_83 rfl fl_X10_38 hM.md rfl rfl (fun r_83 => ?_)
        refine j_top (y := ((nb + k : Nat) : Int)) (apN_1) ?_
        refine j_iload 88 0 dX10_append_86 rfl rfl ?_
        refine j_bipush 90 dX10_append_88 rfl (by decide) ?_
        refine j_bipush 92 dX10_append_90 rfl (by decide) ?_
        refine j_iload 94 1 dX10_append_92 rfl rfl ?_
        refine j_iconst 95 dX10_append_94 rfl ?_
        refine j_irem 96 dX10_append_95 rfl (by omega) (by omega) (by omega) (by omega) ?_
        refine j_top (y := ((k % 4 : Nat) : Int)) (by omega) ?_
        refine j_imul 97 dX10_append_96 rfl ?_
        refine j_isub 98 dX10_append_97 rfl ?_
        refine j_ishr 99 dX10_append_98 rfl ?_
        refine j_sipush 102 dX10_append_99 rfl (by decide) ?_
        refine j_iand 103 dX10_append_102 rfl ?_
        refine j_topI (y := apb w0 w1 w2 w3 w4 k) ((wb_ref hw0 (show k % 4 < 4 by omega)).trans (congrArg i32 hap.symm)) ?_
        refine j_iast 104 (nb + k) dX10_append_103 rfl hM.buf rfl rfl (show nb + k < 700 by omega) (by have := apb_r (w0 := w0) (w1 := w1) (w2 := w2) (w3 := w3) (w4 := w4) k; exact ⟨by omega, by omega⟩) ?_
        refine j_mn (fun g_103 hg_103 => ?_)
        refine j_aload_n 105 2 dX10_append_104 rfl rfl ?_
        refine j_dup 106 dX10_append_105 rfl rfl ?_
        refine j_geti 109 dX10_append_106 rfl fl_X10_38 hM.md rfl rfl (fun r_106 => ?_)
        refine j_top (y := ((nb + k : Nat) : Int)) ((by rw [hg_103, up2_a (by omega)]; exact apN_1)) ?_
        refine j_iconst 110 dX10_append_109 rfl ?_
        refine j_iadd 111 dX10_append_110 rfl ?_
        refine j_puti 114 dX10_append_111 rfl fl_X10_38 hM.md rfl rfl rfl (r32 (by omega) (by omega)) ?_
        refine j_mn (fun g_111 hg_111 => ?_)
        refine j_iinc 117 1 (y := ((k + 1 : Nat) : Int)) (L2 := [(6, .int (i32 (((k + 1 : Nat) : Int)))), (7, .int (i32 (w0))), (0, .ref (m)), (1, .int (i32 (w0))), (2, .int (i32 (w1))), (3, .int (i32 (w2))), (4, .int (i32 (w3))), (5, .int (i32 (w4)))]) dX10_append_114 rfl rfl (by omega) (Nat.le_of_ble_eq_true rfl) rfl ?_
        refine j_goto 23 dX10_append_117 rfl ?_
        refine j_sub [0, 2, 3, 4, 5, 6, 7] rfl ?_
        rw [hg_111, hg_103, apN_s]
        exact ih_23 (k + 1) (by omega) (by omega)

set_option maxRecDepth 20000 in
theorem r_append0 {w : Wd} {sh : Shp} {g : Mem} {m : Nat} (hM : MdS sh.1 m) {nb : Nat} {w0 w1 w2 w3 w4 : Int} (hw0 : R32 w0) (hw1 : R32 w1) (hw2 : R32 w2) (hw3 : R32 w3) (hw4 : R32 w4) (h1 : g m 2 = (nb : Int)) (hn0 : nb ≤ 700) (hn : ¬ nb + 20 ≤ 700) : CT w mX10_append [.ref (m), .int (i32 (w0)), .int (i32 (w1)), .int (i32 (w2)), .int (i32 (w3)), .int (i32 (w4))] sh g (dQ (some (.int (i32 (-1)))) sh (up2 g m 0 0)) := by
  refine j_entry (by decide) rfl (Nat.le_of_ble_eq_true rfl) (fun h => by cases h) rfl ?_
  show J w mX10_append 0 [(0, .ref (m)), (1, .int (i32 (w0))), (2, .int (i32 (w1))), (3, .int (i32 (w2))), (4, .int (i32 (w3))), (5, .int (i32 (w4)))] [] sh g 0 0 _
  refine j_aload_n 1 0 dX10_append_0 rfl rfl ?_
  refine j_iconst 2 dX10_append_1 rfl ?_
  refine j_puti 5 dX10_append_2 rfl fl_X10_35 hM.md rfl rfl rfl (r32 (by decide) (by decide)) ?_
  refine j_mn (fun g_2 hg_2 => ?_)
  refine j_aload_n 6 0 dX10_append_5 rfl rfl ?_
  refine j_mem hg_2 ?_
  refine j_geti 9 dX10_append_6 rfl fl_X10_38 hM.md rfl rfl (fun r_6 => ?_)
  refine j_top (y := (nb : Int)) ((up2_k (by decide)).trans h1) ?_
  refine j_bipush 11 dX10_append_9 rfl (by decide) ?_
  refine j_iadd 12 dX10_append_11 rfl ?_
  refine j_sipush 15 dX10_append_12 rfl (by decide) ?_
  refine j_icmp_le 18 20 dX10_append_15 rfl rfl (r32 (by omega) (by omega)) (r32 (by decide) (by decide)) (fun c_15 => absurd c_15 (by omega)) (fun c_15 => ?_)
  refine j_iconst 19 dX10_append_18 rfl ?_
  exact j_iret dX10_append_19 rfl (⟨rfl, rfl, rfl⟩)
