theorem r_lineD {w : Wd} {sh : Shp} {g : Mem} {d : Nat → Int} {a : Nat} (ha : sh.1 a = some (10, 729, kN)) (hb : d 2 ≤ 12) {x y : Int} (hx : R32 x) (hy : R32 y) : CT w mX10_lineOf [.ref a, .int (i32 x), .int (i32 y)] sh (upR g a d) (dQ (some (.int (i32 (s_lineOf d x y)))) sh (upR g a d)) := by
  have h := r_lineOf (w := w) (g := upR g a d) ha (x := x) (y := y) (by rw [upR_s]; exact hb) hx hy
  rw [upR_s] at h
  exact h
theorem hrng {d : Nat → Int} {many : Nat} {y : Int} : R32 (s_routeFor d many y) := by
  rcases s_rfF_rng d many y 8 with h | ⟨h1, h2, h3⟩
  · rw [show s_routeFor d many y = -1 from h]; exact ⟨by decide, by decide⟩
  · exact ⟨by show _ ≤ s_rfF d many y 8; omega, by show s_rfF d many y 8 ≤ _; omega⟩
theorem bool_dec {b : Bool} {c : Prop} [Decidable c] (h : b = true ↔ c) : b = decide c := by
  by_cases hc : c
  · rw [decide_eq_true hc]; exact h.mpr hc
  · rw [decide_eq_false hc]; cases hb : b
    · rfl
    · exact absurd (h.mp hb) hc

set_option maxRecDepth 20000 in
theorem r_isComplete {w : Wd} {sh : Shp} {g : Mem} {d : Nat → Int} {m : Nat} (hM : MdS sh.1 m) {x y : Int} (many : Nat) (hx : x = (many : Int)) (hm : many ≤ 6) (hy : 0 ≤ y) (hy2 : y ≤ 2147483647) (hb2 : d 2 ≤ 12) (hb4 : d 4 ≤ 8) (hl : ∀ r : Nat, (r : Int) < d 4 → 0 ≤ d (95 + 7 * r)) : CT w mX10_isComplete [.ref (m), .int (i32 (x)), .int (i32 (y))] sh (upR g (m + 2) d) (dQ (some (.int (i32 (b01 (s_isComplete d many y))))) sh (upR g (m + 2) d)) := by
  refine j_entry (by decide) rfl (Nat.le_of_ble_eq_true rfl) (fun h => by cases h) rfl ?_
  show J w mX10_isComplete 0 [(0, .ref (m)), (1, .int (i32 (x))), (2, .int (i32 (y)))] [] sh (upR g (m + 2) d) 0 0 _
  refine j_rgd hM.dat rfl (fun hR => ?_)
  refine j_aload_n 1 0 dX10_isComplete_0 rfl rfl ?_
  refine j_iload_n 2 1 dX10_isComplete_1 rfl rfl ?_
  refine j_iload_n 3 2 dX10_isComplete_2 rfl rfl ?_
  refine j_callV 6 (As := [.int (i32 (x)), .int (i32 (y))]) (kc2 := 0) (ks2 := 0) dX10_isComplete_3 rfl mvX10_routeFor lk_X10_198 hM.md rfl ⟨Nat.le_of_ble_eq_true rfl, rfl⟩ rfl rfl (Nat.le_of_ble_eq_true rfl) ⟨Nat.le_of_ble_eq_true rfl, Nat.le_of_ble_eq_true rfl⟩ ⟨Nat.le_of_ble_eq_true rfl, Nat.le_of_ble_eq_true rfl⟩ (r_routeFor hM many hy hy2 hm hb4 hl hx) x_d (k_d1 ?_)
  refine j_istore_n 7 (L2 := [(3, .int (i32 (s_routeFor d many y))), (0, .ref (m)), (1, .int (i32 (x))), (2, .int (i32 (y)))]) dX10_isComplete_6 rfl rfl (Nat.le_of_ble_eq_true rfl) rfl ?_
  refine j_aload_n 8 1 dX10_isComplete_7 rfl rfl ?_
  refine j_getr 11 dX10_isComplete_8 rfl fl_X10_17 hM.md rfl (fun _ _ => rfl) rfl ?_
  refine j_iload_n 12 2 dX10_isComplete_11 rfl rfl ?_
  refine j_iload_n 13 3 dX10_isComplete_12 rfl rfl ?_
  refine j_callS 16 (As := [.ref (m + 2), .int (i32 (x)), .int (i32 (y))]) (kc2 := 0) (ks2 := 0) dX10_isComplete_13 rfl msX10_lineOf lk_X10_116 rfl rfl (Nat.le_of_ble_eq_true rfl) ⟨Nat.le_of_ble_eq_true rfl, Nat.le_of_ble_eq_true rfl⟩ ⟨Nat.le_of_ble_eq_true rfl, Nat.le_of_ble_eq_true rfl⟩ (r_lineD hM.dat (x := x) (y := y) hb2 (r32 (by omega) (by omega)) (r32 (by omega) hy2)) x_d (k_d1 ?_)
  refine j_iconst 17 dX10_isComplete_16 rfl ?_
  refine j_icmp_ne 20 43 dX10_isComplete_17 rfl rfl (fst_r32 _ (by decide)) (r32 (by decide) (by decide)) (fun c_17 => ?_) (fun c_17 => ?_)
  · have hv : s_isComplete d many y = true := by unfold s_isComplete; rw [← hx]; simp [c_17]
    refine j_iconst 44 dX10_isComplete_43 rfl ?_
    refine j_goto 48 dX10_isComplete_44 rfl ?_
    exact j_zret dX10_isComplete_48 rfl (Or.inr rfl) (q_i (by rw [hv]; rfl))
  · refine j_iload_n 21 0 dX10_isComplete_20 rfl rfl ?_
    refine j_iconst 22 dX10_isComplete_21 rfl ?_
    refine j_icmp_eq 25 47 dX10_isComplete_22 rfl rfl hrng (r32 (by decide) (by decide)) (fun c_22 => ?_) (fun c_22 => ?_)
    · have hv : s_isComplete d many y = false := by unfold s_isComplete; rw [← hx]; simp [c_17, c_22]
      refine j_iconst 48 dX10_isComplete_47 rfl ?_
      exact j_zret dX10_isComplete_48 rfl (Or.inl rfl) (q_i (by rw [hv]; rfl))
    · have hrg := s_rfF_rng d many y 8
      have hrg2 : s_rfF d many y 8 = s_routeFor d many y := rfl
      rw [hrg2] at hrg
      refine j_aload_n 26 1 dX10_isComplete_25 rfl rfl ?_
      refine j_getr 29 dX10_isComplete_26 rfl fl_X10_17 hM.md rfl (fun _ _ => rfl) rfl ?_
      refine j_bipush 31 dX10_isComplete_29 rfl (by decide) ?_
      refine j_bipush 33 dX10_isComplete_31 rfl (by decide) ?_
      refine j_iload_n 34 0 dX10_isComplete_33 rfl rfl ?_
      refine j_imul 35 dX10_isComplete_34 rfl ?_
      refine j_iadd 36 dX10_isComplete_35 rfl ?_
      refine j_iconst 37 dX10_isComplete_36 rfl ?_
      refine j_iadd 38 dX10_isComplete_37 rfl ?_
      refine j_iald_d 39 (97 + 7 * (s_routeFor d many y).toNat) dX10_isComplete_38 rfl hM.dat rfl (by omega) (show 97 + 7 * (s_routeFor d many y).toNat < 729 by omega) (fun r_38 => ?_)
      refine j_iload_n 40 2 dX10_isComplete_39 rfl rfl ?_
      refine j_icmp_ne 43 47 dX10_isComplete_40 rfl rfl r_38 (r32 (by omega) (by omega)) (fun c_40 => ?_) (fun c_40 => ?_)
      · have hv : s_isComplete d many y = false := by unfold s_isComplete; rw [← hx]; simp [c_17, c_40]
        refine j_iconst 48 dX10_isComplete_47 rfl ?_
        exact j_zret dX10_isComplete_48 rfl (Or.inl rfl) (q_i (by rw [hv]; rfl))
      · have hv : s_isComplete d many y = true := by unfold s_isComplete; rw [← hx]; simp [c_22, c_40]
        refine j_iconst 44 dX10_isComplete_43 rfl ?_
        refine j_goto 48 dX10_isComplete_44 rfl ?_
        exact j_zret dX10_isComplete_48 rfl (Or.inr rfl) (q_i (by rw [hv]; rfl))

set_option maxRecDepth 20000 in
theorem r_isFree {w : Wd} {sh : Shp} {g : Mem} {d : Nat → Int} {m : Nat} (hM : MdS sh.1 m) {x : Int} (c : Nat) (hx : x = (c : Int)) (hc : c < 5) (hb : d 5 ≤ 40) (f : Bool) (h5 : d (50 + 9 * c) ≤ 100) (h5b : 0 ≤ d (50 + 9 * c)) : CT w mX10_isFree [.ref (m), .int (i32 (x)), .int (i32 (b01 f))] sh (upR g (m + 2) d) (dQ (some (.int (i32 (b01 (s_isFree d c f))))) sh (upR g (m + 2) d)) := by
  refine j_entry (by decide) rfl (Nat.le_of_ble_eq_true rfl) (fun h => by cases h) rfl ?_
  show J w mX10_isFree 0 [(0, .ref (m)), (1, .int (i32 (x))), (2, .int (i32 (b01 f)))] [] sh (upR g (m + 2) d) 0 0 _
  refine j_rgd hM.dat rfl (fun hR => ?_)
  have hcl : s_busyTrunks d x ≤ 40 := cnt_le _ 40
  have h50 := hR (50 + 9 * c)
  refine j_aload_n 1 0 dX10_isFree_0 rfl rfl ?_
  refine j_iload_n 2 1 dX10_isFree_1 rfl rfl ?_
  refine j_iconst 3 dX10_isFree_2 rfl ?_
  refine j_callV 6 (As := [.int (i32 (x)), .int (i32 (0))]) (kc2 := 0) (ks2 := 0) dX10_isFree_3 rfl mvX10_ofGroup lk_X10_210 hM.md rfl ⟨Nat.le_of_ble_eq_true rfl, rfl⟩ rfl rfl (Nat.le_of_ble_eq_true rfl) ⟨Nat.le_of_ble_eq_true rfl, Nat.le_of_ble_eq_true rfl⟩ ⟨Nat.le_of_ble_eq_true rfl, Nat.le_of_ble_eq_true rfl⟩ (r_ofGroup hM c 0 (50 + 9 * c) hx rfl (by omega) (by omega) (by decide)) x_d (k_d1 ?_)
  refine j_aload_n 7 0 dX10_isFree_6 rfl rfl ?_
  refine j_iload_n 8 1 dX10_isFree_7 rfl rfl ?_
  refine j_callV 11 (As := [.int (i32 (x))]) (kc2 := 0) (ks2 := 0) dX10_isFree_8 rfl mvX10_busyTrunks lk_X10_213 hM.md rfl ⟨Nat.le_of_ble_eq_true rfl, rfl⟩ rfl rfl (Nat.le_of_ble_eq_true rfl) ⟨Nat.le_of_ble_eq_true rfl, Nat.le_of_ble_eq_true rfl⟩ ⟨Nat.le_of_ble_eq_true rfl, Nat.le_of_ble_eq_true rfl⟩ (r_busyTrunks hM hb (x := x) (r32 (by omega) (by omega))) x_d (k_d1 ?_)
  refine j_isub 12 dX10_isFree_11 rfl ?_
  refine j_istore_n 13 (L2 := [(3, .int (i32 ((d (50 + 9 * c)) - ((s_busyTrunks d x : Int))))), (0, .ref (m)), (1, .int (i32 (x))), (2, .int (i32 (b01 f)))]) dX10_isFree_12 rfl rfl (Nat.le_of_ble_eq_true rfl) rfl ?_
  refine j_iload_n 14 3 dX10_isFree_13 rfl rfl ?_
  refine j_if_eq 17 29 dX10_isFree_14 rfl rfl (r01 (b01_r _)) (fun c_14 => ?_) (fun c_14 => ?_)
  · have hf : f = false := b01_0 c_14
    refine j_iload_n 30 0 dX10_isFree_29 rfl rfl ?_
    refine j_aload_n 31 1 dX10_isFree_30 rfl rfl ?_
    refine j_iload_n 32 2 dX10_isFree_31 rfl rfl ?_
    refine j_iconst 33 dX10_isFree_32 rfl ?_
    refine j_callV 36 (As := [.int (i32 (x)), .int (i32 (1))]) (kc2 := 0) (ks2 := 0) dX10_isFree_33 rfl mvX10_ofGroup lk_X10_210 hM.md rfl ⟨Nat.le_of_ble_eq_true rfl, rfl⟩ rfl rfl (Nat.le_of_ble_eq_true rfl) ⟨Nat.le_of_ble_eq_true rfl, Nat.le_of_ble_eq_true rfl⟩ ⟨Nat.le_of_ble_eq_true rfl, Nat.le_of_ble_eq_true rfl⟩ (r_ofGroup hM c 1 (51 + 9 * c) hx rfl (by omega) (by omega) (by decide)) x_d (k_d1 ?_)
    refine j_icmp_le 39 43 dX10_isFree_36 rfl rfl (r32 (by omega) (by omega)) (hR _) (fun c_36 => ?_) (fun c_36 => ?_)
    · have hv : s_isFree d c f = false := by rw [hf]; exact decide_eq_false (by rw [← hx]; omega)
      refine j_iconst 44 dX10_isFree_43 rfl ?_
      exact j_zret dX10_isFree_44 rfl (Or.inl rfl) (q_i (by rw [hv]; rfl))
    · have hv : s_isFree d c f = true := by rw [hf]; exact decide_eq_true (by rw [← hx]; omega)
      refine j_iconst 40 dX10_isFree_39 rfl ?_
      refine j_goto 44 dX10_isFree_40 rfl ?_
      exact j_zret dX10_isFree_44 rfl (Or.inr rfl) (q_i (by rw [hv]; rfl))
  · have hf : f = true := b01_1 c_14
    refine j_iload_n 18 0 dX10_isFree_17 rfl rfl ?_
    refine j_if_le 21 25 dX10_isFree_18 rfl rfl (r32 (by omega) (by omega)) (fun c_18 => ?_) (fun c_18 => ?_)
    · have hv : s_isFree d c f = false := by rw [hf]; exact decide_eq_false (by rw [← hx]; omega)
      refine j_iconst 26 dX10_isFree_25 rfl ?_
      refine j_goto 44 dX10_isFree_26 rfl ?_
      exact j_zret dX10_isFree_44 rfl (Or.inl rfl) (q_i (by rw [hv]; rfl))
    · have hv : s_isFree d c f = true := by rw [hf]; exact decide_eq_true (by rw [← hx]; omega)
      refine j_iconst 22 dX10_isFree_21 rfl ?_
      refine j_goto 44 dX10_isFree_22 rfl ?_
      exact j_zret dX10_isFree_44 rfl (Or.inr rfl) (q_i (by rw [hv]; rfl))

set_option maxRecDepth 20000 in
theorem r_choiceOf {w : Wd} {sh : Shp} {g : Mem} {d : Nat → Int} {m : Nat} (hM : MdS sh.1 m) {x : Int} (r : Nat) (hx : x = (r : Int)) (hr : r < 8) (hb : d 5 ≤ 40) (hn : 0 ≤ d (98 + 7 * r)) (hn3 : d (98 + 7 * r) ≤ 3) (hch : ∀ j : Nat, (j : Int) < d (98 + 7 * r) → 0 ≤ d (99 + 7 * r + j) ∧ d (99 + 7 * r + j) < 5) (hg : ∀ x : Nat, x < 5 → 0 ≤ d (50 + 9 * x) ∧ d (50 + 9 * x) ≤ 100) : CT w mX10_choiceOf [.ref (m), .int (i32 (x))] sh (upR g (m + 2) d) (dQ (some (.int (i32 ((s_choiceOf d r : Int))))) sh (upR g (m + 2) d)) := by
  refine j_entry (by decide) rfl (Nat.le_of_ble_eq_true rfl) (fun h => by cases h) rfl ?_
  show J w mX10_choiceOf 0 [(0, .ref (m)), (1, .int (i32 (x)))] [] sh (upR g (m + 2) d) 0 0 _
  refine j_rgd hM.dat rfl (fun hR => ?_)
  refine j_bipush 2 dX10_choiceOf_0 rfl (by decide) ?_
  refine j_bipush 4 dX10_choiceOf_2 rfl (by decide) ?_
  refine j_iload_n 5 1 dX10_choiceOf_4 rfl rfl ?_
  refine j_imul 6 dX10_choiceOf_5 rfl ?_
  refine j_iadd 7 dX10_choiceOf_6 rfl ?_
  refine j_top (y := ((95 + 7 * r : Nat) : Int)) (by omega) ?_
  refine j_istore_n 8 (L2 := [(2, .int (i32 (((95 + 7 * r : Nat) : Int)))), (0, .ref (m)), (1, .int (i32 (x)))]) dX10_choiceOf_7 rfl rfl (Nat.le_of_ble_eq_true rfl) rfl ?_
  refine j_aload_n 9 1 dX10_choiceOf_8 rfl rfl ?_
  refine j_getr 12 dX10_choiceOf_9 rfl fl_X10_17 hM.md rfl (fun _ _ => rfl) rfl ?_
  refine j_iload_n 13 0 dX10_choiceOf_12 rfl rfl ?_
  refine j_iconst 14 dX10_choiceOf_13 rfl ?_
  refine j_iadd 15 dX10_choiceOf_14 rfl ?_
  refine j_iald_d 16 (98 + 7 * r) dX10_choiceOf_15 rfl hM.dat rfl (by omega) (show (98 + 7 * r) < 729 by omega) (fun r_15 => ?_)
  refine j_istore_n 17 (L2 := [(3, .int (i32 (d ((98 + 7 * r))))), (2, .int (i32 (((95 + 7 * r : Nat) : Int)))), (0, .ref (m)), (1, .int (i32 (x)))]) dX10_choiceOf_16 rfl rfl (Nat.le_of_ble_eq_true rfl) rfl ?_
  refine j_iconst 18 dX10_choiceOf_17 rfl ?_
  refine j_istore 20 (L2 := [(4, .int (i32 (0))), (3, .int (i32 (d ((98 + 7 * r))))), (2, .int (i32 (((95 + 7 * r : Nat) : Int)))), (0, .ref (m)), (1, .int (i32 (x)))]) dX10_choiceOf_18 rfl (Nat.le_of_ble_eq_true rfl) rfl ?_
  suffices lp_20 : ∀ (n_20 : Nat) (k : Nat), (d (98 + 7 * r)).toNat - k < n_20 → (k : Int) ≤ d (98 + 7 * r) → s_choiceOf d r = s_chF d r ((d (98 + 7 * r)).toNat - k) k → J w mX10_choiceOf 20 [(4, .int (i32 ((k : Int)))), (3, .int (i32 (d ((98 + 7 * r))))), (2, .int (i32 (((95 + 7 * r : Nat) : Int)))), (0, .ref (m)), (1, .int (i32 (x)))] [] sh (upR g (m + 2) d) 0 0 (dQ (some (.int (i32 ((s_choiceOf d r : Int))))) sh (upR g (m + 2) d)) by
    exact lp_20 _ 0 (Nat.lt_succ_self _) (by omega) rfl
  intro n_20
  induction n_20 with
  | zero => intro k h_; exact absurd h_ (Nat.not_lt_zero _)
  | succ n_20 ih_20 =>
    intro k hn_20 hk hq
    refine j_iload 22 0 dX10_choiceOf_20 rfl rfl ?_
    refine j_iload_n 23 1 dX10_choiceOf_22 rfl rfl ?_
    refine j_icmp_ge 26 60 dX10_choiceOf_23 rfl rfl (r32 (by omega) (by omega)) r_15 (fun c_23 => ?_) (fun c_23 => ?_)
    · have he : s_choiceOf d r = k := by rw [hq, show (d (98 + 7 * r)).toNat - k = 0 by omega]; rfl
      refine j_iload 62 0 dX10_choiceOf_60 rfl rfl ?_
      exact j_iret dX10_choiceOf_62 rfl (q_i (by rw [he]))
    · have hj := hch k (by omega)
      refine j_aload_n 27 3 dX10_choiceOf_26 rfl rfl ?_
      refine j_aload_n 28 3 dX10_choiceOf_27 rfl rfl ?_
      refine j_getr 31 dX10_choiceOf_28 rfl fl_X10_17 hM.md rfl (fun _ _ => rfl) rfl ?_
      refine j_iload_n 32 2 dX10_choiceOf_31 rfl rfl ?_
      refine j_iconst 33 dX10_choiceOf_32 rfl ?_
      refine j_iadd 34 dX10_choiceOf_33 rfl ?_
      refine j_iload 36 0 dX10_choiceOf_34 rfl rfl ?_
      refine j_iadd 37 dX10_choiceOf_36 rfl ?_
      refine j_iald_d 38 (99 + 7 * r + k) dX10_choiceOf_37 rfl hM.dat rfl (by omega) (show (99 + 7 * r + k) < 729 by omega) (fun r_37 => ?_)
      refine j_iload 40 0 dX10_choiceOf_38 rfl rfl ?_
      refine j_if_ne 43 47 dX10_choiceOf_40 rfl rfl (r32 (by omega) (by omega)) (fun c_40 => ?_) (fun c_40 => ?_)
      · have hz : (0 : Int) = b01 (k == 0) := by rw [show (k == 0) = false by simp <;> omega]; rfl
        refine j_iconst 48 dX10_choiceOf_47 rfl ?_
        refine j_top hz ?_
        refine j_callV 51 (As := [.int (i32 (d ((99 + 7 * r + k)))), .int (i32 (b01 (k == 0)))]) (kc2 := 0) (ks2 := 0) dX10_choiceOf_48 rfl mvX10_isFree lk_X10_216 hM.md rfl ⟨Nat.le_of_ble_eq_true rfl, rfl⟩ rfl rfl (Nat.le_of_ble_eq_true rfl) ⟨Nat.le_of_ble_eq_true rfl, Nat.le_of_ble_eq_true rfl⟩ ⟨Nat.le_of_ble_eq_true rfl, Nat.le_of_ble_eq_true rfl⟩ (r_isFree hM (d (99 + 7 * r + k)).toNat (by omega) (by omega) hb (k == 0) (hg _ (by omega)).2 (hg _ (by omega)).1) x_d (k_d1 ?_)
        refine j_if_ne 54 60 dX10_choiceOf_51 rfl rfl (r01 (b01_r _)) (fun c_51 => ?_) (fun c_51 => ?_)
        · have he : s_choiceOf d r = k := by rw [hq, show (d (98 + 7 * r)).toNat - k = ((d (98 + 7 * r)).toNat - (k + 1)) + 1 by omega]; unfold s_chF; rw [if_pos (b01_1 c_51)]
          refine j_iload 62 0 dX10_choiceOf_60 rfl rfl ?_
          exact j_iret dX10_choiceOf_62 rfl (q_i (by rw [he]))
        · have hq2 : s_choiceOf d r = s_chF d r ((d (98 + 7 * r)).toNat - (k + 1)) (k + 1) := by rw [hq, show (d (98 + 7 * r)).toNat - k = ((d (98 + 7 * r)).toNat - (k + 1)) + 1 by omega]; conv => lhs; unfold s_chF; rw [if_neg (by rw [b01_0 c_51]; decide)]
          refine j_iinc 57 0 (y := ((k + 1 : Nat) : Int)) (L2 := [(4, .int (i32 (((k + 1 : Nat) : Int)))), (3, .int (i32 (d ((98 + 7 * r))))), (2, .int (i32 (((95 + 7 * r : Nat) : Int)))), (0, .ref (m)), (1, .int (i32 (x)))]) dX10_choiceOf_54 rfl rfl (by omega) (Nat.le_of_ble_eq_true rfl) rfl ?_
          refine j_goto 20 dX10_choiceOf_57 rfl ?_
          exact ih_20 (k + 1) (by omega) (by omega) hq2
      · have hz : (1 : Int) = b01 (k == 0) := by rw [show (k == 0) = true by simp <;> omega]; rfl
        refine j_iconst 44 dX10_choiceOf_43 rfl ?_
        refine j_goto 48 dX10_choiceOf_44 rfl ?_
        refine j_top hz ?_
        refine j_callV 51 (As := [.int (i32 (d ((99 + 7 * r + k)))), .int (i32 (b01 (k == 0)))]) (kc2 := 0) (ks2 := 0) dX10_choiceOf_48 rfl mvX10_isFree lk_X10_216 hM.md rfl ⟨Nat.le_of_ble_eq_true rfl, rfl⟩ rfl rfl (Nat.le_of_ble_eq_true rfl) ⟨Nat.le_of_ble_eq_true rfl, Nat.le_of_ble_eq_true rfl⟩ ⟨Nat.le_of_ble_eq_true rfl, Nat.le_of_ble_eq_true rfl⟩ (r_isFree hM (d (99 + 7 * r + k)).toNat (by omega) (by omega) hb (k == 0) (hg _ (by omega)).2 (hg _ (by omega)).1) x_d (k_d1 ?_)
        refine j_if_ne 54 60 dX10_choiceOf_51 rfl rfl (r01 (b01_r _)) (fun c_51 => ?_) (fun c_51 => ?_)
        · have he : s_choiceOf d r = k := by rw [hq, show (d (98 + 7 * r)).toNat - k = ((d (98 + 7 * r)).toNat - (k + 1)) + 1 by omega]; unfold s_chF; rw [if_pos (b01_1 c_51)]
          refine j_iload 62 0 dX10_choiceOf_60 rfl rfl ?_
          exact j_iret dX10_choiceOf_62 rfl (q_i (by rw [he]))
        · have hq2 : s_choiceOf d r = s_chF d r ((d (98 + 7 * r)).toNat - (k + 1)) (k + 1) := by rw [hq, show (d (98 + 7 * r)).toNat - k = ((d (98 + 7 * r)).toNat - (k + 1)) + 1 by omega]; conv => lhs; unfold s_chF; rw [if_neg (by rw [b01_0 c_51]; decide)]
          refine j_iinc 57 0 (y := ((k + 1 : Nat) : Int)) (L2 := [(4, .int (i32 (((k + 1 : Nat) : Int)))), (3, .int (i32 (d ((98 + 7 * r))))), (2, .int (i32 (((95 + 7 * r : Nat) : Int)))), (0, .ref (m)), (1, .int (i32 (x)))]) dX10_choiceOf_54 rfl rfl (by omega) (Nat.le_of_ble_eq_true rfl) rfl ?_
          refine j_goto 20 dX10_choiceOf_57 rfl ?_
          exact ih_20 (k + 1) (by omega) (by omega) hq2

set_option maxRecDepth 20000 in
theorem r_foremostOf {w : Wd} {sh : Shp} {g : Mem} {d : Nat → Int} {m : Nat} (hM : MdS sh.1 m) (hb : d 5 ≤ 40) {x : Int} (hx : R32 x) : CT w mX10_foremostOf [.ref (m), .int (i32 (x))] sh (upR g (m + 2) d) (dQ (some (.int (i32 (s_foremost d x)))) sh (upR g (m + 2) d)) := by
  refine j_entry (by decide) rfl (Nat.le_of_ble_eq_true rfl) (fun h => by cases h) rfl ?_
  show J w mX10_foremostOf 0 [(0, .ref (m)), (1, .int (i32 (x)))] [] sh (upR g (m + 2) d) 0 0 _
  refine j_rgd hM.dat rfl (fun hR => ?_)
  refine j_iconst 1 dX10_foremostOf_0 rfl ?_
  refine j_istore_n 2 (L2 := [(2, .int (i32 (-1))), (0, .ref (m)), (1, .int (i32 (x)))]) dX10_foremostOf_1 rfl rfl (Nat.le_of_ble_eq_true rfl) rfl ?_
  refine j_iconst 3 dX10_foremostOf_2 rfl ?_
  refine j_istore_n 4 (L2 := [(3, .int (i32 (0))), (2, .int (i32 (-1))), (0, .ref (m)), (1, .int (i32 (x)))]) dX10_foremostOf_3 rfl rfl (Nat.le_of_ble_eq_true rfl) rfl ?_
  suffices lp_4 : ∀ (n_4 : Nat) (k : Nat) (b : Int), 40 - k < n_4 → k ≤ 40 → b = s_fwF d x k → (R32 b ∧ (b = -1 ∨ (0 ≤ b ∧ b < (k : Int)))) → J w mX10_foremostOf 4 [(3, .int (i32 ((k : Int)))), (2, .int (i32 (b))), (0, .ref (m)), (1, .int (i32 (x)))] [] sh (upR g (m + 2) d) 0 0 (dQ (some (.int (i32 (s_foremost d x)))) sh (upR g (m + 2) d)) by
    exact lp_4 _ 0 _ (Nat.lt_succ_self _) (by omega) rfl ⟨r32 (by decide) (by decide), Or.inl rfl⟩
  intro n_4
  induction n_4 with
  | zero => intro k b h_; exact absurd h_ (Nat.not_lt_zero _)
  | succ n_4 ih_4 =>
    intro k b hn_4 hk hbb hbr
    refine j_iload_n 5 0 dX10_foremostOf_4 rfl rfl ?_
    refine j_aload_n 6 2 dX10_foremostOf_5 rfl rfl ?_
    refine j_getr 9 dX10_foremostOf_6 rfl fl_X10_17 hM.md rfl (fun _ _ => rfl) rfl ?_
    refine j_iconst 10 dX10_foremostOf_9 rfl ?_
    refine j_iald_d 11 5 dX10_foremostOf_10 rfl hM.dat rfl rfl (show 5 < 729 by omega) (fun r_10 => ?_)
    refine j_icmp_ge 14 54 dX10_foremostOf_11 rfl rfl (r32 (by omega) (by omega)) r_10 (fun c_11 => ?_) (fun c_11 => ?_)
    · refine j_iload_n 55 1 dX10_foremostOf_54 rfl rfl ?_
      exact j_iret dX10_foremostOf_55 rfl (q_i (hbb.trans (s_fwF_cut (by omega) (by omega))))
    · refine j_aload_n 15 2 dX10_foremostOf_14 rfl rfl ?_
      refine j_iload_n 16 0 dX10_foremostOf_15 rfl rfl ?_
      refine j_iconst 17 dX10_foremostOf_16 rfl ?_
      refine j_callV 20 (As := [.int (i32 ((k : Int))), .int (i32 (4))]) (kc2 := 0) (ks2 := 0) dX10_foremostOf_17 rfl mvX10_of lk_X10_192 hM.md rfl ⟨Nat.le_of_ble_eq_true rfl, rfl⟩ rfl rfl (Nat.le_of_ble_eq_true rfl) ⟨Nat.le_of_ble_eq_true rfl, Nat.le_of_ble_eq_true rfl⟩ ⟨Nat.le_of_ble_eq_true rfl, Nat.le_of_ble_eq_true rfl⟩ (r_of hM k 4 (173 + 14 * k) rfl rfl (by omega) (by omega) (by decide)) x_d (k_d1 ?_)
      refine j_iload_n 21 3 dX10_foremostOf_20 rfl rfl ?_
      refine j_icmp_ne 24 48 dX10_foremostOf_21 rfl rfl (hR _) hx (fun c_21 => ?_) (fun c_21 => ?_)
      · have hq : b = s_fwF d x (k + 1) := by rw [s_fwF_s, if_neg (fun h => c_21 h.2.1), ← hbb]
        have hq2 : R32 b ∧ (b = -1 ∨ (0 ≤ b ∧ b < ((k + 1 : Nat) : Int))) := ⟨hbr.1, by omega⟩
        refine j_iinc 51 0 (y := ((k + 1 : Nat) : Int)) (L2 := [(3, .int (i32 (((k + 1 : Nat) : Int)))), (2, .int (i32 (b))), (0, .ref (m)), (1, .int (i32 (x)))]) dX10_foremostOf_48 rfl rfl (by omega) (Nat.le_of_ble_eq_true rfl) rfl ?_
        refine j_goto 4 dX10_foremostOf_51 rfl ?_
        exact ih_4 (k + 1) _ (by omega) (by omega) hq hq2
      · refine j_iload_n 25 1 dX10_foremostOf_24 rfl rfl ?_
        refine j_iconst 26 dX10_foremostOf_25 rfl ?_
        refine j_icmp_eq 29 46 dX10_foremostOf_26 rfl rfl (hbr.1) (r32 (by decide) (by decide)) (fun c_26 => ?_) (fun c_26 => ?_)
        · have hq : (k : Int) = s_fwF d x (k + 1) := by rw [s_fwF_s, if_pos ⟨by omega, c_21, Or.inl (by omega)⟩]
          have hq2 : R32 (k : Int) ∧ ((k : Int) = -1 ∨ (0 ≤ (k : Int) ∧ (k : Int) < ((k + 1 : Nat) : Int))) := ⟨r32 (by omega) (by omega), by omega⟩
          refine j_iload_n 47 0 dX10_foremostOf_46 rfl rfl ?_
          refine j_istore_n 48 (L2 := [(2, .int (i32 ((k : Int)))), (3, .int (i32 ((k : Int)))), (0, .ref (m)), (1, .int (i32 (x)))]) dX10_foremostOf_47 rfl rfl (Nat.le_of_ble_eq_true rfl) rfl ?_
          refine j_iinc 51 1 (y := ((k + 1 : Nat) : Int)) (L2 := [(3, .int (i32 (((k + 1 : Nat) : Int)))), (2, .int (i32 ((k : Int)))), (0, .ref (m)), (1, .int (i32 (x)))]) dX10_foremostOf_48 rfl rfl (by omega) (Nat.le_of_ble_eq_true rfl) rfl ?_
          refine j_goto 4 dX10_foremostOf_51 rfl ?_
          exact ih_4 (k + 1) _ (by omega) (by omega) hq hq2
        · refine j_aload_n 30 2 dX10_foremostOf_29 rfl rfl ?_
          refine j_iload_n 31 0 dX10_foremostOf_30 rfl rfl ?_
          refine j_bipush 33 dX10_foremostOf_31 rfl (by decide) ?_
          refine j_callV 36 (As := [.int (i32 ((k : Int))), .int (i32 (12))]) (kc2 := 0) (ks2 := 0) dX10_foremostOf_33 rfl mvX10_of lk_X10_192 hM.md rfl ⟨Nat.le_of_ble_eq_true rfl, rfl⟩ rfl rfl (Nat.le_of_ble_eq_true rfl) ⟨Nat.le_of_ble_eq_true rfl, Nat.le_of_ble_eq_true rfl⟩ ⟨Nat.le_of_ble_eq_true rfl, Nat.le_of_ble_eq_true rfl⟩ (r_of hM k 12 (181 + 14 * k) rfl rfl (by omega) (by omega) (by decide)) x_d (k_d1 ?_)
          refine j_aload_n 37 2 dX10_foremostOf_36 rfl rfl ?_
          refine j_iload_n 38 1 dX10_foremostOf_37 rfl rfl ?_
          refine j_bipush 40 dX10_foremostOf_38 rfl (by decide) ?_
          refine j_callV 43 (As := [.int (i32 (b)), .int (i32 (12))]) (kc2 := 0) (ks2 := 0) dX10_foremostOf_40 rfl mvX10_of lk_X10_192 hM.md rfl ⟨Nat.le_of_ble_eq_true rfl, rfl⟩ rfl rfl (Nat.le_of_ble_eq_true rfl) ⟨Nat.le_of_ble_eq_true rfl, Nat.le_of_ble_eq_true rfl⟩ ⟨Nat.le_of_ble_eq_true rfl, Nat.le_of_ble_eq_true rfl⟩ (r_of hM b.toNat 12 (181 + 14 * b.toNat) (by omega) rfl (by omega) (by omega) (by decide)) x_d (k_d1 ?_)
          refine j_icmp_ge 46 48 dX10_foremostOf_43 rfl rfl (hR _) (hR _) (fun c_43 => ?_) (fun c_43 => ?_)
          · have hq : b = s_fwF d x (k + 1) := by rw [s_fwF_s, if_neg (fun h => by rw [← hbb] at h; omega), ← hbb]
            have hq2 : R32 b ∧ (b = -1 ∨ (0 ≤ b ∧ b < ((k + 1 : Nat) : Int))) := ⟨hbr.1, by omega⟩
            refine j_iinc 51 0 (y := ((k + 1 : Nat) : Int)) (L2 := [(3, .int (i32 (((k + 1 : Nat) : Int)))), (2, .int (i32 (b))), (0, .ref (m)), (1, .int (i32 (x)))]) dX10_foremostOf_48 rfl rfl (by omega) (Nat.le_of_ble_eq_true rfl) rfl ?_
            refine j_goto 4 dX10_foremostOf_51 rfl ?_
            exact ih_4 (k + 1) _ (by omega) (by omega) hq hq2
          · have hq : (k : Int) = s_fwF d x (k + 1) := by rw [s_fwF_s, if_pos ⟨by omega, c_21, Or.inr (by rw [← hbb]; omega)⟩]
            have hq2 : R32 (k : Int) ∧ ((k : Int) = -1 ∨ (0 ≤ (k : Int) ∧ (k : Int) < ((k + 1 : Nat) : Int))) := ⟨r32 (by omega) (by omega), by omega⟩
            refine j_iload_n 47 0 dX10_foremostOf_46 rfl rfl ?_
            refine j_istore_n 48 (L2 := [(2, .int (i32 ((k : Int)))), (3, .int (i32 ((k : Int)))), (0, .ref (m)), (1, .int (i32 (x)))]) dX10_foremostOf_47 rfl rfl (Nat.le_of_ble_eq_true rfl) rfl ?_
            refine j_iinc 51 1 (y := ((k + 1 : Nat) : Int)) (L2 := [(3, .int (i32 (((k + 1 : Nat) : Int)))), (2, .int (i32 ((k : Int)))), (0, .ref (m)), (1, .int (i32 (x)))]) dX10_foremostOf_48 rfl rfl (by omega) (Nat.le_of_ble_eq_true rfl) rfl ?_
            refine j_goto 4 dX10_foremostOf_51 rfl ?_
            exact ih_4 (k + 1) _ (by omega) (by omega) hq hq2

set_option maxRecDepth 20000 in
theorem r_isOver {w : Wd} {sh : Shp} {g : Mem} {d : Nat → Int} {m : Nat} (hM : MdS sh.1 m) {x : Int} (c : Nat) (hx : x = (c : Int)) (hc : c < 40) {y : Int} (hy : R32 y) : CT w mX10_isOver [.ref (m), .int (i32 (x)), .int (i32 (y))] sh (upR g (m + 2) d) (dQ none sh (upR g (m + 2) (s_isOver d c y))) := by
  refine j_entry (by decide) rfl (Nat.le_of_ble_eq_true rfl) (fun h => by cases h) rfl ?_
  show J w mX10_isOver 0 [(0, .ref (m)), (1, .int (i32 (x))), (2, .int (i32 (y)))] [] sh (upR g (m + 2) d) 0 0 _
  refine j_rgd hM.dat rfl (fun hR => ?_)
  refine j_aload_n 1 0 dX10_isOver_0 rfl rfl ?_
  refine j_iload_n 2 1 dX10_isOver_1 rfl rfl ?_
  refine j_iconst 3 dX10_isOver_2 rfl ?_
  refine j_iload_n 4 2 dX10_isOver_3 rfl rfl ?_
  refine j_callV 7 (As := [.int (i32 (x)), .int (i32 (4)), .int (i32 (y))]) (kc2 := 0) (ks2 := 0) dX10_isOver_4 rfl mvX10_set lk_X10_220 hM.md rfl ⟨Nat.le_of_ble_eq_true rfl, rfl⟩ rfl rfl (Nat.le_of_ble_eq_true rfl) ⟨Nat.le_of_ble_eq_true rfl, Nat.le_of_ble_eq_true rfl⟩ ⟨Nat.le_of_ble_eq_true rfl, Nat.le_of_ble_eq_true rfl⟩ (r_set hM c 4 (173 + 14 * c) hx rfl (by omega) (by omega) (by decide) hy) x_d (k_d0 ?_)
  refine j_aload_n 8 0 dX10_isOver_7 rfl rfl ?_
  refine j_iload_n 9 1 dX10_isOver_8 rfl rfl ?_
  refine j_bipush 11 dX10_isOver_9 rfl (by decide) ?_
  refine j_aload_n 12 0 dX10_isOver_11 rfl rfl ?_
  refine j_getr 15 dX10_isOver_12 rfl fl_X10_17 hM.md rfl (fun _ _ => rfl) rfl ?_
  refine j_bipush 17 dX10_isOver_15 rfl (by decide) ?_
  refine j_iald_d 18 6 dX10_isOver_17 rfl hM.dat rfl (by omega) (show 6 < 729 by omega) (fun r_17 => ?_)
  refine j_top (y := d 6) (ud_n (by omega)) ?_
  refine j_callV 21 (As := [.int (i32 (x)), .int (i32 (8)), .int (i32 (d 6))]) (kc2 := 0) (ks2 := 0) dX10_isOver_18 rfl mvX10_set lk_X10_220 hM.md rfl ⟨Nat.le_of_ble_eq_true rfl, rfl⟩ rfl rfl (Nat.le_of_ble_eq_true rfl) ⟨Nat.le_of_ble_eq_true rfl, Nat.le_of_ble_eq_true rfl⟩ ⟨Nat.le_of_ble_eq_true rfl, Nat.le_of_ble_eq_true rfl⟩ (r_set hM c 8 (177 + 14 * c) hx rfl (by omega) (by omega) (by decide) (hR 6)) x_d (k_d0 ?_)
  refine j_aload_n 22 0 dX10_isOver_21 rfl rfl ?_
  refine j_iload_n 23 1 dX10_isOver_22 rfl rfl ?_
  refine j_bipush 25 dX10_isOver_23 rfl (by decide) ?_
  refine j_iconst 26 dX10_isOver_25 rfl ?_
  refine j_callV 29 (As := [.int (i32 (x)), .int (i32 (9)), .int (i32 (0))]) (kc2 := 0) (ks2 := 0) dX10_isOver_26 rfl mvX10_set lk_X10_220 hM.md rfl ⟨Nat.le_of_ble_eq_true rfl, rfl⟩ rfl rfl (Nat.le_of_ble_eq_true rfl) ⟨Nat.le_of_ble_eq_true rfl, Nat.le_of_ble_eq_true rfl⟩ ⟨Nat.le_of_ble_eq_true rfl, Nat.le_of_ble_eq_true rfl⟩ (r_set hM c 9 (178 + 14 * c) hx rfl (by omega) (by omega) (by decide) (r32 (by decide) (by decide))) x_d (k_d0 ?_)
  exact j_vret dX10_isOver_29 rfl (q_d rfl)

set_option maxRecDepth 20000 in
theorem r_waits {w : Wd} {sh : Shp} {g : Mem} {d : Nat → Int} {m : Nat} (hM : MdS sh.1 m) {x : Int} (c : Nat) (hx : x = (c : Int)) (hc : c < 40) {y : Int} (hy : R32 y) : CT w mX10_waits [.ref (m), .int (i32 (x)), .int (i32 (y))] sh (upR g (m + 2) d) (dQ none sh (upR g (m + 2) (s_waits d c y))) := by
  refine j_entry (by decide) rfl (Nat.le_of_ble_eq_true rfl) (fun h => by cases h) rfl ?_
  show J w mX10_waits 0 [(0, .ref (m)), (1, .int (i32 (x))), (2, .int (i32 (y)))] [] sh (upR g (m + 2) d) 0 0 _
  refine j_rgd hM.dat rfl (fun hR => ?_)
  refine j_aload_n 1 0 dX10_waits_0 rfl rfl ?_
  refine j_iload_n 2 1 dX10_waits_1 rfl rfl ?_
  refine j_iconst 3 dX10_waits_2 rfl ?_
  refine j_iload_n 4 2 dX10_waits_3 rfl rfl ?_
  refine j_callV 7 (As := [.int (i32 (x)), .int (i32 (4)), .int (i32 (y))]) (kc2 := 0) (ks2 := 0) dX10_waits_4 rfl mvX10_set lk_X10_220 hM.md rfl ⟨Nat.le_of_ble_eq_true rfl, rfl⟩ rfl rfl (Nat.le_of_ble_eq_true rfl) ⟨Nat.le_of_ble_eq_true rfl, Nat.le_of_ble_eq_true rfl⟩ ⟨Nat.le_of_ble_eq_true rfl, Nat.le_of_ble_eq_true rfl⟩ (r_set hM c 4 (173 + 14 * c) hx rfl (by omega) (by omega) (by decide) hy) x_d (k_d0 ?_)
  refine j_aload_n 8 0 dX10_waits_7 rfl rfl ?_
  refine j_getr 11 dX10_waits_8 rfl fl_X10_17 hM.md rfl (fun _ _ => rfl) rfl ?_
  refine j_bipush 13 dX10_waits_11 rfl (by decide) ?_
  refine j_dup2 14 dX10_waits_13 rfl rfl rfl ?_
  refine j_iald_d 15 25 dX10_waits_14 rfl hM.dat rfl (by omega) (show 25 < 729 by omega) (fun r_14 => ?_)
  refine j_top (y := d 25) (ud_n (by omega)) ?_
  refine j_iconst 16 dX10_waits_15 rfl ?_
  refine j_iadd 17 dX10_waits_16 rfl ?_
  refine j_nb ?_
  refine j_iast_d 18 25 dX10_waits_17 rfl hM.dat rfl (by omega) (show 25 < 729 by omega) (bm_r _) ?_
  refine j_aload_n 19 0 dX10_waits_18 rfl rfl ?_
  refine j_iload_n 20 1 dX10_waits_19 rfl rfl ?_
  refine j_bipush 22 dX10_waits_20 rfl (by decide) ?_
  refine j_aload_n 23 0 dX10_waits_22 rfl rfl ?_
  refine j_getr 26 dX10_waits_23 rfl fl_X10_17 hM.md rfl (fun _ _ => rfl) rfl ?_
  refine j_bipush 28 dX10_waits_26 rfl (by decide) ?_
  refine j_iald_d 29 25 dX10_waits_28 rfl hM.dat rfl (by omega) (show 25 < 729 by omega) (fun r_28 => ?_)
  refine j_top (y := bm (d 25 + 1)) (ud_s) ?_
  refine j_callV 32 (As := [.int (i32 (x)), .int (i32 (12)), .int (i32 (bm (d 25 + 1)))]) (kc2 := 0) (ks2 := 0) dX10_waits_29 rfl mvX10_set lk_X10_220 hM.md rfl ⟨Nat.le_of_ble_eq_true rfl, rfl⟩ rfl rfl (Nat.le_of_ble_eq_true rfl) ⟨Nat.le_of_ble_eq_true rfl, Nat.le_of_ble_eq_true rfl⟩ ⟨Nat.le_of_ble_eq_true rfl, Nat.le_of_ble_eq_true rfl⟩ (r_set hM c 12 (181 + 14 * c) hx rfl (by omega) (by omega) (by decide) (bm_r _)) x_d (k_d0 ?_)
  exact j_vret dX10_waits_32 rfl (q_d rfl)

set_option maxRecDepth 20000 in
theorem r_talks {w : Wd} {sh : Shp} {g : Mem} {d : Nat → Int} {m : Nat} (hM : MdS sh.1 m) {x : Int} (c : Nat) (hx : x = (c : Int)) (hc : c < 40) {y z : Int} (hy : R32 y) (hz : R32 z) : CT w mX10_talks [.ref (m), .int (i32 (x)), .int (i32 (y)), .int (i32 (z))] sh (upR g (m + 2) d) (dQ none sh (upR g (m + 2) (s_talks d c y z))) := by
  refine j_entry (by decide) rfl (Nat.le_of_ble_eq_true rfl) (fun h => by cases h) rfl ?_
  show J w mX10_talks 0 [(0, .ref (m)), (1, .int (i32 (x))), (2, .int (i32 (y))), (3, .int (i32 (z)))] [] sh (upR g (m + 2) d) 0 0 _
  refine j_rgd hM.dat rfl (fun hR => ?_)
  refine j_aload_n 1 0 dX10_talks_0 rfl rfl ?_
  refine j_iload_n 2 1 dX10_talks_1 rfl rfl ?_
  refine j_iconst 3 dX10_talks_2 rfl ?_
  refine j_iconst 4 dX10_talks_3 rfl ?_
  refine j_callV 7 (As := [.int (i32 (x)), .int (i32 (4)), .int (i32 (5))]) (kc2 := 0) (ks2 := 0) dX10_talks_4 rfl mvX10_set lk_X10_220 hM.md rfl ⟨Nat.le_of_ble_eq_true rfl, rfl⟩ rfl rfl (Nat.le_of_ble_eq_true rfl) ⟨Nat.le_of_ble_eq_true rfl, Nat.le_of_ble_eq_true rfl⟩ ⟨Nat.le_of_ble_eq_true rfl, Nat.le_of_ble_eq_true rfl⟩ (r_set hM c 4 (173 + 14 * c) hx rfl (by omega) (by omega) (by decide) (r32 (by decide) (by decide))) x_d (k_d0 ?_)
  refine j_aload_n 8 0 dX10_talks_7 rfl rfl ?_
  refine j_iload_n 9 1 dX10_talks_8 rfl rfl ?_
  refine j_iconst 10 dX10_talks_9 rfl ?_
  refine j_iload_n 11 2 dX10_talks_10 rfl rfl ?_
  refine j_callV 14 (As := [.int (i32 (x)), .int (i32 (5)), .int (i32 (y))]) (kc2 := 0) (ks2 := 0) dX10_talks_11 rfl mvX10_set lk_X10_220 hM.md rfl ⟨Nat.le_of_ble_eq_true rfl, rfl⟩ rfl rfl (Nat.le_of_ble_eq_true rfl) ⟨Nat.le_of_ble_eq_true rfl, Nat.le_of_ble_eq_true rfl⟩ ⟨Nat.le_of_ble_eq_true rfl, Nat.le_of_ble_eq_true rfl⟩ (r_set hM c 5 (174 + 14 * c) hx rfl (by omega) (by omega) (by decide) hy) x_d (k_d0 ?_)
  refine j_aload_n 15 0 dX10_talks_14 rfl rfl ?_
  refine j_iload_n 16 1 dX10_talks_15 rfl rfl ?_
  refine j_bipush 18 dX10_talks_16 rfl (by decide) ?_
  refine j_iload_n 19 3 dX10_talks_18 rfl rfl ?_
  refine j_callV 22 (As := [.int (i32 (x)), .int (i32 (6)), .int (i32 (z))]) (kc2 := 0) (ks2 := 0) dX10_talks_19 rfl mvX10_set lk_X10_220 hM.md rfl ⟨Nat.le_of_ble_eq_true rfl, rfl⟩ rfl rfl (Nat.le_of_ble_eq_true rfl) ⟨Nat.le_of_ble_eq_true rfl, Nat.le_of_ble_eq_true rfl⟩ ⟨Nat.le_of_ble_eq_true rfl, Nat.le_of_ble_eq_true rfl⟩ (r_set hM c 6 (175 + 14 * c) hx rfl (by omega) (by omega) (by decide) hz) x_d (k_d0 ?_)
  refine j_aload_n 23 0 dX10_talks_22 rfl rfl ?_
  refine j_iload_n 24 1 dX10_talks_23 rfl rfl ?_
  refine j_bipush 26 dX10_talks_24 rfl (by decide) ?_
  refine j_aload_n 27 0 dX10_talks_26 rfl rfl ?_
  refine j_getr 30 dX10_talks_27 rfl fl_X10_17 hM.md rfl (fun _ _ => rfl) rfl ?_
  refine j_bipush 32 dX10_talks_30 rfl (by decide) ?_
  refine j_iald_d 33 6 dX10_talks_32 rfl hM.dat rfl (by omega) (show 6 < 729 by omega) (fun r_32 => ?_)
  refine j_top (y := d 6) (by rw [ud_n (by omega), ud_n (by omega), ud_n (by omega)]) ?_
  refine j_callV 36 (As := [.int (i32 (x)), .int (i32 (7)), .int (i32 (d 6))]) (kc2 := 0) (ks2 := 0) dX10_talks_33 rfl mvX10_set lk_X10_220 hM.md rfl ⟨Nat.le_of_ble_eq_true rfl, rfl⟩ rfl rfl (Nat.le_of_ble_eq_true rfl) ⟨Nat.le_of_ble_eq_true rfl, Nat.le_of_ble_eq_true rfl⟩ ⟨Nat.le_of_ble_eq_true rfl, Nat.le_of_ble_eq_true rfl⟩ (r_set hM c 7 (176 + 14 * c) hx rfl (by omega) (by omega) (by decide) (hR 6)) x_d (k_d0 ?_)
  refine j_aload_n 37 0 dX10_talks_36 rfl rfl ?_
  refine j_iload_n 38 1 dX10_talks_37 rfl rfl ?_
  refine j_bipush 40 dX10_talks_38 rfl (by decide) ?_
  refine j_aload_n 41 0 dX10_talks_40 rfl rfl ?_
  refine j_iload_n 42 1 dX10_talks_41 rfl rfl ?_
  refine j_iconst 43 dX10_talks_42 rfl ?_
  refine j_callV 46 (As := [.int (i32 (x)), .int (i32 (2))]) (kc2 := 0) (ks2 := 0) dX10_talks_43 rfl mvX10_of lk_X10_192 hM.md rfl ⟨Nat.le_of_ble_eq_true rfl, rfl⟩ rfl rfl (Nat.le_of_ble_eq_true rfl) ⟨Nat.le_of_ble_eq_true rfl, Nat.le_of_ble_eq_true rfl⟩ ⟨Nat.le_of_ble_eq_true rfl, Nat.le_of_ble_eq_true rfl⟩ (r_of hM c 2 (171 + 14 * c) hx rfl (by omega) (by omega) (by decide)) x_d (k_d1 ?_)
  refine j_top (y := d (171 + 14 * c)) (by rw [ud_n (by omega), ud_n (by omega), ud_n (by omega), ud_n (by omega)]) ?_
  refine j_callV 49 (As := [.int (i32 (x)), .int (i32 (9)), .int (i32 (d (171 + 14 * c)))]) (kc2 := 0) (ks2 := 0) dX10_talks_46 rfl mvX10_set lk_X10_220 hM.md rfl ⟨Nat.le_of_ble_eq_true rfl, rfl⟩ rfl rfl (Nat.le_of_ble_eq_true rfl) ⟨Nat.le_of_ble_eq_true rfl, Nat.le_of_ble_eq_true rfl⟩ ⟨Nat.le_of_ble_eq_true rfl, Nat.le_of_ble_eq_true rfl⟩ (r_set hM c 9 (178 + 14 * c) hx rfl (by omega) (by omega) (by decide) (hR _)) x_d (k_d0 ?_)
  exact j_vret dX10_talks_49 rfl (q_d rfl)
