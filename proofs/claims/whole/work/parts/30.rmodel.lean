set_option maxRecDepth 20000 in
theorem r_in {w : Wd} {sh : Shp} {g : Mem} {v l u : Int} (hv : R32 v) (hl : R32 l) (hu : R32 u) : CT w mX10_in [.int (i32 (v)), .int (i32 (l)), .int (i32 (u))] sh g (dQ (some (.int (i32 (b01 (decide (l ≤ v ∧ v ≤ u)))))) sh g) := by
  refine j_entry (by decide) rfl (Nat.le_of_ble_eq_true rfl) (fun h => by cases h) rfl ?_
  show J w mX10_in 0 [(0, .int (i32 (v))), (1, .int (i32 (l))), (2, .int (i32 (u)))] [] sh g 0 0 _
  refine j_iload_n 1 0 dX10_in_0 rfl rfl ?_
  refine j_iload_n 2 1 dX10_in_1 rfl rfl ?_
  refine j_icmp_lt 5 14 dX10_in_2 rfl rfl hv hl (fun c_2 => ?_) (fun c_2 => ?_)
  · have hv : decide (l ≤ v ∧ v ≤ u) = false := decide_eq_false (by omega)
    refine j_iconst 15 dX10_in_14 rfl ?_
    exact j_zret dX10_in_15 rfl (Or.inl rfl) (q_i (by rw [hv]; rfl))
  · refine j_iload_n 6 0 dX10_in_5 rfl rfl ?_
    refine j_iload_n 7 2 dX10_in_6 rfl rfl ?_
    refine j_icmp_gt 10 14 dX10_in_7 rfl rfl hv hu (fun c_7 => ?_) (fun c_7 => ?_)
    · have hv : decide (l ≤ v ∧ v ≤ u) = false := decide_eq_false (by omega)
      refine j_iconst 15 dX10_in_14 rfl ?_
      exact j_zret dX10_in_15 rfl (Or.inl rfl) (q_i (by rw [hv]; rfl))
    · have hv : decide (l ≤ v ∧ v ≤ u) = true := decide_eq_true (by omega)
      refine j_iconst 11 dX10_in_10 rfl ?_
      refine j_goto 15 dX10_in_11 rfl ?_
      exact j_zret dX10_in_15 rfl (Or.inr rfl) (q_i (by rw [hv]; rfl))

set_option maxRecDepth 20000 in
theorem r_min {w : Wd} {sh : Shp} {g : Mem} {a b : Int} (ha : R32 a) (hb : R32 b) : CT w mX10_min [.int (i32 (a)), .int (i32 (b))] sh g (dQ (some (.int (i32 (if a < b then a else b)))) sh g) := by
  refine j_entry (by decide) rfl (Nat.le_of_ble_eq_true rfl) (fun h => by cases h) rfl ?_
  show J w mX10_min 0 [(0, .int (i32 (a))), (1, .int (i32 (b)))] [] sh g 0 0 _
  refine j_iload_n 1 0 dX10_min_0 rfl rfl ?_
  refine j_iload_n 2 1 dX10_min_1 rfl rfl ?_
  refine j_icmp_ge 5 9 dX10_min_2 rfl rfl ha hb (fun c_2 => ?_) (fun c_2 => ?_)
  · have hv : (if a < b then a else b) = b := if_neg (by omega)
    refine j_iload_n 10 1 dX10_min_9 rfl rfl ?_
    exact j_iret dX10_min_10 rfl (q_i hv.symm)
  · have hv : (if a < b then a else b) = a := if_pos (by omega)
    refine j_iload_n 6 0 dX10_min_5 rfl rfl ?_
    refine j_goto 10 dX10_min_6 rfl ?_
    exact j_iret dX10_min_10 rfl (q_i hv.symm)

set_option maxRecDepth 20000 in
theorem r_max {w : Wd} {sh : Shp} {g : Mem} {a b : Int} (ha : R32 a) (hb : R32 b) : CT w mX10_max [.int (i32 (a)), .int (i32 (b))] sh g (dQ (some (.int (i32 (if b < a then a else b)))) sh g) := by
  refine j_entry (by decide) rfl (Nat.le_of_ble_eq_true rfl) (fun h => by cases h) rfl ?_
  show J w mX10_max 0 [(0, .int (i32 (a))), (1, .int (i32 (b)))] [] sh g 0 0 _
  refine j_iload_n 1 0 dX10_max_0 rfl rfl ?_
  refine j_iload_n 2 1 dX10_max_1 rfl rfl ?_
  refine j_icmp_le 5 9 dX10_max_2 rfl rfl ha hb (fun c_2 => ?_) (fun c_2 => ?_)
  · have hv : (if b < a then a else b) = b := if_neg (by omega)
    refine j_iload_n 10 1 dX10_max_9 rfl rfl ?_
    exact j_iret dX10_max_10 rfl (q_i hv.symm)
  · have hv : (if b < a then a else b) = a := if_pos (by omega)
    refine j_iload_n 6 0 dX10_max_5 rfl rfl ?_
    refine j_goto 10 dX10_max_6 rfl ?_
    exact j_iret dX10_max_10 rfl (q_i hv.symm)

set_option maxRecDepth 20000 in
theorem r_of {w : Wd} {sh : Shp} {g : Mem} {d : Nat → Int} {m : Nat} (hM : MdS sh.1 m) {x y : Int} (c k i : Nat) (hx : x = (c : Int)) (hy : y = (k : Int)) (hi : 169 + 14 * c + k = i) (hc : c < 40) (hk : k < 14) : CT w mX10_of [.ref (m), .int (i32 (x)), .int (i32 (y))] sh (upR g (m + 2) d) (dQ (some (.int (i32 (d i)))) sh (upR g (m + 2) d)) := by
  refine j_entry (by decide) rfl (Nat.le_of_ble_eq_true rfl) (fun h => by cases h) rfl ?_
  show J w mX10_of 0 [(0, .ref (m)), (1, .int (i32 (x))), (2, .int (i32 (y)))] [] sh (upR g (m + 2) d) 0 0 _
  refine j_aload_n 1 0 dX10_of_0 rfl rfl ?_
  refine j_getr 4 dX10_of_1 rfl fl_X10_17 hM.md rfl (fun _ _ => rfl) rfl ?_
  refine j_sipush 7 dX10_of_4 rfl (by decide) ?_
  refine j_bipush 9 dX10_of_7 rfl (by decide) ?_
  refine j_iload_n 10 1 dX10_of_9 rfl rfl ?_
  refine j_imul 11 dX10_of_10 rfl ?_
  refine j_iadd 12 dX10_of_11 rfl ?_
  refine j_iload_n 13 2 dX10_of_12 rfl rfl ?_
  refine j_iadd 14 dX10_of_13 rfl ?_
  refine j_iald_d 15 i dX10_of_14 rfl hM.dat rfl (by omega) (show i < 729 by omega) (fun r_14 => ?_)
  exact j_iret dX10_of_15 rfl (⟨rfl, rfl, rfl⟩)

set_option maxRecDepth 20000 in
theorem r_set {w : Wd} {sh : Shp} {g : Mem} {d : Nat → Int} {m : Nat} (hM : MdS sh.1 m) {x y : Int} (c k i : Nat) (hx : x = (c : Int)) (hy : y = (k : Int)) (hi : 169 + 14 * c + k = i) (hc : c < 40) (hk : k < 14) {v : Int} (hv : R32 v) : CT w mX10_set [.ref (m), .int (i32 (x)), .int (i32 (y)), .int (i32 (v))] sh (upR g (m + 2) d) (dQ none sh (upR g (m + 2) (ud d i v))) := by
  refine j_entry (by decide) rfl (Nat.le_of_ble_eq_true rfl) (fun h => by cases h) rfl ?_
  show J w mX10_set 0 [(0, .ref (m)), (1, .int (i32 (x))), (2, .int (i32 (y))), (3, .int (i32 (v)))] [] sh (upR g (m + 2) d) 0 0 _
  refine j_aload_n 1 0 dX10_set_0 rfl rfl ?_
  refine j_getr 4 dX10_set_1 rfl fl_X10_17 hM.md rfl (fun _ _ => rfl) rfl ?_
  refine j_sipush 7 dX10_set_4 rfl (by decide) ?_
  refine j_bipush 9 dX10_set_7 rfl (by decide) ?_
  refine j_iload_n 10 1 dX10_set_9 rfl rfl ?_
  refine j_imul 11 dX10_set_10 rfl ?_
  refine j_iadd 12 dX10_set_11 rfl ?_
  refine j_iload_n 13 2 dX10_set_12 rfl rfl ?_
  refine j_iadd 14 dX10_set_13 rfl ?_
  refine j_iload_n 15 3 dX10_set_14 rfl rfl ?_
  refine j_iast_d 16 i dX10_set_15 rfl hM.dat rfl (by omega) (show i < 729 by omega) hv ?_
  exact j_vret dX10_set_16 rfl (q_d rfl)

set_option maxRecDepth 20000 in
theorem r_ofGroup {w : Wd} {sh : Shp} {g : Mem} {d : Nat → Int} {m : Nat} (hM : MdS sh.1 m) {x y : Int} (c k i : Nat) (hx : x = (c : Int)) (hy : y = (k : Int)) (hi : 50 + 9 * c + k = i) (hc : c < 5) (hk : k < 9) : CT w mX10_ofGroup [.ref (m), .int (i32 (x)), .int (i32 (y))] sh (upR g (m + 2) d) (dQ (some (.int (i32 (d i)))) sh (upR g (m + 2) d)) := by
  refine j_entry (by decide) rfl (Nat.le_of_ble_eq_true rfl) (fun h => by cases h) rfl ?_
  show J w mX10_ofGroup 0 [(0, .ref (m)), (1, .int (i32 (x))), (2, .int (i32 (y)))] [] sh (upR g (m + 2) d) 0 0 _
  refine j_aload_n 1 0 dX10_ofGroup_0 rfl rfl ?_
  refine j_getr 4 dX10_ofGroup_1 rfl fl_X10_17 hM.md rfl (fun _ _ => rfl) rfl ?_
  refine j_bipush 6 dX10_ofGroup_4 rfl (by decide) ?_
  refine j_bipush 8 dX10_ofGroup_6 rfl (by decide) ?_
  refine j_iload_n 9 1 dX10_ofGroup_8 rfl rfl ?_
  refine j_imul 10 dX10_ofGroup_9 rfl ?_
  refine j_iadd 11 dX10_ofGroup_10 rfl ?_
  refine j_iload_n 12 2 dX10_ofGroup_11 rfl rfl ?_
  refine j_iadd 13 dX10_ofGroup_12 rfl ?_
  refine j_iald_d 14 i dX10_ofGroup_13 rfl hM.dat rfl (by omega) (show i < 729 by omega) (fun r_13 => ?_)
  exact j_iret dX10_ofGroup_14 rfl (⟨rfl, rfl, rfl⟩)

set_option maxRecDepth 20000 in
theorem r_addGroup {w : Wd} {sh : Shp} {g : Mem} {d : Nat → Int} {m : Nat} (hM : MdS sh.1 m) {x y : Int} (c k : Nat) (hx : x = (c : Int)) (hy : y = (k : Int)) (hc : c < 5) (hk : k < 9) {v : Int} : CT w mX10_addGroup [.ref (m), .int (i32 (x)), .int (i32 (y)), .int (i32 (v))] sh (upR g (m + 2) d) (dQ none sh (upR g (m + 2) (s_addGroup d c k v))) := by
  refine j_entry (by decide) rfl (Nat.le_of_ble_eq_true rfl) (fun h => by cases h) rfl ?_
  show J w mX10_addGroup 0 [(0, .ref (m)), (1, .int (i32 (x))), (2, .int (i32 (y))), (3, .int (i32 (v)))] [] sh (upR g (m + 2) d) 0 0 _
  refine j_aload_n 1 0 dX10_addGroup_0 rfl rfl ?_
  refine j_getr 4 dX10_addGroup_1 rfl fl_X10_17 hM.md rfl (fun _ _ => rfl) rfl ?_
  refine j_bipush 6 dX10_addGroup_4 rfl (by decide) ?_
  refine j_bipush 8 dX10_addGroup_6 rfl (by decide) ?_
  refine j_iload_n 9 1 dX10_addGroup_8 rfl rfl ?_
  refine j_imul 10 dX10_addGroup_9 rfl ?_
  refine j_iadd 11 dX10_addGroup_10 rfl ?_
  refine j_iload_n 12 2 dX10_addGroup_11 rfl rfl ?_
  refine j_iadd 13 dX10_addGroup_12 rfl ?_
  refine j_dup2 14 dX10_addGroup_13 rfl rfl rfl ?_
  refine j_iald_d 15 (50 + 9 * c + k) dX10_addGroup_14 rfl hM.dat rfl (by omega) (show (50 + 9 * c + k) < 729 by omega) (fun r_14 => ?_)
  refine j_iload_n 16 3 dX10_addGroup_15 rfl rfl ?_
  refine j_iadd 17 dX10_addGroup_16 rfl ?_
  refine j_nb ?_
  refine j_iast_d 18 (50 + 9 * c + k) dX10_addGroup_17 rfl hM.dat rfl (by omega) (show (50 + 9 * c + k) < 729 by omega) (bm_r _) ?_
  exact j_vret dX10_addGroup_18 rfl (q_d rfl)

set_option maxRecDepth 20000 in
theorem r_power {w : Wd} {sh : Shp} {g : Mem} {x : Int} (n : Nat) (hx : x = (n : Int)) (hn : n ≤ 10) : CT w mX10_power [.int (i32 (x))] sh g (dQ (some (.int (i32 (pw n)))) sh g) := by
  refine j_entry (by decide) rfl (Nat.le_of_ble_eq_true rfl) (fun h => by cases h) rfl ?_
  show J w mX10_power 0 [(0, .int (i32 (x)))] [] sh g 0 0 _
  refine j_iconst 1 dX10_power_0 rfl ?_
  refine j_istore_n 2 (L2 := [(1, .int (i32 (1))), (0, .int (i32 (x)))]) dX10_power_1 rfl rfl (Nat.le_of_ble_eq_true rfl) rfl ?_
  refine j_iconst 3 dX10_power_2 rfl ?_
  refine j_istore_n 4 (L2 := [(2, .int (i32 (0))), (1, .int (i32 (1))), (0, .int (i32 (x)))]) dX10_power_3 rfl rfl (Nat.le_of_ble_eq_true rfl) rfl ?_
  suffices lp_4 : ∀ (n_4 : Nat) (k : Nat) (z : Int), n - k < n_4 → k ≤ n → z = pw k → J w mX10_power 4 [(2, .int (i32 ((k : Int)))), (1, .int (i32 (z))), (0, .int (i32 (x)))] [] sh g 0 0 (dQ (some (.int (i32 (pw n)))) sh g) by
    exact lp_4 _ 0 _ (Nat.lt_succ_self _) (by omega) rfl
  intro n_4
  induction n_4 with
  | zero => intro k z h_; exact absurd h_ (Nat.not_lt_zero _)
  | succ n_4 ih_4 =>
    intro k z hn_4 hk hz
    refine j_iload_n 5 0 dX10_power_4 rfl rfl ?_
    refine j_iload_n 6 2 dX10_power_5 rfl rfl ?_
    refine j_icmp_ge 9 20 dX10_power_6 rfl rfl (r32 (by omega) (by omega)) (r32 (by omega) (by omega)) (fun c_6 => ?_) (fun c_6 => ?_)
    · refine j_iload_n 21 1 dX10_power_20 rfl rfl ?_
      exact j_iret dX10_power_21 rfl (q_i (hz.trans (by rw [show k = n by omega])))
    · refine j_iload_n 10 1 dX10_power_9 rfl rfl ?_
      refine j_bipush 12 dX10_power_10 rfl (by decide) ?_
      refine j_imul 13 dX10_power_12 rfl ?_
      refine j_istore_n 14 (L2 := [(1, .int (i32 ((z) * (10)))), (2, .int (i32 ((k : Int)))), (0, .int (i32 (x)))]) dX10_power_13 rfl rfl (Nat.le_of_ble_eq_true rfl) rfl ?_
      refine j_iinc 17 1 (y := ((k + 1 : Nat) : Int)) (L2 := [(2, .int (i32 (((k + 1 : Nat) : Int)))), (1, .int (i32 ((z) * (10)))), (0, .int (i32 (x)))]) dX10_power_14 rfl rfl (by omega) (Nat.le_of_ble_eq_true rfl) rfl ?_
      refine j_goto 4 dX10_power_17 rfl ?_
      exact ih_4 (k + 1) _ (by omega) (by omega) (by rw [hz]; rfl)

set_option maxRecDepth 20000 in
theorem r_callTo {w : Wd} {sh : Shp} {g : Mem} {d : Nat → Int} {m : Nat} (hM : MdS sh.1 m) (hb : d 5 ≤ 40) {x : Int} (hx : R32 x) : CT w mX10_callTo [.ref (m), .int (i32 (x))] sh (upR g (m + 2) d) (dQ (some (.int (i32 (s_callTo d x)))) sh (upR g (m + 2) d)) := by
  refine j_entry (by decide) rfl (Nat.le_of_ble_eq_true rfl) (fun h => by cases h) rfl ?_
  show J w mX10_callTo 0 [(0, .ref (m)), (1, .int (i32 (x)))] [] sh (upR g (m + 2) d) 0 0 _
  refine j_rgd hM.dat rfl (fun hR => ?_)
  refine j_iconst 1 dX10_callTo_0 rfl ?_
  refine j_istore_n 2 (L2 := [(2, .int (i32 (0))), (0, .ref (m)), (1, .int (i32 (x)))]) dX10_callTo_1 rfl rfl (Nat.le_of_ble_eq_true rfl) rfl ?_
  suffices lp_2 : ∀ (n_2 : Nat) (k : Nat), 40 - k < n_2 → k ≤ 40 → (∀ j, j < k → (fun (c : Nat) => decide ((c : Int) < d 5) && (decide (d (174 + 14 * c) = x) && decide (d (173 + 14 * c) = 5))) j = false) → J w mX10_callTo 2 [(2, .int (i32 ((k : Int)))), (0, .ref (m)), (1, .int (i32 (x)))] [] sh (upR g (m + 2) d) 0 0 (dQ (some (.int (i32 (s_callTo d x)))) sh (upR g (m + 2) d)) by
    exact lp_2 _ 0 (Nat.lt_succ_self _) (by omega) (fun j hj => absurd hj (Nat.not_lt_zero j))
  intro n_2
  induction n_2 with
  | zero => intro k h_; exact absurd h_ (Nat.not_lt_zero _)
  | succ n_2 ih_2 =>
    intro k hn_2 hk hp
    refine j_iload_n 3 0 dX10_callTo_2 rfl rfl ?_
    refine j_aload_n 4 1 dX10_callTo_3 rfl rfl ?_
    refine j_getr 7 dX10_callTo_4 rfl fl_X10_17 hM.md rfl (fun _ _ => rfl) rfl ?_
    refine j_iconst 8 dX10_callTo_7 rfl ?_
    refine j_iald_d 9 5 dX10_callTo_8 rfl hM.dat rfl rfl (show 5 < 729 by omega) (fun r_8 => ?_)
    refine j_icmp_ge 12 40 dX10_callTo_9 rfl rfl (r32 (by omega) (by omega)) r_8 (fun c_9 => ?_) (fun c_9 => ?_)
    · refine j_iconst 41 dX10_callTo_40 rfl ?_
      exact j_iret dX10_callTo_41 rfl (q_i (fst_none (p := (fun (c : Nat) => decide ((c : Int) < d 5) && (decide (d (174 + 14 * c) = x) && decide (d (173 + 14 * c) = 5)))) (fun j hj => by rcases Nat.lt_or_ge j k with q | q; exact hp j q; simp <;> omega)).symm)
    · refine j_aload_n 13 1 dX10_callTo_12 rfl rfl ?_
      refine j_iload_n 14 0 dX10_callTo_13 rfl rfl ?_
      refine j_iconst 15 dX10_callTo_14 rfl ?_
      refine j_callV 18 (As := [.int (i32 ((k : Int))), .int (i32 (5))]) (kc2 := 0) (ks2 := 0) dX10_callTo_15 rfl mvX10_of lk_X10_192 hM.md rfl ⟨Nat.le_of_ble_eq_true rfl, rfl⟩ rfl rfl (Nat.le_of_ble_eq_true rfl) ⟨Nat.le_of_ble_eq_true rfl, Nat.le_of_ble_eq_true rfl⟩ ⟨Nat.le_of_ble_eq_true rfl, Nat.le_of_ble_eq_true rfl⟩ (r_of hM k 5 (174 + 14 * k) rfl rfl (by omega) (by omega) (by decide)) x_d (k_d1 ?_)
      refine j_iload_n 19 2 dX10_callTo_18 rfl rfl ?_
      refine j_icmp_ne 22 34 dX10_callTo_19 rfl rfl (hR _) hx (fun c_19 => ?_) (fun c_19 => ?_)
      · have hq : (fun (c : Nat) => decide ((c : Int) < d 5) && (decide (d (174 + 14 * c) = x) && decide (d (173 + 14 * c) = 5))) k = false := by simp [c_19] <;> omega
        refine j_iinc 37 0 (y := ((k + 1 : Nat) : Int)) (L2 := [(2, .int (i32 (((k + 1 : Nat) : Int)))), (0, .ref (m)), (1, .int (i32 (x)))]) dX10_callTo_34 rfl rfl (by omega) (Nat.le_of_ble_eq_true rfl) rfl ?_
        refine j_goto 2 dX10_callTo_37 rfl ?_
        exact ih_2 (k + 1) (by omega) (by omega) (lt_step hp hq)
      · refine j_aload_n 23 1 dX10_callTo_22 rfl rfl ?_
        refine j_iload_n 24 0 dX10_callTo_23 rfl rfl ?_
        refine j_iconst 25 dX10_callTo_24 rfl ?_
        refine j_callV 28 (As := [.int (i32 ((k : Int))), .int (i32 (4))]) (kc2 := 0) (ks2 := 0) dX10_callTo_25 rfl mvX10_of lk_X10_192 hM.md rfl ⟨Nat.le_of_ble_eq_true rfl, rfl⟩ rfl rfl (Nat.le_of_ble_eq_true rfl) ⟨Nat.le_of_ble_eq_true rfl, Nat.le_of_ble_eq_true rfl⟩ ⟨Nat.le_of_ble_eq_true rfl, Nat.le_of_ble_eq_true rfl⟩ (r_of hM k 4 (173 + 14 * k) rfl rfl (by omega) (by omega) (by decide)) x_d (k_d1 ?_)
        refine j_iconst 29 dX10_callTo_28 rfl ?_
        refine j_icmp_ne 32 34 dX10_callTo_29 rfl rfl (hR _) (r32 (by decide) (by decide)) (fun c_29 => ?_) (fun c_29 => ?_)
        · have hq : (fun (c : Nat) => decide ((c : Int) < d 5) && (decide (d (174 + 14 * c) = x) && decide (d (173 + 14 * c) = 5))) k = false := by simp [c_29] <;> omega
          refine j_iinc 37 0 (y := ((k + 1 : Nat) : Int)) (L2 := [(2, .int (i32 (((k + 1 : Nat) : Int)))), (0, .ref (m)), (1, .int (i32 (x)))]) dX10_callTo_34 rfl rfl (by omega) (Nat.le_of_ble_eq_true rfl) rfl ?_
          refine j_goto 2 dX10_callTo_37 rfl ?_
          exact ih_2 (k + 1) (by omega) (by omega) (lt_step hp hq)
        · refine j_iload_n 33 0 dX10_callTo_32 rfl rfl ?_
          exact j_iret dX10_callTo_33 rfl (q_i (fst_hit (p := (fun (c : Nat) => decide ((c : Int) < d 5) && (decide (d (174 + 14 * c) = x) && decide (d (173 + 14 * c) = 5)))) (k := k) (by omega) hp (by simp [c_19, c_29] <;> omega)).symm)

set_option maxRecDepth 20000 in
theorem r_isState {w : Wd} {sh : Shp} {g : Mem} {d : Nat → Int} {m : Nat} (hM : MdS sh.1 m) {x y z : Int} (c : Nat) (hx : x = (c : Int)) (hc : c < 40) (hy : R32 y) (hz : R32 z) : CT w mX10_isState [.ref (m), .int (i32 (x)), .int (i32 (y)), .int (i32 (z))] sh (upR g (m + 2) d) (dQ (some (.int (i32 (b01 (decide (y ≤ d (173 + 14 * c) ∧ d (173 + 14 * c) ≤ z)))))) sh (upR g (m + 2) d)) := by
  refine j_entry (by decide) rfl (Nat.le_of_ble_eq_true rfl) (fun h => by cases h) rfl ?_
  show J w mX10_isState 0 [(0, .ref (m)), (1, .int (i32 (x))), (2, .int (i32 (y))), (3, .int (i32 (z)))] [] sh (upR g (m + 2) d) 0 0 _
  refine j_rgd hM.dat rfl (fun hR => ?_)
  refine j_aload_n 1 0 dX10_isState_0 rfl rfl ?_
  refine j_iload_n 2 1 dX10_isState_1 rfl rfl ?_
  refine j_iconst 3 dX10_isState_2 rfl ?_
  refine j_callV 6 (As := [.int (i32 (x)), .int (i32 (4))]) (kc2 := 0) (ks2 := 0) dX10_isState_3 rfl mvX10_of lk_X10_192 hM.md rfl ⟨Nat.le_of_ble_eq_true rfl, rfl⟩ rfl rfl (Nat.le_of_ble_eq_true rfl) ⟨Nat.le_of_ble_eq_true rfl, Nat.le_of_ble_eq_true rfl⟩ ⟨Nat.le_of_ble_eq_true rfl, Nat.le_of_ble_eq_true rfl⟩ (r_of hM c 4 (173 + 14 * c) hx rfl (by omega) (by omega) (by decide)) x_d (k_d1 ?_)
  refine j_iload_n 7 2 dX10_isState_6 rfl rfl ?_
  refine j_iload_n 8 3 dX10_isState_7 rfl rfl ?_
  refine j_callS 11 (As := [.int (i32 (d (173 + 14 * c))), .int (i32 (y)), .int (i32 (z))]) (kc2 := 0) (ks2 := 0) dX10_isState_8 rfl msX10_in lk_X10_57 rfl rfl (Nat.le_of_ble_eq_true rfl) ⟨Nat.le_of_ble_eq_true rfl, Nat.le_of_ble_eq_true rfl⟩ ⟨Nat.le_of_ble_eq_true rfl, Nat.le_of_ble_eq_true rfl⟩ (r_in (hR _) hy hz) x_d (k_d1 ?_)
  exact j_zret dX10_isState_11 rfl (b01_r _) (⟨rfl, rfl, rfl⟩)

set_option maxRecDepth 20000 in
theorem r_callBy {w : Wd} {sh : Shp} {g : Mem} {d : Nat → Int} {m : Nat} (hM : MdS sh.1 m) (hb : d 5 ≤ 40) {x : Int} (hx : R32 x) : CT w mX10_callBy [.ref (m), .int (i32 (x))] sh (upR g (m + 2) d) (dQ (some (.int (i32 (s_callBy d x)))) sh (upR g (m + 2) d)) := by
  refine j_entry (by decide) rfl (Nat.le_of_ble_eq_true rfl) (fun h => by cases h) rfl ?_
  show J w mX10_callBy 0 [(0, .ref (m)), (1, .int (i32 (x)))] [] sh (upR g (m + 2) d) 0 0 _
  refine j_rgd hM.dat rfl (fun hR => ?_)
  refine j_iconst 1 dX10_callBy_0 rfl ?_
  refine j_istore_n 2 (L2 := [(2, .int (i32 (0))), (0, .ref (m)), (1, .int (i32 (x)))]) dX10_callBy_1 rfl rfl (Nat.le_of_ble_eq_true rfl) rfl ?_
  suffices lp_2 : ∀ (n_2 : Nat) (k : Nat), 40 - k < n_2 → k ≤ 40 → (∀ j, j < k → (fun (c : Nat) => decide ((c : Int) < d 5) && (decide (d (169 + 14 * c) = x) && (decide (1 ≤ d (173 + 14 * c)) && decide (d (173 + 14 * c) ≤ 5)))) j = false) → J w mX10_callBy 2 [(2, .int (i32 ((k : Int)))), (0, .ref (m)), (1, .int (i32 (x)))] [] sh (upR g (m + 2) d) 0 0 (dQ (some (.int (i32 (s_callBy d x)))) sh (upR g (m + 2) d)) by
    exact lp_2 _ 0 (Nat.lt_succ_self _) (by omega) (fun j hj => absurd hj (Nat.not_lt_zero j))
  intro n_2
  induction n_2 with
  | zero => intro k h_; exact absurd h_ (Nat.not_lt_zero _)
  | succ n_2 ih_2 =>
    intro k hn_2 hk hp
    refine j_iload_n 3 0 dX10_callBy_2 rfl rfl ?_
    refine j_aload_n 4 1 dX10_callBy_3 rfl rfl ?_
    refine j_getr 7 dX10_callBy_4 rfl fl_X10_17 hM.md rfl (fun _ _ => rfl) rfl ?_
    refine j_iconst 8 dX10_callBy_7 rfl ?_
    refine j_iald_d 9 5 dX10_callBy_8 rfl hM.dat rfl rfl (show 5 < 729 by omega) (fun r_8 => ?_)
    refine j_icmp_ge 12 40 dX10_callBy_9 rfl rfl (r32 (by omega) (by omega)) r_8 (fun c_9 => ?_) (fun c_9 => ?_)
    · refine j_iconst 41 dX10_callBy_40 rfl ?_
      exact j_iret dX10_callBy_41 rfl (q_i (fst_none (p := (fun (c : Nat) => decide ((c : Int) < d 5) && (decide (d (169 + 14 * c) = x) && (decide (1 ≤ d (173 + 14 * c)) && decide (d (173 + 14 * c) ≤ 5))))) (fun j hj => by rcases Nat.lt_or_ge j k with q | q; exact hp j q; simp <;> omega)).symm)
    · refine j_aload_n 13 1 dX10_callBy_12 rfl rfl ?_
      refine j_iload_n 14 0 dX10_callBy_13 rfl rfl ?_
      refine j_iconst 15 dX10_callBy_14 rfl ?_
      refine j_callV 18 (As := [.int (i32 ((k : Int))), .int (i32 (0))]) (kc2 := 0) (ks2 := 0) dX10_callBy_15 rfl mvX10_of lk_X10_192 hM.md rfl ⟨Nat.le_of_ble_eq_true rfl, rfl⟩ rfl rfl (Nat.le_of_ble_eq_true rfl) ⟨Nat.le_of_ble_eq_true rfl, Nat.le_of_ble_eq_true rfl⟩ ⟨Nat.le_of_ble_eq_true rfl, Nat.le_of_ble_eq_true rfl⟩ (r_of hM k 0 (169 + 14 * k) rfl rfl (by omega) (by omega) (by decide)) x_d (k_d1 ?_)
      refine j_iload_n 19 2 dX10_callBy_18 rfl rfl ?_
      refine j_icmp_ne 22 34 dX10_callBy_19 rfl rfl (hR _) hx (fun c_19 => ?_) (fun c_19 => ?_)
      · have hq : (fun (c : Nat) => decide ((c : Int) < d 5) && (decide (d (169 + 14 * c) = x) && (decide (1 ≤ d (173 + 14 * c)) && decide (d (173 + 14 * c) ≤ 5)))) k = false := by simp [c_19] <;> omega
        refine j_iinc 37 0 (y := ((k + 1 : Nat) : Int)) (L2 := [(2, .int (i32 (((k + 1 : Nat) : Int)))), (0, .ref (m)), (1, .int (i32 (x)))]) dX10_callBy_34 rfl rfl (by omega) (Nat.le_of_ble_eq_true rfl) rfl ?_
        refine j_goto 2 dX10_callBy_37 rfl ?_
        exact ih_2 (k + 1) (by omega) (by omega) (lt_step hp hq)
      · refine j_aload_n 23 1 dX10_callBy_22 rfl rfl ?_
        refine j_iload_n 24 0 dX10_callBy_23 rfl rfl ?_
        refine j_iconst 25 dX10_callBy_24 rfl ?_
        refine j_iconst 26 dX10_callBy_25 rfl ?_
        refine j_callV 29 (As := [.int (i32 ((k : Int))), .int (i32 (1)), .int (i32 (5))]) (kc2 := 0) (ks2 := 0) dX10_callBy_26 rfl mvX10_isState lk_X10_201 hM.md rfl ⟨Nat.le_of_ble_eq_true rfl, rfl⟩ rfl rfl (Nat.le_of_ble_eq_true rfl) ⟨Nat.le_of_ble_eq_true rfl, Nat.le_of_ble_eq_true rfl⟩ ⟨Nat.le_of_ble_eq_true rfl, Nat.le_of_ble_eq_true rfl⟩ (r_isState hM k rfl (by omega) (r32 (by decide) (by decide)) (r32 (by decide) (by decide))) x_d (k_d1 ?_)
        refine j_if_eq 32 34 dX10_callBy_29 rfl rfl (r01 (b01_r _)) (fun c_29 => ?_) (fun c_29 => ?_)
        · have h9 := of_decide_eq_false (b01_0 c_29)
          have hq : (fun (c : Nat) => decide ((c : Int) < d 5) && (decide (d (169 + 14 * c) = x) && (decide (1 ≤ d (173 + 14 * c)) && decide (d (173 + 14 * c) ≤ 5)))) k = false := by simp [c_29] <;> omega
          refine j_iinc 37 0 (y := ((k + 1 : Nat) : Int)) (L2 := [(2, .int (i32 (((k + 1 : Nat) : Int)))), (0, .ref (m)), (1, .int (i32 (x)))]) dX10_callBy_34 rfl rfl (by omega) (Nat.le_of_ble_eq_true rfl) rfl ?_
          refine j_goto 2 dX10_callBy_37 rfl ?_
          exact ih_2 (k + 1) (by omega) (by omega) (lt_step hp hq)
        · refine j_iload_n 33 0 dX10_callBy_32 rfl rfl ?_
          exact j_iret dX10_callBy_33 rfl (q_i (fst_hit (p := (fun (c : Nat) => decide ((c : Int) < d 5) && (decide (d (169 + 14 * c) = x) && (decide (1 ≤ d (173 + 14 * c)) && decide (d (173 + 14 * c) ≤ 5))))) (k := k) (by omega) hp (by simp [c_19, of_decide_eq_true (b01_1 c_29)] <;> omega)).symm)

set_option maxRecDepth 20000 in
theorem r_isBusy {w : Wd} {sh : Shp} {g : Mem} {d : Nat → Int} {m : Nat} (hM : MdS sh.1 m) (hb : d 5 ≤ 40) {x : Int} (hx : R32 x) : CT w mX10_isBusy [.ref (m), .int (i32 (x))] sh (upR g (m + 2) d) (dQ (some (.int (i32 (b01 (s_isBusy d x))))) sh (upR g (m + 2) d)) := by
  refine j_entry (by decide) rfl (Nat.le_of_ble_eq_true rfl) (fun h => by cases h) rfl ?_
  show J w mX10_isBusy 0 [(0, .ref (m)), (1, .int (i32 (x)))] [] sh (upR g (m + 2) d) 0 0 _
  refine j_rgd hM.dat rfl (fun hR => ?_)
  refine j_aload_n 1 0 dX10_isBusy_0 rfl rfl ?_
  refine j_iload_n 2 1 dX10_isBusy_1 rfl rfl ?_
  refine j_callV 5 (As := [.int (i32 (x))]) (kc2 := 0) (ks2 := 0) dX10_isBusy_2 rfl mvX10_callBy lk_X10_204 hM.md rfl ⟨Nat.le_of_ble_eq_true rfl, rfl⟩ rfl rfl (Nat.le_of_ble_eq_true rfl) ⟨Nat.le_of_ble_eq_true rfl, Nat.le_of_ble_eq_true rfl⟩ ⟨Nat.le_of_ble_eq_true rfl, Nat.le_of_ble_eq_true rfl⟩ (r_callBy hM hb hx) x_d (k_d1 ?_)
  refine j_iconst 6 dX10_isBusy_5 rfl ?_
  refine j_icmp_ne 9 18 dX10_isBusy_6 rfl rfl (fst_r32 _ (by decide)) (r32 (by decide) (by decide)) (fun c_6 => ?_) (fun c_6 => ?_)
  · have hb : s_isBusy d x = true := by simp [s_isBusy, c_6]
    refine j_iconst 19 dX10_isBusy_18 rfl ?_
    refine j_goto 23 dX10_isBusy_19 rfl ?_
    exact j_zret dX10_isBusy_23 rfl (Or.inr rfl) (q_i (by rw [hb]; rfl))
  · refine j_aload_n 10 0 dX10_isBusy_9 rfl rfl ?_
    refine j_iload_n 11 1 dX10_isBusy_10 rfl rfl ?_
    refine j_callV 14 (As := [.int (i32 (x))]) (kc2 := 0) (ks2 := 0) dX10_isBusy_11 rfl mvX10_callTo lk_X10_207 hM.md rfl ⟨Nat.le_of_ble_eq_true rfl, rfl⟩ rfl rfl (Nat.le_of_ble_eq_true rfl) ⟨Nat.le_of_ble_eq_true rfl, Nat.le_of_ble_eq_true rfl⟩ ⟨Nat.le_of_ble_eq_true rfl, Nat.le_of_ble_eq_true rfl⟩ (r_callTo hM hb hx) x_d (k_d1 ?_)
    refine j_iconst 15 dX10_isBusy_14 rfl ?_
    refine j_icmp_eq 18 22 dX10_isBusy_15 rfl rfl (fst_r32 _ (by decide)) (r32 (by decide) (by decide)) (fun c_15 => ?_) (fun c_15 => ?_)
    · have hb : s_isBusy d x = false := by simp [s_isBusy, c_6, c_15]
      refine j_iconst 23 dX10_isBusy_22 rfl ?_
      exact j_zret dX10_isBusy_23 rfl (Or.inl rfl) (q_i (by rw [hb]; rfl))
    · have hb : s_isBusy d x = true := by simp [s_isBusy, c_15]
      refine j_iconst 19 dX10_isBusy_18 rfl ?_
      refine j_goto 23 dX10_isBusy_19 rfl ?_
      exact j_zret dX10_isBusy_23 rfl (Or.inr rfl) (q_i (by rw [hb]; rfl))

set_option maxRecDepth 20000 in
theorem r_callsThat {w : Wd} {sh : Shp} {g : Mem} {d : Nat → Int} {m : Nat} (hM : MdS sh.1 m) (hb : d 5 ≤ 40) {x : Int} (hx : R32 x) : CT w mX10_callsThat [.ref (m), .int (i32 (x))] sh (upR g (m + 2) d) (dQ (some (.int (i32 ((s_cnt d x : Int))))) sh (upR g (m + 2) d)) := by
  refine j_entry (by decide) rfl (Nat.le_of_ble_eq_true rfl) (fun h => by cases h) rfl ?_
  show J w mX10_callsThat 0 [(0, .ref (m)), (1, .int (i32 (x)))] [] sh (upR g (m + 2) d) 0 0 _
  refine j_rgd hM.dat rfl (fun hR => ?_)
  refine j_iconst 1 dX10_callsThat_0 rfl ?_
  refine j_istore_n 2 (L2 := [(2, .int (i32 (0))), (0, .ref (m)), (1, .int (i32 (x)))]) dX10_callsThat_1 rfl rfl (Nat.le_of_ble_eq_true rfl) rfl ?_
  refine j_iconst 3 dX10_callsThat_2 rfl ?_
  refine j_istore_n 4 (L2 := [(3, .int (i32 (0))), (2, .int (i32 (0))), (0, .ref (m)), (1, .int (i32 (x)))]) dX10_callsThat_3 rfl rfl (Nat.le_of_ble_eq_true rfl) rfl ?_
  suffices lp_4 : ∀ (n_4 : Nat) (k : Nat) (c : Int), 40 - k < n_4 → k ≤ 40 → c = ((cnt (fun (c : Nat) => decide ((c : Int) < d 5) && decide (d (173 + 14 * c) = x)) k : Nat) : Int) → J w mX10_callsThat 4 [(3, .int (i32 ((k : Int)))), (2, .int (i32 (c))), (0, .ref (m)), (1, .int (i32 (x)))] [] sh (upR g (m + 2) d) 0 0 (dQ (some (.int (i32 ((s_cnt d x : Int))))) sh (upR g (m + 2) d)) by
    exact lp_4 _ 0 _ (Nat.lt_succ_self _) (by omega) rfl
  intro n_4
  induction n_4 with
  | zero => intro k c h_; exact absurd h_ (Nat.not_lt_zero _)
  | succ n_4 ih_4 =>
    intro k c hn_4 hk hc
    refine j_iload_n 5 0 dX10_callsThat_4 rfl rfl ?_
    refine j_aload_n 6 2 dX10_callsThat_5 rfl rfl ?_
    refine j_getr 9 dX10_callsThat_6 rfl fl_X10_17 hM.md rfl (fun _ _ => rfl) rfl ?_
    refine j_iconst 10 dX10_callsThat_9 rfl ?_
    refine j_iald_d 11 5 dX10_callsThat_10 rfl hM.dat rfl rfl (show 5 < 729 by omega) (fun r_10 => ?_)
    refine j_icmp_ge 14 38 dX10_callsThat_11 rfl rfl (r32 (by omega) (by omega)) r_10 (fun c_11 => ?_) (fun c_11 => ?_)
    · refine j_iload_n 39 1 dX10_callsThat_38 rfl rfl ?_
      exact j_iret dX10_callsThat_39 rfl (q_i (hc.trans (cnt_cut (by omega) (fun j h1 h2 => by simp <;> omega))))
    · refine j_iload_n 15 1 dX10_callsThat_14 rfl rfl ?_
      refine j_aload_n 16 2 dX10_callsThat_15 rfl rfl ?_
      refine j_iload_n 17 0 dX10_callsThat_16 rfl rfl ?_
      refine j_iconst 18 dX10_callsThat_17 rfl ?_
      refine j_callV 21 (As := [.int (i32 ((k : Int))), .int (i32 (4))]) (kc2 := 0) (ks2 := 0) dX10_callsThat_18 rfl mvX10_of lk_X10_192 hM.md rfl ⟨Nat.le_of_ble_eq_true rfl, rfl⟩ rfl rfl (Nat.le_of_ble_eq_true rfl) ⟨Nat.le_of_ble_eq_true rfl, Nat.le_of_ble_eq_true rfl⟩ ⟨Nat.le_of_ble_eq_true rfl, Nat.le_of_ble_eq_true rfl⟩ (r_of hM k 4 (173 + 14 * k) rfl rfl (by omega) (by omega) (by decide)) x_d (k_d1 ?_)
      refine j_iload_n 22 3 dX10_callsThat_21 rfl rfl ?_
      refine j_icmp_ne 25 29 dX10_callsThat_22 rfl rfl (hR _) hx (fun c_22 => ?_) (fun c_22 => ?_)
      · have hq : (fun (c : Nat) => decide ((c : Int) < d 5) && decide (d (173 + 14 * c) = x)) k = false := by simp [c_22] <;> omega
        refine j_iconst 30 dX10_callsThat_29 rfl ?_
        refine j_iadd 31 dX10_callsThat_30 rfl ?_
        refine j_istore_n 32 (L2 := [(2, .int (i32 ((c) + (0)))), (3, .int (i32 ((k : Int)))), (0, .ref (m)), (1, .int (i32 (x)))]) dX10_callsThat_31 rfl rfl (Nat.le_of_ble_eq_true rfl) rfl ?_
        refine j_iinc 35 1 (y := ((k + 1 : Nat) : Int)) (L2 := [(3, .int (i32 (((k + 1 : Nat) : Int)))), (2, .int (i32 ((c) + (0)))), (0, .ref (m)), (1, .int (i32 (x)))]) dX10_callsThat_32 rfl rfl (by omega) (Nat.le_of_ble_eq_true rfl) rfl ?_
        refine j_goto 4 dX10_callsThat_35 rfl ?_
        exact ih_4 (k + 1) _ (by omega) (by omega) (by first | (rw [cnt_n hq]; omega) | (rw [cnt_y hq]; omega))
      · have hq : (fun (c : Nat) => decide ((c : Int) < d 5) && decide (d (173 + 14 * c) = x)) k = true := by simp [c_22] <;> omega
        refine j_iconst 26 dX10_callsThat_25 rfl ?_
        refine j_goto 30 dX10_callsThat_26 rfl ?_
        refine j_iadd 31 dX10_callsThat_30 rfl ?_
        refine j_istore_n 32 (L2 := [(2, .int (i32 ((c) + (1)))), (3, .int (i32 ((k : Int)))), (0, .ref (m)), (1, .int (i32 (x)))]) dX10_callsThat_31 rfl rfl (Nat.le_of_ble_eq_true rfl) rfl ?_
        refine j_iinc 35 1 (y := ((k + 1 : Nat) : Int)) (L2 := [(3, .int (i32 (((k + 1 : Nat) : Int)))), (2, .int (i32 ((c) + (1)))), (0, .ref (m)), (1, .int (i32 (x)))]) dX10_callsThat_32 rfl rfl (by omega) (Nat.le_of_ble_eq_true rfl) rfl ?_
        refine j_goto 4 dX10_callsThat_35 rfl ?_
        exact ih_4 (k + 1) _ (by omega) (by omega) (by first | (rw [cnt_n hq]; omega) | (rw [cnt_y hq]; omega))

set_option maxRecDepth 20000 in
theorem r_busyTrunks {w : Wd} {sh : Shp} {g : Mem} {d : Nat → Int} {m : Nat} (hM : MdS sh.1 m) (hb : d 5 ≤ 40) {x : Int} (hx : R32 x) : CT w mX10_busyTrunks [.ref (m), .int (i32 (x))] sh (upR g (m + 2) d) (dQ (some (.int (i32 ((s_busyTrunks d x : Int))))) sh (upR g (m + 2) d)) := by
  refine j_entry (by decide) rfl (Nat.le_of_ble_eq_true rfl) (fun h => by cases h) rfl ?_
  show J w mX10_busyTrunks 0 [(0, .ref (m)), (1, .int (i32 (x)))] [] sh (upR g (m + 2) d) 0 0 _
  refine j_rgd hM.dat rfl (fun hR => ?_)
  refine j_iconst 1 dX10_busyTrunks_0 rfl ?_
  refine j_istore_n 2 (L2 := [(2, .int (i32 (0))), (0, .ref (m)), (1, .int (i32 (x)))]) dX10_busyTrunks_1 rfl rfl (Nat.le_of_ble_eq_true rfl) rfl ?_
  refine j_iconst 3 dX10_busyTrunks_2 rfl ?_
  refine j_istore_n 4 (L2 := [(3, .int (i32 (0))), (2, .int (i32 (0))), (0, .ref (m)), (1, .int (i32 (x)))]) dX10_busyTrunks_3 rfl rfl (Nat.le_of_ble_eq_true rfl) rfl ?_
  suffices lp_4 : ∀ (n_4 : Nat) (k : Nat) (c : Int), 40 - k < n_4 → k ≤ 40 → c = ((cnt (fun (c : Nat) => decide ((c : Int) < d 5) && (decide (d (173 + 14 * c) = 5) && decide (d (175 + 14 * c) = x))) k : Nat) : Int) → J w mX10_busyTrunks 4 [(3, .int (i32 ((k : Int)))), (2, .int (i32 (c))), (0, .ref (m)), (1, .int (i32 (x)))] [] sh (upR g (m + 2) d) 0 0 (dQ (some (.int (i32 ((s_busyTrunks d x : Int))))) sh (upR g (m + 2) d)) by
    exact lp_4 _ 0 _ (Nat.lt_succ_self _) (by omega) rfl
  intro n_4
  induction n_4 with
  | zero => intro k c h_; exact absurd h_ (Nat.not_lt_zero _)
  | succ n_4 ih_4 =>
    intro k c hn_4 hk hc
    refine j_iload_n 5 0 dX10_busyTrunks_4 rfl rfl ?_
    refine j_aload_n 6 2 dX10_busyTrunks_5 rfl rfl ?_
    refine j_getr 9 dX10_busyTrunks_6 rfl fl_X10_17 hM.md rfl (fun _ _ => rfl) rfl ?_
    refine j_iconst 10 dX10_busyTrunks_9 rfl ?_
    refine j_iald_d 11 5 dX10_busyTrunks_10 rfl hM.dat rfl rfl (show 5 < 729 by omega) (fun r_10 => ?_)
    refine j_icmp_ge 14 49 dX10_busyTrunks_11 rfl rfl (r32 (by omega) (by omega)) r_10 (fun c_11 => ?_) (fun c_11 => ?_)
    · refine j_iload_n 50 1 dX10_busyTrunks_49 rfl rfl ?_
      exact j_iret dX10_busyTrunks_50 rfl (q_i (hc.trans (cnt_cut (by omega) (fun j h1 h2 => by simp <;> omega))))
    · refine j_iload_n 15 1 dX10_busyTrunks_14 rfl rfl ?_
      refine j_aload_n 16 2 dX10_busyTrunks_15 rfl rfl ?_
      refine j_iload_n 17 0 dX10_busyTrunks_16 rfl rfl ?_
      refine j_iconst 18 dX10_busyTrunks_17 rfl ?_
      refine j_callV 21 (As := [.int (i32 ((k : Int))), .int (i32 (4))]) (kc2 := 0) (ks2 := 0) dX10_busyTrunks_18 rfl mvX10_of lk_X10_192 hM.md rfl ⟨Nat.le_of_ble_eq_true rfl, rfl⟩ rfl rfl (Nat.le_of_ble_eq_true rfl) ⟨Nat.le_of_ble_eq_true rfl, Nat.le_of_ble_eq_true rfl⟩ ⟨Nat.le_of_ble_eq_true rfl, Nat.le_of_ble_eq_true rfl⟩ (r_of hM k 4 (173 + 14 * k) rfl rfl (by omega) (by omega) (by decide)) x_d (k_d1 ?_)
      refine j_iconst 22 dX10_busyTrunks_21 rfl ?_
      refine j_icmp_ne 25 40 dX10_busyTrunks_22 rfl rfl (hR _) (r32 (by decide) (by decide)) (fun c_22 => ?_) (fun c_22 => ?_)
      · have hq : (fun (c : Nat) => decide ((c : Int) < d 5) && (decide (d (173 + 14 * c) = 5) && decide (d (175 + 14 * c) = x))) k = false := by simp [c_22] <;> omega
        refine j_iconst 41 dX10_busyTrunks_40 rfl ?_
        refine j_iadd 42 dX10_busyTrunks_41 rfl ?_
        refine j_istore_n 43 (L2 := [(2, .int (i32 ((c) + (0)))), (3, .int (i32 ((k : Int)))), (0, .ref (m)), (1, .int (i32 (x)))]) dX10_busyTrunks_42 rfl rfl (Nat.le_of_ble_eq_true rfl) rfl ?_
        refine j_iinc 46 1 (y := ((k + 1 : Nat) : Int)) (L2 := [(3, .int (i32 (((k + 1 : Nat) : Int)))), (2, .int (i32 ((c) + (0)))), (0, .ref (m)), (1, .int (i32 (x)))]) dX10_busyTrunks_43 rfl rfl (by omega) (Nat.le_of_ble_eq_true rfl) rfl ?_
        refine j_goto 4 dX10_busyTrunks_46 rfl ?_
        exact ih_4 (k + 1) _ (by omega) (by omega) (by first | (rw [cnt_n hq]; omega) | (rw [cnt_y hq]; omega))
      · refine j_aload_n 26 2 dX10_busyTrunks_25 rfl rfl ?_
        refine j_iload_n 27 0 dX10_busyTrunks_26 rfl rfl ?_
        refine j_bipush 29 dX10_busyTrunks_27 rfl (by decide) ?_
        refine j_callV 32 (As := [.int (i32 ((k : Int))), .int (i32 (6))]) (kc2 := 0) (ks2 := 0) dX10_busyTrunks_29 rfl mvX10_of lk_X10_192 hM.md rfl ⟨Nat.le_of_ble_eq_true rfl, rfl⟩ rfl rfl (Nat.le_of_ble_eq_true rfl) ⟨Nat.le_of_ble_eq_true rfl, Nat.le_of_ble_eq_true rfl⟩ ⟨Nat.le_of_ble_eq_true rfl, Nat.le_of_ble_eq_true rfl⟩ (r_of hM k 6 (175 + 14 * k) rfl rfl (by omega) (by omega) (by decide)) x_d (k_d1 ?_)
        refine j_iload_n 33 3 dX10_busyTrunks_32 rfl rfl ?_
        refine j_icmp_ne 36 40 dX10_busyTrunks_33 rfl rfl (hR _) hx (fun c_33 => ?_) (fun c_33 => ?_)
        · have hq : (fun (c : Nat) => decide ((c : Int) < d 5) && (decide (d (173 + 14 * c) = 5) && decide (d (175 + 14 * c) = x))) k = false := by simp [c_33] <;> omega
          refine j_iconst 41 dX10_busyTrunks_40 rfl ?_
          refine j_iadd 42 dX10_busyTrunks_41 rfl ?_
          refine j_istore_n 43 (L2 := [(2, .int (i32 ((c) + (0)))), (3, .int (i32 ((k : Int)))), (0, .ref (m)), (1, .int (i32 (x)))]) dX10_busyTrunks_42 rfl rfl (Nat.le_of_ble_eq_true rfl) rfl ?_
          refine j_iinc 46 1 (y := ((k + 1 : Nat) : Int)) (L2 := [(3, .int (i32 (((k + 1 : Nat) : Int)))), (2, .int (i32 ((c) + (0)))), (0, .ref (m)), (1, .int (i32 (x)))]) dX10_busyTrunks_43 rfl rfl (by omega) (Nat.le_of_ble_eq_true rfl) rfl ?_
          refine j_goto 4 dX10_busyTrunks_46 rfl ?_
          exact ih_4 (k + 1) _ (by omega) (by omega) (by first | (rw [cnt_n hq]; omega) | (rw [cnt_y hq]; omega))
        · have hq : (fun (c : Nat) => decide ((c : Int) < d 5) && (decide (d (173 + 14 * c) = 5) && decide (d (175 + 14 * c) = x))) k = true := by simp [c_22, c_33] <;> omega
          refine j_iconst 37 dX10_busyTrunks_36 rfl ?_
          refine j_goto 41 dX10_busyTrunks_37 rfl ?_
          refine j_iadd 42 dX10_busyTrunks_41 rfl ?_
          refine j_istore_n 43 (L2 := [(2, .int (i32 ((c) + (1)))), (3, .int (i32 ((k : Int)))), (0, .ref (m)), (1, .int (i32 (x)))]) dX10_busyTrunks_42 rfl rfl (Nat.le_of_ble_eq_true rfl) rfl ?_
          refine j_iinc 46 1 (y := ((k + 1 : Nat) : Int)) (L2 := [(3, .int (i32 (((k + 1 : Nat) : Int)))), (2, .int (i32 ((c) + (1)))), (0, .ref (m)), (1, .int (i32 (x)))]) dX10_busyTrunks_43 rfl rfl (by omega) (Nat.le_of_ble_eq_true rfl) rfl ?_
          refine j_goto 4 dX10_busyTrunks_46 rfl ?_
          exact ih_4 (k + 1) _ (by omega) (by omega) (by first | (rw [cnt_n hq]; omega) | (rw [cnt_y hq]; omega))

set_option maxRecDepth 20000 in
theorem r_lineOf {w : Wd} {sh : Shp} {g : Mem} {a : Nat} (ha : sh.1 a = some (10, 729, kN)) (hb : g a 2 ≤ 12) {x y : Int} (hx : R32 x) (hy : R32 y) : CT w mX10_lineOf [.ref (a), .int (i32 (x)), .int (i32 (y))] sh g (dQ (some (.int (i32 (s_lineOf (g a) x y)))) sh g) := by
  refine j_entry (by decide) rfl (Nat.le_of_ble_eq_true rfl) (fun h => by cases h) rfl ?_
  show J w mX10_lineOf 0 [(0, .ref (a)), (1, .int (i32 (x))), (2, .int (i32 (y)))] [] sh g 0 0 _
  refine j_iconst 1 dX10_lineOf_0 rfl ?_
  refine j_istore_n 2 (L2 := [(3, .int (i32 (0))), (0, .ref (a)), (1, .int (i32 (x))), (2, .int (i32 (y)))]) dX10_lineOf_1 rfl rfl (Nat.le_of_ble_eq_true rfl) rfl ?_
  suffices lp_2 : ∀ (n_2 : Nat) (k : Nat), 12 - k < n_2 → k ≤ 12 → (∀ j, j < k → (fun (k : Nat) => decide ((k : Int) < g a 2) && (decide (g a (26 + 2 * k) = x) && decide (g a (27 + 2 * k) = y))) j = false) → J w mX10_lineOf 2 [(3, .int (i32 ((k : Int)))), (0, .ref (a)), (1, .int (i32 (x))), (2, .int (i32 (y)))] [] sh g 0 0 (dQ (some (.int (i32 (s_lineOf (g a) x y)))) sh g) by
    exact lp_2 _ 0 (Nat.lt_succ_self _) (by omega) (fun j hj => absurd hj (Nat.not_lt_zero j))
  intro n_2
  induction n_2 with
  | zero => intro k h_; exact absurd h_ (Nat.not_lt_zero _)
  | succ n_2 ih_2 =>
    intro k hn_2 hk hp
    refine j_iload_n 3 0 dX10_lineOf_2 rfl rfl ?_
    refine j_aload_n 4 1 dX10_lineOf_3 rfl rfl ?_
    refine j_iconst 5 dX10_lineOf_4 rfl ?_
    refine j_iald 6 2 dX10_lineOf_5 rfl ha rfl rfl (show 2 < 729 by omega) (fun r_5 => ?_)
    refine j_icmp_ge 9 45 dX10_lineOf_6 rfl rfl (r32 (by omega) (by omega)) r_5 (fun c_6 => ?_) (fun c_6 => ?_)
    · refine j_iconst 46 dX10_lineOf_45 rfl ?_
      exact j_iret dX10_lineOf_46 rfl (q_i (fst_none (p := (fun (k : Nat) => decide ((k : Int) < g a 2) && (decide (g a (26 + 2 * k) = x) && decide (g a (27 + 2 * k) = y)))) (fun j hj => by rcases Nat.lt_or_ge j k with q | q; exact hp j q; simp <;> omega)).symm)
    · refine j_aload_n 10 1 dX10_lineOf_9 rfl rfl ?_
      refine j_bipush 12 dX10_lineOf_10 rfl (by decide) ?_
      refine j_iconst 13 dX10_lineOf_12 rfl ?_
      refine j_iload_n 14 0 dX10_lineOf_13 rfl rfl ?_
      refine j_imul 15 dX10_lineOf_14 rfl ?_
      refine j_iadd 16 dX10_lineOf_15 rfl ?_
      refine j_iconst 17 dX10_lineOf_16 rfl ?_
      refine j_iadd 18 dX10_lineOf_17 rfl ?_
      refine j_iald 19 (26 + 2 * k) dX10_lineOf_18 rfl ha rfl (by omega) (show (26 + 2 * k) < 729 by omega) (fun r_18 => ?_)
      refine j_iload_n 20 2 dX10_lineOf_19 rfl rfl ?_
      refine j_icmp_ne 23 39 dX10_lineOf_20 rfl rfl r_18 hx (fun c_20 => ?_) (fun c_20 => ?_)
      · have hq : (fun (k : Nat) => decide ((k : Int) < g a 2) && (decide (g a (26 + 2 * k) = x) && decide (g a (27 + 2 * k) = y))) k = false := by simp [c_20] <;> omega
        refine j_iinc 42 0 (y := ((k + 1 : Nat) : Int)) (L2 := [(3, .int (i32 (((k + 1 : Nat) : Int)))), (0, .ref (a)), (1, .int (i32 (x))), (2, .int (i32 (y)))]) dX10_lineOf_39 rfl rfl (by omega) (Nat.le_of_ble_eq_true rfl) rfl ?_
        refine j_goto 2 dX10_lineOf_42 rfl ?_
        exact ih_2 (k + 1) (by omega) (by omega) (lt_step hp hq)
      · refine j_aload_n 24 1 dX10_lineOf_23 rfl rfl ?_
        refine j_bipush 26 dX10_lineOf_24 rfl (by decide) ?_
        refine j_iconst 27 dX10_lineOf_26 rfl ?_
        refine j_iload_n 28 0 dX10_lineOf_27 rfl rfl ?_
        refine j_imul 29 dX10_lineOf_28 rfl ?_
        refine j_iadd 30 dX10_lineOf_29 rfl ?_
        refine j_iconst 31 dX10_lineOf_30 rfl ?_
        refine j_iadd 32 dX10_lineOf_31 rfl ?_
        refine j_iald 33 (27 + 2 * k) dX10_lineOf_32 rfl ha rfl (by omega) (show (27 + 2 * k) < 729 by omega) (fun r_32 => ?_)
        refine j_iload_n 34 3 dX10_lineOf_33 rfl rfl ?_
        refine j_icmp_ne 37 39 dX10_lineOf_34 rfl rfl r_32 hy (fun c_34 => ?_) (fun c_34 => ?_)
        · have hq : (fun (k : Nat) => decide ((k : Int) < g a 2) && (decide (g a (26 + 2 * k) = x) && decide (g a (27 + 2 * k) = y))) k = false := by simp [c_34] <;> omega
          refine j_iinc 42 0 (y := ((k + 1 : Nat) : Int)) (L2 := [(3, .int (i32 (((k + 1 : Nat) : Int)))), (0, .ref (a)), (1, .int (i32 (x))), (2, .int (i32 (y)))]) dX10_lineOf_39 rfl rfl (by omega) (Nat.le_of_ble_eq_true rfl) rfl ?_
          refine j_goto 2 dX10_lineOf_42 rfl ?_
          exact ih_2 (k + 1) (by omega) (by omega) (lt_step hp hq)
        · refine j_iload_n 38 0 dX10_lineOf_37 rfl rfl ?_
          exact j_iret dX10_lineOf_38 rfl (q_i (fst_hit (p := (fun (k : Nat) => decide ((k : Int) < g a 2) && (decide (g a (26 + 2 * k) = x) && decide (g a (27 + 2 * k) = y)))) (k := k) (by omega) hp (by simp [c_20, c_34] <;> omega)).symm)

set_option maxRecDepth 20000 in
theorem r_groupOf {w : Wd} {sh : Shp} {g : Mem} {a : Nat} (ha : sh.1 a = some (10, 729, kN)) (hb : g a 3 ≤ 5) {x y : Int} (hx : R32 x) (hy : R32 y) : CT w mX10_groupOf [.ref (a), .int (i32 (x)), .int (i32 (y))] sh g (dQ (some (.int (i32 (s_groupOf (g a) x y)))) sh g) := by
  refine j_entry (by decide) rfl (Nat.le_of_ble_eq_true rfl) (fun h => by cases h) rfl ?_
  show J w mX10_groupOf 0 [(0, .ref (a)), (1, .int (i32 (x))), (2, .int (i32 (y)))] [] sh g 0 0 _
  refine j_iconst 1 dX10_groupOf_0 rfl ?_
  refine j_istore_n 2 (L2 := [(3, .int (i32 (0))), (0, .ref (a)), (1, .int (i32 (x))), (2, .int (i32 (y)))]) dX10_groupOf_1 rfl rfl (Nat.le_of_ble_eq_true rfl) rfl ?_
  suffices lp_2 : ∀ (n_2 : Nat) (k : Nat), 5 - k < n_2 → k ≤ 5 → (∀ j, j < k → (fun (k : Nat) => decide ((k : Int) < g a 3) && (decide (g a (57 + 9 * k) = x) && decide (g a (58 + 9 * k) = y))) j = false) → J w mX10_groupOf 2 [(3, .int (i32 ((k : Int)))), (0, .ref (a)), (1, .int (i32 (x))), (2, .int (i32 (y)))] [] sh g 0 0 (dQ (some (.int (i32 (s_groupOf (g a) x y)))) sh g) by
    exact lp_2 _ 0 (Nat.lt_succ_self _) (by omega) (fun j hj => absurd hj (Nat.not_lt_zero j))
  intro n_2
  induction n_2 with
  | zero => intro k h_; exact absurd h_ (Nat.not_lt_zero _)
  | succ n_2 ih_2 =>
    intro k hn_2 hk hp
    refine j_iload_n 3 0 dX10_groupOf_2 rfl rfl ?_
    refine j_aload_n 4 1 dX10_groupOf_3 rfl rfl ?_
    refine j_iconst 5 dX10_groupOf_4 rfl ?_
    refine j_iald 6 3 dX10_groupOf_5 rfl ha rfl rfl (show 3 < 729 by omega) (fun r_5 => ?_)
    refine j_icmp_ge 9 49 dX10_groupOf_6 rfl rfl (r32 (by omega) (by omega)) r_5 (fun c_6 => ?_) (fun c_6 => ?_)
    · refine j_iconst 50 dX10_groupOf_49 rfl ?_
      exact j_iret dX10_groupOf_50 rfl (q_i (fst_none (p := (fun (k : Nat) => decide ((k : Int) < g a 3) && (decide (g a (57 + 9 * k) = x) && decide (g a (58 + 9 * k) = y)))) (fun j hj => by rcases Nat.lt_or_ge j k with q | q; exact hp j q; simp <;> omega)).symm)
    · refine j_aload_n 10 1 dX10_groupOf_9 rfl rfl ?_
      refine j_bipush 12 dX10_groupOf_10 rfl (by decide) ?_
      refine j_bipush 14 dX10_groupOf_12 rfl (by decide) ?_
      refine j_iload_n 15 0 dX10_groupOf_14 rfl rfl ?_
      refine j_imul 16 dX10_groupOf_15 rfl ?_
      refine j_iadd 17 dX10_groupOf_16 rfl ?_
      refine j_bipush 19 dX10_groupOf_17 rfl (by decide) ?_
      refine j_iadd 20 dX10_groupOf_19 rfl ?_
      refine j_iald 21 (57 + 9 * k) dX10_groupOf_20 rfl ha rfl (by omega) (show (57 + 9 * k) < 729 by omega) (fun r_20 => ?_)
      refine j_iload_n 22 2 dX10_groupOf_21 rfl rfl ?_
      refine j_icmp_ne 25 43 dX10_groupOf_22 rfl rfl r_20 hx (fun c_22 => ?_) (fun c_22 => ?_)
      · have hq : (fun (k : Nat) => decide ((k : Int) < g a 3) && (decide (g a (57 + 9 * k) = x) && decide (g a (58 + 9 * k) = y))) k = false := by simp [c_22] <;> omega
        refine j_iinc 46 0 (y := ((k + 1 : Nat) : Int)) (L2 := [(3, .int (i32 (((k + 1 : Nat) : Int)))), (0, .ref (a)), (1, .int (i32 (x))), (2, .int (i32 (y)))]) dX10_groupOf_43 rfl rfl (by omega) (Nat.le_of_ble_eq_true rfl) rfl ?_
        refine j_goto 2 dX10_groupOf_46 rfl ?_
        exact ih_2 (k + 1) (by omega) (by omega) (lt_step hp hq)
      · refine j_aload_n 26 1 dX10_groupOf_25 rfl rfl ?_
        refine j_bipush 28 dX10_groupOf_26 rfl (by decide) ?_
        refine j_bipush 30 dX10_groupOf_28 rfl (by decide) ?_
        refine j_iload_n 31 0 dX10_groupOf_30 rfl rfl ?_
        refine j_imul 32 dX10_groupOf_31 rfl ?_
        refine j_iadd 33 dX10_groupOf_32 rfl ?_
        refine j_bipush 35 dX10_groupOf_33 rfl (by decide) ?_
        refine j_iadd 36 dX10_groupOf_35 rfl ?_
        refine j_iald 37 (58 + 9 * k) dX10_groupOf_36 rfl ha rfl (by omega) (show (58 + 9 * k) < 729 by omega) (fun r_36 => ?_)
        refine j_iload_n 38 3 dX10_groupOf_37 rfl rfl ?_
        refine j_icmp_ne 41 43 dX10_groupOf_38 rfl rfl r_36 hy (fun c_38 => ?_) (fun c_38 => ?_)
        · have hq : (fun (k : Nat) => decide ((k : Int) < g a 3) && (decide (g a (57 + 9 * k) = x) && decide (g a (58 + 9 * k) = y))) k = false := by simp [c_38] <;> omega
          refine j_iinc 46 0 (y := ((k + 1 : Nat) : Int)) (L2 := [(3, .int (i32 (((k + 1 : Nat) : Int)))), (0, .ref (a)), (1, .int (i32 (x))), (2, .int (i32 (y)))]) dX10_groupOf_43 rfl rfl (by omega) (Nat.le_of_ble_eq_true rfl) rfl ?_
          refine j_goto 2 dX10_groupOf_46 rfl ?_
          exact ih_2 (k + 1) (by omega) (by omega) (lt_step hp hq)
        · refine j_iload_n 42 0 dX10_groupOf_41 rfl rfl ?_
          exact j_iret dX10_groupOf_42 rfl (q_i (fst_hit (p := (fun (k : Nat) => decide ((k : Int) < g a 3) && (decide (g a (57 + 9 * k) = x) && decide (g a (58 + 9 * k) = y)))) (k := k) (by omega) hp (by simp [c_22, c_38] <;> omega)).symm)

set_option maxRecDepth 20000 in
theorem r_routeFor {w : Wd} {sh : Shp} {g : Mem} {d : Nat → Int} {m : Nat} (hM : MdS sh.1 m) {x : Int} (many : Nat) {y : Int} (hy : 0 ≤ y) (hy2 : y ≤ 2147483647) (hm : many ≤ 6) (hb : d 4 ≤ 8) (hl : ∀ r : Nat, (r : Int) < d 4 → 0 ≤ d (95 + 7 * r)) (hx : x = (many : Int)) : CT w mX10_routeFor [.ref (m), .int (i32 (x)), .int (i32 (y))] sh (upR g (m + 2) d) (dQ (some (.int (i32 (s_routeFor d many y)))) sh (upR g (m + 2) d)) := by
  refine j_entry (by decide) rfl (Nat.le_of_ble_eq_true rfl) (fun h => by cases h) rfl ?_
  show J w mX10_routeFor 0 [(0, .ref (m)), (1, .int (i32 (x))), (2, .int (i32 (y)))] [] sh (upR g (m + 2) d) 0 0 _
  refine j_rgd hM.dat rfl (fun hR => ?_)
  refine j_iconst 1 dX10_routeFor_0 rfl ?_
  refine j_istore_n 2 (L2 := [(3, .int (i32 (-1))), (0, .ref (m)), (1, .int (i32 (x))), (2, .int (i32 (y)))]) dX10_routeFor_1 rfl rfl (Nat.le_of_ble_eq_true rfl) rfl ?_
  refine j_iconst 3 dX10_routeFor_2 rfl ?_
  refine j_istore 5 (L2 := [(4, .int (i32 (0))), (3, .int (i32 (-1))), (0, .ref (m)), (1, .int (i32 (x))), (2, .int (i32 (y)))]) dX10_routeFor_3 rfl (Nat.le_of_ble_eq_true rfl) rfl ?_
  suffices lp_5 : ∀ (n_5 : Nat) (k : Nat) (b : Int), 8 - k < n_5 → k ≤ 8 → b = s_rfF d many y k → (R32 b ∧ (b = -1 ∨ (0 ≤ b ∧ b < (k : Int) ∧ b < d 4))) → J w mX10_routeFor 5 [(4, .int (i32 ((k : Int)))), (3, .int (i32 (b))), (0, .ref (m)), (1, .int (i32 (x))), (2, .int (i32 (y)))] [] sh (upR g (m + 2) d) 0 0 (dQ (some (.int (i32 (s_routeFor d many y)))) sh (upR g (m + 2) d)) by
    exact lp_5 _ 0 _ (Nat.lt_succ_self _) (by omega) rfl ⟨r32 (by decide) (by decide), Or.inl rfl⟩
  intro n_5
  induction n_5 with
  | zero => intro k b h_; exact absurd h_ (Nat.not_lt_zero _)
  | succ n_5 ih_5 =>
    intro k b hn_5 hk hbb hbr
    refine j_iload 7 0 dX10_routeFor_5 rfl rfl ?_
    refine j_aload_n 8 2 dX10_routeFor_7 rfl rfl ?_
    refine j_getr 11 dX10_routeFor_8 rfl fl_X10_17 hM.md rfl (fun _ _ => rfl) rfl ?_
    refine j_iconst 12 dX10_routeFor_11 rfl ?_
    refine j_iald_d 13 4 dX10_routeFor_12 rfl hM.dat rfl rfl (show 4 < 729 by omega) (fun r_12 => ?_)
    refine j_icmp_ge 16 97 dX10_routeFor_13 rfl rfl (r32 (by omega) (by omega)) r_12 (fun c_13 => ?_) (fun c_13 => ?_)
    · refine j_iload_n 98 1 dX10_routeFor_97 rfl rfl ?_
      exact j_iret dX10_routeFor_98 rfl (q_i (hbb.trans (s_rfF_cut (by omega) (by omega))))
    · refine j_bipush 18 dX10_routeFor_16 rfl (by decide) ?_
      refine j_bipush 20 dX10_routeFor_18 rfl (by decide) ?_
      refine j_iload 22 0 dX10_routeFor_20 rfl rfl ?_
      refine j_imul 23 dX10_routeFor_22 rfl ?_
      refine j_iadd 24 dX10_routeFor_23 rfl ?_
      refine j_top (y := ((95 + 7 * k : Nat) : Int)) (by omega) ?_
      refine j_istore 26 (L2 := [(5, .int (i32 (((95 + 7 * k : Nat) : Int)))), (4, .int (i32 ((k : Int)))), (3, .int (i32 (b))), (0, .ref (m)), (1, .int (i32 (x))), (2, .int (i32 (y)))]) dX10_routeFor_24 rfl (Nat.le_of_ble_eq_true rfl) rfl ?_
      refine j_aload_n 27 3 dX10_routeFor_26 rfl rfl ?_
      refine j_getr 30 dX10_routeFor_27 rfl fl_X10_17 hM.md rfl (fun _ _ => rfl) rfl ?_
      refine j_iload 32 0 dX10_routeFor_30 rfl rfl ?_
      refine j_iconst 33 dX10_routeFor_32 rfl ?_
      refine j_iadd 34 dX10_routeFor_33 rfl ?_
      refine j_iald_d 35 (95 + 7 * k) dX10_routeFor_34 rfl hM.dat rfl (by omega) (show (95 + 7 * k) < 729 by omega) (fun r_34 => ?_)
      refine j_istore 37 (L2 := [(6, .int (i32 (d ((95 + 7 * k))))), (5, .int (i32 (((95 + 7 * k : Nat) : Int)))), (4, .int (i32 ((k : Int)))), (3, .int (i32 (b))), (0, .ref (m)), (1, .int (i32 (x))), (2, .int (i32 (y)))]) dX10_routeFor_35 rfl (Nat.le_of_ble_eq_true rfl) rfl ?_
      refine j_iload 39 0 dX10_routeFor_37 rfl rfl ?_
      refine j_iload_n 40 5 dX10_routeFor_39 rfl rfl ?_
      refine j_icmp_gt 43 91 dX10_routeFor_40 rfl rfl r_34 (r32 (by omega) (by omega)) (fun c_40 => ?_) (fun c_40 => ?_)
      · have hq : b = s_rfF d many y (k + 1) := by rw [s_rfF_s, if_neg (fun h => by omega), ← hbb]
        have hq2 : R32 b ∧ (b = -1 ∨ (0 ≤ b ∧ b < ((k + 1 : Nat) : Int) ∧ b < d 4)) := ⟨hbr.1, by omega⟩
        refine j_iinc 94 2 (y := ((k + 1 : Nat) : Int)) (L2 := [(4, .int (i32 (((k + 1 : Nat) : Int)))), (6, .int (i32 (d ((95 + 7 * k))))), (5, .int (i32 (((95 + 7 * k : Nat) : Int)))), (3, .int (i32 (b))), (0, .ref (m)), (1, .int (i32 (x))), (2, .int (i32 (y)))]) dX10_routeFor_91 rfl rfl (by omega) (Nat.le_of_ble_eq_true rfl) rfl ?_
        refine j_goto 5 dX10_routeFor_94 rfl ?_
        refine j_sub [0, 3, 4, 5, 6] rfl ?_
        exact ih_5 (k + 1) _ (by omega) (by omega) hq hq2
      · have h0 := hl k (by omega)
        have e0 : x - d (95 + 7 * k) = ((many - (d (95 + 7 * k)).toNat : Nat) : Int) := by omega
        have ep := pw_pos (many - (d (95 + 7 * k)).toNat)
        have ep2 := pw_le (show many - (d (95 + 7 * k)).toNat ≤ 6 by omega)
        have e6 : pw 6 = 1000000 := rfl
        refine j_iload_n 44 6 dX10_routeFor_43 rfl rfl ?_
        refine j_iload_n 45 5 dX10_routeFor_44 rfl rfl ?_
        refine j_iload 47 0 dX10_routeFor_45 rfl rfl ?_
        refine j_isub 48 dX10_routeFor_47 rfl ?_
        refine j_callS 51 (As := [.int (i32 ((x) - (d ((95 + 7 * k)))))]) (kc2 := 0) (ks2 := 0) dX10_routeFor_48 rfl msX10_power lk_X10_195 rfl rfl (Nat.le_of_ble_eq_true rfl) ⟨Nat.le_of_ble_eq_true rfl, Nat.le_of_ble_eq_true rfl⟩ ⟨Nat.le_of_ble_eq_true rfl, Nat.le_of_ble_eq_true rfl⟩ (r_power (many - (d (95 + 7 * k)).toNat) e0 (by omega)) x_d (k_d1 ?_)
        refine j_idiv 52 dX10_routeFor_51 rfl (by omega) (by omega) (by omega) (by omega) ?_
        refine j_aload_n 53 4 dX10_routeFor_52 rfl rfl ?_
        refine j_getr 56 dX10_routeFor_53 rfl fl_X10_17 hM.md rfl (fun _ _ => rfl) rfl ?_
        refine j_iload 58 1 dX10_routeFor_56 rfl rfl ?_
        refine j_iconst 59 dX10_routeFor_58 rfl ?_
        refine j_iadd 60 dX10_routeFor_59 rfl ?_
        refine j_iald_d 61 (96 + 7 * k) dX10_routeFor_60 rfl hM.dat rfl (by omega) (show (96 + 7 * k) < 729 by omega) (fun r_60 => ?_)
        refine j_icmp_ne 64 91 dX10_routeFor_61 rfl rfl (div_r32 (by omega) (by omega) (by omega)) r_60 (fun c_61 => ?_) (fun c_61 => ?_)
        · have hq : b = s_rfF d many y (k + 1) := by rw [s_rfF_s, if_neg (fun h => c_61 h.2.2.1), ← hbb]
          have hq2 : R32 b ∧ (b = -1 ∨ (0 ≤ b ∧ b < ((k + 1 : Nat) : Int) ∧ b < d 4)) := ⟨hbr.1, by omega⟩
          refine j_iinc 94 2 (y := ((k + 1 : Nat) : Int)) (L2 := [(4, .int (i32 (((k + 1 : Nat) : Int)))), (6, .int (i32 (d ((95 + 7 * k))))), (5, .int (i32 (((95 + 7 * k : Nat) : Int)))), (3, .int (i32 (b))), (0, .ref (m)), (1, .int (i32 (x))), (2, .int (i32 (y)))]) dX10_routeFor_91 rfl rfl (by omega) (Nat.le_of_ble_eq_true rfl) rfl ?_
          refine j_goto 5 dX10_routeFor_94 rfl ?_
          refine j_sub [0, 3, 4, 5, 6] rfl ?_
          exact ih_5 (k + 1) _ (by omega) (by omega) hq hq2
        · refine j_iload_n 65 3 dX10_routeFor_64 rfl rfl ?_
          refine j_iconst 66 dX10_routeFor_65 rfl ?_
          refine j_icmp_eq 69 88 dX10_routeFor_66 rfl rfl (hbr.1) (r32 (by decide) (by decide)) (fun c_66 => ?_) (fun c_66 => ?_)
          · have hq : (k : Int) = s_rfF d many y (k + 1) := by rw [s_rfF_s, if_pos ⟨by omega, by omega, c_61, Or.inl (by omega)⟩]
            have hq2 : R32 (k : Int) ∧ ((k : Int) = -1 ∨ (0 ≤ (k : Int) ∧ (k : Int) < ((k + 1 : Nat) : Int) ∧ (k : Int) < d 4)) := ⟨r32 (by omega) (by omega), by omega⟩
            refine j_iload 90 2 dX10_routeFor_88 rfl rfl ?_
            refine j_istore_n 91 (L2 := [(3, .int (i32 ((k : Int)))), (6, .int (i32 (d ((95 + 7 * k))))), (5, .int (i32 (((95 + 7 * k : Nat) : Int)))), (4, .int (i32 ((k : Int)))), (0, .ref (m)), (1, .int (i32 (x))), (2, .int (i32 (y)))]) dX10_routeFor_90 rfl rfl (Nat.le_of_ble_eq_true rfl) rfl ?_
            refine j_iinc 94 3 (y := ((k + 1 : Nat) : Int)) (L2 := [(4, .int (i32 (((k + 1 : Nat) : Int)))), (3, .int (i32 ((k : Int)))), (6, .int (i32 (d ((95 + 7 * k))))), (5, .int (i32 (((95 + 7 * k : Nat) : Int)))), (0, .ref (m)), (1, .int (i32 (x))), (2, .int (i32 (y)))]) dX10_routeFor_91 rfl rfl (by omega) (Nat.le_of_ble_eq_true rfl) rfl ?_
            refine j_goto 5 dX10_routeFor_94 rfl ?_
            refine j_sub [0, 1, 4, 5, 6] rfl ?_
            exact ih_5 (k + 1) _ (by omega) (by omega) hq hq2
          · refine j_iload 71 0 dX10_routeFor_69 rfl rfl ?_
            refine j_aload_n 72 4 dX10_routeFor_71 rfl rfl ?_
            refine j_getr 75 dX10_routeFor_72 rfl fl_X10_17 hM.md rfl (fun _ _ => rfl) rfl ?_
            refine j_bipush 77 dX10_routeFor_75 rfl (by decide) ?_
            refine j_bipush 79 dX10_routeFor_77 rfl (by decide) ?_
            refine j_iload_n 80 3 dX10_routeFor_79 rfl rfl ?_
            refine j_imul 81 dX10_routeFor_80 rfl ?_
            refine j_iadd 82 dX10_routeFor_81 rfl ?_
            refine j_iconst 83 dX10_routeFor_82 rfl ?_
            refine j_iadd 84 dX10_routeFor_83 rfl ?_
            refine j_iald_d 85 (95 + 7 * b.toNat) dX10_routeFor_84 rfl hM.dat rfl (by omega) (show 95 + 7 * b.toNat < 729 by omega) (fun r_84 => ?_)
            refine j_icmp_le 88 91 dX10_routeFor_85 rfl rfl r_34 r_84 (fun c_85 => ?_) (fun c_85 => ?_)
            · have hq : b = s_rfF d many y (k + 1) := by rw [s_rfF_s, if_neg (fun h => by rw [← hbb] at h; omega), ← hbb]
              have hq2 : R32 b ∧ (b = -1 ∨ (0 ≤ b ∧ b < ((k + 1 : Nat) : Int) ∧ b < d 4)) := ⟨hbr.1, by omega⟩
              refine j_iinc 94 2 (y := ((k + 1 : Nat) : Int)) (L2 := [(4, .int (i32 (((k + 1 : Nat) : Int)))), (6, .int (i32 (d ((95 + 7 * k))))), (5, .int (i32 (((95 + 7 * k : Nat) : Int)))), (3, .int (i32 (b))), (0, .ref (m)), (1, .int (i32 (x))), (2, .int (i32 (y)))]) dX10_routeFor_91 rfl rfl (by omega) (Nat.le_of_ble_eq_true rfl) rfl ?_
              refine j_goto 5 dX10_routeFor_94 rfl ?_
              refine j_sub [0, 3, 4, 5, 6] rfl ?_
              exact ih_5 (k + 1) _ (by omega) (by omega) hq hq2
            · have hq : (k : Int) = s_rfF d many y (k + 1) := by rw [s_rfF_s, if_pos ⟨by omega, by omega, c_61, Or.inr (by rw [← hbb]; omega)⟩]
              have hq2 : R32 (k : Int) ∧ ((k : Int) = -1 ∨ (0 ≤ (k : Int) ∧ (k : Int) < ((k + 1 : Nat) : Int) ∧ (k : Int) < d 4)) := ⟨r32 (by omega) (by omega), by omega⟩
              refine j_iload 90 2 dX10_routeFor_88 rfl rfl ?_
              refine j_istore_n 91 (L2 := [(3, .int (i32 ((k : Int)))), (6, .int (i32 (d ((95 + 7 * k))))), (5, .int (i32 (((95 + 7 * k : Nat) : Int)))), (4, .int (i32 ((k : Int)))), (0, .ref (m)), (1, .int (i32 (x))), (2, .int (i32 (y)))]) dX10_routeFor_90 rfl rfl (Nat.le_of_ble_eq_true rfl) rfl ?_
              refine j_iinc 94 3 (y := ((k + 1 : Nat) : Int)) (L2 := [(4, .int (i32 (((k + 1 : Nat) : Int)))), (3, .int (i32 ((k : Int)))), (6, .int (i32 (d ((95 + 7 * k))))), (5, .int (i32 (((95 + 7 * k : Nat) : Int)))), (0, .ref (m)), (1, .int (i32 (x))), (2, .int (i32 (y)))]) dX10_routeFor_91 rfl rfl (by omega) (Nat.le_of_ble_eq_true rfl) rfl ?_
              refine j_goto 5 dX10_routeFor_94 rfl ?_
              refine j_sub [0, 1, 4, 5, 6] rfl ?_
              exact ih_5 (k + 1) _ (by omega) (by omega) hq hq2
