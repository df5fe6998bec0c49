theorem fst_r32 (p : Nat → Bool) {n : Nat} (hn : n ≤ 1000) : R32 (fst p n) := by
  rcases fst_rng p n with h | ⟨k, h1, h2, -⟩
  · rw [h]; exact ⟨by decide, by decide⟩
  · rw [h2]; exact ⟨by omega, by omega⟩
theorem cnt_cut {p : Nat → Bool} {k N : Nat} (hk : k ≤ N) (h : ∀ j, k ≤ j → j < N → p j = false) : ((cnt p k : Nat) : Int) = ((cnt p N : Nat) : Int) := by
  induction N with
  | zero => rw [show k = 0 by omega]
  | succ N ih =>
    rcases Nat.lt_or_ge k (N + 1) with q | q
    · rw [cnt_n (h N (by omega) (by omega)), ih (by omega) (fun j h1 h2 => h j h1 (by omega))]
    · rw [show k = N + 1 by omega]
set_option maxRecDepth 20000 in
theorem c_callTo {w : Wd} {sh : Shp} {g : Mem} {e : Nat} (hE : ExS sh.1 e) (hI : ExI g e) {x : Int} (hx : R32 x) : CT w mX1_callTo [.ref (e), .int (i32 (x))] sh g (dQ (some (.int (i32 (x_callTo g e x)))) sh g) := by
  refine j_entry (by decide) rfl (Nat.le_of_ble_eq_true rfl) (fun h => by cases h) rfl ?_
  show J w mX1_callTo 0 [(0, .ref (e)), (1, .int (i32 (x)))] [] sh g 0 0 _
  refine j_aload_n 1 0 dX1_callTo_0 rfl rfl ?_
  refine j_getr 4 dX1_callTo_1 rfl fl_X1_47 hE.ex rfl (fun _ _ => rfl) rfl ?_
  refine j_astore_n 5 (L2 := [(2, .ref (e + 34)), (0, .ref (e)), (1, .int (i32 (x)))]) dX1_callTo_4 rfl rfl (Nat.le_of_ble_eq_true rfl) rfl ?_
  refine j_aload_n 6 0 dX1_callTo_5 rfl rfl ?_
  refine j_alen 7 dX1_callTo_6 rfl hE.cls (Nat.le_of_ble_eq_true rfl) rfl ?_
  refine j_top (y := 40) rfl ?_
  refine j_istore_n 8 (L2 := [(3, .int (i32 (40))), (2, .ref (e + 34)), (0, .ref (e)), (1, .int (i32 (x)))]) dX1_callTo_7 rfl rfl (Nat.le_of_ble_eq_true rfl) rfl ?_
  refine j_iconst 9 dX1_callTo_8 rfl ?_
  refine j_istore 11 (L2 := [(4, .int (i32 (0))), (3, .int (i32 (40))), (2, .ref (e + 34)), (0, .ref (e)), (1, .int (i32 (x)))]) dX1_callTo_9 rfl (Nat.le_of_ble_eq_true rfl) rfl ?_
  suffices lp_11 : ∀ (n_11 : Nat) (k : Nat), 40 - k < n_11 → k ≤ 40 → (∀ j, j < k → (fun i => decide (g (e + 35 + i) 1 = 5) && decide (g (e + 35 + i) 8 = x)) j = false) → J w mX1_callTo 11 [(4, .int (i32 ((k : Int)))), (3, .int (i32 (40))), (2, .ref (e + 34)), (0, .ref (e)), (1, .int (i32 (x)))] [] sh g 0 0 (dQ (some (.int (i32 (x_callTo g e x)))) sh g) by
    exact lp_11 _ 0 (Nat.lt_succ_self _) (by omega) (fun j hj => absurd hj (Nat.not_lt_zero j))
  intro n_11
  induction n_11 with
  | zero => intro k h_; exact absurd h_ (Nat.not_lt_zero _)
  | succ n_11 ih_11 =>
    intro k hn_11 hk hp
    refine j_iload 13 0 dX1_callTo_11 rfl rfl ?_
    refine j_iload_n 14 1 dX1_callTo_13 rfl rfl ?_
    refine j_icmp_ge 17 53 dX1_callTo_14 rfl rfl (r32 (by omega) (by omega)) (r32 (by decide) (by decide)) (fun c_14 => ?_) (fun c_14 => ?_)
    · refine j_iconst 54 dX1_callTo_53 rfl ?_
      exact j_iret dX1_callTo_54 rfl (q_i (fst_none (p := (fun i => decide (g (e + 35 + i) 1 = 5) && decide (g (e + 35 + i) 8 = x))) (fun j hj => hp j (by omega))).symm)
    · refine j_aload_n 18 2 dX1_callTo_17 rfl rfl ?_
      refine j_iload 20 0 dX1_callTo_18 rfl rfl ?_
      refine j_aald 21 k dX1_callTo_20 rfl hE.cls (Nat.le_of_ble_eq_true rfl) rfl rfl rfl (show k < 40 by omega) rfl ?_
      refine j_astore 23 (L2 := [(5, .ref (e + 35 + k)), (4, .int (i32 ((k : Int)))), (3, .int (i32 (40))), (2, .ref (e + 34)), (0, .ref (e)), (1, .int (i32 (x)))]) dX1_callTo_21 rfl (Nat.le_of_ble_eq_true rfl) rfl ?_
      refine j_aload 25 0 dX1_callTo_23 rfl rfl ?_
      refine j_geti 28 dX1_callTo_25 rfl fl_X1_102 (hE.cl k (show k < 40 by omega)) rfl rfl (fun r_25 => ?_)
      refine j_iconst 29 dX1_callTo_28 rfl ?_
      refine j_icmp_ne 32 47 dX1_callTo_29 rfl rfl r_25 (r32 (by decide) (by decide)) (fun c_29 => ?_) (fun c_29 => ?_)
      · have hq : (fun i => decide (g (e + 35 + i) 1 = 5) && decide (g (e + 35 + i) 8 = x)) k = false := by simp [c_29] <;> omega
        refine j_iinc 50 1 (y := ((k + 1 : Nat) : Int)) (L2 := [(4, .int (i32 (((k + 1 : Nat) : Int)))), (5, .ref (e + 35 + k)), (3, .int (i32 (40))), (2, .ref (e + 34)), (0, .ref (e)), (1, .int (i32 (x)))]) dX1_callTo_47 rfl rfl (by omega) (Nat.le_of_ble_eq_true rfl) rfl ?_
        refine j_goto 11 dX1_callTo_50 rfl ?_
        refine j_sub [0, 2, 3, 4, 5] rfl ?_
        exact ih_11 (k + 1) (by omega) (by omega) (lt_step hp hq)
      · refine j_aload 34 0 dX1_callTo_32 rfl rfl ?_
        refine j_geti 37 dX1_callTo_34 rfl fl_X1_172 (hE.cl k (show k < 40 by omega)) rfl rfl (fun r_34 => ?_)
        refine j_iload_n 38 5 dX1_callTo_37 rfl rfl ?_
        refine j_icmp_ne 41 47 dX1_callTo_38 rfl rfl r_34 hx (fun c_38 => ?_) (fun c_38 => ?_)
        · have hq : (fun i => decide (g (e + 35 + i) 1 = 5) && decide (g (e + 35 + i) 8 = x)) k = false := by simp [c_38] <;> omega
          refine j_iinc 50 1 (y := ((k + 1 : Nat) : Int)) (L2 := [(4, .int (i32 (((k + 1 : Nat) : Int)))), (5, .ref (e + 35 + k)), (3, .int (i32 (40))), (2, .ref (e + 34)), (0, .ref (e)), (1, .int (i32 (x)))]) dX1_callTo_47 rfl rfl (by omega) (Nat.le_of_ble_eq_true rfl) rfl ?_
          refine j_goto 11 dX1_callTo_50 rfl ?_
          refine j_sub [0, 2, 3, 4, 5] rfl ?_
          exact ih_11 (k + 1) (by omega) (by omega) (lt_step hp hq)
        · refine j_aload 43 0 dX1_callTo_41 rfl rfl ?_
          refine j_geti 46 dX1_callTo_43 rfl fl_X1_130 (hE.cl k (show k < 40 by omega)) rfl rfl (fun r_43 => ?_)
          exact j_iret dX1_callTo_46 rfl (q_i ((hI.2.2.2.2 k (by omega)).trans (fst_hit (p := (fun i => decide (g (e + 35 + i) 1 = 5) && decide (g (e + 35 + i) 8 = x))) (k := k) (by omega) hp (by simp [c_29, c_38] <;> omega)).symm))

set_option maxRecDepth 20000 in
theorem c_callFrom {w : Wd} {sh : Shp} {g : Mem} {e : Nat} (hE : ExS sh.1 e) (hI : ExI g e) {x : Int} (hx : R32 x) : CT w mX1_callFrom [.ref (e), .int (i32 (x))] sh g (dQ (some (.int (i32 (x_callFrom g e x)))) sh g) := by
  refine j_entry (by decide) rfl (Nat.le_of_ble_eq_true rfl) (fun h => by cases h) rfl ?_
  show J w mX1_callFrom 0 [(0, .ref (e)), (1, .int (i32 (x)))] [] sh g 0 0 _
  refine j_aload_n 1 0 dX1_callFrom_0 rfl rfl ?_
  refine j_getr 4 dX1_callFrom_1 rfl fl_X1_47 hE.ex rfl (fun _ _ => rfl) rfl ?_
  refine j_astore_n 5 (L2 := [(2, .ref (e + 34)), (0, .ref (e)), (1, .int (i32 (x)))]) dX1_callFrom_4 rfl rfl (Nat.le_of_ble_eq_true rfl) rfl ?_
  refine j_aload_n 6 0 dX1_callFrom_5 rfl rfl ?_
  refine j_alen 7 dX1_callFrom_6 rfl hE.cls (Nat.le_of_ble_eq_true rfl) rfl ?_
  refine j_top (y := 40) rfl ?_
  refine j_istore_n 8 (L2 := [(3, .int (i32 (40))), (2, .ref (e + 34)), (0, .ref (e)), (1, .int (i32 (x)))]) dX1_callFrom_7 rfl rfl (Nat.le_of_ble_eq_true rfl) rfl ?_
  refine j_iconst 9 dX1_callFrom_8 rfl ?_
  refine j_istore 11 (L2 := [(4, .int (i32 (0))), (3, .int (i32 (40))), (2, .ref (e + 34)), (0, .ref (e)), (1, .int (i32 (x)))]) dX1_callFrom_9 rfl (Nat.le_of_ble_eq_true rfl) rfl ?_
  suffices lp_11 : ∀ (n_11 : Nat) (k : Nat), 40 - k < n_11 → k ≤ 40 → (∀ j, j < k → (fun i => decide (1 ≤ g (e + 35 + i) 1) && (decide (g (e + 35 + i) 1 ≤ 5) && decide (g (e + 35 + i) 2 = x))) j = false) → J w mX1_callFrom 11 [(4, .int (i32 ((k : Int)))), (3, .int (i32 (40))), (2, .ref (e + 34)), (0, .ref (e)), (1, .int (i32 (x)))] [] sh g 0 0 (dQ (some (.int (i32 (x_callFrom g e x)))) sh g) by
    exact lp_11 _ 0 (Nat.lt_succ_self _) (by omega) (fun j hj => absurd hj (Nat.not_lt_zero j))
  intro n_11
  induction n_11 with
  | zero => intro k h_; exact absurd h_ (Nat.not_lt_zero _)
  | succ n_11 ih_11 =>
    intro k hn_11 hk hp
    refine j_iload 13 0 dX1_callFrom_11 rfl rfl ?_
    refine j_iload_n 14 1 dX1_callFrom_13 rfl rfl ?_
    refine j_icmp_ge 17 62 dX1_callFrom_14 rfl rfl (r32 (by omega) (by omega)) (r32 (by decide) (by decide)) (fun c_14 => ?_) (fun c_14 => ?_)
    · refine j_iconst 63 dX1_callFrom_62 rfl ?_
      exact j_iret dX1_callFrom_63 rfl (q_i (fst_none (p := (fun i => decide (1 ≤ g (e + 35 + i) 1) && (decide (g (e + 35 + i) 1 ≤ 5) && decide (g (e + 35 + i) 2 = x)))) (fun j hj => hp j (by omega))).symm)
    · refine j_aload_n 18 2 dX1_callFrom_17 rfl rfl ?_
      refine j_iload 20 0 dX1_callFrom_18 rfl rfl ?_
      refine j_aald 21 k dX1_callFrom_20 rfl hE.cls (Nat.le_of_ble_eq_true rfl) rfl rfl rfl (show k < 40 by omega) rfl ?_
      refine j_astore 23 (L2 := [(5, .ref (e + 35 + k)), (4, .int (i32 ((k : Int)))), (3, .int (i32 (40))), (2, .ref (e + 34)), (0, .ref (e)), (1, .int (i32 (x)))]) dX1_callFrom_21 rfl (Nat.le_of_ble_eq_true rfl) rfl ?_
      refine j_aload 25 0 dX1_callFrom_23 rfl rfl ?_
      refine j_geti 28 dX1_callFrom_25 rfl fl_X1_102 (hE.cl k (show k < 40 by omega)) rfl rfl (fun r_25 => ?_)
      refine j_iconst 29 dX1_callFrom_28 rfl ?_
      refine j_icmp_lt 32 56 dX1_callFrom_29 rfl rfl r_25 (r32 (by decide) (by decide)) (fun c_29 => ?_) (fun c_29 => ?_)
      · have hq : (fun i => decide (1 ≤ g (e + 35 + i) 1) && (decide (g (e + 35 + i) 1 ≤ 5) && decide (g (e + 35 + i) 2 = x))) k = false := by simp [c_29] <;> omega
        refine j_iinc 59 1 (y := ((k + 1 : Nat) : Int)) (L2 := [(4, .int (i32 (((k + 1 : Nat) : Int)))), (5, .ref (e + 35 + k)), (3, .int (i32 (40))), (2, .ref (e + 34)), (0, .ref (e)), (1, .int (i32 (x)))]) dX1_callFrom_56 rfl rfl (by omega) (Nat.le_of_ble_eq_true rfl) rfl ?_
        refine j_goto 11 dX1_callFrom_59 rfl ?_
        refine j_sub [0, 2, 3, 4, 5] rfl ?_
        exact ih_11 (k + 1) (by omega) (by omega) (lt_step hp hq)
      · refine j_aload 34 0 dX1_callFrom_32 rfl rfl ?_
        refine j_geti 37 dX1_callFrom_34 rfl fl_X1_102 (hE.cl k (show k < 40 by omega)) rfl rfl (fun r_34 => ?_)
        refine j_iconst 38 dX1_callFrom_37 rfl ?_
        refine j_icmp_gt 41 56 dX1_callFrom_38 rfl rfl r_34 (r32 (by decide) (by decide)) (fun c_38 => ?_) (fun c_38 => ?_)
        · have hq : (fun i => decide (1 ≤ g (e + 35 + i) 1) && (decide (g (e + 35 + i) 1 ≤ 5) && decide (g (e + 35 + i) 2 = x))) k = false := by simp [c_38] <;> omega
          refine j_iinc 59 1 (y := ((k + 1 : Nat) : Int)) (L2 := [(4, .int (i32 (((k + 1 : Nat) : Int)))), (5, .ref (e + 35 + k)), (3, .int (i32 (40))), (2, .ref (e + 34)), (0, .ref (e)), (1, .int (i32 (x)))]) dX1_callFrom_56 rfl rfl (by omega) (Nat.le_of_ble_eq_true rfl) rfl ?_
          refine j_goto 11 dX1_callFrom_59 rfl ?_
          refine j_sub [0, 2, 3, 4, 5] rfl ?_
          exact ih_11 (k + 1) (by omega) (by omega) (lt_step hp hq)
        · refine j_aload 43 0 dX1_callFrom_41 rfl rfl ?_
          refine j_geti 46 dX1_callFrom_43 rfl fl_X1_169 (hE.cl k (show k < 40 by omega)) rfl rfl (fun r_43 => ?_)
          refine j_iload_n 47 5 dX1_callFrom_46 rfl rfl ?_
          refine j_icmp_ne 50 56 dX1_callFrom_47 rfl rfl r_43 hx (fun c_47 => ?_) (fun c_47 => ?_)
          · have hq : (fun i => decide (1 ≤ g (e + 35 + i) 1) && (decide (g (e + 35 + i) 1 ≤ 5) && decide (g (e + 35 + i) 2 = x))) k = false := by simp [c_47] <;> omega
            refine j_iinc 59 1 (y := ((k + 1 : Nat) : Int)) (L2 := [(4, .int (i32 (((k + 1 : Nat) : Int)))), (5, .ref (e + 35 + k)), (3, .int (i32 (40))), (2, .ref (e + 34)), (0, .ref (e)), (1, .int (i32 (x)))]) dX1_callFrom_56 rfl rfl (by omega) (Nat.le_of_ble_eq_true rfl) rfl ?_
            refine j_goto 11 dX1_callFrom_59 rfl ?_
            refine j_sub [0, 2, 3, 4, 5] rfl ?_
            exact ih_11 (k + 1) (by omega) (by omega) (lt_step hp hq)
          · refine j_aload 52 0 dX1_callFrom_50 rfl rfl ?_
            refine j_geti 55 dX1_callFrom_52 rfl fl_X1_130 (hE.cl k (show k < 40 by omega)) rfl rfl (fun r_52 => ?_)
            exact j_iret dX1_callFrom_55 rfl (q_i ((hI.2.2.2.2 k (by omega)).trans (fst_hit (p := (fun i => decide (1 ≤ g (e + 35 + i) 1) && (decide (g (e + 35 + i) 1 ≤ 5) && decide (g (e + 35 + i) 2 = x)))) (k := k) (by omega) hp (by simp [c_47] <;> omega)).symm))

set_option maxRecDepth 20000 in
theorem c_registerOf {w : Wd} {sh : Shp} {g : Mem} {e : Nat} (hE : ExS sh.1 e) (hI : ExI g e) {x : Int} (hx : R32 x) : CT w mX1_registerOf [.ref (e), .int (i32 (x))] sh g (dQ (some (.int (i32 (x_registerOf g e x)))) sh g) := by
  refine j_entry (by decide) rfl (Nat.le_of_ble_eq_true rfl) (fun h => by cases h) rfl ?_
  show J w mX1_registerOf 0 [(0, .ref (e)), (1, .int (i32 (x)))] [] sh g 0 0 _
  refine j_aload_n 1 0 dX1_registerOf_0 rfl rfl ?_
  refine j_getr 4 dX1_registerOf_1 rfl fl_X1_33 hE.ex rfl (fun _ _ => rfl) rfl ?_
  refine j_astore_n 5 (L2 := [(2, .ref (e + 25)), (0, .ref (e)), (1, .int (i32 (x)))]) dX1_registerOf_4 rfl rfl (Nat.le_of_ble_eq_true rfl) rfl ?_
  refine j_aload_n 6 0 dX1_registerOf_5 rfl rfl ?_
  refine j_alen 7 dX1_registerOf_6 rfl hE.rgs (Nat.le_of_ble_eq_true rfl) rfl ?_
  refine j_top (y := 4) rfl ?_
  refine j_istore_n 8 (L2 := [(3, .int (i32 (4))), (2, .ref (e + 25)), (0, .ref (e)), (1, .int (i32 (x)))]) dX1_registerOf_7 rfl rfl (Nat.le_of_ble_eq_true rfl) rfl ?_
  refine j_iconst 9 dX1_registerOf_8 rfl ?_
  refine j_istore 11 (L2 := [(4, .int (i32 (0))), (3, .int (i32 (4))), (2, .ref (e + 25)), (0, .ref (e)), (1, .int (i32 (x)))]) dX1_registerOf_9 rfl (Nat.le_of_ble_eq_true rfl) rfl ?_
  suffices lp_11 : ∀ (n_11 : Nat) (k : Nat), 4 - k < n_11 → k ≤ 4 → (∀ j, j < k → (fun i => decide (g (e + 26 + i) 1 = x)) j = false) → J w mX1_registerOf 11 [(4, .int (i32 ((k : Int)))), (3, .int (i32 (4))), (2, .ref (e + 25)), (0, .ref (e)), (1, .int (i32 (x)))] [] sh g 0 0 (dQ (some (.int (i32 (x_registerOf g e x)))) sh g) by
    exact lp_11 _ 0 (Nat.lt_succ_self _) (by omega) (fun j hj => absurd hj (Nat.not_lt_zero j))
  intro n_11
  induction n_11 with
  | zero => intro k h_; exact absurd h_ (Nat.not_lt_zero _)
  | succ n_11 ih_11 =>
    intro k hn_11 hk hp
    refine j_iload 13 0 dX1_registerOf_11 rfl rfl ?_
    refine j_iload_n 14 1 dX1_registerOf_13 rfl rfl ?_
    refine j_icmp_ge 17 44 dX1_registerOf_14 rfl rfl (r32 (by omega) (by omega)) (r32 (by decide) (by decide)) (fun c_14 => ?_) (fun c_14 => ?_)
    · refine j_iconst 45 dX1_registerOf_44 rfl ?_
      exact j_iret dX1_registerOf_45 rfl (q_i (fst_none (p := (fun i => decide (g (e + 26 + i) 1 = x))) (fun j hj => hp j (by omega))).symm)
    · refine j_aload_n 18 2 dX1_registerOf_17 rfl rfl ?_
      refine j_iload 20 0 dX1_registerOf_18 rfl rfl ?_
      refine j_aald 21 k dX1_registerOf_20 rfl hE.rgs (Nat.le_of_ble_eq_true rfl) rfl rfl rfl (show k < 4 by omega) rfl ?_
      refine j_astore 23 (L2 := [(5, .ref (e + 26 + k)), (4, .int (i32 ((k : Int)))), (3, .int (i32 (4))), (2, .ref (e + 25)), (0, .ref (e)), (1, .int (i32 (x)))]) dX1_registerOf_21 rfl (Nat.le_of_ble_eq_true rfl) rfl ?_
      refine j_aload 25 0 dX1_registerOf_23 rfl rfl ?_
      refine j_geti 28 dX1_registerOf_25 rfl fl_X1_193 (hE.rg k (show k < 4 by omega)) rfl rfl (fun r_25 => ?_)
      refine j_iload_n 29 5 dX1_registerOf_28 rfl rfl ?_
      refine j_icmp_ne 32 38 dX1_registerOf_29 rfl rfl r_25 hx (fun c_29 => ?_) (fun c_29 => ?_)
      · have hq : (fun i => decide (g (e + 26 + i) 1 = x)) k = false := by simp [c_29] <;> omega
        refine j_iinc 41 1 (y := ((k + 1 : Nat) : Int)) (L2 := [(4, .int (i32 (((k + 1 : Nat) : Int)))), (5, .ref (e + 26 + k)), (3, .int (i32 (4))), (2, .ref (e + 25)), (0, .ref (e)), (1, .int (i32 (x)))]) dX1_registerOf_38 rfl rfl (by omega) (Nat.le_of_ble_eq_true rfl) rfl ?_
        refine j_goto 11 dX1_registerOf_41 rfl ?_
        refine j_sub [0, 2, 3, 4, 5] rfl ?_
        exact ih_11 (k + 1) (by omega) (by omega) (lt_step hp hq)
      · refine j_aload 34 0 dX1_registerOf_32 rfl rfl ?_
        refine j_geti 37 dX1_registerOf_34 rfl fl_X1_196 (hE.rg k (show k < 4 by omega)) rfl rfl (fun r_34 => ?_)
        exact j_iret dX1_registerOf_37 rfl (q_i ((hI.2.2.1 k (by omega)).trans (fst_hit (p := (fun i => decide (g (e + 26 + i) 1 = x))) (k := k) (by omega) hp (by simp [c_29] <;> omega)).symm))

set_option maxRecDepth 20000 in
theorem c_countIn {w : Wd} {sh : Shp} {g : Mem} {e : Nat} (hE : ExS sh.1 e) {x : Int} (hx : R32 x) : CT w mX1_countIn [.ref (e), .int (i32 (x))] sh g (dQ (some (.int (i32 ((x_countIn g e x : Int))))) sh g) := by
  refine j_entry (by decide) rfl (Nat.le_of_ble_eq_true rfl) (fun h => by cases h) rfl ?_
  show J w mX1_countIn 0 [(0, .ref (e)), (1, .int (i32 (x)))] [] sh g 0 0 _
  refine j_iconst 1 dX1_countIn_0 rfl ?_
  refine j_istore_n 2 (L2 := [(2, .int (i32 (0))), (0, .ref (e)), (1, .int (i32 (x)))]) dX1_countIn_1 rfl rfl (Nat.le_of_ble_eq_true rfl) rfl ?_
  refine j_aload_n 3 1 dX1_countIn_2 rfl rfl ?_
  refine j_getr 6 dX1_countIn_3 rfl fl_X1_47 hE.ex rfl (fun _ _ => rfl) rfl ?_
  refine j_astore_n 7 (L2 := [(3, .ref (e + 34)), (2, .int (i32 (0))), (0, .ref (e)), (1, .int (i32 (x)))]) dX1_countIn_6 rfl rfl (Nat.le_of_ble_eq_true rfl) rfl ?_
  refine j_aload_n 8 0 dX1_countIn_7 rfl rfl ?_
  refine j_alen 9 dX1_countIn_8 rfl hE.cls (Nat.le_of_ble_eq_true rfl) rfl ?_
  refine j_top (y := 40) rfl ?_
  refine j_istore 11 (L2 := [(4, .int (i32 (40))), (3, .ref (e + 34)), (2, .int (i32 (0))), (0, .ref (e)), (1, .int (i32 (x)))]) dX1_countIn_9 rfl (Nat.le_of_ble_eq_true rfl) rfl ?_
  refine j_iconst 12 dX1_countIn_11 rfl ?_
  refine j_istore 14 (L2 := [(5, .int (i32 (0))), (4, .int (i32 (40))), (3, .ref (e + 34)), (2, .int (i32 (0))), (0, .ref (e)), (1, .int (i32 (x)))]) dX1_countIn_12 rfl (Nat.le_of_ble_eq_true rfl) rfl ?_
  suffices lp_14 : ∀ (n_14 : Nat) (k : Nat) (c : Int), 40 - k < n_14 → k ≤ 40 → c = ((cnt (fun i => decide (g (e + 35 + i) 1 = x)) k : Nat) : Int) → J w mX1_countIn 14 [(5, .int (i32 ((k : Int)))), (4, .int (i32 (40))), (3, .ref (e + 34)), (2, .int (i32 (c))), (0, .ref (e)), (1, .int (i32 (x)))] [] sh g 0 0 (dQ (some (.int (i32 ((x_countIn g e x : Int))))) sh g) by
    exact lp_14 _ 0 0 (Nat.lt_succ_self _) (by omega) rfl
  intro n_14
  induction n_14 with
  | zero => intro k c h_; exact absurd h_ (Nat.not_lt_zero _)
  | succ n_14 ih_14 =>
    intro k c hn_14 hk hc
    refine j_iload 16 0 dX1_countIn_14 rfl rfl ?_
    refine j_iload 18 1 dX1_countIn_16 rfl rfl ?_
    refine j_icmp_ge 21 45 dX1_countIn_18 rfl rfl (r32 (by omega) (by omega)) (r32 (by decide) (by decide)) (fun c_18 => ?_) (fun c_18 => ?_)
    · refine j_iload_n 46 3 dX1_countIn_45 rfl rfl ?_
      exact j_iret dX1_countIn_46 rfl (q_i (hc.trans (by rw [show k = 40 by omega]; rfl)))
    · refine j_aload_n 22 2 dX1_countIn_21 rfl rfl ?_
      refine j_iload 24 0 dX1_countIn_22 rfl rfl ?_
      refine j_aald 25 k dX1_countIn_24 rfl hE.cls (Nat.le_of_ble_eq_true rfl) rfl rfl rfl (show k < 40 by omega) rfl ?_
      refine j_astore 27 (L2 := [(6, .ref (e + 35 + k)), (5, .int (i32 ((k : Int)))), (4, .int (i32 (40))), (3, .ref (e + 34)), (2, .int (i32 (c))), (0, .ref (e)), (1, .int (i32 (x)))]) dX1_countIn_25 rfl (Nat.le_of_ble_eq_true rfl) rfl ?_
      refine j_aload 29 0 dX1_countIn_27 rfl rfl ?_
      refine j_geti 32 dX1_countIn_29 rfl fl_X1_102 (hE.cl k (show k < 40 by omega)) rfl rfl (fun r_29 => ?_)
      refine j_iload_n 33 6 dX1_countIn_32 rfl rfl ?_
      refine j_icmp_ne 36 39 dX1_countIn_33 rfl rfl r_29 hx (fun c_33 => ?_) (fun c_33 => ?_)
      · have hq : (fun i => decide (g (e + 35 + i) 1 = x)) k = false := by simp [c_33] <;> omega
        refine j_iinc 42 1 (y := ((k + 1 : Nat) : Int)) (L2 := [(5, .int (i32 (((k + 1 : Nat) : Int)))), (6, .ref (e + 35 + k)), (4, .int (i32 (40))), (3, .ref (e + 34)), (2, .int (i32 (c))), (0, .ref (e)), (1, .int (i32 (x)))]) dX1_countIn_39 rfl rfl (by omega) (Nat.le_of_ble_eq_true rfl) rfl ?_
        refine j_goto 14 dX1_countIn_42 rfl ?_
        refine j_sub [0, 2, 3, 4, 5, 6] rfl ?_
        exact ih_14 (k + 1) _ (by omega) (by omega) (by first | (rw [cnt_n hq]; omega) | (rw [cnt_y hq]; omega))
      · have hq : (fun i => decide (g (e + 35 + i) 1 = x)) k = true := by simp [c_33] <;> omega
        refine j_iinc 39 4 (y := c + 1) (L2 := [(2, .int (i32 (c + 1))), (6, .ref (e + 35 + k)), (5, .int (i32 ((k : Int)))), (4, .int (i32 (40))), (3, .ref (e + 34)), (0, .ref (e)), (1, .int (i32 (x)))]) dX1_countIn_36 rfl rfl (by omega) (Nat.le_of_ble_eq_true rfl) rfl ?_
        refine j_iinc 42 2 (y := ((k + 1 : Nat) : Int)) (L2 := [(5, .int (i32 (((k + 1 : Nat) : Int)))), (2, .int (i32 (c + 1))), (6, .ref (e + 35 + k)), (4, .int (i32 (40))), (3, .ref (e + 34)), (0, .ref (e)), (1, .int (i32 (x)))]) dX1_countIn_39 rfl rfl (by omega) (Nat.le_of_ble_eq_true rfl) rfl ?_
        refine j_goto 14 dX1_countIn_42 rfl ?_
        refine j_sub [0, 3, 4, 1, 5, 6] rfl ?_
        exact ih_14 (k + 1) _ (by omega) (by omega) (by first | (rw [cnt_n hq]; omega) | (rw [cnt_y hq]; omega))

set_option maxRecDepth 20000 in
theorem c_busyTrunks {w : Wd} {sh : Shp} {g : Mem} {e : Nat} (hE : ExS sh.1 e) {x : Int} (hx : R32 x) : CT w mX1_busyTrunks [.ref (e), .int (i32 (x))] sh g (dQ (some (.int (i32 ((x_busyTrunks g e x : Int))))) sh g) := by
  refine j_entry (by decide) rfl (Nat.le_of_ble_eq_true rfl) (fun h => by cases h) rfl ?_
  show J w mX1_busyTrunks 0 [(0, .ref (e)), (1, .int (i32 (x)))] [] sh g 0 0 _
  refine j_iconst 1 dX1_busyTrunks_0 rfl ?_
  refine j_istore_n 2 (L2 := [(2, .int (i32 (0))), (0, .ref (e)), (1, .int (i32 (x)))]) dX1_busyTrunks_1 rfl rfl (Nat.le_of_ble_eq_true rfl) rfl ?_
  refine j_aload_n 3 1 dX1_busyTrunks_2 rfl rfl ?_
  refine j_getr 6 dX1_busyTrunks_3 rfl fl_X1_47 hE.ex rfl (fun _ _ => rfl) rfl ?_
  refine j_astore_n 7 (L2 := [(3, .ref (e + 34)), (2, .int (i32 (0))), (0, .ref (e)), (1, .int (i32 (x)))]) dX1_busyTrunks_6 rfl rfl (Nat.le_of_ble_eq_true rfl) rfl ?_
  refine j_aload_n 8 0 dX1_busyTrunks_7 rfl rfl ?_
  refine j_alen 9 dX1_busyTrunks_8 rfl hE.cls (Nat.le_of_ble_eq_true rfl) rfl ?_
  refine j_top (y := 40) rfl ?_
  refine j_istore 11 (L2 := [(4, .int (i32 (40))), (3, .ref (e + 34)), (2, .int (i32 (0))), (0, .ref (e)), (1, .int (i32 (x)))]) dX1_busyTrunks_9 rfl (Nat.le_of_ble_eq_true rfl) rfl ?_
  refine j_iconst 12 dX1_busyTrunks_11 rfl ?_
  refine j_istore 14 (L2 := [(5, .int (i32 (0))), (4, .int (i32 (40))), (3, .ref (e + 34)), (2, .int (i32 (0))), (0, .ref (e)), (1, .int (i32 (x)))]) dX1_busyTrunks_12 rfl (Nat.le_of_ble_eq_true rfl) rfl ?_
  suffices lp_14 : ∀ (n_14 : Nat) (k : Nat) (c : Int), 40 - k < n_14 → k ≤ 40 → c = ((cnt (fun i => decide (g (e + 35 + i) 1 = 5) && decide (g (e + 35 + i) 9 = x)) k : Nat) : Int) → J w mX1_busyTrunks 14 [(5, .int (i32 ((k : Int)))), (4, .int (i32 (40))), (3, .ref (e + 34)), (2, .int (i32 (c))), (0, .ref (e)), (1, .int (i32 (x)))] [] sh g 0 0 (dQ (some (.int (i32 ((x_busyTrunks g e x : Int))))) sh g) by
    exact lp_14 _ 0 0 (Nat.lt_succ_self _) (by omega) rfl
  intro n_14
  induction n_14 with
  | zero => intro k c h_; exact absurd h_ (Nat.not_lt_zero _)
  | succ n_14 ih_14 =>
    intro k c hn_14 hk hc
    refine j_iload 16 0 dX1_busyTrunks_14 rfl rfl ?_
    refine j_iload 18 1 dX1_busyTrunks_16 rfl rfl ?_
    refine j_icmp_ge 21 54 dX1_busyTrunks_18 rfl rfl (r32 (by omega) (by omega)) (r32 (by decide) (by decide)) (fun c_18 => ?_) (fun c_18 => ?_)
    · refine j_iload_n 55 3 dX1_busyTrunks_54 rfl rfl ?_
      exact j_iret dX1_busyTrunks_55 rfl (q_i (hc.trans (by rw [show k = 40 by omega]; rfl)))
    · refine j_aload_n 22 2 dX1_busyTrunks_21 rfl rfl ?_
      refine j_iload 24 0 dX1_busyTrunks_22 rfl rfl ?_
      refine j_aald 25 k dX1_busyTrunks_24 rfl hE.cls (Nat.le_of_ble_eq_true rfl) rfl rfl rfl (show k < 40 by omega) rfl ?_
      refine j_astore 27 (L2 := [(6, .ref (e + 35 + k)), (5, .int (i32 ((k : Int)))), (4, .int (i32 (40))), (3, .ref (e + 34)), (2, .int (i32 (c))), (0, .ref (e)), (1, .int (i32 (x)))]) dX1_busyTrunks_25 rfl (Nat.le_of_ble_eq_true rfl) rfl ?_
      refine j_aload 29 0 dX1_busyTrunks_27 rfl rfl ?_
      refine j_geti 32 dX1_busyTrunks_29 rfl fl_X1_102 (hE.cl k (show k < 40 by omega)) rfl rfl (fun r_29 => ?_)
      refine j_iconst 33 dX1_busyTrunks_32 rfl ?_
      refine j_icmp_ne 36 48 dX1_busyTrunks_33 rfl rfl r_29 (r32 (by decide) (by decide)) (fun c_33 => ?_) (fun c_33 => ?_)
      · have hq : (fun i => decide (g (e + 35 + i) 1 = 5) && decide (g (e + 35 + i) 9 = x)) k = false := by simp [c_33] <;> omega
        refine j_iinc 51 1 (y := ((k + 1 : Nat) : Int)) (L2 := [(5, .int (i32 (((k + 1 : Nat) : Int)))), (6, .ref (e + 35 + k)), (4, .int (i32 (40))), (3, .ref (e + 34)), (2, .int (i32 (c))), (0, .ref (e)), (1, .int (i32 (x)))]) dX1_busyTrunks_48 rfl rfl (by omega) (Nat.le_of_ble_eq_true rfl) rfl ?_
        refine j_goto 14 dX1_busyTrunks_51 rfl ?_
        refine j_sub [0, 2, 3, 4, 5, 6] rfl ?_
        exact ih_14 (k + 1) _ (by omega) (by omega) (by first | (rw [cnt_n hq]; omega) | (rw [cnt_y hq]; omega))
      · refine j_aload 38 0 dX1_busyTrunks_36 rfl rfl ?_
        refine j_geti 41 dX1_busyTrunks_38 rfl fl_X1_187 (hE.cl k (show k < 40 by omega)) rfl rfl (fun r_38 => ?_)
        refine j_iload_n 42 6 dX1_busyTrunks_41 rfl rfl ?_
        refine j_icmp_ne 45 48 dX1_busyTrunks_42 rfl rfl r_38 hx (fun c_42 => ?_) (fun c_42 => ?_)
        · have hq : (fun i => decide (g (e + 35 + i) 1 = 5) && decide (g (e + 35 + i) 9 = x)) k = false := by simp [c_42] <;> omega
          refine j_iinc 51 1 (y := ((k + 1 : Nat) : Int)) (L2 := [(5, .int (i32 (((k + 1 : Nat) : Int)))), (6, .ref (e + 35 + k)), (4, .int (i32 (40))), (3, .ref (e + 34)), (2, .int (i32 (c))), (0, .ref (e)), (1, .int (i32 (x)))]) dX1_busyTrunks_48 rfl rfl (by omega) (Nat.le_of_ble_eq_true rfl) rfl ?_
          refine j_goto 14 dX1_busyTrunks_51 rfl ?_
          refine j_sub [0, 2, 3, 4, 5, 6] rfl ?_
          exact ih_14 (k + 1) _ (by omega) (by omega) (by first | (rw [cnt_n hq]; omega) | (rw [cnt_y hq]; omega))
        · have hq : (fun i => decide (g (e + 35 + i) 1 = 5) && decide (g (e + 35 + i) 9 = x)) k = true := by simp [c_33, c_42] <;> omega
          refine j_iinc 48 4 (y := c + 1) (L2 := [(2, .int (i32 (c + 1))), (6, .ref (e + 35 + k)), (5, .int (i32 ((k : Int)))), (4, .int (i32 (40))), (3, .ref (e + 34)), (0, .ref (e)), (1, .int (i32 (x)))]) dX1_busyTrunks_45 rfl rfl (by omega) (Nat.le_of_ble_eq_true rfl) rfl ?_
          refine j_iinc 51 2 (y := ((k + 1 : Nat) : Int)) (L2 := [(5, .int (i32 (((k + 1 : Nat) : Int)))), (2, .int (i32 (c + 1))), (6, .ref (e + 35 + k)), (4, .int (i32 (40))), (3, .ref (e + 34)), (0, .ref (e)), (1, .int (i32 (x)))]) dX1_busyTrunks_48 rfl rfl (by omega) (Nat.le_of_ble_eq_true rfl) rfl ?_
          refine j_goto 14 dX1_busyTrunks_51 rfl ?_
          refine j_sub [0, 3, 4, 1, 5, 6] rfl ?_
          exact ih_14 (k + 1) _ (by omega) (by omega) (by first | (rw [cnt_n hq]; omega) | (rw [cnt_y hq]; omega))

set_option maxRecDepth 20000 in
theorem c_endedWellFrom {w : Wd} {sh : Shp} {g : Mem} {e : Nat} (hE : ExS sh.1 e) {x : Int} (hx : R32 x) : CT w mX1_endedWellFrom [.ref (e), .int (i32 (x))] sh g (dQ (some (.int (i32 ((x_ended g e x : Int))))) sh g) := by
  refine j_entry (by decide) rfl (Nat.le_of_ble_eq_true rfl) (fun h => by cases h) rfl ?_
  show J w mX1_endedWellFrom 0 [(0, .ref (e)), (1, .int (i32 (x)))] [] sh g 0 0 _
  refine j_iconst 1 dX1_endedWellFrom_0 rfl ?_
  refine j_istore_n 2 (L2 := [(2, .int (i32 (0))), (0, .ref (e)), (1, .int (i32 (x)))]) dX1_endedWellFrom_1 rfl rfl (Nat.le_of_ble_eq_true rfl) rfl ?_
  refine j_aload_n 3 1 dX1_endedWellFrom_2 rfl rfl ?_
  refine j_getr 6 dX1_endedWellFrom_3 rfl fl_X1_47 hE.ex rfl (fun _ _ => rfl) rfl ?_
  refine j_astore_n 7 (L2 := [(3, .ref (e + 34)), (2, .int (i32 (0))), (0, .ref (e)), (1, .int (i32 (x)))]) dX1_endedWellFrom_6 rfl rfl (Nat.le_of_ble_eq_true rfl) rfl ?_
  refine j_aload_n 8 0 dX1_endedWellFrom_7 rfl rfl ?_
  refine j_alen 9 dX1_endedWellFrom_8 rfl hE.cls (Nat.le_of_ble_eq_true rfl) rfl ?_
  refine j_top (y := 40) rfl ?_
  refine j_istore 11 (L2 := [(4, .int (i32 (40))), (3, .ref (e + 34)), (2, .int (i32 (0))), (0, .ref (e)), (1, .int (i32 (x)))]) dX1_endedWellFrom_9 rfl (Nat.le_of_ble_eq_true rfl) rfl ?_
  refine j_iconst 12 dX1_endedWellFrom_11 rfl ?_
  refine j_istore 14 (L2 := [(5, .int (i32 (0))), (4, .int (i32 (40))), (3, .ref (e + 34)), (2, .int (i32 (0))), (0, .ref (e)), (1, .int (i32 (x)))]) dX1_endedWellFrom_12 rfl (Nat.le_of_ble_eq_true rfl) rfl ?_
  suffices lp_14 : ∀ (n_14 : Nat) (k : Nat) (c : Int), 40 - k < n_14 → k ≤ 40 → c = ((cnt (fun i => decide (g (e + 35 + i) 1 = 6) && decide (g (e + 35 + i) 2 = x)) k : Nat) : Int) → J w mX1_endedWellFrom 14 [(5, .int (i32 ((k : Int)))), (4, .int (i32 (40))), (3, .ref (e + 34)), (2, .int (i32 (c))), (0, .ref (e)), (1, .int (i32 (x)))] [] sh g 0 0 (dQ (some (.int (i32 ((x_ended g e x : Int))))) sh g) by
    exact lp_14 _ 0 0 (Nat.lt_succ_self _) (by omega) rfl
  intro n_14
  induction n_14 with
  | zero => intro k c h_; exact absurd h_ (Nat.not_lt_zero _)
  | succ n_14 ih_14 =>
    intro k c hn_14 hk hc
    refine j_iload 16 0 dX1_endedWellFrom_14 rfl rfl ?_
    refine j_iload 18 1 dX1_endedWellFrom_16 rfl rfl ?_
    refine j_icmp_ge 21 55 dX1_endedWellFrom_18 rfl rfl (r32 (by omega) (by omega)) (r32 (by decide) (by decide)) (fun c_18 => ?_) (fun c_18 => ?_)
    · refine j_iload_n 56 3 dX1_endedWellFrom_55 rfl rfl ?_
      exact j_iret dX1_endedWellFrom_56 rfl (q_i (hc.trans (by rw [show k = 40 by omega]; rfl)))
    · refine j_aload_n 22 2 dX1_endedWellFrom_21 rfl rfl ?_
      refine j_iload 24 0 dX1_endedWellFrom_22 rfl rfl ?_
      refine j_aald 25 k dX1_endedWellFrom_24 rfl hE.cls (Nat.le_of_ble_eq_true rfl) rfl rfl rfl (show k < 40 by omega) rfl ?_
      refine j_astore 27 (L2 := [(6, .ref (e + 35 + k)), (5, .int (i32 ((k : Int)))), (4, .int (i32 (40))), (3, .ref (e + 34)), (2, .int (i32 (c))), (0, .ref (e)), (1, .int (i32 (x)))]) dX1_endedWellFrom_25 rfl (Nat.le_of_ble_eq_true rfl) rfl ?_
      refine j_aload 29 0 dX1_endedWellFrom_27 rfl rfl ?_
      refine j_geti 32 dX1_endedWellFrom_29 rfl fl_X1_102 (hE.cl k (show k < 40 by omega)) rfl rfl (fun r_29 => ?_)
      refine j_bipush 34 dX1_endedWellFrom_32 rfl (by decide) ?_
      refine j_icmp_ne 37 49 dX1_endedWellFrom_34 rfl rfl r_29 (r32 (by decide) (by decide)) (fun c_34 => ?_) (fun c_34 => ?_)
      · have hq : (fun i => decide (g (e + 35 + i) 1 = 6) && decide (g (e + 35 + i) 2 = x)) k = false := by simp [c_34] <;> omega
        refine j_iinc 52 1 (y := ((k + 1 : Nat) : Int)) (L2 := [(5, .int (i32 (((k + 1 : Nat) : Int)))), (6, .ref (e + 35 + k)), (4, .int (i32 (40))), (3, .ref (e + 34)), (2, .int (i32 (c))), (0, .ref (e)), (1, .int (i32 (x)))]) dX1_endedWellFrom_49 rfl rfl (by omega) (Nat.le_of_ble_eq_true rfl) rfl ?_
        refine j_goto 14 dX1_endedWellFrom_52 rfl ?_
        refine j_sub [0, 2, 3, 4, 5, 6] rfl ?_
        exact ih_14 (k + 1) _ (by omega) (by omega) (by first | (rw [cnt_n hq]; omega) | (rw [cnt_y hq]; omega))
      · refine j_aload 39 0 dX1_endedWellFrom_37 rfl rfl ?_
        refine j_geti 42 dX1_endedWellFrom_39 rfl fl_X1_169 (hE.cl k (show k < 40 by omega)) rfl rfl (fun r_39 => ?_)
        refine j_iload_n 43 6 dX1_endedWellFrom_42 rfl rfl ?_
        refine j_icmp_ne 46 49 dX1_endedWellFrom_43 rfl rfl r_39 hx (fun c_43 => ?_) (fun c_43 => ?_)
        · have hq : (fun i => decide (g (e + 35 + i) 1 = 6) && decide (g (e + 35 + i) 2 = x)) k = false := by simp [c_43] <;> omega
          refine j_iinc 52 1 (y := ((k + 1 : Nat) : Int)) (L2 := [(5, .int (i32 (((k + 1 : Nat) : Int)))), (6, .ref (e + 35 + k)), (4, .int (i32 (40))), (3, .ref (e + 34)), (2, .int (i32 (c))), (0, .ref (e)), (1, .int (i32 (x)))]) dX1_endedWellFrom_49 rfl rfl (by omega) (Nat.le_of_ble_eq_true rfl) rfl ?_
          refine j_goto 14 dX1_endedWellFrom_52 rfl ?_
          refine j_sub [0, 2, 3, 4, 5, 6] rfl ?_
          exact ih_14 (k + 1) _ (by omega) (by omega) (by first | (rw [cnt_n hq]; omega) | (rw [cnt_y hq]; omega))
        · have hq : (fun i => decide (g (e + 35 + i) 1 = 6) && decide (g (e + 35 + i) 2 = x)) k = true := by simp [c_34, c_43] <;> omega
          refine j_iinc 49 4 (y := c + 1) (L2 := [(2, .int (i32 (c + 1))), (6, .ref (e + 35 + k)), (5, .int (i32 ((k : Int)))), (4, .int (i32 (40))), (3, .ref (e + 34)), (0, .ref (e)), (1, .int (i32 (x)))]) dX1_endedWellFrom_46 rfl rfl (by omega) (Nat.le_of_ble_eq_true rfl) rfl ?_
          refine j_iinc 52 2 (y := ((k + 1 : Nat) : Int)) (L2 := [(5, .int (i32 (((k + 1 : Nat) : Int)))), (2, .int (i32 (c + 1))), (6, .ref (e + 35 + k)), (4, .int (i32 (40))), (3, .ref (e + 34)), (0, .ref (e)), (1, .int (i32 (x)))]) dX1_endedWellFrom_49 rfl rfl (by omega) (Nat.le_of_ble_eq_true rfl) rfl ?_
          refine j_goto 14 dX1_endedWellFrom_52 rfl ?_
          refine j_sub [0, 3, 4, 1, 5, 6] rfl ?_
          exact ih_14 (k + 1) _ (by omega) (by omega) (by first | (rw [cnt_n hq]; omega) | (rw [cnt_y hq]; omega))

set_option maxRecDepth 20000 in
theorem c_cameFrom {w : Wd} {sh : Shp} {g : Mem} {e : Nat} (hE : ExS sh.1 e) {x : Int} (hx : R32 x) : CT w mX1_cameFrom [.ref (e), .int (i32 (x))] sh g (dQ (some (.int (i32 ((x_cameFrom g e x : Int))))) sh g) := by
  refine j_entry (by decide) rfl (Nat.le_of_ble_eq_true rfl) (fun h => by cases h) rfl ?_
  show J w mX1_cameFrom 0 [(0, .ref (e)), (1, .int (i32 (x)))] [] sh g 0 0 _
  refine j_iconst 1 dX1_cameFrom_0 rfl ?_
  refine j_istore_n 2 (L2 := [(2, .int (i32 (0))), (0, .ref (e)), (1, .int (i32 (x)))]) dX1_cameFrom_1 rfl rfl (Nat.le_of_ble_eq_true rfl) rfl ?_
  refine j_aload_n 3 1 dX1_cameFrom_2 rfl rfl ?_
  refine j_getr 6 dX1_cameFrom_3 rfl fl_X1_47 hE.ex rfl (fun _ _ => rfl) rfl ?_
  refine j_astore_n 7 (L2 := [(3, .ref (e + 34)), (2, .int (i32 (0))), (0, .ref (e)), (1, .int (i32 (x)))]) dX1_cameFrom_6 rfl rfl (Nat.le_of_ble_eq_true rfl) rfl ?_
  refine j_aload_n 8 0 dX1_cameFrom_7 rfl rfl ?_
  refine j_alen 9 dX1_cameFrom_8 rfl hE.cls (Nat.le_of_ble_eq_true rfl) rfl ?_
  refine j_top (y := 40) rfl ?_
  refine j_istore 11 (L2 := [(4, .int (i32 (40))), (3, .ref (e + 34)), (2, .int (i32 (0))), (0, .ref (e)), (1, .int (i32 (x)))]) dX1_cameFrom_9 rfl (Nat.le_of_ble_eq_true rfl) rfl ?_
  refine j_iconst 12 dX1_cameFrom_11 rfl ?_
  refine j_istore 14 (L2 := [(5, .int (i32 (0))), (4, .int (i32 (40))), (3, .ref (e + 34)), (2, .int (i32 (0))), (0, .ref (e)), (1, .int (i32 (x)))]) dX1_cameFrom_12 rfl (Nat.le_of_ble_eq_true rfl) rfl ?_
  suffices lp_14 : ∀ (n_14 : Nat) (k : Nat) (c : Int), 40 - k < n_14 → k ≤ 40 → c = ((cnt (fun i => !decide (g (e + 35 + i) 1 = -1) && (!decide (g (e + 35 + i) 6 = 0) && decide (g (e + 35 + i) 2 = x))) k : Nat) : Int) → J w mX1_cameFrom 14 [(5, .int (i32 ((k : Int)))), (4, .int (i32 (40))), (3, .ref (e + 34)), (2, .int (i32 (c))), (0, .ref (e)), (1, .int (i32 (x)))] [] sh g 0 0 (dQ (some (.int (i32 ((x_cameFrom g e x : Int))))) sh g) by
    exact lp_14 _ 0 0 (Nat.lt_succ_self _) (by omega) rfl
  intro n_14
  induction n_14 with
  | zero => intro k c h_; exact absurd h_ (Nat.not_lt_zero _)
  | succ n_14 ih_14 =>
    intro k c hn_14 hk hc
    refine j_iload 16 0 dX1_cameFrom_14 rfl rfl ?_
    refine j_iload 18 1 dX1_cameFrom_16 rfl rfl ?_
    refine j_icmp_ge 21 62 dX1_cameFrom_18 rfl rfl (r32 (by omega) (by omega)) (r32 (by decide) (by decide)) (fun c_18 => ?_) (fun c_18 => ?_)
    · refine j_iload_n 63 3 dX1_cameFrom_62 rfl rfl ?_
      exact j_iret dX1_cameFrom_63 rfl (q_i (hc.trans (by rw [show k = 40 by omega]; rfl)))
    · refine j_aload_n 22 2 dX1_cameFrom_21 rfl rfl ?_
      refine j_iload 24 0 dX1_cameFrom_22 rfl rfl ?_
      refine j_aald 25 k dX1_cameFrom_24 rfl hE.cls (Nat.le_of_ble_eq_true rfl) rfl rfl rfl (show k < 40 by omega) rfl ?_
      refine j_astore 27 (L2 := [(6, .ref (e + 35 + k)), (5, .int (i32 ((k : Int)))), (4, .int (i32 (40))), (3, .ref (e + 34)), (2, .int (i32 (c))), (0, .ref (e)), (1, .int (i32 (x)))]) dX1_cameFrom_25 rfl (Nat.le_of_ble_eq_true rfl) rfl ?_
      refine j_aload 29 0 dX1_cameFrom_27 rfl rfl ?_
      refine j_geti 32 dX1_cameFrom_29 rfl fl_X1_102 (hE.cl k (show k < 40 by omega)) rfl rfl (fun r_29 => ?_)
      refine j_iconst 33 dX1_cameFrom_32 rfl ?_
      refine j_icmp_eq 36 56 dX1_cameFrom_33 rfl rfl r_29 (r32 (by decide) (by decide)) (fun c_33 => ?_) (fun c_33 => ?_)
      · have hq : (fun i => !decide (g (e + 35 + i) 1 = -1) && (!decide (g (e + 35 + i) 6 = 0) && decide (g (e + 35 + i) 2 = x))) k = false := by simp [c_33] <;> omega
        refine j_iinc 59 1 (y := ((k + 1 : Nat) : Int)) (L2 := [(5, .int (i32 (((k + 1 : Nat) : Int)))), (6, .ref (e + 35 + k)), (4, .int (i32 (40))), (3, .ref (e + 34)), (2, .int (i32 (c))), (0, .ref (e)), (1, .int (i32 (x)))]) dX1_cameFrom_56 rfl rfl (by omega) (Nat.le_of_ble_eq_true rfl) rfl ?_
        refine j_goto 14 dX1_cameFrom_59 rfl ?_
        refine j_sub [0, 2, 3, 4, 5, 6] rfl ?_
        exact ih_14 (k + 1) _ (by omega) (by omega) (by first | (rw [cnt_n hq]; omega) | (rw [cnt_y hq]; omega))
      · refine j_aload 38 0 dX1_cameFrom_36 rfl rfl ?_
        refine j_getz 41 dX1_cameFrom_38 rfl fl_X1_184 (hE.cl k (show k < 40 by omega)) rfl rfl (fun r_38 => ?_)
        refine j_if_eq 44 56 dX1_cameFrom_41 rfl rfl (r01 r_38) (fun c_41 => ?_) (fun c_41 => ?_)
        · have hq : (fun i => !decide (g (e + 35 + i) 1 = -1) && (!decide (g (e + 35 + i) 6 = 0) && decide (g (e + 35 + i) 2 = x))) k = false := by simp [c_41] <;> omega
          refine j_iinc 59 1 (y := ((k + 1 : Nat) : Int)) (L2 := [(5, .int (i32 (((k + 1 : Nat) : Int)))), (6, .ref (e + 35 + k)), (4, .int (i32 (40))), (3, .ref (e + 34)), (2, .int (i32 (c))), (0, .ref (e)), (1, .int (i32 (x)))]) dX1_cameFrom_56 rfl rfl (by omega) (Nat.le_of_ble_eq_true rfl) rfl ?_
          refine j_goto 14 dX1_cameFrom_59 rfl ?_
          refine j_sub [0, 2, 3, 4, 5, 6] rfl ?_
          exact ih_14 (k + 1) _ (by omega) (by omega) (by first | (rw [cnt_n hq]; omega) | (rw [cnt_y hq]; omega))
        · refine j_aload 46 0 dX1_cameFrom_44 rfl rfl ?_
          refine j_geti 49 dX1_cameFrom_46 rfl fl_X1_169 (hE.cl k (show k < 40 by omega)) rfl rfl (fun r_46 => ?_)
          refine j_iload_n 50 6 dX1_cameFrom_49 rfl rfl ?_
          refine j_icmp_ne 53 56 dX1_cameFrom_50 rfl rfl r_46 hx (fun c_50 => ?_) (fun c_50 => ?_)
          · have hq : (fun i => !decide (g (e + 35 + i) 1 = -1) && (!decide (g (e + 35 + i) 6 = 0) && decide (g (e + 35 + i) 2 = x))) k = false := by simp [c_50] <;> omega
            refine j_iinc 59 1 (y := ((k + 1 : Nat) : Int)) (L2 := [(5, .int (i32 (((k + 1 : Nat) : Int)))), (6, .ref (e + 35 + k)), (4, .int (i32 (40))), (3, .ref (e + 34)), (2, .int (i32 (c))), (0, .ref (e)), (1, .int (i32 (x)))]) dX1_cameFrom_56 rfl rfl (by omega) (Nat.le_of_ble_eq_true rfl) rfl ?_
            refine j_goto 14 dX1_cameFrom_59 rfl ?_
            refine j_sub [0, 2, 3, 4, 5, 6] rfl ?_
            exact ih_14 (k + 1) _ (by omega) (by omega) (by first | (rw [cnt_n hq]; omega) | (rw [cnt_y hq]; omega))
          · have hq : (fun i => !decide (g (e + 35 + i) 1 = -1) && (!decide (g (e + 35 + i) 6 = 0) && decide (g (e + 35 + i) 2 = x))) k = true := by simp [c_33, c_41, c_50] <;> omega
            refine j_iinc 56 4 (y := c + 1) (L2 := [(2, .int (i32 (c + 1))), (6, .ref (e + 35 + k)), (5, .int (i32 ((k : Int)))), (4, .int (i32 (40))), (3, .ref (e + 34)), (0, .ref (e)), (1, .int (i32 (x)))]) dX1_cameFrom_53 rfl rfl (by omega) (Nat.le_of_ble_eq_true rfl) rfl ?_
            refine j_iinc 59 2 (y := ((k + 1 : Nat) : Int)) (L2 := [(5, .int (i32 (((k + 1 : Nat) : Int)))), (2, .int (i32 (c + 1))), (6, .ref (e + 35 + k)), (4, .int (i32 (40))), (3, .ref (e + 34)), (0, .ref (e)), (1, .int (i32 (x)))]) dX1_cameFrom_56 rfl rfl (by omega) (Nat.le_of_ble_eq_true rfl) rfl ?_
            refine j_goto 14 dX1_cameFrom_59 rfl ?_
            refine j_sub [0, 3, 4, 1, 5, 6] rfl ?_
            exact ih_14 (k + 1) _ (by omega) (by omega) (by first | (rw [cnt_n hq]; omega) | (rw [cnt_y hq]; omega))

set_option maxRecDepth 20000 in
theorem c_isBusy {w : Wd} {sh : Shp} {g : Mem} {e : Nat} (hE : ExS sh.1 e) (hI : ExI g e) {x : Int} (hx : R32 x) : CT w mX1_isBusy [.ref (e), .int (i32 (x))] sh g (dQ (some (.int (i32 (b01 (x_isBusy g e x))))) sh g) := by
  refine j_entry (by decide) rfl (Nat.le_of_ble_eq_true rfl) (fun h => by cases h) rfl ?_
  show J w mX1_isBusy 0 [(0, .ref (e)), (1, .int (i32 (x)))] [] sh g 0 0 _
  refine j_aload_n 1 0 dX1_isBusy_0 rfl rfl ?_
  refine j_iload_n 2 1 dX1_isBusy_1 rfl rfl ?_
  refine j_callV 5 (As := [.int (i32 (x))]) (kc2 := 0) (ks2 := 0) dX1_isBusy_2 rfl mvX1_callFrom lk_X1_175 hE.ex rfl ⟨Nat.le_of_ble_eq_true rfl, rfl⟩ rfl rfl (Nat.le_of_ble_eq_true rfl) ⟨Nat.le_of_ble_eq_true rfl, Nat.le_of_ble_eq_true rfl⟩ ⟨Nat.le_of_ble_eq_true rfl, Nat.le_of_ble_eq_true rfl⟩ (c_callFrom hE hI hx) x_d (k_d1 ?_)
  refine j_iconst 6 dX1_isBusy_5 rfl ?_
  refine j_icmp_ne 9 18 dX1_isBusy_6 rfl rfl (fst_r32 _ (by decide)) (r32 (by decide) (by decide)) (fun c_6 => ?_) (fun c_6 => ?_)
  · have hb : x_isBusy g e x = true := by simp [x_isBusy, c_6]
    refine j_iconst 19 dX1_isBusy_18 rfl ?_
    refine j_goto 23 dX1_isBusy_19 rfl ?_
    exact j_zret dX1_isBusy_23 rfl (Or.inr rfl) (q_i (by rw [hb]; rfl))
  · refine j_aload_n 10 0 dX1_isBusy_9 rfl rfl ?_
    refine j_iload_n 11 1 dX1_isBusy_10 rfl rfl ?_
    refine j_callV 14 (As := [.int (i32 (x))]) (kc2 := 0) (ks2 := 0) dX1_isBusy_11 rfl mvX1_callTo lk_X1_178 hE.ex rfl ⟨Nat.le_of_ble_eq_true rfl, rfl⟩ rfl rfl (Nat.le_of_ble_eq_true rfl) ⟨Nat.le_of_ble_eq_true rfl, Nat.le_of_ble_eq_true rfl⟩ ⟨Nat.le_of_ble_eq_true rfl, Nat.le_of_ble_eq_true rfl⟩ (c_callTo hE hI hx) x_d (k_d1 ?_)
    refine j_iconst 15 dX1_isBusy_14 rfl ?_
    refine j_icmp_eq 18 22 dX1_isBusy_15 rfl rfl (fst_r32 _ (by decide)) (r32 (by decide) (by decide)) (fun c_15 => ?_) (fun c_15 => ?_)
    · have hb : x_isBusy g e x = false := by simp [x_isBusy, c_6, c_15]
      refine j_iconst 23 dX1_isBusy_22 rfl ?_
      exact j_zret dX1_isBusy_23 rfl (Or.inl rfl) (q_i (by rw [hb]; rfl))
    · have hb : x_isBusy g e x = true := by simp [x_isBusy, c_15]
      refine j_iconst 19 dX1_isBusy_18 rfl ?_
      refine j_goto 23 dX1_isBusy_19 rfl ?_
      exact j_zret dX1_isBusy_23 rfl (Or.inr rfl) (q_i (by rw [hb]; rfl))

set_option maxRecDepth 20000 in
theorem c_groupAt {w : Wd} {sh : Shp} {g : Mem} {e : Nat} (hE : ExS sh.1 e) (hb : g e 3 ≤ 5) {x : Int} (hx : R32 x) : CT w mX1_groupAt [.ref (e), .int (i32 (x))] sh g (dQ (some (va_rf (if 0 ≤ x ∧ x < g e 3 then some (e + 3 + x.toNat) else none))) sh g) := by
  refine j_entry (by decide) rfl (Nat.le_of_ble_eq_true rfl) (fun h => by cases h) rfl ?_
  show J w mX1_groupAt 0 [(0, .ref (e)), (1, .int (i32 (x)))] [] sh g 0 0 _
  refine j_iload_n 1 1 dX1_groupAt_0 rfl rfl ?_
  refine j_if_lt 4 30 dX1_groupAt_1 rfl rfl hx (fun c_1 => ?_) (fun c_1 => ?_)
  · have hv : (if 0 ≤ x ∧ x < g e 3 then some (e + 3 + x.toNat) else none) = none := if_neg (by omega)
    refine j_null 31 dX1_groupAt_30 rfl ?_
    exact j_aretN dX1_groupAt_31 rfl (⟨by rw [hv]; rfl, rfl, rfl⟩)
  · refine j_iload_n 5 1 dX1_groupAt_4 rfl rfl ?_
    refine j_aload_n 6 0 dX1_groupAt_5 rfl rfl ?_
    refine j_geti 9 dX1_groupAt_6 rfl fl_X1_65 hE.ex rfl rfl (fun r_6 => ?_)
    refine j_icmp_ge 12 30 dX1_groupAt_9 rfl rfl hx r_6 (fun c_9 => ?_) (fun c_9 => ?_)
    · have hv : (if 0 ≤ x ∧ x < g e 3 then some (e + 3 + x.toNat) else none) = none := if_neg (by omega)
      refine j_null 31 dX1_groupAt_30 rfl ?_
      exact j_aretN dX1_groupAt_31 rfl (⟨by rw [hv]; rfl, rfl, rfl⟩)
    · have hv : (if 0 ≤ x ∧ x < g e 3 then some (e + 3 + x.toNat) else none) = some (e + 3 + x.toNat) := if_pos (by omega)
      refine j_iload_n 13 1 dX1_groupAt_12 rfl rfl ?_
      refine j_aload_n 14 0 dX1_groupAt_13 rfl rfl ?_
      refine j_getr 17 dX1_groupAt_14 rfl fl_X1_17 hE.ex rfl (fun _ _ => rfl) rfl ?_
      refine j_alen 18 dX1_groupAt_17 rfl hE.grs (Nat.le_of_ble_eq_true rfl) rfl ?_
      refine j_top (y := 5) rfl ?_
      refine j_icmp_ge 21 30 dX1_groupAt_18 rfl rfl hx (r32 (by decide) (by decide)) (fun c_18 => absurd c_18 (by omega)) (fun c_18 => ?_)
      refine j_aload_n 22 0 dX1_groupAt_21 rfl rfl ?_
      refine j_getr 25 dX1_groupAt_22 rfl fl_X1_17 hE.ex rfl (fun _ _ => rfl) rfl ?_
      refine j_iload_n 26 1 dX1_groupAt_25 rfl rfl ?_
      refine j_aald 27 (x).toNat dX1_groupAt_26 rfl hE.grs (Nat.le_of_ble_eq_true rfl) rfl rfl (by omega) (show (x).toNat < 5 by omega) rfl ?_
      refine j_goto 31 dX1_groupAt_27 rfl ?_
      exact j_aret dX1_groupAt_31 rfl (⟨by rw [hv]; rfl, rfl, rfl⟩)

set_option maxRecDepth 20000 in
theorem c_registerAt {w : Wd} {sh : Shp} {g : Mem} {e : Nat} (hE : ExS sh.1 e) (hb : g e 0 ≤ 4) {x : Int} (hx : R32 x) : CT w mX1_registerAt [.ref (e), .int (i32 (x))] sh g (dQ (some (va_rf (if 0 ≤ x ∧ x < g e 0 then some (e + 26 + x.toNat) else none))) sh g) := by
  refine j_entry (by decide) rfl (Nat.le_of_ble_eq_true rfl) (fun h => by cases h) rfl ?_
  show J w mX1_registerAt 0 [(0, .ref (e)), (1, .int (i32 (x)))] [] sh g 0 0 _
  refine j_iload_n 1 1 dX1_registerAt_0 rfl rfl ?_
  refine j_if_lt 4 30 dX1_registerAt_1 rfl rfl hx (fun c_1 => ?_) (fun c_1 => ?_)
  · have hv : (if 0 ≤ x ∧ x < g e 0 then some (e + 26 + x.toNat) else none) = none := if_neg (by omega)
    refine j_null 31 dX1_registerAt_30 rfl ?_
    exact j_aretN dX1_registerAt_31 rfl (⟨by rw [hv]; rfl, rfl, rfl⟩)
  · refine j_iload_n 5 1 dX1_registerAt_4 rfl rfl ?_
    refine j_aload_n 6 0 dX1_registerAt_5 rfl rfl ?_
    refine j_geti 9 dX1_registerAt_6 rfl fl_X1_55 hE.ex rfl rfl (fun r_6 => ?_)
    refine j_icmp_ge 12 30 dX1_registerAt_9 rfl rfl hx r_6 (fun c_9 => ?_) (fun c_9 => ?_)
    · have hv : (if 0 ≤ x ∧ x < g e 0 then some (e + 26 + x.toNat) else none) = none := if_neg (by omega)
      refine j_null 31 dX1_registerAt_30 rfl ?_
      exact j_aretN dX1_registerAt_31 rfl (⟨by rw [hv]; rfl, rfl, rfl⟩)
    · have hv : (if 0 ≤ x ∧ x < g e 0 then some (e + 26 + x.toNat) else none) = some (e + 26 + x.toNat) := if_pos (by omega)
      refine j_iload_n 13 1 dX1_registerAt_12 rfl rfl ?_
      refine j_aload_n 14 0 dX1_registerAt_13 rfl rfl ?_
      refine j_getr 17 dX1_registerAt_14 rfl fl_X1_33 hE.ex rfl (fun _ _ => rfl) rfl ?_
      refine j_alen 18 dX1_registerAt_17 rfl hE.rgs (Nat.le_of_ble_eq_true rfl) rfl ?_
      refine j_top (y := 4) rfl ?_
      refine j_icmp_ge 21 30 dX1_registerAt_18 rfl rfl hx (r32 (by decide) (by decide)) (fun c_18 => absurd c_18 (by omega)) (fun c_18 => ?_)
      refine j_aload_n 22 0 dX1_registerAt_21 rfl rfl ?_
      refine j_getr 25 dX1_registerAt_22 rfl fl_X1_33 hE.ex rfl (fun _ _ => rfl) rfl ?_
      refine j_iload_n 26 1 dX1_registerAt_25 rfl rfl ?_
      refine j_aald 27 (x).toNat dX1_registerAt_26 rfl hE.rgs (Nat.le_of_ble_eq_true rfl) rfl rfl (by omega) (show (x).toNat < 4 by omega) rfl ?_
      refine j_goto 31 dX1_registerAt_27 rfl ?_
      exact j_aret dX1_registerAt_31 rfl (⟨by rw [hv]; rfl, rfl, rfl⟩)

set_option maxRecDepth 20000 in
theorem c_markerAt {w : Wd} {sh : Shp} {g : Mem} {e : Nat} (hE : ExS sh.1 e) (hb : g e 1 ≤ 3) {x : Int} (hx : R32 x) : CT w mX1_markerAt [.ref (e), .int (i32 (x))] sh g (dQ (some (va_rf (if 0 ≤ x ∧ x < g e 1 then some (e + 31 + x.toNat) else none))) sh g) := by
  refine j_entry (by decide) rfl (Nat.le_of_ble_eq_true rfl) (fun h => by cases h) rfl ?_
  show J w mX1_markerAt 0 [(0, .ref (e)), (1, .int (i32 (x)))] [] sh g 0 0 _
  refine j_iload_n 1 1 dX1_markerAt_0 rfl rfl ?_
  refine j_if_lt 4 30 dX1_markerAt_1 rfl rfl hx (fun c_1 => ?_) (fun c_1 => ?_)
  · have hv : (if 0 ≤ x ∧ x < g e 1 then some (e + 31 + x.toNat) else none) = none := if_neg (by omega)
    refine j_null 31 dX1_markerAt_30 rfl ?_
    exact j_aretN dX1_markerAt_31 rfl (⟨by rw [hv]; rfl, rfl, rfl⟩)
  · refine j_iload_n 5 1 dX1_markerAt_4 rfl rfl ?_
    refine j_aload_n 6 0 dX1_markerAt_5 rfl rfl ?_
    refine j_geti 9 dX1_markerAt_6 rfl fl_X1_59 hE.ex rfl rfl (fun r_6 => ?_)
    refine j_icmp_ge 12 30 dX1_markerAt_9 rfl rfl hx r_6 (fun c_9 => ?_) (fun c_9 => ?_)
    · have hv : (if 0 ≤ x ∧ x < g e 1 then some (e + 31 + x.toNat) else none) = none := if_neg (by omega)
      refine j_null 31 dX1_markerAt_30 rfl ?_
      exact j_aretN dX1_markerAt_31 rfl (⟨by rw [hv]; rfl, rfl, rfl⟩)
    · have hv : (if 0 ≤ x ∧ x < g e 1 then some (e + 31 + x.toNat) else none) = some (e + 31 + x.toNat) := if_pos (by omega)
      refine j_iload_n 13 1 dX1_markerAt_12 rfl rfl ?_
      refine j_aload_n 14 0 dX1_markerAt_13 rfl rfl ?_
      refine j_getr 17 dX1_markerAt_14 rfl fl_X1_40 hE.ex rfl (fun _ _ => rfl) rfl ?_
      refine j_alen 18 dX1_markerAt_17 rfl hE.mks (Nat.le_of_ble_eq_true rfl) rfl ?_
      refine j_top (y := 3) rfl ?_
      refine j_icmp_ge 21 30 dX1_markerAt_18 rfl rfl hx (r32 (by decide) (by decide)) (fun c_18 => absurd c_18 (by omega)) (fun c_18 => ?_)
      refine j_aload_n 22 0 dX1_markerAt_21 rfl rfl ?_
      refine j_getr 25 dX1_markerAt_22 rfl fl_X1_40 hE.ex rfl (fun _ _ => rfl) rfl ?_
      refine j_iload_n 26 1 dX1_markerAt_25 rfl rfl ?_
      refine j_aald 27 (x).toNat dX1_markerAt_26 rfl hE.mks (Nat.le_of_ble_eq_true rfl) rfl rfl (by omega) (show (x).toNat < 3 by omega) rfl ?_
      refine j_goto 31 dX1_markerAt_27 rfl ?_
      exact j_aret dX1_markerAt_31 rfl (⟨by rw [hv]; rfl, rfl, rfl⟩)

set_option maxRecDepth 20000 in
theorem c_callAt {w : Wd} {sh : Shp} {g : Mem} {e : Nat} (hE : ExS sh.1 e) (hb : g e 5 ≤ 40) {x : Int} (hx : R32 x) : CT w mX1_callAt [.ref (e), .int (i32 (x))] sh g (dQ (some (va_rf (if 0 ≤ x ∧ x < g e 5 then some (e + 35 + x.toNat) else none))) sh g) := by
  refine j_entry (by decide) rfl (Nat.le_of_ble_eq_true rfl) (fun h => by cases h) rfl ?_
  show J w mX1_callAt 0 [(0, .ref (e)), (1, .int (i32 (x)))] [] sh g 0 0 _
  refine j_iload_n 1 1 dX1_callAt_0 rfl rfl ?_
  refine j_if_lt 4 30 dX1_callAt_1 rfl rfl hx (fun c_1 => ?_) (fun c_1 => ?_)
  · have hv : (if 0 ≤ x ∧ x < g e 5 then some (e + 35 + x.toNat) else none) = none := if_neg (by omega)
    refine j_null 31 dX1_callAt_30 rfl ?_
    exact j_aretN dX1_callAt_31 rfl (⟨by rw [hv]; rfl, rfl, rfl⟩)
  · refine j_iload_n 5 1 dX1_callAt_4 rfl rfl ?_
    refine j_aload_n 6 0 dX1_callAt_5 rfl rfl ?_
    refine j_geti 9 dX1_callAt_6 rfl fl_X1_71 hE.ex rfl rfl (fun r_6 => ?_)
    refine j_icmp_ge 12 30 dX1_callAt_9 rfl rfl hx r_6 (fun c_9 => ?_) (fun c_9 => ?_)
    · have hv : (if 0 ≤ x ∧ x < g e 5 then some (e + 35 + x.toNat) else none) = none := if_neg (by omega)
      refine j_null 31 dX1_callAt_30 rfl ?_
      exact j_aretN dX1_callAt_31 rfl (⟨by rw [hv]; rfl, rfl, rfl⟩)
    · have hv : (if 0 ≤ x ∧ x < g e 5 then some (e + 35 + x.toNat) else none) = some (e + 35 + x.toNat) := if_pos (by omega)
      refine j_iload_n 13 1 dX1_callAt_12 rfl rfl ?_
      refine j_aload_n 14 0 dX1_callAt_13 rfl rfl ?_
      refine j_getr 17 dX1_callAt_14 rfl fl_X1_47 hE.ex rfl (fun _ _ => rfl) rfl ?_
      refine j_alen 18 dX1_callAt_17 rfl hE.cls (Nat.le_of_ble_eq_true rfl) rfl ?_
      refine j_top (y := 40) rfl ?_
      refine j_icmp_ge 21 30 dX1_callAt_18 rfl rfl hx (r32 (by decide) (by decide)) (fun c_18 => absurd c_18 (by omega)) (fun c_18 => ?_)
      refine j_aload_n 22 0 dX1_callAt_21 rfl rfl ?_
      refine j_getr 25 dX1_callAt_22 rfl fl_X1_47 hE.ex rfl (fun _ _ => rfl) rfl ?_
      refine j_iload_n 26 1 dX1_callAt_25 rfl rfl ?_
      refine j_aald 27 (x).toNat dX1_callAt_26 rfl hE.cls (Nat.le_of_ble_eq_true rfl) rfl rfl (by omega) (show (x).toNat < 40 by omega) rfl ?_
      refine j_goto 31 dX1_callAt_27 rfl ?_
      exact j_aret dX1_callAt_31 rfl (⟨by rw [hv]; rfl, rfl, rfl⟩)

set_option maxRecDepth 20000 in
theorem c_hasLine {w : Wd} {sh : Shp} {g : Mem} {e : Nat} (hE : ExS sh.1 e) {x : Int} (hx : R32 x) : CT w mX1_hasLine [.ref (e), .int (i32 (x))] sh g (dQ (some (.int (i32 (b01 (decide (0 ≤ x ∧ x < g e 2)))))) sh g) := by
  refine j_entry (by decide) rfl (Nat.le_of_ble_eq_true rfl) (fun h => by cases h) rfl ?_
  show J w mX1_hasLine 0 [(0, .ref (e)), (1, .int (i32 (x)))] [] sh g 0 0 _
  refine j_iload_n 1 1 dX1_hasLine_0 rfl rfl ?_
  refine j_if_lt 4 16 dX1_hasLine_1 rfl rfl hx (fun c_1 => ?_) (fun c_1 => ?_)
  · have hv : decide (0 ≤ x ∧ x < g e 2) = false := decide_eq_false (by omega)
    refine j_iconst 17 dX1_hasLine_16 rfl ?_
    exact j_zret dX1_hasLine_17 rfl (Or.inl rfl) (q_i (by rw [hv]; rfl))
  · refine j_iload_n 5 1 dX1_hasLine_4 rfl rfl ?_
    refine j_aload_n 6 0 dX1_hasLine_5 rfl rfl ?_
    refine j_geti 9 dX1_hasLine_6 rfl fl_X1_62 hE.ex rfl rfl (fun r_6 => ?_)
    refine j_icmp_ge 12 16 dX1_hasLine_9 rfl rfl hx r_6 (fun c_9 => ?_) (fun c_9 => ?_)
    · have hv : decide (0 ≤ x ∧ x < g e 2) = false := decide_eq_false (by omega)
      refine j_iconst 17 dX1_hasLine_16 rfl ?_
      exact j_zret dX1_hasLine_17 rfl (Or.inl rfl) (q_i (by rw [hv]; rfl))
    · have hv : decide (0 ≤ x ∧ x < g e 2) = true := decide_eq_true (by omega)
      refine j_iconst 13 dX1_hasLine_12 rfl ?_
      refine j_goto 17 dX1_hasLine_13 rfl ?_
      exact j_zret dX1_hasLine_17 rfl (Or.inr rfl) (q_i (by rw [hv]; rfl))

set_option maxRecDepth 20000 in
theorem c_lineWith {w : Wd} {sh : Shp} {g : Mem} {e : Nat} (hE : ExS sh.1 e) (hb : g e 2 ≤ 12) {x : Int} (hx : R32 x) : CT w mX1_lineWith [.ref (e), .int (i32 (x))] sh g (dQ (some (.int (i32 (x_lineWith g e x)))) sh g) := by
  refine j_entry (by decide) rfl (Nat.le_of_ble_eq_true rfl) (fun h => by cases h) rfl ?_
  show J w mX1_lineWith 0 [(0, .ref (e)), (1, .int (i32 (x)))] [] sh g 0 0 _
  refine j_iconst 1 dX1_lineWith_0 rfl ?_
  refine j_istore_n 2 (L2 := [(2, .int (i32 (0))), (0, .ref (e)), (1, .int (i32 (x)))]) dX1_lineWith_1 rfl rfl (Nat.le_of_ble_eq_true rfl) rfl ?_
  suffices lp_2 : ∀ (n_2 : Nat) (k : Nat), 12 - k < n_2 → k ≤ 12 → (∀ j, j < k → (fun (i : Nat) => decide ((i : Int) < g e 2) && decide (g (e + 1) i = x)) j = false) → J w mX1_lineWith 2 [(2, .int (i32 ((k : Int)))), (0, .ref (e)), (1, .int (i32 (x)))] [] sh g 0 0 (dQ (some (.int (i32 (x_lineWith g e x)))) sh g) by
    exact lp_2 _ 0 (Nat.lt_succ_self _) (by omega) (fun j hj => absurd hj (Nat.not_lt_zero j))
  intro n_2
  induction n_2 with
  | zero => intro k h_; exact absurd h_ (Nat.not_lt_zero _)
  | succ n_2 ih_2 =>
    intro k hn_2 hk hp
    refine j_iload_n 3 0 dX1_lineWith_2 rfl rfl ?_
    refine j_aload_n 4 1 dX1_lineWith_3 rfl rfl ?_
    refine j_geti 7 dX1_lineWith_4 rfl fl_X1_62 hE.ex rfl rfl (fun r_4 => ?_)
    refine j_icmp_ge 10 37 dX1_lineWith_7 rfl rfl (r32 (by omega) (by omega)) r_4 (fun c_7 => ?_) (fun c_7 => ?_)
    · refine j_iconst 38 dX1_lineWith_37 rfl ?_
      exact j_iret dX1_lineWith_38 rfl (q_i (fst_none (p := (fun (i : Nat) => decide ((i : Int) < g e 2) && decide (g (e + 1) i = x))) (fun j hj => by rcases Nat.lt_or_ge j k with q | q; exact hp j q; simp <;> omega)).symm)
    · refine j_iload_n 11 0 dX1_lineWith_10 rfl rfl ?_
      refine j_aload_n 12 1 dX1_lineWith_11 rfl rfl ?_
      refine j_getr 15 dX1_lineWith_12 rfl fl_X1_9 hE.ex rfl (fun _ _ => rfl) rfl ?_
      refine j_alen 16 dX1_lineWith_15 rfl hE.num (Nat.le_of_ble_eq_true rfl) rfl ?_
      refine j_top (y := 12) rfl ?_
      refine j_icmp_ge 19 37 dX1_lineWith_16 rfl rfl (r32 (by omega) (by omega)) (r32 (by decide) (by decide)) (fun c_16 => absurd c_16 (by omega)) (fun c_16 => ?_)
      refine j_aload_n 20 1 dX1_lineWith_19 rfl rfl ?_
      refine j_getr 23 dX1_lineWith_20 rfl fl_X1_9 hE.ex rfl (fun _ _ => rfl) rfl ?_
      refine j_iload_n 24 0 dX1_lineWith_23 rfl rfl ?_
      refine j_iald 25 k dX1_lineWith_24 rfl hE.num rfl rfl (show k < 12 by omega) (fun r_24 => ?_)
      refine j_iload_n 26 2 dX1_lineWith_25 rfl rfl ?_
      refine j_icmp_ne 29 31 dX1_lineWith_26 rfl rfl r_24 hx (fun c_26 => ?_) (fun c_26 => ?_)
      · have hq : (fun (i : Nat) => decide ((i : Int) < g e 2) && decide (g (e + 1) i = x)) k = false := by simp [c_26]
        refine j_iinc 34 0 (y := ((k + 1 : Nat) : Int)) (L2 := [(2, .int (i32 (((k + 1 : Nat) : Int)))), (0, .ref (e)), (1, .int (i32 (x)))]) dX1_lineWith_31 rfl rfl (by omega) (Nat.le_of_ble_eq_true rfl) rfl ?_
        refine j_goto 2 dX1_lineWith_34 rfl ?_
        exact ih_2 (k + 1) (by omega) (by omega) (lt_step hp hq)
      · refine j_iload_n 30 0 dX1_lineWith_29 rfl rfl ?_
        exact j_iret dX1_lineWith_30 rfl (q_i (fst_hit (p := (fun (i : Nat) => decide ((i : Int) < g e 2) && decide (g (e + 1) i = x))) (k := k) (by omega) hp (by simp [c_26] <;> omega)).symm)

set_option maxRecDepth 20000 in
theorem c_hasPrefix {w : Wd} {sh : Shp} {g : Mem} {e : Nat} (hE : ExS sh.1 e) (hI : ExI g e) {x : Int} (hx : R32 x) : CT w mX1_hasPrefix [.ref (e), .int (i32 (x))] sh g (dQ (some (.int (i32 (b01 (!decide (x_prefixAt g e x = -1)))))) sh g) := by
  refine j_entry (by decide) rfl (Nat.le_of_ble_eq_true rfl) (fun h => by cases h) rfl ?_
  show J w mX1_hasPrefix 0 [(0, .ref (e)), (1, .int (i32 (x)))] [] sh g 0 0 _
  refine j_aload_n 1 0 dX1_hasPrefix_0 rfl rfl ?_
  refine j_getr 4 dX1_hasPrefix_1 rfl fl_X1_26 hE.ex rfl (fun _ _ => rfl) rfl ?_
  refine j_astore_n 5 (L2 := [(2, .ref (e + 8)), (0, .ref (e)), (1, .int (i32 (x)))]) dX1_hasPrefix_4 rfl rfl (Nat.le_of_ble_eq_true rfl) rfl ?_
  refine j_aload_n 6 0 dX1_hasPrefix_5 rfl rfl ?_
  refine j_alen 7 dX1_hasPrefix_6 rfl hE.rts (Nat.le_of_ble_eq_true rfl) rfl ?_
  refine j_top (y := 8) rfl ?_
  refine j_istore_n 8 (L2 := [(3, .int (i32 (8))), (2, .ref (e + 8)), (0, .ref (e)), (1, .int (i32 (x)))]) dX1_hasPrefix_7 rfl rfl (Nat.le_of_ble_eq_true rfl) rfl ?_
  refine j_iconst 9 dX1_hasPrefix_8 rfl ?_
  refine j_istore 11 (L2 := [(4, .int (i32 (0))), (3, .int (i32 (8))), (2, .ref (e + 8)), (0, .ref (e)), (1, .int (i32 (x)))]) dX1_hasPrefix_9 rfl (Nat.le_of_ble_eq_true rfl) rfl ?_
  suffices lp_11 : ∀ (n_11 : Nat) (k : Nat), 8 - k < n_11 → k ≤ 8 → (∀ j, j < k → (fun (i : Nat) => decide ((i : Int) < g e 4) && decide (g (e + 9 + 2 * i) 1 = x)) j = false) → J w mX1_hasPrefix 11 [(4, .int (i32 ((k : Int)))), (3, .int (i32 (8))), (2, .ref (e + 8)), (0, .ref (e)), (1, .int (i32 (x)))] [] sh g 0 0 (dQ (some (.int (i32 (b01 (!decide (x_prefixAt g e x = -1)))))) sh g) by
    exact lp_11 _ 0 (Nat.lt_succ_self _) (by omega) (fun j hj => absurd hj (Nat.not_lt_zero j))
  intro n_11
  induction n_11 with
  | zero => intro k h_; exact absurd h_ (Nat.not_lt_zero _)
  | succ n_11 ih_11 =>
    intro k hn_11 hk hp
    refine j_iload 13 0 dX1_hasPrefix_11 rfl rfl ?_
    refine j_iload_n 14 1 dX1_hasPrefix_13 rfl rfl ?_
    refine j_icmp_ge 17 52 dX1_hasPrefix_14 rfl rfl (r32 (by omega) (by omega)) (r32 (by decide) (by decide)) (fun c_14 => ?_) (fun c_14 => ?_)
    · refine j_iconst 53 dX1_hasPrefix_52 rfl ?_
      exact j_zret dX1_hasPrefix_53 rfl (Or.inl rfl) (q_i (by rw [show x_prefixAt g e x = -1 from fst_none (p := (fun (i : Nat) => decide ((i : Int) < g e 4) && decide (g (e + 9 + 2 * i) 1 = x))) (fun j hj => hp j (by omega))]; rfl))
    · refine j_aload_n 18 2 dX1_hasPrefix_17 rfl rfl ?_
      refine j_iload 20 0 dX1_hasPrefix_18 rfl rfl ?_
      refine j_aald 21 k dX1_hasPrefix_20 rfl hE.rts (Nat.le_of_ble_eq_true rfl) rfl rfl rfl (show k < 8 by omega) rfl ?_
      refine j_astore 23 (L2 := [(5, .ref (e + 9 + 2 * k)), (4, .int (i32 ((k : Int)))), (3, .int (i32 (8))), (2, .ref (e + 8)), (0, .ref (e)), (1, .int (i32 (x)))]) dX1_hasPrefix_21 rfl (Nat.le_of_ble_eq_true rfl) rfl ?_
      refine j_aload 25 0 dX1_hasPrefix_23 rfl rfl ?_
      refine j_geti 28 dX1_hasPrefix_25 rfl fl_X1_138 (hE.rt k (show k < 8 by omega)) rfl rfl (fun r_25 => ?_)
      refine j_top (y := (k : Int)) (hI.2.1 k (by omega)) ?_
      refine j_aload_n 29 4 dX1_hasPrefix_28 rfl rfl ?_
      refine j_geti 32 dX1_hasPrefix_29 rfl fl_X1_68 hE.ex rfl rfl (fun r_29 => ?_)
      refine j_icmp_ge 35 46 dX1_hasPrefix_32 rfl rfl (r32 (by omega) (by omega)) r_29 (fun c_32 => ?_) (fun c_32 => ?_)
      · have hq : (fun (i : Nat) => decide ((i : Int) < g e 4) && decide (g (e + 9 + 2 * i) 1 = x)) k = false := by simp [c_32] <;> omega
        refine j_iinc 49 1 (y := ((k + 1 : Nat) : Int)) (L2 := [(4, .int (i32 (((k + 1 : Nat) : Int)))), (5, .ref (e + 9 + 2 * k)), (3, .int (i32 (8))), (2, .ref (e + 8)), (0, .ref (e)), (1, .int (i32 (x)))]) dX1_hasPrefix_46 rfl rfl (by omega) (Nat.le_of_ble_eq_true rfl) rfl ?_
        refine j_goto 11 dX1_hasPrefix_49 rfl ?_
        refine j_sub [0, 2, 3, 4, 5] rfl ?_
        exact ih_11 (k + 1) (by omega) (by omega) (lt_step hp hq)
      · refine j_aload 37 0 dX1_hasPrefix_35 rfl rfl ?_
        refine j_geti 40 dX1_hasPrefix_37 rfl fl_X1_139 (hE.rt k (show k < 8 by omega)) rfl rfl (fun r_37 => ?_)
        refine j_iload_n 41 5 dX1_hasPrefix_40 rfl rfl ?_
        refine j_icmp_ne 44 46 dX1_hasPrefix_41 rfl rfl r_37 hx (fun c_41 => ?_) (fun c_41 => ?_)
        · have hq : (fun (i : Nat) => decide ((i : Int) < g e 4) && decide (g (e + 9 + 2 * i) 1 = x)) k = false := by simp [c_41] <;> omega
          refine j_iinc 49 1 (y := ((k + 1 : Nat) : Int)) (L2 := [(4, .int (i32 (((k + 1 : Nat) : Int)))), (5, .ref (e + 9 + 2 * k)), (3, .int (i32 (8))), (2, .ref (e + 8)), (0, .ref (e)), (1, .int (i32 (x)))]) dX1_hasPrefix_46 rfl rfl (by omega) (Nat.le_of_ble_eq_true rfl) rfl ?_
          refine j_goto 11 dX1_hasPrefix_49 rfl ?_
          refine j_sub [0, 2, 3, 4, 5] rfl ?_
          exact ih_11 (k + 1) (by omega) (by omega) (lt_step hp hq)
        · refine j_iconst 45 dX1_hasPrefix_44 rfl ?_
          exact j_zret dX1_hasPrefix_45 rfl (Or.inr rfl) (q_i (by rw [show x_prefixAt g e x = (k : Int) from fst_hit (p := (fun (i : Nat) => decide ((i : Int) < g e 4) && decide (g (e + 9 + 2 * i) 1 = x))) (k := k) (by omega) hp (by simp [c_41] <;> omega)]; simp [b01] <;> omega))

set_option maxRecDepth 20000 in
theorem c_busyLines {w : Wd} {sh : Shp} {g : Mem} {e : Nat} (hE : ExS sh.1 e) (hI : ExI g e) (hb : g e 2 ≤ 12) : CT w mX1_busyLines [.ref (e)] sh g (dQ (some (.int (i32 ((x_busyLines g e : Int))))) sh g) := by
  refine j_entry (by decide) rfl (Nat.le_of_ble_eq_true rfl) (fun h => by cases h) rfl ?_
  show J w mX1_busyLines 0 [(0, .ref (e))] [] sh g 0 0 _
  refine j_iconst 1 dX1_busyLines_0 rfl ?_
  refine j_istore_n 2 (L2 := [(1, .int (i32 (0))), (0, .ref (e))]) dX1_busyLines_1 rfl rfl (Nat.le_of_ble_eq_true rfl) rfl ?_
  refine j_iconst 3 dX1_busyLines_2 rfl ?_
  refine j_istore_n 4 (L2 := [(2, .int (i32 (0))), (1, .int (i32 (0))), (0, .ref (e))]) dX1_busyLines_3 rfl rfl (Nat.le_of_ble_eq_true rfl) rfl ?_
  suffices lp_4 : ∀ (n_4 : Nat) (k : Nat) (c : Int), 12 - k < n_4 → k ≤ 12 → c = ((cnt (fun (i : Nat) => decide ((i : Int) < g e 2) && x_isBusy g e (i : Int)) k : Nat) : Int) → J w mX1_busyLines 4 [(2, .int (i32 ((k : Int)))), (1, .int (i32 (c))), (0, .ref (e))] [] sh g 0 0 (dQ (some (.int (i32 ((x_busyLines g e : Int))))) sh g) by
    exact lp_4 _ 0 0 (Nat.lt_succ_self _) (by omega) rfl
  intro n_4
  induction n_4 with
  | zero => intro k c h_; exact absurd h_ (Nat.not_lt_zero _)
  | succ n_4 ih_4 =>
    intro k c hn_4 hk hc
    refine j_iload_n 5 0 dX1_busyLines_4 rfl rfl ?_
    refine j_aload_n 6 2 dX1_busyLines_5 rfl rfl ?_
    refine j_geti 9 dX1_busyLines_6 rfl fl_X1_62 hE.ex rfl rfl (fun r_6 => ?_)
    refine j_icmp_ge 12 29 dX1_busyLines_9 rfl rfl (r32 (by omega) (by omega)) r_6 (fun c_9 => ?_) (fun c_9 => ?_)
    · refine j_iload_n 30 1 dX1_busyLines_29 rfl rfl ?_
      exact j_iret dX1_busyLines_30 rfl (q_i (hc.trans (cnt_cut (by omega) (fun j h1 h2 => by simp <;> omega))))
    · refine j_aload_n 13 2 dX1_busyLines_12 rfl rfl ?_
      refine j_iload_n 14 0 dX1_busyLines_13 rfl rfl ?_
      refine j_callV 17 (As := [.int (i32 ((k : Int)))]) (kc2 := 0) (ks2 := 0) dX1_busyLines_14 rfl mvX1_isBusy lk_X1_181 hE.ex rfl ⟨Nat.le_of_ble_eq_true rfl, rfl⟩ rfl rfl (Nat.le_of_ble_eq_true rfl) ⟨Nat.le_of_ble_eq_true rfl, Nat.le_of_ble_eq_true rfl⟩ ⟨Nat.le_of_ble_eq_true rfl, Nat.le_of_ble_eq_true rfl⟩ (c_isBusy hE hI (x := (k : Int)) (r32 (by omega) (by omega))) x_d (k_d1 ?_)
      refine j_if_eq 20 23 dX1_busyLines_17 rfl rfl (r01 (b01_r _)) (fun c_17 => ?_) (fun c_17 => ?_)
      · have hq : (fun (i : Nat) => decide ((i : Int) < g e 2) && x_isBusy g e (i : Int)) k = false := by simp [b01_0 c_17]
        refine j_iinc 26 0 (y := ((k + 1 : Nat) : Int)) (L2 := [(2, .int (i32 (((k + 1 : Nat) : Int)))), (1, .int (i32 (c))), (0, .ref (e))]) dX1_busyLines_23 rfl rfl (by omega) (Nat.le_of_ble_eq_true rfl) rfl ?_
        refine j_goto 4 dX1_busyLines_26 rfl ?_
        exact ih_4 (k + 1) _ (by omega) (by omega) (by first | (rw [cnt_n hq]; omega) | (rw [cnt_y hq]; omega))
      · have hq : (fun (i : Nat) => decide ((i : Int) < g e 2) && x_isBusy g e (i : Int)) k = true := by simp [b01_1 c_17] <;> omega
        refine j_iinc 23 1 (y := c + 1) (L2 := [(1, .int (i32 (c + 1))), (2, .int (i32 ((k : Int)))), (0, .ref (e))]) dX1_busyLines_20 rfl rfl (by omega) (Nat.le_of_ble_eq_true rfl) rfl ?_
        refine j_iinc 26 1 (y := ((k + 1 : Nat) : Int)) (L2 := [(2, .int (i32 (((k + 1 : Nat) : Int)))), (1, .int (i32 (c + 1))), (0, .ref (e))]) dX1_busyLines_23 rfl rfl (by omega) (Nat.le_of_ble_eq_true rfl) rfl ?_
        refine j_goto 4 dX1_busyLines_26 rfl ?_
        exact ih_4 (k + 1) _ (by omega) (by omega) (by first | (rw [cnt_n hq]; omega) | (rw [cnt_y hq]; omega))

set_option maxRecDepth 20000 in
theorem c_allOverflows {w : Wd} {sh : Shp} {g : Mem} {e : Nat} (hE : ExS sh.1 e) (hI : ExI g e) : CT w mX1_allOverflows [.ref (e)] sh g (dQ (some (.int (i32 (x_allOv g e)))) sh g) := by
  refine j_entry (by decide) rfl (Nat.le_of_ble_eq_true rfl) (fun h => by cases h) rfl ?_
  show J w mX1_allOverflows 0 [(0, .ref (e))] [] sh g 0 0 _
  refine j_iconst 1 dX1_allOverflows_0 rfl ?_
  refine j_istore_n 2 (L2 := [(1, .int (i32 (0))), (0, .ref (e))]) dX1_allOverflows_1 rfl rfl (Nat.le_of_ble_eq_true rfl) rfl ?_
  refine j_aload_n 3 1 dX1_allOverflows_2 rfl rfl ?_
  refine j_getr 6 dX1_allOverflows_3 rfl fl_X1_17 hE.ex rfl (fun _ _ => rfl) rfl ?_
  refine j_astore_n 7 (L2 := [(2, .ref (e + 2)), (1, .int (i32 (0))), (0, .ref (e))]) dX1_allOverflows_6 rfl rfl (Nat.le_of_ble_eq_true rfl) rfl ?_
  refine j_aload_n 8 0 dX1_allOverflows_7 rfl rfl ?_
  refine j_alen 9 dX1_allOverflows_8 rfl hE.grs (Nat.le_of_ble_eq_true rfl) rfl ?_
  refine j_top (y := 5) rfl ?_
  refine j_istore_n 10 (L2 := [(3, .int (i32 (5))), (2, .ref (e + 2)), (1, .int (i32 (0))), (0, .ref (e))]) dX1_allOverflows_9 rfl rfl (Nat.le_of_ble_eq_true rfl) rfl ?_
  refine j_iconst 11 dX1_allOverflows_10 rfl ?_
  refine j_istore 13 (L2 := [(4, .int (i32 (0))), (3, .int (i32 (5))), (2, .ref (e + 2)), (1, .int (i32 (0))), (0, .ref (e))]) dX1_allOverflows_11 rfl (Nat.le_of_ble_eq_true rfl) rfl ?_
  suffices lp_13 : ∀ (n_13 : Nat) (k : Nat) (c : Int), 5 - k < n_13 → k ≤ 5 → c = sm (fun (i : Nat) => if (i : Int) < g e 3 then g (e + 3 + i) 4 else 0) k → J w mX1_allOverflows 13 [(4, .int (i32 ((k : Int)))), (3, .int (i32 (5))), (2, .ref (e + 2)), (1, .int (i32 (c))), (0, .ref (e))] [] sh g 0 0 (dQ (some (.int (i32 (x_allOv g e)))) sh g) by
    exact lp_13 _ 0 0 (Nat.lt_succ_self _) (by omega) rfl
  intro n_13
  induction n_13 with
  | zero => intro k c h_; exact absurd h_ (Nat.not_lt_zero _)
  | succ n_13 ih_13 =>
    intro k c hn_13 hk hc
    refine j_iload 15 0 dX1_allOverflows_13 rfl rfl ?_
    refine j_iload_n 16 1 dX1_allOverflows_15 rfl rfl ?_
    refine j_icmp_ge 19 51 dX1_allOverflows_16 rfl rfl (r32 (by omega) (by omega)) (r32 (by decide) (by decide)) (fun c_16 => ?_) (fun c_16 => ?_)
    · refine j_iload_n 52 3 dX1_allOverflows_51 rfl rfl ?_
      exact j_iret dX1_allOverflows_52 rfl (q_i (hc.trans (by rw [show k = 5 by omega]; rfl)))
    · refine j_aload_n 20 2 dX1_allOverflows_19 rfl rfl ?_
      refine j_iload 22 0 dX1_allOverflows_20 rfl rfl ?_
      refine j_aald 23 k dX1_allOverflows_22 rfl hE.grs (Nat.le_of_ble_eq_true rfl) rfl rfl rfl (show k < 5 by omega) rfl ?_
      refine j_astore 25 (L2 := [(5, .ref (e + 3 + k)), (4, .int (i32 ((k : Int)))), (3, .int (i32 (5))), (2, .ref (e + 2)), (1, .int (i32 (c))), (0, .ref (e))]) dX1_allOverflows_23 rfl (Nat.le_of_ble_eq_true rfl) rfl ?_
      refine j_aload 27 0 dX1_allOverflows_25 rfl rfl ?_
      refine j_geti 30 dX1_allOverflows_27 rfl fl_X1_133 (hE.gr k (show k < 5 by omega)) rfl rfl (fun r_27 => ?_)
      refine j_top (y := (k : Int)) (hI.1 k (by omega)) ?_
      refine j_aload_n 31 5 dX1_allOverflows_30 rfl rfl ?_
      refine j_geti 34 dX1_allOverflows_31 rfl fl_X1_65 hE.ex rfl rfl (fun r_31 => ?_)
      refine j_icmp_ge 37 45 dX1_allOverflows_34 rfl rfl (r32 (by omega) (by omega)) r_31 (fun c_34 => ?_) (fun c_34 => ?_)
      · have hq : c = sm (fun (i : Nat) => if (i : Int) < g e 3 then g (e + 3 + i) 4 else 0) (k + 1) := by show c = sm (fun (i : Nat) => if (i : Int) < g e 3 then g (e + 3 + i) 4 else 0) k + (if (k : Int) < g e 3 then _ else _); rw [if_neg (by omega), ← hc]; omega
        refine j_iinc 48 1 (y := ((k + 1 : Nat) : Int)) (L2 := [(4, .int (i32 (((k + 1 : Nat) : Int)))), (5, .ref (e + 3 + k)), (3, .int (i32 (5))), (2, .ref (e + 2)), (1, .int (i32 (c))), (0, .ref (e))]) dX1_allOverflows_45 rfl rfl (by omega) (Nat.le_of_ble_eq_true rfl) rfl ?_
        refine j_goto 13 dX1_allOverflows_48 rfl ?_
        refine j_sub [0, 2, 3, 4, 5] rfl ?_
        exact ih_13 (k + 1) _ (by omega) (by omega) hq
      · have hq : c + g (e + 3 + k) 4 = sm (fun (i : Nat) => if (i : Int) < g e 3 then g (e + 3 + i) 4 else 0) (k + 1) := by show _ = sm (fun (i : Nat) => if (i : Int) < g e 3 then g (e + 3 + i) 4 else 0) k + (if (k : Int) < g e 3 then _ else _); rw [if_pos (by omega), ← hc]
        refine j_iload_n 38 4 dX1_allOverflows_37 rfl rfl ?_
        refine j_aload 40 0 dX1_allOverflows_38 rfl rfl ?_
        refine j_geti 43 dX1_allOverflows_40 rfl fl_X1_190 (hE.gr k (show k < 5 by omega)) rfl rfl (fun r_40 => ?_)
        refine j_iadd 44 dX1_allOverflows_43 rfl ?_
        refine j_istore_n 45 (L2 := [(1, .int (i32 ((c) + (g (e + 3 + k) 4)))), (5, .ref (e + 3 + k)), (4, .int (i32 ((k : Int)))), (3, .int (i32 (5))), (2, .ref (e + 2)), (0, .ref (e))]) dX1_allOverflows_44 rfl rfl (Nat.le_of_ble_eq_true rfl) rfl ?_
        refine j_iinc 48 2 (y := ((k + 1 : Nat) : Int)) (L2 := [(4, .int (i32 (((k + 1 : Nat) : Int)))), (1, .int (i32 ((c) + (g (e + 3 + k) 4)))), (5, .ref (e + 3 + k)), (3, .int (i32 (5))), (2, .ref (e + 2)), (0, .ref (e))]) dX1_allOverflows_45 rfl rfl (by omega) (Nat.le_of_ble_eq_true rfl) rfl ?_
        refine j_goto 13 dX1_allOverflows_48 rfl ?_
        refine j_sub [0, 3, 4, 1, 5] rfl ?_
        exact ih_13 (k + 1) _ (by omega) (by omega) hq

set_option maxRecDepth 20000 in
theorem c_firstWaiting {w : Wd} {sh : Shp} {g : Mem} {e : Nat} (hE : ExS sh.1 e) {x : Int} (hx : R32 x) : CT w mX1_firstWaiting [.ref (e), .int (i32 (x))] sh g (dQ (some (va_rf ((x_firstWaiting g e x).map fun i => e + 35 + i))) sh g) := by
  refine j_entry (by decide) rfl (Nat.le_of_ble_eq_true rfl) (fun h => by cases h) rfl ?_
  show J w mX1_firstWaiting 0 [(0, .ref (e)), (1, .int (i32 (x)))] [] sh g 0 0 _
  refine j_null 1 dX1_firstWaiting_0 rfl ?_
  refine j_astore_nN 2 (L2 := [(2, .null), (0, .ref (e)), (1, .int (i32 (x)))]) dX1_firstWaiting_1 rfl rfl (Nat.le_of_ble_eq_true rfl) rfl ?_
  refine j_aload_n 3 1 dX1_firstWaiting_2 rfl rfl ?_
  refine j_getr 6 dX1_firstWaiting_3 rfl fl_X1_47 hE.ex rfl (fun _ _ => rfl) rfl ?_
  refine j_astore_n 7 (L2 := [(3, .ref (e + 34)), (2, .null), (0, .ref (e)), (1, .int (i32 (x)))]) dX1_firstWaiting_6 rfl rfl (Nat.le_of_ble_eq_true rfl) rfl ?_
  refine j_aload_n 8 0 dX1_firstWaiting_7 rfl rfl ?_
  refine j_alen 9 dX1_firstWaiting_8 rfl hE.cls (Nat.le_of_ble_eq_true rfl) rfl ?_
  refine j_top (y := 40) rfl ?_
  refine j_istore 11 (L2 := [(4, .int (i32 (40))), (3, .ref (e + 34)), (2, .null), (0, .ref (e)), (1, .int (i32 (x)))]) dX1_firstWaiting_9 rfl (Nat.le_of_ble_eq_true rfl) rfl ?_
  refine j_iconst 12 dX1_firstWaiting_11 rfl ?_
  refine j_istore 14 (L2 := [(5, .int (i32 (0))), (4, .int (i32 (40))), (3, .ref (e + 34)), (2, .null), (0, .ref (e)), (1, .int (i32 (x)))]) dX1_firstWaiting_12 rfl (Nat.le_of_ble_eq_true rfl) rfl ?_
  suffices lp_14 : ∀ (n_14 : Nat) (k : Nat) (o : Option Nat), 40 - k < n_14 → k ≤ 40 → o = x_fwF g e x k → J w mX1_firstWaiting 14 [(5, .int (i32 ((k : Int)))), (4, .int (i32 (40))), (3, .ref (e + 34)), (2, va_rf (o.map fun i => e + 35 + i)), (0, .ref (e)), (1, .int (i32 (x)))] [] sh g 0 0 (dQ (some (va_rf ((x_firstWaiting g e x).map fun i => e + 35 + i))) sh g) by
    exact lp_14 _ 0 none (Nat.lt_succ_self _) (by omega) rfl
  intro n_14
  induction n_14 with
  | zero => intro k o h_; exact absurd h_ (Nat.not_lt_zero _)
  | succ n_14 ih_14 =>
    intro k o hn_14 hk ho
    cases o with
    | none =>
      refine j_iload 16 0 dX1_firstWaiting_14 rfl rfl ?_
      refine j_iload 18 1 dX1_firstWaiting_16 rfl rfl ?_
      refine j_icmp_ge 21 61 dX1_firstWaiting_18 rfl rfl (r32 (by omega) (by omega)) (r32 (by decide) (by decide)) (fun c_18 => ?_) (fun c_18 => ?_)
      · have h40 : k = 40 := by omega
        subst h40
        refine j_aload_nN 62 3 dX1_firstWaiting_61 rfl rfl ?_
        exact j_aretN dX1_firstWaiting_62 rfl (⟨by show _ = Sum.inl (some (va_rf ((x_fwF g e x 40).map fun i => e + 35 + i))); rw [← ho]; rfl, rfl, rfl⟩)
      · refine j_aload_n 22 2 dX1_firstWaiting_21 rfl rfl ?_
        refine j_iload 24 0 dX1_firstWaiting_22 rfl rfl ?_
        refine j_aald 25 k dX1_firstWaiting_24 rfl hE.cls (Nat.le_of_ble_eq_true rfl) rfl rfl rfl (show k < 40 by omega) rfl ?_
        refine j_astore 27 (L2 := [(6, .ref (e + 35 + k)), (5, .int (i32 ((k : Int)))), (4, .int (i32 (40))), (3, .ref (e + 34)), (2, .null), (0, .ref (e)), (1, .int (i32 (x)))]) dX1_firstWaiting_25 rfl (Nat.le_of_ble_eq_true rfl) rfl ?_
        refine j_aload 29 0 dX1_firstWaiting_27 rfl rfl ?_
        refine j_geti 32 dX1_firstWaiting_29 rfl fl_X1_102 (hE.cl k (show k < 40 by omega)) rfl rfl (fun r_29 => ?_)
        refine j_iload_n 33 6 dX1_firstWaiting_32 rfl rfl ?_
        refine j_icmp_ne 36 55 dX1_firstWaiting_33 rfl rfl r_29 hx (fun c_33 => ?_) (fun c_33 => ?_)
        · have hq : _ = x_fwF g e x (k + 1) := ho.trans (by rw [x_fwF_s, if_neg c_33])
          refine j_iinc 58 1 (y := ((k + 1 : Nat) : Int)) (L2 := [(5, .int (i32 (((k + 1 : Nat) : Int)))), (6, .ref (e + 35 + k)), (4, .int (i32 (40))), (3, .ref (e + 34)), (2, .null), (0, .ref (e)), (1, .int (i32 (x)))]) dX1_firstWaiting_55 rfl rfl (by omega) (Nat.le_of_ble_eq_true rfl) rfl ?_
          refine j_goto 14 dX1_firstWaiting_58 rfl ?_
          refine j_sub [0, 2, 3, 4, 5, 6] rfl ?_
          exact ih_14 (k + 1) none (by omega) (by omega) hq
        · refine j_aload_nN 37 4 dX1_firstWaiting_36 rfl rfl ?_
          refine j_ifnullN 52 dX1_firstWaiting_37 rfl ?_
          have hq : some k = x_fwF g e x (k + 1) := by rw [x_fwF_s, if_pos c_33, ← ho] <;> first | rfl | exact (if_pos (by omega)).symm
          refine j_aload 54 0 dX1_firstWaiting_52 rfl rfl ?_
          refine j_astore_n 55 (L2 := [(2, .ref (e + 35 + k)), (6, .ref (e + 35 + k)), (5, .int (i32 ((k : Int)))), (4, .int (i32 (40))), (3, .ref (e + 34)), (0, .ref (e)), (1, .int (i32 (x)))]) dX1_firstWaiting_54 rfl rfl (Nat.le_of_ble_eq_true rfl) rfl ?_
          refine j_iinc 58 2 (y := ((k + 1 : Nat) : Int)) (L2 := [(5, .int (i32 (((k + 1 : Nat) : Int)))), (2, .ref (e + 35 + k)), (6, .ref (e + 35 + k)), (4, .int (i32 (40))), (3, .ref (e + 34)), (0, .ref (e)), (1, .int (i32 (x)))]) dX1_firstWaiting_55 rfl rfl (by omega) (Nat.le_of_ble_eq_true rfl) rfl ?_
          refine j_goto 14 dX1_firstWaiting_58 rfl ?_
          refine j_sub [0, 3, 4, 1, 5, 6] rfl ?_
          exact ih_14 (k + 1) (some k) (by omega) (by omega) hq
    | some r =>
      refine j_iload 16 0 dX1_firstWaiting_14 rfl rfl ?_
      refine j_iload 18 1 dX1_firstWaiting_16 rfl rfl ?_
      refine j_icmp_ge 21 61 dX1_firstWaiting_18 rfl rfl (r32 (by omega) (by omega)) (r32 (by decide) (by decide)) (fun c_18 => ?_) (fun c_18 => ?_)
      · have h40 : k = 40 := by omega
        subst h40
        refine j_aload_n 62 3 dX1_firstWaiting_61 rfl rfl ?_
        exact j_aret dX1_firstWaiting_62 rfl (⟨by show _ = Sum.inl (some (va_rf ((x_fwF g e x 40).map fun i => e + 35 + i))); rw [← ho]; rfl, rfl, rfl⟩)
      · refine j_aload_n 22 2 dX1_firstWaiting_21 rfl rfl ?_
        refine j_iload 24 0 dX1_firstWaiting_22 rfl rfl ?_
        refine j_aald 25 k dX1_firstWaiting_24 rfl hE.cls (Nat.le_of_ble_eq_true rfl) rfl rfl rfl (show k < 40 by omega) rfl ?_
        refine j_astore 27 (L2 := [(6, .ref (e + 35 + k)), (5, .int (i32 ((k : Int)))), (4, .int (i32 (40))), (3, .ref (e + 34)), (2, .ref (e + 35 + r)), (0, .ref (e)), (1, .int (i32 (x)))]) dX1_firstWaiting_25 rfl (Nat.le_of_ble_eq_true rfl) rfl ?_
        refine j_aload 29 0 dX1_firstWaiting_27 rfl rfl ?_
        refine j_geti 32 dX1_firstWaiting_29 rfl fl_X1_102 (hE.cl k (show k < 40 by omega)) rfl rfl (fun r_29 => ?_)
        refine j_iload_n 33 6 dX1_firstWaiting_32 rfl rfl ?_
        refine j_icmp_ne 36 55 dX1_firstWaiting_33 rfl rfl r_29 hx (fun c_33 => ?_) (fun c_33 => ?_)
        · have hq : _ = x_fwF g e x (k + 1) := ho.trans (by rw [x_fwF_s, if_neg c_33])
          refine j_iinc 58 1 (y := ((k + 1 : Nat) : Int)) (L2 := [(5, .int (i32 (((k + 1 : Nat) : Int)))), (6, .ref (e + 35 + k)), (4, .int (i32 (40))), (3, .ref (e + 34)), (2, .ref (e + 35 + r)), (0, .ref (e)), (1, .int (i32 (x)))]) dX1_firstWaiting_55 rfl rfl (by omega) (Nat.le_of_ble_eq_true rfl) rfl ?_
          refine j_goto 14 dX1_firstWaiting_58 rfl ?_
          refine j_sub [0, 2, 3, 4, 5, 6] rfl ?_
          exact ih_14 (k + 1) (some r) (by omega) (by omega) hq
        · refine j_aload_n 37 4 dX1_firstWaiting_36 rfl rfl ?_
          refine j_ifnull 40 dX1_firstWaiting_37 rfl ?_
          refine j_aload 42 0 dX1_firstWaiting_40 rfl rfl ?_
          refine j_geti 45 dX1_firstWaiting_42 rfl fl_X1_197 (hE.cl k (show k < 40 by omega)) rfl rfl (fun r_42 => ?_)
          refine j_aload_n 46 4 dX1_firstWaiting_45 rfl rfl ?_
          refine j_geti 49 dX1_firstWaiting_46 rfl fl_X1_197 (hE.cl r (show r < 40 by have := x_fwF_lt ho.symm; omega)) rfl rfl (fun r_46 => ?_)
          refine j_icmp_ge 52 55 dX1_firstWaiting_49 rfl rfl r_42 r_46 (fun c_49 => ?_) (fun c_49 => ?_)
          · have hq : some r = x_fwF g e x (k + 1) := by rw [x_fwF_s, if_pos c_33, ← ho]; exact (if_neg (by omega)).symm
            refine j_iinc 58 1 (y := ((k + 1 : Nat) : Int)) (L2 := [(5, .int (i32 (((k + 1 : Nat) : Int)))), (6, .ref (e + 35 + k)), (4, .int (i32 (40))), (3, .ref (e + 34)), (2, .ref (e + 35 + r)), (0, .ref (e)), (1, .int (i32 (x)))]) dX1_firstWaiting_55 rfl rfl (by omega) (Nat.le_of_ble_eq_true rfl) rfl ?_
            refine j_goto 14 dX1_firstWaiting_58 rfl ?_
            refine j_sub [0, 2, 3, 4, 5, 6] rfl ?_
            exact ih_14 (k + 1) (some r) (by omega) (by omega) hq
          · have hq : some k = x_fwF g e x (k + 1) := by rw [x_fwF_s, if_pos c_33, ← ho] <;> first | rfl | exact (if_pos (by omega)).symm
            refine j_aload 54 0 dX1_firstWaiting_52 rfl rfl ?_
            refine j_astore_n 55 (L2 := [(2, .ref (e + 35 + k)), (6, .ref (e + 35 + k)), (5, .int (i32 ((k : Int)))), (4, .int (i32 (40))), (3, .ref (e + 34)), (0, .ref (e)), (1, .int (i32 (x)))]) dX1_firstWaiting_54 rfl rfl (Nat.le_of_ble_eq_true rfl) rfl ?_
            refine j_iinc 58 2 (y := ((k + 1 : Nat) : Int)) (L2 := [(5, .int (i32 (((k + 1 : Nat) : Int)))), (2, .ref (e + 35 + k)), (6, .ref (e + 35 + k)), (4, .int (i32 (40))), (3, .ref (e + 34)), (0, .ref (e)), (1, .int (i32 (x)))]) dX1_firstWaiting_55 rfl rfl (by omega) (Nat.le_of_ble_eq_true rfl) rfl ?_
            refine j_goto 14 dX1_firstWaiting_58 rfl ?_
            refine j_sub [0, 3, 4, 1, 5, 6] rfl ?_
            exact ih_14 (k + 1) (some k) (by omega) (by omega) hq
