/-! service and traffic of the class -/
def s_srv (d : Nat → Int) : UInt32 := if s_cnt d 6 + s_cnt d 7 + s_cnt d 8 + s_cnt d 9 + s_cnt d 10 = 0 then FP.fconst1 else FP.fdiv (FP.i2f (i32 (s_cnt d 6 : Int))) (FP.i2f (i32 (s_cnt d 6 + s_cnt d 7 + s_cnt d 8 + s_cnt d 9 + s_cnt d 10 : Int)))
def s_trf (d : Nat → Int) (i : Nat) : UInt32 := if d 6 = 0 then FP.fconst0 else FP.fdiv (FP.i2f (i32 (d (56 + 9 * i)))) (FP.i2f (i32 (d (50 + 9 * i) * d 6)))
theorem q_f {sh : Shp} {g : Mem} {z z0 : UInt32} (h : z = z0) : dQ (some (.float z0)) sh g (.inl (some (.float z))) sh g := by rw [h]; exact ⟨rfl, rfl, rfl⟩

set_option maxRecDepth 20000 in
theorem c_service {w : Wd} {sh : Shp} {g : Mem} {B : Nat} {d : Nat → Int} (hB : CxS sh.1 B) (hK : KX g (B + 2) d)  : CT w mX9_service [.ref (B)] sh g (dQ (some (.float (s_srv d))) sh g) := by
  have h6 : s_cnt d 6 ≤ 40 := cnt_le _ 40
  have h7 : s_cnt d 7 ≤ 40 := cnt_le _ 40
  have h8 : s_cnt d 8 ≤ 40 := cnt_le _ 40
  have h9 : s_cnt d 9 ≤ 40 := cnt_le _ 40
  have h10 : s_cnt d 10 ≤ 40 := cnt_le _ 40
  refine j_entry (by decide) rfl (Nat.le_of_ble_eq_true rfl) (fun h => by cases h) rfl ?_
  show J w mX9_service 0 [(0, .ref (B))] [] sh g 0 0 _
  refine j_aload_n 1 0 dX9_service_0 rfl rfl ?_
  refine j_getr 4 dX9_service_1 rfl fl_X9_23 hB.cx rfl (fun _ _ => rfl) rfl ?_
  refine j_bipush 6 dX9_service_4 rfl (by decide) ?_
  refine j_callV 9 (As := [.int (i32 (6))]) (kc2 := 0) (ks2 := 0) dX9_service_6 rfl mvX1_countIn lk_X9_69 hB.now.ex rfl ⟨Nat.le_of_ble_eq_true rfl, rfl⟩ rfl rfl (Nat.le_of_ble_eq_true rfl) ⟨Nat.le_of_ble_eq_true rfl, Nat.le_of_ble_eq_true rfl⟩ ⟨Nat.le_of_ble_eq_true rfl, Nat.le_of_ble_eq_true rfl⟩ (c_countIn hB.now (r32 (by decide) (by decide))) x_d (k_d1 ?_)
  refine j_top (y := (s_cnt d 6 : Int)) (by rw [rel_countIn hK.1 (by decide)]) ?_
  refine j_istore_n 10 (L2 := [(1, .int (i32 ((s_cnt d 6 : Int)))), (0, .ref (B))]) dX9_service_9 rfl rfl (Nat.le_of_ble_eq_true rfl) rfl ?_
  refine j_iload_n 11 0 dX9_service_10 rfl rfl ?_
  refine j_aload_n 12 1 dX9_service_11 rfl rfl ?_
  refine j_getr 15 dX9_service_12 rfl fl_X9_23 hB.cx rfl (fun _ _ => rfl) rfl ?_
  refine j_bipush 17 dX9_service_15 rfl (by decide) ?_
  refine j_callV 20 (As := [.int (i32 (7))]) (kc2 := 0) (ks2 := 0) dX9_service_17 rfl mvX1_countIn lk_X9_69 hB.now.ex rfl ⟨Nat.le_of_ble_eq_true rfl, rfl⟩ rfl rfl (Nat.le_of_ble_eq_true rfl) ⟨Nat.le_of_ble_eq_true rfl, Nat.le_of_ble_eq_true rfl⟩ ⟨Nat.le_of_ble_eq_true rfl, Nat.le_of_ble_eq_true rfl⟩ (c_countIn hB.now (r32 (by decide) (by decide))) x_d (k_d1 ?_)
  refine j_top (y := (s_cnt d 7 : Int)) (by rw [rel_countIn hK.1 (by decide)]) ?_
  refine j_iadd 21 dX9_service_20 rfl ?_
  refine j_aload_n 22 1 dX9_service_21 rfl rfl ?_
  refine j_getr 25 dX9_service_22 rfl fl_X9_23 hB.cx rfl (fun _ _ => rfl) rfl ?_
  refine j_bipush 27 dX9_service_25 rfl (by decide) ?_
  refine j_callV 30 (As := [.int (i32 (8))]) (kc2 := 0) (ks2 := 0) dX9_service_27 rfl mvX1_countIn lk_X9_69 hB.now.ex rfl ⟨Nat.le_of_ble_eq_true rfl, rfl⟩ rfl rfl (Nat.le_of_ble_eq_true rfl) ⟨Nat.le_of_ble_eq_true rfl, Nat.le_of_ble_eq_true rfl⟩ ⟨Nat.le_of_ble_eq_true rfl, Nat.le_of_ble_eq_true rfl⟩ (c_countIn hB.now (r32 (by decide) (by decide))) x_d (k_d1 ?_)
  refine j_top (y := (s_cnt d 8 : Int)) (by rw [rel_countIn hK.1 (by decide)]) ?_
  refine j_iadd 31 dX9_service_30 rfl ?_
  refine j_aload_n 32 1 dX9_service_31 rfl rfl ?_
  refine j_getr 35 dX9_service_32 rfl fl_X9_23 hB.cx rfl (fun _ _ => rfl) rfl ?_
  refine j_bipush 37 dX9_service_35 rfl (by decide) ?_
  refine j_callV 40 (As := [.int (i32 (9))]) (kc2 := 0) (ks2 := 0) dX9_service_37 rfl mvX1_countIn lk_X9_69 hB.now.ex rfl ⟨Nat.le_of_ble_eq_true rfl, rfl⟩ rfl rfl (Nat.le_of_ble_eq_true rfl) ⟨Nat.le_of_ble_eq_true rfl, Nat.le_of_ble_eq_true rfl⟩ ⟨Nat.le_of_ble_eq_true rfl, Nat.le_of_ble_eq_true rfl⟩ (c_countIn hB.now (r32 (by decide) (by decide))) x_d (k_d1 ?_)
  refine j_top (y := (s_cnt d 9 : Int)) (by rw [rel_countIn hK.1 (by decide)]) ?_
  refine j_iadd 41 dX9_service_40 rfl ?_
  refine j_aload_n 42 1 dX9_service_41 rfl rfl ?_
  refine j_getr 45 dX9_service_42 rfl fl_X9_23 hB.cx rfl (fun _ _ => rfl) rfl ?_
  refine j_bipush 47 dX9_service_45 rfl (by decide) ?_
  refine j_callV 50 (As := [.int (i32 (10))]) (kc2 := 0) (ks2 := 0) dX9_service_47 rfl mvX1_countIn lk_X9_69 hB.now.ex rfl ⟨Nat.le_of_ble_eq_true rfl, rfl⟩ rfl rfl (Nat.le_of_ble_eq_true rfl) ⟨Nat.le_of_ble_eq_true rfl, Nat.le_of_ble_eq_true rfl⟩ ⟨Nat.le_of_ble_eq_true rfl, Nat.le_of_ble_eq_true rfl⟩ (c_countIn hB.now (r32 (by decide) (by decide))) x_d (k_d1 ?_)
  refine j_top (y := (s_cnt d 10 : Int)) (by rw [rel_countIn hK.1 (by decide)]) ?_
  refine j_iadd 51 dX9_service_50 rfl ?_
  refine j_istore_n 52 (L2 := [(2, .int (i32 ((((((s_cnt d 6 : Int)) + ((s_cnt d 7 : Int))) + ((s_cnt d 8 : Int))) + ((s_cnt d 9 : Int))) + ((s_cnt d 10 : Int))))), (1, .int (i32 ((s_cnt d 6 : Int)))), (0, .ref (B))]) dX9_service_51 rfl rfl (Nat.le_of_ble_eq_true rfl) rfl ?_
  refine j_iload_n 53 0 dX9_service_52 rfl rfl ?_
  refine j_if_ne 56 58 dX9_service_53 rfl rfl (r32 (by omega) (by omega)) (fun c_53 => ?_) (fun c_53 => ?_)
  · refine j_iload_n 59 1 dX9_service_58 rfl rfl ?_
    refine j_i2f 60 dX9_service_59 rfl ?_
    refine j_iload_n 61 0 dX9_service_60 rfl rfl ?_
    refine j_i2f 62 dX9_service_61 rfl ?_
    refine j_fdiv 63 dX9_service_62 rfl (fd_num (by omega)) ?_
    exact j_fret dX9_service_63 rfl (q_f (by unfold s_srv; rw [if_neg (by omega)]))
  · refine j_fconst1 57 dX9_service_56 rfl ?_
    exact j_fret dX9_service_57 rfl (q_f (by unfold s_srv; rw [if_pos (by omega)]))

set_option maxRecDepth 20000 in
theorem c_traffic {w : Wd} {sh : Shp} {g : Mem} {B : Nat} {d : Nat → Int} (hB : CxS sh.1 B) (hK : KX g (B + 2) d) {i : Nat} (hi : (i : Int) < d 3) (h6 : 0 ≤ d 6 ∧ d 6 ≤ 2000000) : CT w mX9_traffic [.ref (B), .int (i32 ((i : Int)))] sh g (dQ (some (.float (s_trf d i))) sh g) := by
  have hi5 := hK.2.1.1.2.2.2.1
  have h3 : g (B + 2) 3 = d 3 := hK.1.2.1.2.2.2.1
  have G := hK.1.2.2.2.1 i hi
  have ht : g (B + 2) 6 = d 6 := hK.1.2.1.2.2.2.2.2.2.1
  have hg := hK.2.1.2.1.2.2.2.2.2 i hi
  have hp1 : 1 * d 6 ≤ d (50 + 9 * i) * d 6 := Int.mul_le_mul_of_nonneg_right (by omega) h6.1
  have hp2 : d (50 + 9 * i) * d 6 ≤ 8 * d 6 := Int.mul_le_mul_of_nonneg_right (by omega) h6.1
  refine j_entry (by decide) rfl (Nat.le_of_ble_eq_true rfl) (fun h => by cases h) rfl ?_
  show J w mX9_traffic 0 [(0, .ref (B)), (1, .int (i32 ((i : Int))))] [] sh g 1 6 _
  refine j_aload_n 1 0 dX9_traffic_0 rfl rfl ?_
  refine j_getr 4 dX9_traffic_1 rfl fl_X9_23 hB.cx rfl (fun _ _ => rfl) rfl ?_
  refine j_iload_n 5 1 dX9_traffic_4 rfl rfl ?_
  refine j_callV 8 (As := [.int (i32 ((i : Int)))]) (kc2 := 1) (ks2 := 6) dX9_traffic_5 rfl mvX1_groupAt lk_X9_132 hB.now.ex rfl ⟨Nat.le_of_ble_eq_true rfl, rfl⟩ rfl rfl (Nat.le_of_ble_eq_true rfl) ⟨Nat.le_of_ble_eq_true rfl, Nat.le_of_ble_eq_true rfl⟩ ⟨Nat.le_of_ble_eq_true rfl, Nat.le_of_ble_eq_true rfl⟩ ((by have h := c_groupAt1 (w := w) hB.now (g := g) (by omega) (x := (i : Int)) (r32 (by omega) (by omega)) (by omega); rw [Int.toNat_natCast] at h; exact h)) x_d (k_d1 ?_)
  refine j_astore_n 9 (L2 := [(2, .ref ((B + 2) + 3 + i)), (0, .ref (B)), (1, .int (i32 ((i : Int))))]) dX9_traffic_8 rfl rfl (Nat.le_of_ble_eq_true rfl) rfl ?_
  refine j_aload_n 10 0 dX9_traffic_9 rfl rfl ?_
  refine j_ifnonnull 21 dX9_traffic_10 rfl ?_
  refine j_aload_n 22 0 dX9_traffic_21 rfl rfl ?_
  refine j_geti 25 dX9_traffic_22 rfl fl_X9_136 (hB.now.gr i (show i < 5 by omega)) rfl rfl (fun r_22 => ?_)
  refine j_top (y := d (50 + 9 * i)) (G.1) ?_
  refine j_aload_n 26 1 dX9_traffic_25 rfl rfl ?_
  refine j_getr 29 dX9_traffic_26 rfl fl_X9_23 hB.cx rfl (fun _ _ => rfl) rfl ?_
  refine j_geti 32 dX9_traffic_29 rfl fl_X9_88 hB.now.ex rfl rfl (fun r_29 => ?_)
  refine j_top (y := d 6) (ht) ?_
  refine j_imul 33 dX9_traffic_32 rfl ?_
  refine j_istore_n 34 (L2 := [(3, .int (i32 ((d (50 + 9 * i)) * (d 6)))), (2, .ref ((B + 2) + 3 + i)), (0, .ref (B)), (1, .int (i32 ((i : Int))))]) dX9_traffic_33 rfl rfl (Nat.le_of_ble_eq_true rfl) rfl ?_
  refine j_iload_n 35 0 dX9_traffic_34 rfl rfl ?_
  refine j_if_ne 38 40 dX9_traffic_35 rfl rfl (r32 (by omega) (by omega)) (fun c_35 => ?_) (fun c_35 => ?_)
  · refine j_aload_n 41 1 dX9_traffic_40 rfl rfl ?_
    refine j_geti 44 dX9_traffic_41 rfl fl_X9_156 (hB.now.gr i (show i < 5 by omega)) rfl rfl (fun r_41 => ?_)
    refine j_top (y := d (56 + 9 * i)) (G.2.2.2.2.2.1) ?_
    refine j_i2f 45 dX9_traffic_44 rfl ?_
    refine j_iload_n 46 0 dX9_traffic_45 rfl rfl ?_
    refine j_i2f 47 dX9_traffic_46 rfl ?_
    refine j_fdiv 48 dX9_traffic_47 rfl (fd_num (by omega)) ?_
    exact j_fret dX9_traffic_48 rfl (q_f (by unfold s_trf; rw [if_neg (by omega)]))
  · refine j_fconst0 39 dX9_traffic_38 rfl ?_
    exact j_fret dX9_traffic_39 rfl (q_f (by unfold s_trf; rw [if_pos (by omega)]))

set_option maxRecDepth 20000 in
theorem c_trafficB {w : Wd} {sh : Shp} {g : Mem} {B : Nat} {d : Nat → Int} (hB : CxS sh.1 B) (hK : KX g (B + 2) d) {x : Int} (hx : R32 x) (h0 : ¬ (0 ≤ x ∧ x < d 3)) : CT w mX9_traffic [.ref (B), .int (i32 (x))] sh g (tQ xB sh g) := by
  have hi5 := hK.2.1.1.2.2.2.1
  have h3 : g (B + 2) 3 = d 3 := hK.1.2.1.2.2.2.1
  refine j_entry (by decide) rfl (Nat.le_of_ble_eq_true rfl) (fun h => by cases h) rfl ?_
  show J w mX9_traffic 0 [(0, .ref (B)), (1, .int (i32 (x)))] [] sh g 1 6 _
  refine j_aload_n 1 0 dX9_traffic_0 rfl rfl ?_
  refine j_getr 4 dX9_traffic_1 rfl fl_X9_23 hB.cx rfl (fun _ _ => rfl) rfl ?_
  refine j_iload_n 5 1 dX9_traffic_4 rfl rfl ?_
  refine j_callV 8 (As := [.int (i32 (x))]) (kc2 := 1) (ks2 := 6) dX9_traffic_5 rfl mvX1_groupAt lk_X9_132 hB.now.ex rfl ⟨Nat.le_of_ble_eq_true rfl, rfl⟩ rfl rfl (Nat.le_of_ble_eq_true rfl) ⟨Nat.le_of_ble_eq_true rfl, Nat.le_of_ble_eq_true rfl⟩ ⟨Nat.le_of_ble_eq_true rfl, Nat.le_of_ble_eq_true rfl⟩ (c_groupAt0 hB.now (by omega) hx (by omega)) x_d (k_d1 ?_)
  refine j_astore_nN 9 (L2 := [(2, .null), (0, .ref (B)), (1, .int (i32 (x)))]) dX9_traffic_8 rfl rfl (Nat.le_of_ble_eq_true rfl) rfl ?_
  refine j_aload_nN 10 0 dX9_traffic_9 rfl rfl ?_
  refine j_ifnonnullN 13 dX9_traffic_10 rfl ?_
  exact j_throw xB th_X9_traffic_13 ⟨Nat.le_of_ble_eq_true rfl, Nat.le_of_ble_eq_true rfl⟩ ⟨rfl, rfl, rfl⟩
