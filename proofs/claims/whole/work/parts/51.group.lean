set_option maxRecDepth 20000 in
theorem c_group0 {w : Wd} {sh : Shp} {g : Mem} {B : Nat} {d : Nat → Int} (hB : CxS sh.1 B) (hK : KX g (B + 2) d) {i : Nat} (hi : (i : Int) < d 3) : CT w mX9_group [.ref (B), .int (i32 ((i : Int))), .int (i32 (0))] sh g (dQ (some (.int (i32 (d (50 + 9 * i))))) sh g) := by
  have hi5 := hK.2.1.1.2.2.2.1
  have h3 : g (B + 2) 3 = d 3 := hK.1.2.1.2.2.2.1
  have G := hK.1.2.2.2.1 i hi
  refine j_entry (by decide) rfl (Nat.le_of_ble_eq_true rfl) (fun h => by cases h) rfl ?_
  show J w mX9_group 0 [(0, .ref (B)), (1, .int (i32 ((i : Int)))), (2, .int (i32 (0)))] [] sh g 1 6 _
  refine j_aload_n 1 0 dX9_group_0 rfl rfl ?_
  refine j_getr 4 dX9_group_1 rfl fl_X9_23 hB.cx rfl (fun _ _ => rfl) rfl ?_
  refine j_iload_n 5 1 dX9_group_4 rfl rfl ?_
  refine j_callV 8 (As := [.int (i32 ((i : Int)))]) (kc2 := 1) (ks2 := 6) dX9_group_5 rfl mvX1_groupAt lk_X9_132 hB.now.ex rfl ⟨Nat.le_of_ble_eq_true rfl, rfl⟩ rfl rfl (Nat.le_of_ble_eq_true rfl) ⟨Nat.le_of_ble_eq_true rfl, Nat.le_of_ble_eq_true rfl⟩ ⟨Nat.le_of_ble_eq_true rfl, Nat.le_of_ble_eq_true rfl⟩ ((by have h := c_groupAt1 (w := w) hB.now (g := g) (by omega) (x := (i : Int)) (r32 (by omega) (by omega)) (by omega); rw [Int.toNat_natCast] at h; exact h)) x_d (k_d1 ?_)
  refine j_astore_n 9 (L2 := [(3, .ref ((B + 2) + 3 + i)), (0, .ref (B)), (1, .int (i32 ((i : Int)))), (2, .int (i32 (0)))]) dX9_group_8 rfl rfl (Nat.le_of_ble_eq_true rfl) rfl ?_
  refine j_aload_n 10 0 dX9_group_9 rfl rfl ?_
  refine j_ifnonnull 21 dX9_group_10 rfl ?_
  refine j_iload_n 22 3 dX9_group_21 rfl rfl ?_
  refine j_if_lt 25 31 dX9_group_22 rfl rfl (r32 (by decide) (by decide)) (fun c_22 => absurd c_22 (by decide)) (fun c_22 => ?_)
  refine j_iload_n 26 3 dX9_group_25 rfl rfl ?_
  refine j_bipush 28 dX9_group_26 rfl (by decide) ?_
  refine j_icmp_le 31 39 dX9_group_28 rfl rfl (r32 (by decide) (by decide)) (r32 (by decide) (by decide)) (fun c_28 => ?_) (fun c_28 => absurd c_28 (by decide))
  refine j_iload_n 40 3 dX9_group_39 rfl rfl ?_
  refine j_tabIn 80 dX9_group_40 (r32 (by decide) (by decide)) (by decide) (by decide) rfl rfl ?_
  refine j_aload_n 81 0 dX9_group_80 rfl rfl ?_
  refine j_geti 84 dX9_group_81 rfl fl_X9_136 (hB.now.gr i (show i < 5 by omega)) rfl rfl (fun r_81 => ?_)
  exact j_iret dX9_group_84 rfl (q_i G.1)

set_option maxRecDepth 20000 in
theorem c_group1 {w : Wd} {sh : Shp} {g : Mem} {B : Nat} {d : Nat → Int} (hB : CxS sh.1 B) (hK : KX g (B + 2) d) {i : Nat} (hi : (i : Int) < d 3) : CT w mX9_group [.ref (B), .int (i32 ((i : Int))), .int (i32 (1))] sh g (dQ (some (.int (i32 (d (51 + 9 * i))))) sh g) := by
  have hi5 := hK.2.1.1.2.2.2.1
  have h3 : g (B + 2) 3 = d 3 := hK.1.2.1.2.2.2.1
  have G := hK.1.2.2.2.1 i hi
  refine j_entry (by decide) rfl (Nat.le_of_ble_eq_true rfl) (fun h => by cases h) rfl ?_
  show J w mX9_group 0 [(0, .ref (B)), (1, .int (i32 ((i : Int)))), (2, .int (i32 (1)))] [] sh g 1 6 _
  refine j_aload_n 1 0 dX9_group_0 rfl rfl ?_
  refine j_getr 4 dX9_group_1 rfl fl_X9_23 hB.cx rfl (fun _ _ => rfl) rfl ?_
  refine j_iload_n 5 1 dX9_group_4 rfl rfl ?_
  refine j_callV 8 (As := [.int (i32 ((i : Int)))]) (kc2 := 1) (ks2 := 6) dX9_group_5 rfl mvX1_groupAt lk_X9_132 hB.now.ex rfl ⟨Nat.le_of_ble_eq_true rfl, rfl⟩ rfl rfl (Nat.le_of_ble_eq_true rfl) ⟨Nat.le_of_ble_eq_true rfl, Nat.le_of_ble_eq_true rfl⟩ ⟨Nat.le_of_ble_eq_true rfl, Nat.le_of_ble_eq_true rfl⟩ ((by have h := c_groupAt1 (w := w) hB.now (g := g) (by omega) (x := (i : Int)) (r32 (by omega) (by omega)) (by omega); rw [Int.toNat_natCast] at h; exact h)) x_d (k_d1 ?_)
  refine j_astore_n 9 (L2 := [(3, .ref ((B + 2) + 3 + i)), (0, .ref (B)), (1, .int (i32 ((i : Int)))), (2, .int (i32 (1)))]) dX9_group_8 rfl rfl (Nat.le_of_ble_eq_true rfl) rfl ?_
  refine j_aload_n 10 0 dX9_group_9 rfl rfl ?_
  refine j_ifnonnull 21 dX9_group_10 rfl ?_
  refine j_iload_n 22 3 dX9_group_21 rfl rfl ?_
  refine j_if_lt 25 31 dX9_group_22 rfl rfl (r32 (by decide) (by decide)) (fun c_22 => absurd c_22 (by decide)) (fun c_22 => ?_)
  refine j_iload_n 26 3 dX9_group_25 rfl rfl ?_
  refine j_bipush 28 dX9_group_26 rfl (by decide) ?_
  refine j_icmp_le 31 39 dX9_group_28 rfl rfl (r32 (by decide) (by decide)) (r32 (by decide) (by decide)) (fun c_28 => ?_) (fun c_28 => absurd c_28 (by decide))
  refine j_iload_n 40 3 dX9_group_39 rfl rfl ?_
  refine j_tabIn 85 dX9_group_40 (r32 (by decide) (by decide)) (by decide) (by decide) rfl rfl ?_
  refine j_aload_n 86 0 dX9_group_85 rfl rfl ?_
  refine j_geti 89 dX9_group_86 rfl fl_X9_141 (hB.now.gr i (show i < 5 by omega)) rfl rfl (fun r_86 => ?_)
  exact j_iret dX9_group_89 rfl (q_i G.2.1)

set_option maxRecDepth 20000 in
theorem c_group2 {w : Wd} {sh : Shp} {g : Mem} {B : Nat} {d : Nat → Int} (hB : CxS sh.1 B) (hK : KX g (B + 2) d) {i : Nat} (hi : (i : Int) < d 3) : CT w mX9_group [.ref (B), .int (i32 ((i : Int))), .int (i32 (2))] sh g (dQ (some (.int (i32 ((s_busyTrunks d (i : Int) : Int))))) sh g) := by
  have hi5 := hK.2.1.1.2.2.2.1
  have h3 : g (B + 2) 3 = d 3 := hK.1.2.1.2.2.2.1
  have G := hK.1.2.2.2.1 i hi
  refine j_entry (by decide) rfl (Nat.le_of_ble_eq_true rfl) (fun h => by cases h) rfl ?_
  show J w mX9_group 0 [(0, .ref (B)), (1, .int (i32 ((i : Int)))), (2, .int (i32 (2)))] [] sh g 1 6 _
  refine j_aload_n 1 0 dX9_group_0 rfl rfl ?_
  refine j_getr 4 dX9_group_1 rfl fl_X9_23 hB.cx rfl (fun _ _ => rfl) rfl ?_
  refine j_iload_n 5 1 dX9_group_4 rfl rfl ?_
  refine j_callV 8 (As := [.int (i32 ((i : Int)))]) (kc2 := 1) (ks2 := 6) dX9_group_5 rfl mvX1_groupAt lk_X9_132 hB.now.ex rfl ⟨Nat.le_of_ble_eq_true rfl, rfl⟩ rfl rfl (Nat.le_of_ble_eq_true rfl) ⟨Nat.le_of_ble_eq_true rfl, Nat.le_of_ble_eq_true rfl⟩ ⟨Nat.le_of_ble_eq_true rfl, Nat.le_of_ble_eq_true rfl⟩ ((by have h := c_groupAt1 (w := w) hB.now (g := g) (by omega) (x := (i : Int)) (r32 (by omega) (by omega)) (by omega); rw [Int.toNat_natCast] at h; exact h)) x_d (k_d1 ?_)
  refine j_astore_n 9 (L2 := [(3, .ref ((B + 2) + 3 + i)), (0, .ref (B)), (1, .int (i32 ((i : Int)))), (2, .int (i32 (2)))]) dX9_group_8 rfl rfl (Nat.le_of_ble_eq_true rfl) rfl ?_
  refine j_aload_n 10 0 dX9_group_9 rfl rfl ?_
  refine j_ifnonnull 21 dX9_group_10 rfl ?_
  refine j_iload_n 22 3 dX9_group_21 rfl rfl ?_
  refine j_if_lt 25 31 dX9_group_22 rfl rfl (r32 (by decide) (by decide)) (fun c_22 => absurd c_22 (by decide)) (fun c_22 => ?_)
  refine j_iload_n 26 3 dX9_group_25 rfl rfl ?_
  refine j_bipush 28 dX9_group_26 rfl (by decide) ?_
  refine j_icmp_le 31 39 dX9_group_28 rfl rfl (r32 (by decide) (by decide)) (r32 (by decide) (by decide)) (fun c_28 => ?_) (fun c_28 => absurd c_28 (by decide))
  refine j_iload_n 40 3 dX9_group_39 rfl rfl ?_
  refine j_tabIn 90 dX9_group_40 (r32 (by decide) (by decide)) (by decide) (by decide) rfl rfl ?_
  refine j_aload_n 91 1 dX9_group_90 rfl rfl ?_
  refine j_getr 94 dX9_group_91 rfl fl_X9_23 hB.cx rfl (fun _ _ => rfl) rfl ?_
  refine j_iload_n 95 2 dX9_group_94 rfl rfl ?_
  refine j_callV 98 (As := [.int (i32 ((i : Int)))]) (kc2 := 1) (ks2 := 6) dX9_group_95 rfl mvX1_busyTrunks lk_X9_144 hB.now.ex rfl ⟨Nat.le_of_ble_eq_true rfl, rfl⟩ rfl rfl (Nat.le_of_ble_eq_true rfl) ⟨Nat.le_of_ble_eq_true rfl, Nat.le_of_ble_eq_true rfl⟩ ⟨Nat.le_of_ble_eq_true rfl, Nat.le_of_ble_eq_true rfl⟩ (c_busyTrunks hB.now (r32 (by omega) (by omega))) x_d (k_d1 ?_)
  exact j_iret dX9_group_98 rfl (q_i (by rw [rel_busyTrunks hK.1]))

set_option maxRecDepth 20000 in
theorem c_group3 {w : Wd} {sh : Shp} {g : Mem} {B : Nat} {d : Nat → Int} (hB : CxS sh.1 B) (hK : KX g (B + 2) d) {i : Nat} (hi : (i : Int) < d 3) : CT w mX9_group [.ref (B), .int (i32 ((i : Int))), .int (i32 (3))] sh g (dQ (some (.int (i32 (d (53 + 9 * i))))) sh g) := by
  have hi5 := hK.2.1.1.2.2.2.1
  have h3 : g (B + 2) 3 = d 3 := hK.1.2.1.2.2.2.1
  have G := hK.1.2.2.2.1 i hi
  refine j_entry (by decide) rfl (Nat.le_of_ble_eq_true rfl) (fun h => by cases h) rfl ?_
  show J w mX9_group 0 [(0, .ref (B)), (1, .int (i32 ((i : Int)))), (2, .int (i32 (3)))] [] sh g 1 6 _
  refine j_aload_n 1 0 dX9_group_0 rfl rfl ?_
  refine j_getr 4 dX9_group_1 rfl fl_X9_23 hB.cx rfl (fun _ _ => rfl) rfl ?_
  refine j_iload_n 5 1 dX9_group_4 rfl rfl ?_
  refine j_callV 8 (As := [.int (i32 ((i : Int)))]) (kc2 := 1) (ks2 := 6) dX9_group_5 rfl mvX1_groupAt lk_X9_132 hB.now.ex rfl ⟨Nat.le_of_ble_eq_true rfl, rfl⟩ rfl rfl (Nat.le_of_ble_eq_true rfl) ⟨Nat.le_of_ble_eq_true rfl, Nat.le_of_ble_eq_true rfl⟩ ⟨Nat.le_of_ble_eq_true rfl, Nat.le_of_ble_eq_true rfl⟩ ((by have h := c_groupAt1 (w := w) hB.now (g := g) (by omega) (x := (i : Int)) (r32 (by omega) (by omega)) (by omega); rw [Int.toNat_natCast] at h; exact h)) x_d (k_d1 ?_)
  refine j_astore_n 9 (L2 := [(3, .ref ((B + 2) + 3 + i)), (0, .ref (B)), (1, .int (i32 ((i : Int)))), (2, .int (i32 (3)))]) dX9_group_8 rfl rfl (Nat.le_of_ble_eq_true rfl) rfl ?_
  refine j_aload_n 10 0 dX9_group_9 rfl rfl ?_
  refine j_ifnonnull 21 dX9_group_10 rfl ?_
  refine j_iload_n 22 3 dX9_group_21 rfl rfl ?_
  refine j_if_lt 25 31 dX9_group_22 rfl rfl (r32 (by decide) (by decide)) (fun c_22 => absurd c_22 (by decide)) (fun c_22 => ?_)
  refine j_iload_n 26 3 dX9_group_25 rfl rfl ?_
  refine j_bipush 28 dX9_group_26 rfl (by decide) ?_
  refine j_icmp_le 31 39 dX9_group_28 rfl rfl (r32 (by decide) (by decide)) (r32 (by decide) (by decide)) (fun c_28 => ?_) (fun c_28 => absurd c_28 (by decide))
  refine j_iload_n 40 3 dX9_group_39 rfl rfl ?_
  refine j_tabIn 99 dX9_group_40 (r32 (by decide) (by decide)) (by decide) (by decide) rfl rfl ?_
  refine j_aload_n 100 0 dX9_group_99 rfl rfl ?_
  refine j_geti 103 dX9_group_100 rfl fl_X9_147 (hB.now.gr i (show i < 5 by omega)) rfl rfl (fun r_100 => ?_)
  exact j_iret dX9_group_103 rfl (q_i G.2.2.1)

set_option maxRecDepth 20000 in
theorem c_group4 {w : Wd} {sh : Shp} {g : Mem} {B : Nat} {d : Nat → Int} (hB : CxS sh.1 B) (hK : KX g (B + 2) d) {i : Nat} (hi : (i : Int) < d 3) : CT w mX9_group [.ref (B), .int (i32 ((i : Int))), .int (i32 (4))] sh g (dQ (some (.int (i32 (d (54 + 9 * i))))) sh g) := by
  have hi5 := hK.2.1.1.2.2.2.1
  have h3 : g (B + 2) 3 = d 3 := hK.1.2.1.2.2.2.1
  have G := hK.1.2.2.2.1 i hi
  refine j_entry (by decide) rfl (Nat.le_of_ble_eq_true rfl) (fun h => by cases h) rfl ?_
  show J w mX9_group 0 [(0, .ref (B)), (1, .int (i32 ((i : Int)))), (2, .int (i32 (4)))] [] sh g 1 6 _
  refine j_aload_n 1 0 dX9_group_0 rfl rfl ?_
  refine j_getr 4 dX9_group_1 rfl fl_X9_23 hB.cx rfl (fun _ _ => rfl) rfl ?_
  refine j_iload_n 5 1 dX9_group_4 rfl rfl ?_
  refine j_callV 8 (As := [.int (i32 ((i : Int)))]) (kc2 := 1) (ks2 := 6) dX9_group_5 rfl mvX1_groupAt lk_X9_132 hB.now.ex rfl ⟨Nat.le_of_ble_eq_true rfl, rfl⟩ rfl rfl (Nat.le_of_ble_eq_true rfl) ⟨Nat.le_of_ble_eq_true rfl, Nat.le_of_ble_eq_true rfl⟩ ⟨Nat.le_of_ble_eq_true rfl, Nat.le_of_ble_eq_true rfl⟩ ((by have h := c_groupAt1 (w := w) hB.now (g := g) (by omega) (x := (i : Int)) (r32 (by omega) (by omega)) (by omega); rw [Int.toNat_natCast] at h; exact h)) x_d (k_d1 ?_)
  refine j_astore_n 9 (L2 := [(3, .ref ((B + 2) + 3 + i)), (0, .ref (B)), (1, .int (i32 ((i : Int)))), (2, .int (i32 (4)))]) dX9_group_8 rfl rfl (Nat.le_of_ble_eq_true rfl) rfl ?_
  refine j_aload_n 10 0 dX9_group_9 rfl rfl ?_
  refine j_ifnonnull 21 dX9_group_10 rfl ?_
  refine j_iload_n 22 3 dX9_group_21 rfl rfl ?_
  refine j_if_lt 25 31 dX9_group_22 rfl rfl (r32 (by decide) (by decide)) (fun c_22 => absurd c_22 (by decide)) (fun c_22 => ?_)
  refine j_iload_n 26 3 dX9_group_25 rfl rfl ?_
  refine j_bipush 28 dX9_group_26 rfl (by decide) ?_
  refine j_icmp_le 31 39 dX9_group_28 rfl rfl (r32 (by decide) (by decide)) (r32 (by decide) (by decide)) (fun c_28 => ?_) (fun c_28 => absurd c_28 (by decide))
  refine j_iload_n 40 3 dX9_group_39 rfl rfl ?_
  refine j_tabIn 104 dX9_group_40 (r32 (by decide) (by decide)) (by decide) (by decide) rfl rfl ?_
  refine j_aload_n 105 0 dX9_group_104 rfl rfl ?_
  refine j_geti 108 dX9_group_105 rfl fl_X9_150 (hB.now.gr i (show i < 5 by omega)) rfl rfl (fun r_105 => ?_)
  exact j_iret dX9_group_108 rfl (q_i G.2.2.2.1)

set_option maxRecDepth 20000 in
theorem c_group5 {w : Wd} {sh : Shp} {g : Mem} {B : Nat} {d : Nat → Int} (hB : CxS sh.1 B) (hK : KX g (B + 2) d) {i : Nat} (hi : (i : Int) < d 3) : CT w mX9_group [.ref (B), .int (i32 ((i : Int))), .int (i32 (5))] sh g (dQ (some (.int (i32 (d (55 + 9 * i))))) sh g) := by
  have hi5 := hK.2.1.1.2.2.2.1
  have h3 : g (B + 2) 3 = d 3 := hK.1.2.1.2.2.2.1
  have G := hK.1.2.2.2.1 i hi
  refine j_entry (by decide) rfl (Nat.le_of_ble_eq_true rfl) (fun h => by cases h) rfl ?_
  show J w mX9_group 0 [(0, .ref (B)), (1, .int (i32 ((i : Int)))), (2, .int (i32 (5)))] [] sh g 1 6 _
  refine j_aload_n 1 0 dX9_group_0 rfl rfl ?_
  refine j_getr 4 dX9_group_1 rfl fl_X9_23 hB.cx rfl (fun _ _ => rfl) rfl ?_
  refine j_iload_n 5 1 dX9_group_4 rfl rfl ?_
  refine j_callV 8 (As := [.int (i32 ((i : Int)))]) (kc2 := 1) (ks2 := 6) dX9_group_5 rfl mvX1_groupAt lk_X9_132 hB.now.ex rfl ⟨Nat.le_of_ble_eq_true rfl, rfl⟩ rfl rfl (Nat.le_of_ble_eq_true rfl) ⟨Nat.le_of_ble_eq_true rfl, Nat.le_of_ble_eq_true rfl⟩ ⟨Nat.le_of_ble_eq_true rfl, Nat.le_of_ble_eq_true rfl⟩ ((by have h := c_groupAt1 (w := w) hB.now (g := g) (by omega) (x := (i : Int)) (r32 (by omega) (by omega)) (by omega); rw [Int.toNat_natCast] at h; exact h)) x_d (k_d1 ?_)
  refine j_astore_n 9 (L2 := [(3, .ref ((B + 2) + 3 + i)), (0, .ref (B)), (1, .int (i32 ((i : Int)))), (2, .int (i32 (5)))]) dX9_group_8 rfl rfl (Nat.le_of_ble_eq_true rfl) rfl ?_
  refine j_aload_n 10 0 dX9_group_9 rfl rfl ?_
  refine j_ifnonnull 21 dX9_group_10 rfl ?_
  refine j_iload_n 22 3 dX9_group_21 rfl rfl ?_
  refine j_if_lt 25 31 dX9_group_22 rfl rfl (r32 (by decide) (by decide)) (fun c_22 => absurd c_22 (by decide)) (fun c_22 => ?_)
  refine j_iload_n 26 3 dX9_group_25 rfl rfl ?_
  refine j_bipush 28 dX9_group_26 rfl (by decide) ?_
  refine j_icmp_le 31 39 dX9_group_28 rfl rfl (r32 (by decide) (by decide)) (r32 (by decide) (by decide)) (fun c_28 => ?_) (fun c_28 => absurd c_28 (by decide))
  refine j_iload_n 40 3 dX9_group_39 rfl rfl ?_
  refine j_tabIn 109 dX9_group_40 (r32 (by decide) (by decide)) (by decide) (by decide) rfl rfl ?_
  refine j_aload_n 110 0 dX9_group_109 rfl rfl ?_
  refine j_geti 113 dX9_group_110 rfl fl_X9_153 (hB.now.gr i (show i < 5 by omega)) rfl rfl (fun r_110 => ?_)
  exact j_iret dX9_group_113 rfl (q_i G.2.2.2.2.1)

set_option maxRecDepth 20000 in
theorem c_group6 {w : Wd} {sh : Shp} {g : Mem} {B : Nat} {d : Nat → Int} (hB : CxS sh.1 B) (hK : KX g (B + 2) d) {i : Nat} (hi : (i : Int) < d 3) : CT w mX9_group [.ref (B), .int (i32 ((i : Int))), .int (i32 (6))] sh g (dQ (some (.int (i32 (d (56 + 9 * i))))) sh g) := by
  have hi5 := hK.2.1.1.2.2.2.1
  have h3 : g (B + 2) 3 = d 3 := hK.1.2.1.2.2.2.1
  have G := hK.1.2.2.2.1 i hi
  refine j_entry (by decide) rfl (Nat.le_of_ble_eq_true rfl) (fun h => by cases h) rfl ?_
  show J w mX9_group 0 [(0, .ref (B)), (1, .int (i32 ((i : Int)))), (2, .int (i32 (6)))] [] sh g 1 6 _
  refine j_aload_n 1 0 dX9_group_0 rfl rfl ?_
  refine j_getr 4 dX9_group_1 rfl fl_X9_23 hB.cx rfl (fun _ _ => rfl) rfl ?_
  refine j_iload_n 5 1 dX9_group_4 rfl rfl ?_
  refine j_callV 8 (As := [.int (i32 ((i : Int)))]) (kc2 := 1) (ks2 := 6) dX9_group_5 rfl mvX1_groupAt lk_X9_132 hB.now.ex rfl ⟨Nat.le_of_ble_eq_true rfl, rfl⟩ rfl rfl (Nat.le_of_ble_eq_true rfl) ⟨Nat.le_of_ble_eq_true rfl, Nat.le_of_ble_eq_true rfl⟩ ⟨Nat.le_of_ble_eq_true rfl, Nat.le_of_ble_eq_true rfl⟩ ((by have h := c_groupAt1 (w := w) hB.now (g := g) (by omega) (x := (i : Int)) (r32 (by omega) (by omega)) (by omega); rw [Int.toNat_natCast] at h; exact h)) x_d (k_d1 ?_)
  refine j_astore_n 9 (L2 := [(3, .ref ((B + 2) + 3 + i)), (0, .ref (B)), (1, .int (i32 ((i : Int)))), (2, .int (i32 (6)))]) dX9_group_8 rfl rfl (Nat.le_of_ble_eq_true rfl) rfl ?_
  refine j_aload_n 10 0 dX9_group_9 rfl rfl ?_
  refine j_ifnonnull 21 dX9_group_10 rfl ?_
  refine j_iload_n 22 3 dX9_group_21 rfl rfl ?_
  refine j_if_lt 25 31 dX9_group_22 rfl rfl (r32 (by decide) (by decide)) (fun c_22 => absurd c_22 (by decide)) (fun c_22 => ?_)
  refine j_iload_n 26 3 dX9_group_25 rfl rfl ?_
  refine j_bipush 28 dX9_group_26 rfl (by decide) ?_
  refine j_icmp_le 31 39 dX9_group_28 rfl rfl (r32 (by decide) (by decide)) (r32 (by decide) (by decide)) (fun c_28 => ?_) (fun c_28 => absurd c_28 (by decide))
  refine j_iload_n 40 3 dX9_group_39 rfl rfl ?_
  refine j_tabOut 114 dX9_group_40 (r32 (by decide) (by decide)) (Or.inr (by decide)) rfl ?_
  refine j_aload_n 115 0 dX9_group_114 rfl rfl ?_
  refine j_geti 118 dX9_group_115 rfl fl_X9_156 (hB.now.gr i (show i < 5 by omega)) rfl rfl (fun r_115 => ?_)
  exact j_iret dX9_group_118 rfl (q_i G.2.2.2.2.2.1)

set_option maxRecDepth 20000 in
theorem c_groupB {w : Wd} {sh : Shp} {g : Mem} {B : Nat} {d : Nat → Int} (hB : CxS sh.1 B) (hK : KX g (B + 2) d) {x q : Int} (hx : R32 x) (hq : R32 q) (h0 : ¬ (0 ≤ x ∧ x < d 3)) : CT w mX9_group [.ref (B), .int (i32 (x)), .int (i32 (q))] sh g (fun r sh2 g2 => r = .inr xB ∧ sh2 = (sh.1, none) ∧ g2 = g) := by
  have hi5 := hK.2.1.1.2.2.2.1
  have h3 : g (B + 2) 3 = d 3 := hK.1.2.1.2.2.2.1
  refine j_entry (by decide) rfl (Nat.le_of_ble_eq_true rfl) (fun h => by cases h) rfl ?_
  show J w mX9_group 0 [(0, .ref (B)), (1, .int (i32 (x))), (2, .int (i32 (q)))] [] sh g 1 6 _
  refine j_aload_n 1 0 dX9_group_0 rfl rfl ?_
  refine j_getr 4 dX9_group_1 rfl fl_X9_23 hB.cx rfl (fun _ _ => rfl) rfl ?_
  refine j_iload_n 5 1 dX9_group_4 rfl rfl ?_
  refine j_callV 8 (As := [.int (i32 (x))]) (kc2 := 1) (ks2 := 6) dX9_group_5 rfl mvX1_groupAt lk_X9_132 hB.now.ex rfl ⟨Nat.le_of_ble_eq_true rfl, rfl⟩ rfl rfl (Nat.le_of_ble_eq_true rfl) ⟨Nat.le_of_ble_eq_true rfl, Nat.le_of_ble_eq_true rfl⟩ ⟨Nat.le_of_ble_eq_true rfl, Nat.le_of_ble_eq_true rfl⟩ (c_groupAt0 hB.now (by omega) hx (by omega)) x_d (k_d1 ?_)
  refine j_astore_nN 9 (L2 := [(3, .null), (0, .ref (B)), (1, .int (i32 (x))), (2, .int (i32 (q)))]) dX9_group_8 rfl rfl (Nat.le_of_ble_eq_true rfl) rfl ?_
  refine j_aload_nN 10 0 dX9_group_9 rfl rfl ?_
  refine j_ifnonnullN 13 dX9_group_10 rfl ?_
  exact j_throw xB th_X9_group_13 ⟨Nat.le_of_ble_eq_true rfl, Nat.le_of_ble_eq_true rfl⟩ ⟨rfl, rfl, rfl⟩

set_option maxRecDepth 20000 in
theorem c_groupI {w : Wd} {sh : Shp} {g : Mem} {B : Nat} {d : Nat → Int} (hB : CxS sh.1 B) (hK : KX g (B + 2) d) {i : Nat} {q : Int} (hi : (i : Int) < d 3) (hq : R32 q) (hb : q < 0 ∨ 6 < q) : CT w mX9_group [.ref (B), .int (i32 ((i : Int))), .int (i32 (q))] sh g (fun r sh2 g2 => r = .inr xI ∧ sh2 = (sh.1, none) ∧ g2 = g) := by
  have hi5 := hK.2.1.1.2.2.2.1
  have h3 : g (B + 2) 3 = d 3 := hK.1.2.1.2.2.2.1
  refine j_entry (by decide) rfl (Nat.le_of_ble_eq_true rfl) (fun h => by cases h) rfl ?_
  show J w mX9_group 0 [(0, .ref (B)), (1, .int (i32 ((i : Int)))), (2, .int (i32 (q)))] [] sh g 1 6 _
  refine j_aload_n 1 0 dX9_group_0 rfl rfl ?_
  refine j_getr 4 dX9_group_1 rfl fl_X9_23 hB.cx rfl (fun _ _ => rfl) rfl ?_
  refine j_iload_n 5 1 dX9_group_4 rfl rfl ?_
  refine j_callV 8 (As := [.int (i32 ((i : Int)))]) (kc2 := 1) (ks2 := 6) dX9_group_5 rfl mvX1_groupAt lk_X9_132 hB.now.ex rfl ⟨Nat.le_of_ble_eq_true rfl, rfl⟩ rfl rfl (Nat.le_of_ble_eq_true rfl) ⟨Nat.le_of_ble_eq_true rfl, Nat.le_of_ble_eq_true rfl⟩ ⟨Nat.le_of_ble_eq_true rfl, Nat.le_of_ble_eq_true rfl⟩ ((by have h := c_groupAt1 (w := w) hB.now (g := g) (by omega) (x := (i : Int)) (r32 (by omega) (by omega)) (by omega); rw [Int.toNat_natCast] at h; exact h)) x_d (k_d1 ?_)
  refine j_astore_n 9 (L2 := [(3, .ref ((B + 2) + 3 + i)), (0, .ref (B)), (1, .int (i32 ((i : Int)))), (2, .int (i32 (q)))]) dX9_group_8 rfl rfl (Nat.le_of_ble_eq_true rfl) rfl ?_
  refine j_aload_n 10 0 dX9_group_9 rfl rfl ?_
  refine j_ifnonnull 21 dX9_group_10 rfl ?_
  refine j_iload_n 22 3 dX9_group_21 rfl rfl ?_
  refine j_if_lt 25 31 dX9_group_22 rfl rfl hq (fun c_22 => ?_) (fun c_22 => ?_)
  · exact j_throw xI th_X9_group_31 ⟨Nat.le_of_ble_eq_true rfl, Nat.le_of_ble_eq_true rfl⟩ ⟨rfl, rfl, rfl⟩
  · refine j_iload_n 26 3 dX9_group_25 rfl rfl ?_
    refine j_bipush 28 dX9_group_26 rfl (by decide) ?_
    refine j_icmp_le 31 39 dX9_group_28 rfl rfl hq (r32 (by decide) (by decide)) (fun c_28 => absurd c_28 (by omega)) (fun c_28 => ?_)
    exact j_throw xI th_X9_group_31 ⟨Nat.le_of_ble_eq_true rfl, Nat.le_of_ble_eq_true rfl⟩ ⟨rfl, rfl, rfl⟩
