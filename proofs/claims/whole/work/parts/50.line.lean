set_option maxRecDepth 20000 in
theorem c_line0 {w : Wd} {sh : Shp} {g : Mem} {B : Nat} {d : Nat → Int} (hB : CxS sh.1 B) (hK : KX g (B + 2) d) {x : Int} (hx : R32 x) (h0 : 0 ≤ x ∧ x < d 2) : CT w mX9_line [.ref (B), .int (i32 (x)), .int (i32 (0))] sh g (dQ (some (.int (i32 (b01 (s_isBusy d x))))) sh g) := by
  have h2 : g (B + 2) 2 = d 2 := hK.1.2.1.2.2.1
  refine j_entry (by decide) rfl (Nat.le_of_ble_eq_true rfl) (fun h => by cases h) rfl ?_
  show J w mX9_line 0 [(0, .ref (B)), (1, .int (i32 (x))), (2, .int (i32 (0)))] [] sh g 1 6 _
  refine j_aload_n 1 0 dX9_line_0 rfl rfl ?_
  refine j_getr 4 dX9_line_1 rfl fl_X9_23 hB.cx rfl (fun _ _ => rfl) rfl ?_
  refine j_iload_n 5 1 dX9_line_4 rfl rfl ?_
  refine j_callV 8 (As := [.int (i32 (x))]) (kc2 := 1) (ks2 := 6) dX9_line_5 rfl mvX1_hasLine lk_X9_110 hB.now.ex rfl ⟨Nat.le_of_ble_eq_true rfl, rfl⟩ rfl rfl (Nat.le_of_ble_eq_true rfl) ⟨Nat.le_of_ble_eq_true rfl, Nat.le_of_ble_eq_true rfl⟩ ⟨Nat.le_of_ble_eq_true rfl, Nat.le_of_ble_eq_true rfl⟩ (c_hasLine hB.now hx) x_d (k_d1 ?_)
  refine j_if_ne 11 19 dX9_line_8 rfl rfl (r01 (b01_r _)) (fun c_8 => ?_) (fun c_8 => absurd c_8 (by rw [decide_eq_true (show 0 ≤ x ∧ x < g (B + 2) 2 by omega)]; decide))
  refine j_iload_n 20 2 dX9_line_19 rfl rfl ?_
  refine j_if_lt 23 28 dX9_line_20 rfl rfl (r32 (by decide) (by decide)) (fun c_20 => absurd c_20 (by decide)) (fun c_20 => ?_)
  refine j_iload_n 24 2 dX9_line_23 rfl rfl ?_
  refine j_iconst 25 dX9_line_24 rfl ?_
  refine j_icmp_le 28 36 dX9_line_25 rfl rfl (r32 (by decide) (by decide)) (r32 (by decide) (by decide)) (fun c_25 => ?_) (fun c_25 => absurd c_25 (by decide))
  refine j_iload_n 37 2 dX9_line_36 rfl rfl ?_
  refine j_tabIn 68 dX9_line_37 (r32 (by decide) (by decide)) (by decide) (by decide) rfl rfl ?_
  refine j_aload_n 69 0 dX9_line_68 rfl rfl ?_
  refine j_getr 72 dX9_line_69 rfl fl_X9_23 hB.cx rfl (fun _ _ => rfl) rfl ?_
  refine j_iload_n 73 1 dX9_line_72 rfl rfl ?_
  refine j_callV 76 (As := [.int (i32 (x))]) (kc2 := 1) (ks2 := 6) dX9_line_73 rfl mvX1_isBusy lk_X9_117 hB.now.ex rfl ⟨Nat.le_of_ble_eq_true rfl, rfl⟩ rfl rfl (Nat.le_of_ble_eq_true rfl) ⟨Nat.le_of_ble_eq_true rfl, Nat.le_of_ble_eq_true rfl⟩ ⟨Nat.le_of_ble_eq_true rfl, Nat.le_of_ble_eq_true rfl⟩ (c_isBusy hB.now hK.1.1 hx) x_d (k_d1 ?_)
  refine j_if_eq 79 83 dX9_line_76 rfl rfl (r01 (b01_r _)) (fun c_76 => ?_) (fun c_76 => ?_)
  · have hz : (0 : Int) = b01 (s_isBusy d x) := by rw [← rel_isBusy hK.1, b01_0 c_76]; rfl
    refine j_iconst 84 dX9_line_83 rfl ?_
    exact j_iret dX9_line_84 rfl (q_i hz)
  · have hz : (1 : Int) = b01 (s_isBusy d x) := by rw [← rel_isBusy hK.1, b01_1 c_76]; rfl
    refine j_iconst 80 dX9_line_79 rfl ?_
    refine j_goto 84 dX9_line_80 rfl ?_
    exact j_iret dX9_line_84 rfl (q_i hz)

set_option maxRecDepth 20000 in
theorem c_line1 {w : Wd} {sh : Shp} {g : Mem} {B : Nat} {d : Nat → Int} (hB : CxS sh.1 B) (hK : KX g (B + 2) d) {x : Int} (hx : R32 x) (h0 : 0 ≤ x ∧ x < d 2) : CT w mX9_line [.ref (B), .int (i32 (x)), .int (i32 (1))] sh g (dQ (some (.int (i32 (s_callBy d x)))) sh g) := by
  have h2 : g (B + 2) 2 = d 2 := hK.1.2.1.2.2.1
  refine j_entry (by decide) rfl (Nat.le_of_ble_eq_true rfl) (fun h => by cases h) rfl ?_
  show J w mX9_line 0 [(0, .ref (B)), (1, .int (i32 (x))), (2, .int (i32 (1)))] [] sh g 1 6 _
  refine j_aload_n 1 0 dX9_line_0 rfl rfl ?_
  refine j_getr 4 dX9_line_1 rfl fl_X9_23 hB.cx rfl (fun _ _ => rfl) rfl ?_
  refine j_iload_n 5 1 dX9_line_4 rfl rfl ?_
  refine j_callV 8 (As := [.int (i32 (x))]) (kc2 := 1) (ks2 := 6) dX9_line_5 rfl mvX1_hasLine lk_X9_110 hB.now.ex rfl ⟨Nat.le_of_ble_eq_true rfl, rfl⟩ rfl rfl (Nat.le_of_ble_eq_true rfl) ⟨Nat.le_of_ble_eq_true rfl, Nat.le_of_ble_eq_true rfl⟩ ⟨Nat.le_of_ble_eq_true rfl, Nat.le_of_ble_eq_true rfl⟩ (c_hasLine hB.now hx) x_d (k_d1 ?_)
  refine j_if_ne 11 19 dX9_line_8 rfl rfl (r01 (b01_r _)) (fun c_8 => ?_) (fun c_8 => absurd c_8 (by rw [decide_eq_true (show 0 ≤ x ∧ x < g (B + 2) 2 by omega)]; decide))
  refine j_iload_n 20 2 dX9_line_19 rfl rfl ?_
  refine j_if_lt 23 28 dX9_line_20 rfl rfl (r32 (by decide) (by decide)) (fun c_20 => absurd c_20 (by decide)) (fun c_20 => ?_)
  refine j_iload_n 24 2 dX9_line_23 rfl rfl ?_
  refine j_iconst 25 dX9_line_24 rfl ?_
  refine j_icmp_le 28 36 dX9_line_25 rfl rfl (r32 (by decide) (by decide)) (r32 (by decide) (by decide)) (fun c_25 => ?_) (fun c_25 => absurd c_25 (by decide))
  refine j_iload_n 37 2 dX9_line_36 rfl rfl ?_
  refine j_tabIn 85 dX9_line_37 (r32 (by decide) (by decide)) (by decide) (by decide) rfl rfl ?_
  refine j_aload_n 86 0 dX9_line_85 rfl rfl ?_
  refine j_getr 89 dX9_line_86 rfl fl_X9_23 hB.cx rfl (fun _ _ => rfl) rfl ?_
  refine j_iload_n 90 1 dX9_line_89 rfl rfl ?_
  refine j_callV 93 (As := [.int (i32 (x))]) (kc2 := 1) (ks2 := 6) dX9_line_90 rfl mvX1_callFrom lk_X9_120 hB.now.ex rfl ⟨Nat.le_of_ble_eq_true rfl, rfl⟩ rfl rfl (Nat.le_of_ble_eq_true rfl) ⟨Nat.le_of_ble_eq_true rfl, Nat.le_of_ble_eq_true rfl⟩ ⟨Nat.le_of_ble_eq_true rfl, Nat.le_of_ble_eq_true rfl⟩ (c_callFrom hB.now hK.1.1 hx) x_d (k_d1 ?_)
  exact j_iret dX9_line_93 rfl (q_i (rel_callFrom hK.1 x))

set_option maxRecDepth 20000 in
theorem c_line2 {w : Wd} {sh : Shp} {g : Mem} {B : Nat} {d : Nat → Int} (hB : CxS sh.1 B) (hK : KX g (B + 2) d) {x : Int} (hx : R32 x) (h0 : 0 ≤ x ∧ x < d 2) : CT w mX9_line [.ref (B), .int (i32 (x)), .int (i32 (2))] sh g (dQ (some (.int (i32 (s_callTo d x)))) sh g) := by
  have h2 : g (B + 2) 2 = d 2 := hK.1.2.1.2.2.1
  refine j_entry (by decide) rfl (Nat.le_of_ble_eq_true rfl) (fun h => by cases h) rfl ?_
  show J w mX9_line 0 [(0, .ref (B)), (1, .int (i32 (x))), (2, .int (i32 (2)))] [] sh g 1 6 _
  refine j_aload_n 1 0 dX9_line_0 rfl rfl ?_
  refine j_getr 4 dX9_line_1 rfl fl_X9_23 hB.cx rfl (fun _ _ => rfl) rfl ?_
  refine j_iload_n 5 1 dX9_line_4 rfl rfl ?_
  refine j_callV 8 (As := [.int (i32 (x))]) (kc2 := 1) (ks2 := 6) dX9_line_5 rfl mvX1_hasLine lk_X9_110 hB.now.ex rfl ⟨Nat.le_of_ble_eq_true rfl, rfl⟩ rfl rfl (Nat.le_of_ble_eq_true rfl) ⟨Nat.le_of_ble_eq_true rfl, Nat.le_of_ble_eq_true rfl⟩ ⟨Nat.le_of_ble_eq_true rfl, Nat.le_of_ble_eq_true rfl⟩ (c_hasLine hB.now hx) x_d (k_d1 ?_)
  refine j_if_ne 11 19 dX9_line_8 rfl rfl (r01 (b01_r _)) (fun c_8 => ?_) (fun c_8 => absurd c_8 (by rw [decide_eq_true (show 0 ≤ x ∧ x < g (B + 2) 2 by omega)]; decide))
  refine j_iload_n 20 2 dX9_line_19 rfl rfl ?_
  refine j_if_lt 23 28 dX9_line_20 rfl rfl (r32 (by decide) (by decide)) (fun c_20 => absurd c_20 (by decide)) (fun c_20 => ?_)
  refine j_iload_n 24 2 dX9_line_23 rfl rfl ?_
  refine j_iconst 25 dX9_line_24 rfl ?_
  refine j_icmp_le 28 36 dX9_line_25 rfl rfl (r32 (by decide) (by decide)) (r32 (by decide) (by decide)) (fun c_25 => ?_) (fun c_25 => absurd c_25 (by decide))
  refine j_iload_n 37 2 dX9_line_36 rfl rfl ?_
  refine j_tabIn 94 dX9_line_37 (r32 (by decide) (by decide)) (by decide) (by decide) rfl rfl ?_
  refine j_aload_n 95 0 dX9_line_94 rfl rfl ?_
  refine j_getr 98 dX9_line_95 rfl fl_X9_23 hB.cx rfl (fun _ _ => rfl) rfl ?_
  refine j_iload_n 99 1 dX9_line_98 rfl rfl ?_
  refine j_callV 102 (As := [.int (i32 (x))]) (kc2 := 1) (ks2 := 6) dX9_line_99 rfl mvX1_callTo lk_X9_123 hB.now.ex rfl ⟨Nat.le_of_ble_eq_true rfl, rfl⟩ rfl rfl (Nat.le_of_ble_eq_true rfl) ⟨Nat.le_of_ble_eq_true rfl, Nat.le_of_ble_eq_true rfl⟩ ⟨Nat.le_of_ble_eq_true rfl, Nat.le_of_ble_eq_true rfl⟩ (c_callTo hB.now hK.1.1 hx) x_d (k_d1 ?_)
  exact j_iret dX9_line_102 rfl (q_i (rel_callTo hK.1 x))

set_option maxRecDepth 20000 in
theorem c_line3 {w : Wd} {sh : Shp} {g : Mem} {B : Nat} {d : Nat → Int} (hB : CxS sh.1 B) (hK : KX g (B + 2) d) {x : Int} (hx : R32 x) (h0 : 0 ≤ x ∧ x < d 2) : CT w mX9_line [.ref (B), .int (i32 (x)), .int (i32 (3))] sh g (dQ (some (.int (i32 ((x_cameFrom g (B + 2) x : Int))))) sh g) := by
  have h2 : g (B + 2) 2 = d 2 := hK.1.2.1.2.2.1
  refine j_entry (by decide) rfl (Nat.le_of_ble_eq_true rfl) (fun h => by cases h) rfl ?_
  show J w mX9_line 0 [(0, .ref (B)), (1, .int (i32 (x))), (2, .int (i32 (3)))] [] sh g 1 6 _
  refine j_aload_n 1 0 dX9_line_0 rfl rfl ?_
  refine j_getr 4 dX9_line_1 rfl fl_X9_23 hB.cx rfl (fun _ _ => rfl) rfl ?_
  refine j_iload_n 5 1 dX9_line_4 rfl rfl ?_
  refine j_callV 8 (As := [.int (i32 (x))]) (kc2 := 1) (ks2 := 6) dX9_line_5 rfl mvX1_hasLine lk_X9_110 hB.now.ex rfl ⟨Nat.le_of_ble_eq_true rfl, rfl⟩ rfl rfl (Nat.le_of_ble_eq_true rfl) ⟨Nat.le_of_ble_eq_true rfl, Nat.le_of_ble_eq_true rfl⟩ ⟨Nat.le_of_ble_eq_true rfl, Nat.le_of_ble_eq_true rfl⟩ (c_hasLine hB.now hx) x_d (k_d1 ?_)
  refine j_if_ne 11 19 dX9_line_8 rfl rfl (r01 (b01_r _)) (fun c_8 => ?_) (fun c_8 => absurd c_8 (by rw [decide_eq_true (show 0 ≤ x ∧ x < g (B + 2) 2 by omega)]; decide))
  refine j_iload_n 20 2 dX9_line_19 rfl rfl ?_
  refine j_if_lt 23 28 dX9_line_20 rfl rfl (r32 (by decide) (by decide)) (fun c_20 => absurd c_20 (by decide)) (fun c_20 => ?_)
  refine j_iload_n 24 2 dX9_line_23 rfl rfl ?_
  refine j_iconst 25 dX9_line_24 rfl ?_
  refine j_icmp_le 28 36 dX9_line_25 rfl rfl (r32 (by decide) (by decide)) (r32 (by decide) (by decide)) (fun c_25 => ?_) (fun c_25 => absurd c_25 (by decide))
  refine j_iload_n 37 2 dX9_line_36 rfl rfl ?_
  refine j_tabIn 103 dX9_line_37 (r32 (by decide) (by decide)) (by decide) (by decide) rfl rfl ?_
  refine j_aload_n 104 0 dX9_line_103 rfl rfl ?_
  refine j_getr 107 dX9_line_104 rfl fl_X9_23 hB.cx rfl (fun _ _ => rfl) rfl ?_
  refine j_iload_n 108 1 dX9_line_107 rfl rfl ?_
  refine j_callV 111 (As := [.int (i32 (x))]) (kc2 := 1) (ks2 := 6) dX9_line_108 rfl mvX1_cameFrom lk_X9_126 hB.now.ex rfl ⟨Nat.le_of_ble_eq_true rfl, rfl⟩ rfl rfl (Nat.le_of_ble_eq_true rfl) ⟨Nat.le_of_ble_eq_true rfl, Nat.le_of_ble_eq_true rfl⟩ ⟨Nat.le_of_ble_eq_true rfl, Nat.le_of_ble_eq_true rfl⟩ (c_cameFrom hB.now hx) x_d (k_d1 ?_)
  exact j_iret dX9_line_111 rfl (q_i rfl)

set_option maxRecDepth 20000 in
theorem c_line4 {w : Wd} {sh : Shp} {g : Mem} {B : Nat} {d : Nat → Int} (hB : CxS sh.1 B) (hK : KX g (B + 2) d) {x : Int} (hx : R32 x) (h0 : 0 ≤ x ∧ x < d 2) : CT w mX9_line [.ref (B), .int (i32 (x)), .int (i32 (4))] sh g (dQ (some (.int (i32 ((x_ended g (B + 2) x : Int))))) sh g) := by
  have h2 : g (B + 2) 2 = d 2 := hK.1.2.1.2.2.1
  refine j_entry (by decide) rfl (Nat.le_of_ble_eq_true rfl) (fun h => by cases h) rfl ?_
  show J w mX9_line 0 [(0, .ref (B)), (1, .int (i32 (x))), (2, .int (i32 (4)))] [] sh g 1 6 _
  refine j_aload_n 1 0 dX9_line_0 rfl rfl ?_
  refine j_getr 4 dX9_line_1 rfl fl_X9_23 hB.cx rfl (fun _ _ => rfl) rfl ?_
  refine j_iload_n 5 1 dX9_line_4 rfl rfl ?_
  refine j_callV 8 (As := [.int (i32 (x))]) (kc2 := 1) (ks2 := 6) dX9_line_5 rfl mvX1_hasLine lk_X9_110 hB.now.ex rfl ⟨Nat.le_of_ble_eq_true rfl, rfl⟩ rfl rfl (Nat.le_of_ble_eq_true rfl) ⟨Nat.le_of_ble_eq_true rfl, Nat.le_of_ble_eq_true rfl⟩ ⟨Nat.le_of_ble_eq_true rfl, Nat.le_of_ble_eq_true rfl⟩ (c_hasLine hB.now hx) x_d (k_d1 ?_)
  refine j_if_ne 11 19 dX9_line_8 rfl rfl (r01 (b01_r _)) (fun c_8 => ?_) (fun c_8 => absurd c_8 (by rw [decide_eq_true (show 0 ≤ x ∧ x < g (B + 2) 2 by omega)]; decide))
  refine j_iload_n 20 2 dX9_line_19 rfl rfl ?_
  refine j_if_lt 23 28 dX9_line_20 rfl rfl (r32 (by decide) (by decide)) (fun c_20 => absurd c_20 (by decide)) (fun c_20 => ?_)
  refine j_iload_n 24 2 dX9_line_23 rfl rfl ?_
  refine j_iconst 25 dX9_line_24 rfl ?_
  refine j_icmp_le 28 36 dX9_line_25 rfl rfl (r32 (by decide) (by decide)) (r32 (by decide) (by decide)) (fun c_25 => ?_) (fun c_25 => absurd c_25 (by decide))
  refine j_iload_n 37 2 dX9_line_36 rfl rfl ?_
  refine j_tabOut 112 dX9_line_37 (r32 (by decide) (by decide)) (Or.inr (by decide)) rfl ?_
  refine j_aload_n 113 0 dX9_line_112 rfl rfl ?_
  refine j_getr 116 dX9_line_113 rfl fl_X9_23 hB.cx rfl (fun _ _ => rfl) rfl ?_
  refine j_iload_n 117 1 dX9_line_116 rfl rfl ?_
  refine j_callV 120 (As := [.int (i32 (x))]) (kc2 := 1) (ks2 := 6) dX9_line_117 rfl mvX1_endedWellFrom lk_X9_129 hB.now.ex rfl ⟨Nat.le_of_ble_eq_true rfl, rfl⟩ rfl rfl (Nat.le_of_ble_eq_true rfl) ⟨Nat.le_of_ble_eq_true rfl, Nat.le_of_ble_eq_true rfl⟩ ⟨Nat.le_of_ble_eq_true rfl, Nat.le_of_ble_eq_true rfl⟩ (c_endedWellFrom hB.now hx) x_d (k_d1 ?_)
  exact j_iret dX9_line_120 rfl (q_i rfl)

set_option maxRecDepth 20000 in
theorem c_lineB {w : Wd} {sh : Shp} {g : Mem} {B : Nat} {d : Nat → Int} (hB : CxS sh.1 B) (hK : KX g (B + 2) d) {x : Int} (hx : R32 x) {q : Int} (hq : R32 q) (h0 : ¬ (0 ≤ x ∧ x < d 2)) : CT w mX9_line [.ref (B), .int (i32 (x)), .int (i32 (q))] sh g (fun r sh2 g2 => r = .inr xB ∧ sh2 = (sh.1, none) ∧ g2 = g) := by
  have h2 : g (B + 2) 2 = d 2 := hK.1.2.1.2.2.1
  refine j_entry (by decide) rfl (Nat.le_of_ble_eq_true rfl) (fun h => by cases h) rfl ?_
  show J w mX9_line 0 [(0, .ref (B)), (1, .int (i32 (x))), (2, .int (i32 (q)))] [] sh g 1 6 _
  refine j_aload_n 1 0 dX9_line_0 rfl rfl ?_
  refine j_getr 4 dX9_line_1 rfl fl_X9_23 hB.cx rfl (fun _ _ => rfl) rfl ?_
  refine j_iload_n 5 1 dX9_line_4 rfl rfl ?_
  refine j_callV 8 (As := [.int (i32 (x))]) (kc2 := 1) (ks2 := 6) dX9_line_5 rfl mvX1_hasLine lk_X9_110 hB.now.ex rfl ⟨Nat.le_of_ble_eq_true rfl, rfl⟩ rfl rfl (Nat.le_of_ble_eq_true rfl) ⟨Nat.le_of_ble_eq_true rfl, Nat.le_of_ble_eq_true rfl⟩ ⟨Nat.le_of_ble_eq_true rfl, Nat.le_of_ble_eq_true rfl⟩ (c_hasLine hB.now hx) x_d (k_d1 ?_)
  refine j_if_ne 11 19 dX9_line_8 rfl rfl (r01 (b01_r _)) (fun c_8 => absurd c_8 ((fun q => q (by rw [decide_eq_false (show ¬ (0 ≤ x ∧ x < g (B + 2) 2) by omega)]; rfl)))) (fun c_8 => ?_)
  exact j_throw xB th_X9_line_11 ⟨Nat.le_of_ble_eq_true rfl, Nat.le_of_ble_eq_true rfl⟩ ⟨rfl, rfl, rfl⟩

set_option maxRecDepth 20000 in
theorem c_lineI {w : Wd} {sh : Shp} {g : Mem} {B : Nat} {d : Nat → Int} (hB : CxS sh.1 B) (hK : KX g (B + 2) d) {x : Int} (hx : R32 x) {q : Int} (hq : R32 q) (h0 : 0 ≤ x ∧ x < d 2) (hb : q < 0 ∨ 4 < q) : CT w mX9_line [.ref (B), .int (i32 (x)), .int (i32 (q))] sh g (fun r sh2 g2 => r = .inr xI ∧ sh2 = (sh.1, none) ∧ g2 = g) := by
  have h2 : g (B + 2) 2 = d 2 := hK.1.2.1.2.2.1
  refine j_entry (by decide) rfl (Nat.le_of_ble_eq_true rfl) (fun h => by cases h) rfl ?_
  show J w mX9_line 0 [(0, .ref (B)), (1, .int (i32 (x))), (2, .int (i32 (q)))] [] sh g 1 6 _
  refine j_aload_n 1 0 dX9_line_0 rfl rfl ?_
  refine j_getr 4 dX9_line_1 rfl fl_X9_23 hB.cx rfl (fun _ _ => rfl) rfl ?_
  refine j_iload_n 5 1 dX9_line_4 rfl rfl ?_
  refine j_callV 8 (As := [.int (i32 (x))]) (kc2 := 1) (ks2 := 6) dX9_line_5 rfl mvX1_hasLine lk_X9_110 hB.now.ex rfl ⟨Nat.le_of_ble_eq_true rfl, rfl⟩ rfl rfl (Nat.le_of_ble_eq_true rfl) ⟨Nat.le_of_ble_eq_true rfl, Nat.le_of_ble_eq_true rfl⟩ ⟨Nat.le_of_ble_eq_true rfl, Nat.le_of_ble_eq_true rfl⟩ (c_hasLine hB.now hx) x_d (k_d1 ?_)
  refine j_if_ne 11 19 dX9_line_8 rfl rfl (r01 (b01_r _)) (fun c_8 => ?_) (fun c_8 => absurd c_8 (by rw [decide_eq_true (show 0 ≤ x ∧ x < g (B + 2) 2 by omega)]; decide))
  refine j_iload_n 20 2 dX9_line_19 rfl rfl ?_
  refine j_if_lt 23 28 dX9_line_20 rfl rfl hq (fun c_20 => ?_) (fun c_20 => ?_)
  · exact j_throw xI th_X9_line_28 ⟨Nat.le_of_ble_eq_true rfl, Nat.le_of_ble_eq_true rfl⟩ ⟨rfl, rfl, rfl⟩
  · refine j_iload_n 24 2 dX9_line_23 rfl rfl ?_
    refine j_iconst 25 dX9_line_24 rfl ?_
    refine j_icmp_le 28 36 dX9_line_25 rfl rfl hq (r32 (by decide) (by decide)) (fun c_25 => absurd c_25 (by omega)) (fun c_25 => ?_)
    exact j_throw xI th_X9_line_28 ⟨Nat.le_of_ble_eq_true rfl, Nat.le_of_ble_eq_true rfl⟩ ⟨rfl, rfl, rfl⟩
