/-- nothing but the throw -/
def tQ (cls : String) (sh : Shp) (g : Mem) : Post := fun r sh' g' => r = .inr cls ∧ sh' = (sh.1, none) ∧ g' = g

set_option maxRecDepth 20000 in
theorem c_pass_bad {w : Wd} {sh : Shp} {g : Mem} {B : Nat} (hB : CxS sh.1 B) {n : Int} (hn : R32 n) (hb : n < 1 ∨ 300 < n) : CT w mX9_pass [.ref (B), .int (i32 (n))] sh g (tQ xI sh g) := by
  refine j_entry (by decide) rfl (Nat.le_of_ble_eq_true rfl) (fun h => by cases h) rfl ?_
  show J w mX9_pass 0 [(0, .ref (B)), (1, .int (i32 (n)))] [] sh g 1 6 _
  refine j_iload_n 1 1 dX9_pass_0 rfl rfl ?_
  refine j_iconst 2 dX9_pass_1 rfl ?_
  refine j_icmp_lt 5 12 dX9_pass_2 rfl rfl hn (r32 (by decide) (by decide)) (fun c_2 => ?_) (fun c_2 => ?_)
  · exact j_throw xI th_X9_pass_12 ⟨Nat.le_of_ble_eq_true rfl, Nat.le_of_ble_eq_true rfl⟩ ⟨rfl, rfl, rfl⟩
  · refine j_iload_n 6 1 dX9_pass_5 rfl rfl ?_
    refine j_sipush 9 dX9_pass_6 rfl (by decide) ?_
    refine j_icmp_le 12 20 dX9_pass_9 rfl rfl hn (r32 (by decide) (by decide)) (fun c_9 => absurd c_9 (by omega)) (fun c_9 => ?_)
    exact j_throw xI th_X9_pass_12 ⟨Nat.le_of_ble_eq_true rfl, Nat.le_of_ble_eq_true rfl⟩ ⟨rfl, rfl, rfl⟩

set_option maxRecDepth 20000 in
theorem c_foretold_bad {w : Wd} {sh : Shp} {g : Mem} {B : Nat} (hB : CxS sh.1 B) {n x : Int} (hn : R32 n) (hx : R32 x) (hb : n < 1 ∨ 600 < n ∨ x < 0 ∨ 11 < x) : CT w mX9_foretold [.ref (B), .int (i32 (n)), .int (i32 (x))] sh g (tQ xI sh g) := by
  refine j_entry (by decide) rfl (Nat.le_of_ble_eq_true rfl) (fun h => by cases h) rfl ?_
  show J w mX9_foretold 0 [(0, .ref (B)), (1, .int (i32 (n))), (2, .int (i32 (x)))] [] sh g 1 6 _
  refine j_iload_n 1 1 dX9_foretold_0 rfl rfl ?_
  refine j_iconst 2 dX9_foretold_1 rfl ?_
  refine j_icmp_lt 5 22 dX9_foretold_2 rfl rfl hn (r32 (by decide) (by decide)) (fun c_2 => ?_) (fun c_2 => ?_)
  · exact j_throw xI th_X9_foretold_22 ⟨Nat.le_of_ble_eq_true rfl, Nat.le_of_ble_eq_true rfl⟩ ⟨rfl, rfl, rfl⟩
  · refine j_iload_n 6 1 dX9_foretold_5 rfl rfl ?_
    refine j_sipush 9 dX9_foretold_6 rfl (by decide) ?_
    refine j_icmp_gt 12 22 dX9_foretold_9 rfl rfl hn (r32 (by decide) (by decide)) (fun c_9 => ?_) (fun c_9 => ?_)
    · exact j_throw xI th_X9_foretold_22 ⟨Nat.le_of_ble_eq_true rfl, Nat.le_of_ble_eq_true rfl⟩ ⟨rfl, rfl, rfl⟩
    · refine j_iload_n 13 2 dX9_foretold_12 rfl rfl ?_
      refine j_if_lt 16 22 dX9_foretold_13 rfl rfl hx (fun c_13 => ?_) (fun c_13 => ?_)
      · exact j_throw xI th_X9_foretold_22 ⟨Nat.le_of_ble_eq_true rfl, Nat.le_of_ble_eq_true rfl⟩ ⟨rfl, rfl, rfl⟩
      · refine j_iload_n 17 2 dX9_foretold_16 rfl rfl ?_
        refine j_bipush 19 dX9_foretold_17 rfl (by decide) ?_
        refine j_icmp_le 22 30 dX9_foretold_19 rfl rfl hx (r32 (by decide) (by decide)) (fun c_19 => absurd c_19 (by omega)) (fun c_19 => ?_)
        exact j_throw xI th_X9_foretold_22 ⟨Nat.le_of_ble_eq_true rfl, Nat.le_of_ble_eq_true rfl⟩ ⟨rfl, rfl, rfl⟩

set_option maxRecDepth 20000 in
theorem c_foremost0 {w : Wd} {sh : Shp} {g : Mem} {B : Nat} {d : Nat → Int} (hB : CxS sh.1 B) (hK : KX g (B + 2) d) {b : Int} (hb : R32 b) (hz : b = 0) : CT w mX9_foremost [.ref (B), .int (i32 (b))] sh g (dQ (some (.int (i32 (s_foremost d 1)))) sh g) := by
  refine j_entry (by decide) rfl (Nat.le_of_ble_eq_true rfl) (fun h => by cases h) rfl ?_
  show J w mX9_foremost 0 [(0, .ref (B)), (1, .int (i32 (b)))] [] sh g 0 0 _
  refine j_aload_n 1 0 dX9_foremost_0 rfl rfl ?_
  refine j_getr 4 dX9_foremost_1 rfl fl_X9_23 hB.cx rfl (fun _ _ => rfl) rfl ?_
  refine j_iload_n 5 1 dX9_foremost_4 rfl rfl ?_
  refine j_if_eq 8 12 dX9_foremost_5 rfl rfl hb (fun c_5 => ?_) (fun c_5 => absurd c_5 (by omega))
  refine j_iconst 13 dX9_foremost_12 rfl ?_
  cases hfw : x_firstWaiting g (B + 2) 1 with
  | none =>
    refine j_callV 16 (As := [.int (i32 (1))]) (kc2 := 0) (ks2 := 0) dX9_foremost_13 rfl mvX1_firstWaiting lk_X9_249 hB.now.ex rfl ⟨Nat.le_of_ble_eq_true rfl, rfl⟩ rfl rfl (Nat.le_of_ble_eq_true rfl) ⟨Nat.le_of_ble_eq_true rfl, Nat.le_of_ble_eq_true rfl⟩ ⟨Nat.le_of_ble_eq_true rfl, Nat.le_of_ble_eq_true rfl⟩ (c_first0 hB.now (r32 (by decide) (by decide)) hfw) x_d (k_d1 ?_)
    refine j_astore_nN 17 (L2 := [(2, .null), (0, .ref (B)), (1, .int (i32 (b)))]) dX9_foremost_16 rfl rfl (Nat.le_of_ble_eq_true rfl) rfl ?_
    refine j_aload_nN 18 0 dX9_foremost_17 rfl rfl ?_
    refine j_ifnonnullN 21 dX9_foremost_18 rfl ?_
    refine j_iconst 22 dX9_foremost_21 rfl ?_
    refine j_goto 29 dX9_foremost_22 rfl ?_
    exact j_iret dX9_foremost_29 rfl (⟨by first | rw [(first_some hK.1 (by decide) hfw).1] | rw [first_none hK.1 (by decide) hfw], rfl, rfl⟩)
  | some r =>
    refine j_callV 16 (As := [.int (i32 (1))]) (kc2 := 0) (ks2 := 0) dX9_foremost_13 rfl mvX1_firstWaiting lk_X9_249 hB.now.ex rfl ⟨Nat.le_of_ble_eq_true rfl, rfl⟩ rfl rfl (Nat.le_of_ble_eq_true rfl) ⟨Nat.le_of_ble_eq_true rfl, Nat.le_of_ble_eq_true rfl⟩ ⟨Nat.le_of_ble_eq_true rfl, Nat.le_of_ble_eq_true rfl⟩ (c_first1 hB.now (r32 (by decide) (by decide)) hfw) x_d (k_d1 ?_)
    refine j_astore_n 17 (L2 := [(2, .ref ((B + 2) + 35 + r)), (0, .ref (B)), (1, .int (i32 (b)))]) dX9_foremost_16 rfl rfl (Nat.le_of_ble_eq_true rfl) rfl ?_
    refine j_aload_n 18 0 dX9_foremost_17 rfl rfl ?_
    refine j_ifnonnull 25 dX9_foremost_18 rfl ?_
    refine j_aload_n 26 0 dX9_foremost_25 rfl rfl ?_
    refine j_geti 29 dX9_foremost_26 rfl fl_X9_252 (hB.now.cl r (first_some hK.1 (by decide) hfw).2.1) rfl rfl (fun r_26 => ?_)
    refine j_top (y := (r : Int)) (hK.1.1.2.2.2.2 r (first_some hK.1 (by decide) hfw).2.1) ?_
    exact j_iret dX9_foremost_29 rfl (⟨by first | rw [(first_some hK.1 (by decide) hfw).1] | rw [first_none hK.1 (by decide) hfw], rfl, rfl⟩)

set_option maxRecDepth 20000 in
theorem c_foremost1 {w : Wd} {sh : Shp} {g : Mem} {B : Nat} {d : Nat → Int} (hB : CxS sh.1 B) (hK : KX g (B + 2) d) {b : Int} (hb : R32 b) (hz : b ≠ 0) : CT w mX9_foremost [.ref (B), .int (i32 (b))] sh g (dQ (some (.int (i32 (s_foremost d 3)))) sh g) := by
  refine j_entry (by decide) rfl (Nat.le_of_ble_eq_true rfl) (fun h => by cases h) rfl ?_
  show J w mX9_foremost 0 [(0, .ref (B)), (1, .int (i32 (b)))] [] sh g 0 0 _
  refine j_aload_n 1 0 dX9_foremost_0 rfl rfl ?_
  refine j_getr 4 dX9_foremost_1 rfl fl_X9_23 hB.cx rfl (fun _ _ => rfl) rfl ?_
  refine j_iload_n 5 1 dX9_foremost_4 rfl rfl ?_
  refine j_if_eq 8 12 dX9_foremost_5 rfl rfl hb (fun c_5 => absurd c_5 (by omega)) (fun c_5 => ?_)
  refine j_iconst 9 dX9_foremost_8 rfl ?_
  refine j_goto 13 dX9_foremost_9 rfl ?_
  cases hfw : x_firstWaiting g (B + 2) 3 with
  | none =>
    refine j_callV 16 (As := [.int (i32 (3))]) (kc2 := 0) (ks2 := 0) dX9_foremost_13 rfl mvX1_firstWaiting lk_X9_249 hB.now.ex rfl ⟨Nat.le_of_ble_eq_true rfl, rfl⟩ rfl rfl (Nat.le_of_ble_eq_true rfl) ⟨Nat.le_of_ble_eq_true rfl, Nat.le_of_ble_eq_true rfl⟩ ⟨Nat.le_of_ble_eq_true rfl, Nat.le_of_ble_eq_true rfl⟩ (c_first0 hB.now (r32 (by decide) (by decide)) hfw) x_d (k_d1 ?_)
    refine j_astore_nN 17 (L2 := [(2, .null), (0, .ref (B)), (1, .int (i32 (b)))]) dX9_foremost_16 rfl rfl (Nat.le_of_ble_eq_true rfl) rfl ?_
    refine j_aload_nN 18 0 dX9_foremost_17 rfl rfl ?_
    refine j_ifnonnullN 21 dX9_foremost_18 rfl ?_
    refine j_iconst 22 dX9_foremost_21 rfl ?_
    refine j_goto 29 dX9_foremost_22 rfl ?_
    exact j_iret dX9_foremost_29 rfl (⟨by first | rw [(first_some hK.1 (by decide) hfw).1] | rw [first_none hK.1 (by decide) hfw], rfl, rfl⟩)
  | some r =>
    refine j_callV 16 (As := [.int (i32 (3))]) (kc2 := 0) (ks2 := 0) dX9_foremost_13 rfl mvX1_firstWaiting lk_X9_249 hB.now.ex rfl ⟨Nat.le_of_ble_eq_true rfl, rfl⟩ rfl rfl (Nat.le_of_ble_eq_true rfl) ⟨Nat.le_of_ble_eq_true rfl, Nat.le_of_ble_eq_true rfl⟩ ⟨Nat.le_of_ble_eq_true rfl, Nat.le_of_ble_eq_true rfl⟩ (c_first1 hB.now (r32 (by decide) (by decide)) hfw) x_d (k_d1 ?_)
    refine j_astore_n 17 (L2 := [(2, .ref ((B + 2) + 35 + r)), (0, .ref (B)), (1, .int (i32 (b)))]) dX9_foremost_16 rfl rfl (Nat.le_of_ble_eq_true rfl) rfl ?_
    refine j_aload_n 18 0 dX9_foremost_17 rfl rfl ?_
    refine j_ifnonnull 25 dX9_foremost_18 rfl ?_
    refine j_aload_n 26 0 dX9_foremost_25 rfl rfl ?_
    refine j_geti 29 dX9_foremost_26 rfl fl_X9_252 (hB.now.cl r (first_some hK.1 (by decide) hfw).2.1) rfl rfl (fun r_26 => ?_)
    refine j_top (y := (r : Int)) (hK.1.1.2.2.2.2 r (first_some hK.1 (by decide) hfw).2.1) ?_
    exact j_iret dX9_foremost_29 rfl (⟨by first | rw [(first_some hK.1 (by decide) hfw).1] | rw [first_none hK.1 (by decide) hfw], rfl, rfl⟩)
