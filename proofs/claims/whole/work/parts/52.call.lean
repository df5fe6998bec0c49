set_option maxRecDepth 20000 in
theorem c_marker0 {w : Wd} {sh : Shp} {g : Mem} {B : Nat} {d : Nat → Int} (hB : CxS sh.1 B) (hK : KX g (B + 2) d) {i : Nat} (hi : (i : Int) < d 1) : CT w mX9_marker [.ref (B), .int (i32 ((i : Int))), .int (i32 (0))] sh g (dQ (some (.int (i32 (d (163 + 2 * i))))) sh g) := by
  have hi3 := hK.2.1.1.2.1
  have h1 : g (B + 2) 1 = d 1 := hK.1.2.1.2.1
  have G := hK.1.2.2.2.2.2.2.1 i (by omega)
  refine j_entry (by decide) rfl (Nat.le_of_ble_eq_true rfl) (fun h => by cases h) rfl ?_
  show J w mX9_marker 0 [(0, .ref (B)), (1, .int (i32 ((i : Int)))), (2, .int (i32 (0)))] [] sh g 1 6 _
  refine j_aload_n 1 0 dX9_marker_0 rfl rfl ?_
  refine j_getr 4 dX9_marker_1 rfl fl_X9_23 hB.cx rfl (fun _ _ => rfl) rfl ?_
  refine j_iload_n 5 1 dX9_marker_4 rfl rfl ?_
  refine j_callV 8 (As := [.int (i32 ((i : Int)))]) (kc2 := 1) (ks2 := 6) dX9_marker_5 rfl mvX1_markerAt lk_X9_179 hB.now.ex rfl ⟨Nat.le_of_ble_eq_true rfl, rfl⟩ rfl rfl (Nat.le_of_ble_eq_true rfl) ⟨Nat.le_of_ble_eq_true rfl, Nat.le_of_ble_eq_true rfl⟩ ⟨Nat.le_of_ble_eq_true rfl, Nat.le_of_ble_eq_true rfl⟩ ((by have h := c_markerAt1 (w := w) hB.now (g := g) (by omega) (x := (i : Int)) (r32 (by omega) (by omega)) (by omega); rw [Int.toNat_natCast] at h; exact h)) x_d (k_d1 ?_)
  refine j_astore_n 9 (L2 := [(3, .ref ((B + 2) + 31 + i)), (0, .ref (B)), (1, .int (i32 ((i : Int)))), (2, .int (i32 (0)))]) dX9_marker_8 rfl rfl (Nat.le_of_ble_eq_true rfl) rfl ?_
  refine j_aload_n 10 0 dX9_marker_9 rfl rfl ?_
  refine j_ifnonnull 21 dX9_marker_10 rfl ?_
  refine j_iload_n 22 3 dX9_marker_21 rfl rfl ?_
  refine j_if_lt 25 30 dX9_marker_22 rfl rfl (r32 (by decide) (by decide)) (fun c_22 => absurd c_22 (by decide)) (fun c_22 => ?_)
  refine j_iload_n 26 3 dX9_marker_25 rfl rfl ?_
  refine j_iconst 27 dX9_marker_26 rfl ?_
  refine j_icmp_le 30 38 dX9_marker_27 rfl rfl (r32 (by decide) (by decide)) (r32 (by decide) (by decide)) (fun c_27 => ?_) (fun c_27 => absurd c_27 (by decide))
  refine j_iload_n 39 3 dX9_marker_38 rfl rfl ?_
  refine j_if_ne 42 49 dX9_marker_39 rfl rfl (r32 (by decide) (by decide)) (fun c_39 => absurd c_39 (by decide)) (fun c_39 => ?_)
  refine j_aload_n 43 0 dX9_marker_42 rfl rfl ?_
  refine j_geti 46 dX9_marker_43 rfl fl_X9_183 (hB.now.mk i (show i < 3 by omega)) rfl rfl (fun r_43 => ?_)
  refine j_goto 53 dX9_marker_46 rfl ?_
  exact j_iret dX9_marker_53 rfl (q_i G.1)

set_option maxRecDepth 20000 in
theorem c_marker1 {w : Wd} {sh : Shp} {g : Mem} {B : Nat} {d : Nat → Int} (hB : CxS sh.1 B) (hK : KX g (B + 2) d) {i : Nat} (hi : (i : Int) < d 1) : CT w mX9_marker [.ref (B), .int (i32 ((i : Int))), .int (i32 (1))] sh g (dQ (some (.int (i32 (d (164 + 2 * i))))) sh g) := by
  have hi3 := hK.2.1.1.2.1
  have h1 : g (B + 2) 1 = d 1 := hK.1.2.1.2.1
  have G := hK.1.2.2.2.2.2.2.1 i (by omega)
  refine j_entry (by decide) rfl (Nat.le_of_ble_eq_true rfl) (fun h => by cases h) rfl ?_
  show J w mX9_marker 0 [(0, .ref (B)), (1, .int (i32 ((i : Int)))), (2, .int (i32 (1)))] [] sh g 1 6 _
  refine j_aload_n 1 0 dX9_marker_0 rfl rfl ?_
  refine j_getr 4 dX9_marker_1 rfl fl_X9_23 hB.cx rfl (fun _ _ => rfl) rfl ?_
  refine j_iload_n 5 1 dX9_marker_4 rfl rfl ?_
  refine j_callV 8 (As := [.int (i32 ((i : Int)))]) (kc2 := 1) (ks2 := 6) dX9_marker_5 rfl mvX1_markerAt lk_X9_179 hB.now.ex rfl ⟨Nat.le_of_ble_eq_true rfl, rfl⟩ rfl rfl (Nat.le_of_ble_eq_true rfl) ⟨Nat.le_of_ble_eq_true rfl, Nat.le_of_ble_eq_true rfl⟩ ⟨Nat.le_of_ble_eq_true rfl, Nat.le_of_ble_eq_true rfl⟩ ((by have h := c_markerAt1 (w := w) hB.now (g := g) (by omega) (x := (i : Int)) (r32 (by omega) (by omega)) (by omega); rw [Int.toNat_natCast] at h; exact h)) x_d (k_d1 ?_)
  refine j_astore_n 9 (L2 := [(3, .ref ((B + 2) + 31 + i)), (0, .ref (B)), (1, .int (i32 ((i : Int)))), (2, .int (i32 (1)))]) dX9_marker_8 rfl rfl (Nat.le_of_ble_eq_true rfl) rfl ?_
  refine j_aload_n 10 0 dX9_marker_9 rfl rfl ?_
  refine j_ifnonnull 21 dX9_marker_10 rfl ?_
  refine j_iload_n 22 3 dX9_marker_21 rfl rfl ?_
  refine j_if_lt 25 30 dX9_marker_22 rfl rfl (r32 (by decide) (by decide)) (fun c_22 => absurd c_22 (by decide)) (fun c_22 => ?_)
  refine j_iload_n 26 3 dX9_marker_25 rfl rfl ?_
  refine j_iconst 27 dX9_marker_26 rfl ?_
  refine j_icmp_le 30 38 dX9_marker_27 rfl rfl (r32 (by decide) (by decide)) (r32 (by decide) (by decide)) (fun c_27 => ?_) (fun c_27 => absurd c_27 (by decide))
  refine j_iload_n 39 3 dX9_marker_38 rfl rfl ?_
  refine j_if_ne 42 49 dX9_marker_39 rfl rfl (r32 (by decide) (by decide)) (fun c_39 => ?_) (fun c_39 => absurd c_39 (by decide))
  refine j_aload_n 50 0 dX9_marker_49 rfl rfl ?_
  refine j_geti 53 dX9_marker_50 rfl fl_X9_186 (hB.now.mk i (show i < 3 by omega)) rfl rfl (fun r_50 => ?_)
  exact j_iret dX9_marker_53 rfl (q_i G.2)

set_option maxRecDepth 20000 in
theorem c_markerB {w : Wd} {sh : Shp} {g : Mem} {B : Nat} {d : Nat → Int} (hB : CxS sh.1 B) (hK : KX g (B + 2) d) {x q : Int} (hx : R32 x) (hq : R32 q) (h0 : ¬ (0 ≤ x ∧ x < d 1)) : CT w mX9_marker [.ref (B), .int (i32 (x)), .int (i32 (q))] sh g (fun r sh2 g2 => r = .inr xB ∧ sh2 = (sh.1, none) ∧ g2 = g) := by
  have hi3 := hK.2.1.1.2.1
  have h1 : g (B + 2) 1 = d 1 := hK.1.2.1.2.1
  refine j_entry (by decide) rfl (Nat.le_of_ble_eq_true rfl) (fun h => by cases h) rfl ?_
  show J w mX9_marker 0 [(0, .ref (B)), (1, .int (i32 (x))), (2, .int (i32 (q)))] [] sh g 1 6 _
  refine j_aload_n 1 0 dX9_marker_0 rfl rfl ?_
  refine j_getr 4 dX9_marker_1 rfl fl_X9_23 hB.cx rfl (fun _ _ => rfl) rfl ?_
  refine j_iload_n 5 1 dX9_marker_4 rfl rfl ?_
  refine j_callV 8 (As := [.int (i32 (x))]) (kc2 := 1) (ks2 := 6) dX9_marker_5 rfl mvX1_markerAt lk_X9_179 hB.now.ex rfl ⟨Nat.le_of_ble_eq_true rfl, rfl⟩ rfl rfl (Nat.le_of_ble_eq_true rfl) ⟨Nat.le_of_ble_eq_true rfl, Nat.le_of_ble_eq_true rfl⟩ ⟨Nat.le_of_ble_eq_true rfl, Nat.le_of_ble_eq_true rfl⟩ (c_markerAt0 hB.now (by omega) hx (by omega)) x_d (k_d1 ?_)
  refine j_astore_nN 9 (L2 := [(3, .null), (0, .ref (B)), (1, .int (i32 (x))), (2, .int (i32 (q)))]) dX9_marker_8 rfl rfl (Nat.le_of_ble_eq_true rfl) rfl ?_
  refine j_aload_nN 10 0 dX9_marker_9 rfl rfl ?_
  refine j_ifnonnullN 13 dX9_marker_10 rfl ?_
  exact j_throw xB th_X9_marker_13 ⟨Nat.le_of_ble_eq_true rfl, Nat.le_of_ble_eq_true rfl⟩ ⟨rfl, rfl, rfl⟩

set_option maxRecDepth 20000 in
theorem c_markerI {w : Wd} {sh : Shp} {g : Mem} {B : Nat} {d : Nat → Int} (hB : CxS sh.1 B) (hK : KX g (B + 2) d) {i : Nat} {q : Int} (hi : (i : Int) < d 1) (hq : R32 q) (hb : q < 0 ∨ 1 < q) : CT w mX9_marker [.ref (B), .int (i32 ((i : Int))), .int (i32 (q))] sh g (fun r sh2 g2 => r = .inr xI ∧ sh2 = (sh.1, none) ∧ g2 = g) := by
  have hi3 := hK.2.1.1.2.1
  have h1 : g (B + 2) 1 = d 1 := hK.1.2.1.2.1
  refine j_entry (by decide) rfl (Nat.le_of_ble_eq_true rfl) (fun h => by cases h) rfl ?_
  show J w mX9_marker 0 [(0, .ref (B)), (1, .int (i32 ((i : Int)))), (2, .int (i32 (q)))] [] sh g 1 6 _
  refine j_aload_n 1 0 dX9_marker_0 rfl rfl ?_
  refine j_getr 4 dX9_marker_1 rfl fl_X9_23 hB.cx rfl (fun _ _ => rfl) rfl ?_
  refine j_iload_n 5 1 dX9_marker_4 rfl rfl ?_
  refine j_callV 8 (As := [.int (i32 ((i : Int)))]) (kc2 := 1) (ks2 := 6) dX9_marker_5 rfl mvX1_markerAt lk_X9_179 hB.now.ex rfl ⟨Nat.le_of_ble_eq_true rfl, rfl⟩ rfl rfl (Nat.le_of_ble_eq_true rfl) ⟨Nat.le_of_ble_eq_true rfl, Nat.le_of_ble_eq_true rfl⟩ ⟨Nat.le_of_ble_eq_true rfl, Nat.le_of_ble_eq_true rfl⟩ ((by have h := c_markerAt1 (w := w) hB.now (g := g) (by omega) (x := (i : Int)) (r32 (by omega) (by omega)) (by omega); rw [Int.toNat_natCast] at h; exact h)) x_d (k_d1 ?_)
  refine j_astore_n 9 (L2 := [(3, .ref ((B + 2) + 31 + i)), (0, .ref (B)), (1, .int (i32 ((i : Int)))), (2, .int (i32 (q)))]) dX9_marker_8 rfl rfl (Nat.le_of_ble_eq_true rfl) rfl ?_
  refine j_aload_n 10 0 dX9_marker_9 rfl rfl ?_
  refine j_ifnonnull 21 dX9_marker_10 rfl ?_
  refine j_iload_n 22 3 dX9_marker_21 rfl rfl ?_
  refine j_if_lt 25 30 dX9_marker_22 rfl rfl hq (fun c_22 => ?_) (fun c_22 => ?_)
  · exact j_throw xI th_X9_marker_30 ⟨Nat.le_of_ble_eq_true rfl, Nat.le_of_ble_eq_true rfl⟩ ⟨rfl, rfl, rfl⟩
  · refine j_iload_n 26 3 dX9_marker_25 rfl rfl ?_
    refine j_iconst 27 dX9_marker_26 rfl ?_
    refine j_icmp_le 30 38 dX9_marker_27 rfl rfl hq (r32 (by decide) (by decide)) (fun c_27 => absurd c_27 (by omega)) (fun c_27 => ?_)
    exact j_throw xI th_X9_marker_30 ⟨Nat.le_of_ble_eq_true rfl, Nat.le_of_ble_eq_true rfl⟩ ⟨rfl, rfl, rfl⟩

set_option maxRecDepth 20000 in
theorem c_call0 {w : Wd} {sh : Shp} {g : Mem} {B : Nat} {d : Nat → Int} (hB : CxS sh.1 B) (hK : KX g (B + 2) d) {i : Nat} (hi : (i : Int) < d 5) : CT w mX9_call [.ref (B), .int (i32 ((i : Int))), .int (i32 (0))] sh g (dQ (some (.int (i32 (d (169 + 14 * i))))) sh g) := by
  have hi5 := hK.2.1.1.2.2.2.2.2.1
  have h5 : g (B + 2) 5 = d 5 := hK.1.2.1.2.2.2.2.2.1
  have T := hK.1.tl (c := i) (by omega) hi
  have hcb := hK.2.1.1.2.2.2.2.2.2.2.2.2 i (by omega)
  have hcb2 := hK.2.1.2.1.2.2.2.2.1 i hi
  have hcr : pw (d (170 + 14 * i)).toNat + d (180 + 14 * i) < 2000000 := enc_lt hcb2.2.2.2.2.2 (by omega)
  have hcp := pw_pos (d (170 + 14 * i)).toNat
  refine j_entry (by decide) rfl (Nat.le_of_ble_eq_true rfl) (fun h => by cases h) rfl ?_
  show J w mX9_call 0 [(0, .ref (B)), (1, .int (i32 ((i : Int)))), (2, .int (i32 (0)))] [] sh g 1 6 _
  refine j_aload_n 1 0 dX9_call_0 rfl rfl ?_
  refine j_getr 4 dX9_call_1 rfl fl_X9_23 hB.cx rfl (fun _ _ => rfl) rfl ?_
  refine j_iload_n 5 1 dX9_call_4 rfl rfl ?_
  refine j_callV 8 (As := [.int (i32 ((i : Int)))]) (kc2 := 1) (ks2 := 6) dX9_call_5 rfl mvX1_callAt lk_X9_189 hB.now.ex rfl ⟨Nat.le_of_ble_eq_true rfl, rfl⟩ rfl rfl (Nat.le_of_ble_eq_true rfl) ⟨Nat.le_of_ble_eq_true rfl, Nat.le_of_ble_eq_true rfl⟩ ⟨Nat.le_of_ble_eq_true rfl, Nat.le_of_ble_eq_true rfl⟩ ((by have h := c_callAt1 (w := w) hB.now (g := g) (by omega) (x := (i : Int)) (r32 (by omega) (by omega)) (by omega); rw [Int.toNat_natCast] at h; exact h)) x_d (k_d1 ?_)
  refine j_astore_n 9 (L2 := [(3, .ref ((B + 2) + 35 + i)), (0, .ref (B)), (1, .int (i32 ((i : Int)))), (2, .int (i32 (0)))]) dX9_call_8 rfl rfl (Nat.le_of_ble_eq_true rfl) rfl ?_
  refine j_aload_n 10 0 dX9_call_9 rfl rfl ?_
  refine j_ifnonnull 21 dX9_call_10 rfl ?_
  refine j_iload_n 22 3 dX9_call_21 rfl rfl ?_
  refine j_if_lt 25 31 dX9_call_22 rfl rfl (r32 (by decide) (by decide)) (fun c_22 => absurd c_22 (by decide)) (fun c_22 => ?_)
  refine j_iload_n 26 3 dX9_call_25 rfl rfl ?_
  refine j_bipush 28 dX9_call_26 rfl (by decide) ?_
  refine j_icmp_le 31 39 dX9_call_28 rfl rfl (r32 (by decide) (by decide)) (r32 (by decide) (by decide)) (fun c_28 => ?_) (fun c_28 => absurd c_28 (by decide))
  refine j_iload_n 40 3 dX9_call_39 rfl rfl ?_
  refine j_tabIn 96 dX9_call_40 (r32 (by decide) (by decide)) (by decide) (by decide) rfl rfl ?_
  refine j_aload_n 97 0 dX9_call_96 rfl rfl ?_
  refine j_geti 100 dX9_call_97 rfl fl_X9_193 (hB.now.cl i (show i < 40 by omega)) rfl rfl (fun r_97 => ?_)
  exact j_iret dX9_call_100 rfl (q_i T.2.1)

set_option maxRecDepth 20000 in
theorem c_call1 {w : Wd} {sh : Shp} {g : Mem} {B : Nat} {d : Nat → Int} (hB : CxS sh.1 B) (hK : KX g (B + 2) d) {i : Nat} (hi : (i : Int) < d 5) : CT w mX9_call [.ref (B), .int (i32 ((i : Int))), .int (i32 (1))] sh g (dQ (some (.int (i32 (d (170 + 14 * i))))) sh g) := by
  have hi5 := hK.2.1.1.2.2.2.2.2.1
  have h5 : g (B + 2) 5 = d 5 := hK.1.2.1.2.2.2.2.2.1
  have T := hK.1.tl (c := i) (by omega) hi
  have hcb := hK.2.1.1.2.2.2.2.2.2.2.2.2 i (by omega)
  have hcb2 := hK.2.1.2.1.2.2.2.2.1 i hi
  have hcr : pw (d (170 + 14 * i)).toNat + d (180 + 14 * i) < 2000000 := enc_lt hcb2.2.2.2.2.2 (by omega)
  have hcp := pw_pos (d (170 + 14 * i)).toNat
  refine j_entry (by decide) rfl (Nat.le_of_ble_eq_true rfl) (fun h => by cases h) rfl ?_
  show J w mX9_call 0 [(0, .ref (B)), (1, .int (i32 ((i : Int)))), (2, .int (i32 (1)))] [] sh g 1 6 _
  refine j_aload_n 1 0 dX9_call_0 rfl rfl ?_
  refine j_getr 4 dX9_call_1 rfl fl_X9_23 hB.cx rfl (fun _ _ => rfl) rfl ?_
  refine j_iload_n 5 1 dX9_call_4 rfl rfl ?_
  refine j_callV 8 (As := [.int (i32 ((i : Int)))]) (kc2 := 1) (ks2 := 6) dX9_call_5 rfl mvX1_callAt lk_X9_189 hB.now.ex rfl ⟨Nat.le_of_ble_eq_true rfl, rfl⟩ rfl rfl (Nat.le_of_ble_eq_true rfl) ⟨Nat.le_of_ble_eq_true rfl, Nat.le_of_ble_eq_true rfl⟩ ⟨Nat.le_of_ble_eq_true rfl, Nat.le_of_ble_eq_true rfl⟩ ((by have h := c_callAt1 (w := w) hB.now (g := g) (by omega) (x := (i : Int)) (r32 (by omega) (by omega)) (by omega); rw [Int.toNat_natCast] at h; exact h)) x_d (k_d1 ?_)
  refine j_astore_n 9 (L2 := [(3, .ref ((B + 2) + 35 + i)), (0, .ref (B)), (1, .int (i32 ((i : Int)))), (2, .int (i32 (1)))]) dX9_call_8 rfl rfl (Nat.le_of_ble_eq_true rfl) rfl ?_
  refine j_aload_n 10 0 dX9_call_9 rfl rfl ?_
  refine j_ifnonnull 21 dX9_call_10 rfl ?_
  refine j_iload_n 22 3 dX9_call_21 rfl rfl ?_
  refine j_if_lt 25 31 dX9_call_22 rfl rfl (r32 (by decide) (by decide)) (fun c_22 => absurd c_22 (by decide)) (fun c_22 => ?_)
  refine j_iload_n 26 3 dX9_call_25 rfl rfl ?_
  refine j_bipush 28 dX9_call_26 rfl (by decide) ?_
  refine j_icmp_le 31 39 dX9_call_28 rfl rfl (r32 (by decide) (by decide)) (r32 (by decide) (by decide)) (fun c_28 => ?_) (fun c_28 => absurd c_28 (by decide))
  refine j_iload_n 40 3 dX9_call_39 rfl rfl ?_
  refine j_tabIn 101 dX9_call_40 (r32 (by decide) (by decide)) (by decide) (by decide) rfl rfl ?_
  refine j_aload_n 102 0 dX9_call_101 rfl rfl ?_
  refine j_geti 105 dX9_call_102 rfl fl_X9_198 (hB.now.cl i (show i < 40 by omega)) rfl rfl (fun r_102 => ?_)
  refine j_top (y := pw (d (170 + 14 * i)).toNat + d (180 + 14 * i)) (T.2.2.1) ?_
  refine j_callS 108 (As := [.int (i32 (pw (d (170 + 14 * i)).toNat + d (180 + 14 * i)))]) (kc2 := 1) (ks2 := 6) dX9_call_105 rfl msX7_lengthOf lk_X9_171 rfl rfl (Nat.le_of_ble_eq_true rfl) ⟨Nat.le_of_ble_eq_true rfl, Nat.le_of_ble_eq_true rfl⟩ ⟨Nat.le_of_ble_eq_true rfl, Nat.le_of_ble_eq_true rfl⟩ (c_lengthOf ⟨by omega, by omega⟩) x_d (k_d1 ?_)
  exact j_iret dX9_call_108 rfl (q_i (by rw [r_len_enc 10 _ _ (by omega) hcb.2.2 hcb2.2.2.2.2.2]; omega))

set_option maxRecDepth 20000 in
theorem c_call2 {w : Wd} {sh : Shp} {g : Mem} {B : Nat} {d : Nat → Int} (hB : CxS sh.1 B) (hK : KX g (B + 2) d) {i : Nat} (hi : (i : Int) < d 5) : CT w mX9_call [.ref (B), .int (i32 ((i : Int))), .int (i32 (2))] sh g (dQ (some (.int (i32 (d (171 + 14 * i))))) sh g) := by
  have hi5 := hK.2.1.1.2.2.2.2.2.1
  have h5 : g (B + 2) 5 = d 5 := hK.1.2.1.2.2.2.2.2.1
  have T := hK.1.tl (c := i) (by omega) hi
  have hcb := hK.2.1.1.2.2.2.2.2.2.2.2.2 i (by omega)
  have hcb2 := hK.2.1.2.1.2.2.2.2.1 i hi
  have hcr : pw (d (170 + 14 * i)).toNat + d (180 + 14 * i) < 2000000 := enc_lt hcb2.2.2.2.2.2 (by omega)
  have hcp := pw_pos (d (170 + 14 * i)).toNat
  refine j_entry (by decide) rfl (Nat.le_of_ble_eq_true rfl) (fun h => by cases h) rfl ?_
  show J w mX9_call 0 [(0, .ref (B)), (1, .int (i32 ((i : Int)))), (2, .int (i32 (2)))] [] sh g 1 6 _
  refine j_aload_n 1 0 dX9_call_0 rfl rfl ?_
  refine j_getr 4 dX9_call_1 rfl fl_X9_23 hB.cx rfl (fun _ _ => rfl) rfl ?_
  refine j_iload_n 5 1 dX9_call_4 rfl rfl ?_
  refine j_callV 8 (As := [.int (i32 ((i : Int)))]) (kc2 := 1) (ks2 := 6) dX9_call_5 rfl mvX1_callAt lk_X9_189 hB.now.ex rfl ⟨Nat.le_of_ble_eq_true rfl, rfl⟩ rfl rfl (Nat.le_of_ble_eq_true rfl) ⟨Nat.le_of_ble_eq_true rfl, Nat.le_of_ble_eq_true rfl⟩ ⟨Nat.le_of_ble_eq_true rfl, Nat.le_of_ble_eq_true rfl⟩ ((by have h := c_callAt1 (w := w) hB.now (g := g) (by omega) (x := (i : Int)) (r32 (by omega) (by omega)) (by omega); rw [Int.toNat_natCast] at h; exact h)) x_d (k_d1 ?_)
  refine j_astore_n 9 (L2 := [(3, .ref ((B + 2) + 35 + i)), (0, .ref (B)), (1, .int (i32 ((i : Int)))), (2, .int (i32 (2)))]) dX9_call_8 rfl rfl (Nat.le_of_ble_eq_true rfl) rfl ?_
  refine j_aload_n 10 0 dX9_call_9 rfl rfl ?_
  refine j_ifnonnull 21 dX9_call_10 rfl ?_
  refine j_iload_n 22 3 dX9_call_21 rfl rfl ?_
  refine j_if_lt 25 31 dX9_call_22 rfl rfl (r32 (by decide) (by decide)) (fun c_22 => absurd c_22 (by decide)) (fun c_22 => ?_)
  refine j_iload_n 26 3 dX9_call_25 rfl rfl ?_
  refine j_bipush 28 dX9_call_26 rfl (by decide) ?_
  refine j_icmp_le 31 39 dX9_call_28 rfl rfl (r32 (by decide) (by decide)) (r32 (by decide) (by decide)) (fun c_28 => ?_) (fun c_28 => absurd c_28 (by decide))
  refine j_iload_n 40 3 dX9_call_39 rfl rfl ?_
  refine j_tabIn 109 dX9_call_40 (r32 (by decide) (by decide)) (by decide) (by decide) rfl rfl ?_
  refine j_aload_n 110 0 dX9_call_109 rfl rfl ?_
  refine j_geti 113 dX9_call_110 rfl fl_X9_199 (hB.now.cl i (show i < 40 by omega)) rfl rfl (fun r_110 => ?_)
  exact j_iret dX9_call_113 rfl (q_i T.2.2.2.1)

set_option maxRecDepth 20000 in
theorem c_call3 {w : Wd} {sh : Shp} {g : Mem} {B : Nat} {d : Nat → Int} (hB : CxS sh.1 B) (hK : KX g (B + 2) d) {i : Nat} (hi : (i : Int) < d 5) : CT w mX9_call [.ref (B), .int (i32 ((i : Int))), .int (i32 (3))] sh g (dQ (some (.int (i32 (d (172 + 14 * i))))) sh g) := by
  have hi5 := hK.2.1.1.2.2.2.2.2.1
  have h5 : g (B + 2) 5 = d 5 := hK.1.2.1.2.2.2.2.2.1
  have T := hK.1.tl (c := i) (by omega) hi
  have hcb := hK.2.1.1.2.2.2.2.2.2.2.2.2 i (by omega)
  have hcb2 := hK.2.1.2.1.2.2.2.2.1 i hi
  have hcr : pw (d (170 + 14 * i)).toNat + d (180 + 14 * i) < 2000000 := enc_lt hcb2.2.2.2.2.2 (by omega)
  have hcp := pw_pos (d (170 + 14 * i)).toNat
  refine j_entry (by decide) rfl (Nat.le_of_ble_eq_true rfl) (fun h => by cases h) rfl ?_
  show J w mX9_call 0 [(0, .ref (B)), (1, .int (i32 ((i : Int)))), (2, .int (i32 (3)))] [] sh g 1 6 _
  refine j_aload_n 1 0 dX9_call_0 rfl rfl ?_
  refine j_getr 4 dX9_call_1 rfl fl_X9_23 hB.cx rfl (fun _ _ => rfl) rfl ?_
  refine j_iload_n 5 1 dX9_call_4 rfl rfl ?_
  refine j_callV 8 (As := [.int (i32 ((i : Int)))]) (kc2 := 1) (ks2 := 6) dX9_call_5 rfl mvX1_callAt lk_X9_189 hB.now.ex rfl ⟨Nat.le_of_ble_eq_true rfl, rfl⟩ rfl rfl (Nat.le_of_ble_eq_true rfl) ⟨Nat.le_of_ble_eq_true rfl, Nat.le_of_ble_eq_true rfl⟩ ⟨Nat.le_of_ble_eq_true rfl, Nat.le_of_ble_eq_true rfl⟩ ((by have h := c_callAt1 (w := w) hB.now (g := g) (by omega) (x := (i : Int)) (r32 (by omega) (by omega)) (by omega); rw [Int.toNat_natCast] at h; exact h)) x_d (k_d1 ?_)
  refine j_astore_n 9 (L2 := [(3, .ref ((B + 2) + 35 + i)), (0, .ref (B)), (1, .int (i32 ((i : Int)))), (2, .int (i32 (3)))]) dX9_call_8 rfl rfl (Nat.le_of_ble_eq_true rfl) rfl ?_
  refine j_aload_n 10 0 dX9_call_9 rfl rfl ?_
  refine j_ifnonnull 21 dX9_call_10 rfl ?_
  refine j_iload_n 22 3 dX9_call_21 rfl rfl ?_
  refine j_if_lt 25 31 dX9_call_22 rfl rfl (r32 (by decide) (by decide)) (fun c_22 => absurd c_22 (by decide)) (fun c_22 => ?_)
  refine j_iload_n 26 3 dX9_call_25 rfl rfl ?_
  refine j_bipush 28 dX9_call_26 rfl (by decide) ?_
  refine j_icmp_le 31 39 dX9_call_28 rfl rfl (r32 (by decide) (by decide)) (r32 (by decide) (by decide)) (fun c_28 => ?_) (fun c_28 => absurd c_28 (by decide))
  refine j_iload_n 40 3 dX9_call_39 rfl rfl ?_
  refine j_tabIn 114 dX9_call_40 (r32 (by decide) (by decide)) (by decide) (by decide) rfl rfl ?_
  refine j_aload_n 115 0 dX9_call_114 rfl rfl ?_
  refine j_geti 118 dX9_call_115 rfl fl_X9_202 (hB.now.cl i (show i < 40 by omega)) rfl rfl (fun r_115 => ?_)
  exact j_iret dX9_call_118 rfl (q_i T.2.2.2.2.1)

set_option maxRecDepth 20000 in
theorem c_call4 {w : Wd} {sh : Shp} {g : Mem} {B : Nat} {d : Nat → Int} (hB : CxS sh.1 B) (hK : KX g (B + 2) d) {i : Nat} (hi : (i : Int) < d 5) : CT w mX9_call [.ref (B), .int (i32 ((i : Int))), .int (i32 (4))] sh g (dQ (some (.int (i32 (d (173 + 14 * i))))) sh g) := by
  have hi5 := hK.2.1.1.2.2.2.2.2.1
  have h5 : g (B + 2) 5 = d 5 := hK.1.2.1.2.2.2.2.2.1
  have T := hK.1.tl (c := i) (by omega) hi
  have hcb := hK.2.1.1.2.2.2.2.2.2.2.2.2 i (by omega)
  have hcb2 := hK.2.1.2.1.2.2.2.2.1 i hi
  have hcr : pw (d (170 + 14 * i)).toNat + d (180 + 14 * i) < 2000000 := enc_lt hcb2.2.2.2.2.2 (by omega)
  have hcp := pw_pos (d (170 + 14 * i)).toNat
  refine j_entry (by decide) rfl (Nat.le_of_ble_eq_true rfl) (fun h => by cases h) rfl ?_
  show J w mX9_call 0 [(0, .ref (B)), (1, .int (i32 ((i : Int)))), (2, .int (i32 (4)))] [] sh g 1 6 _
  refine j_aload_n 1 0 dX9_call_0 rfl rfl ?_
  refine j_getr 4 dX9_call_1 rfl fl_X9_23 hB.cx rfl (fun _ _ => rfl) rfl ?_
  refine j_iload_n 5 1 dX9_call_4 rfl rfl ?_
  refine j_callV 8 (As := [.int (i32 ((i : Int)))]) (kc2 := 1) (ks2 := 6) dX9_call_5 rfl mvX1_callAt lk_X9_189 hB.now.ex rfl ⟨Nat.le_of_ble_eq_true rfl, rfl⟩ rfl rfl (Nat.le_of_ble_eq_true rfl) ⟨Nat.le_of_ble_eq_true rfl, Nat.le_of_ble_eq_true rfl⟩ ⟨Nat.le_of_ble_eq_true rfl, Nat.le_of_ble_eq_true rfl⟩ ((by have h := c_callAt1 (w := w) hB.now (g := g) (by omega) (x := (i : Int)) (r32 (by omega) (by omega)) (by omega); rw [Int.toNat_natCast] at h; exact h)) x_d (k_d1 ?_)
  refine j_astore_n 9 (L2 := [(3, .ref ((B + 2) + 35 + i)), (0, .ref (B)), (1, .int (i32 ((i : Int)))), (2, .int (i32 (4)))]) dX9_call_8 rfl rfl (Nat.le_of_ble_eq_true rfl) rfl ?_
  refine j_aload_n 10 0 dX9_call_9 rfl rfl ?_
  refine j_ifnonnull 21 dX9_call_10 rfl ?_
  refine j_iload_n 22 3 dX9_call_21 rfl rfl ?_
  refine j_if_lt 25 31 dX9_call_22 rfl rfl (r32 (by decide) (by decide)) (fun c_22 => absurd c_22 (by decide)) (fun c_22 => ?_)
  refine j_iload_n 26 3 dX9_call_25 rfl rfl ?_
  refine j_bipush 28 dX9_call_26 rfl (by decide) ?_
  refine j_icmp_le 31 39 dX9_call_28 rfl rfl (r32 (by decide) (by decide)) (r32 (by decide) (by decide)) (fun c_28 => ?_) (fun c_28 => absurd c_28 (by decide))
  refine j_iload_n 40 3 dX9_call_39 rfl rfl ?_
  refine j_tabIn 119 dX9_call_40 (r32 (by decide) (by decide)) (by decide) (by decide) rfl rfl ?_
  refine j_aload_n 120 0 dX9_call_119 rfl rfl ?_
  refine j_geti 123 dX9_call_120 rfl fl_X9_205 (hB.now.cl i (show i < 40 by omega)) rfl rfl (fun r_120 => ?_)
  exact j_iret dX9_call_123 rfl (q_i T.1)

set_option maxRecDepth 20000 in
theorem c_call5 {w : Wd} {sh : Shp} {g : Mem} {B : Nat} {d : Nat → Int} (hB : CxS sh.1 B) (hK : KX g (B + 2) d) {i : Nat} (hi : (i : Int) < d 5) : CT w mX9_call [.ref (B), .int (i32 ((i : Int))), .int (i32 (5))] sh g (dQ (some (.int (i32 (d (174 + 14 * i))))) sh g) := by
  have hi5 := hK.2.1.1.2.2.2.2.2.1
  have h5 : g (B + 2) 5 = d 5 := hK.1.2.1.2.2.2.2.2.1
  have T := hK.1.tl (c := i) (by omega) hi
  have hcb := hK.2.1.1.2.2.2.2.2.2.2.2.2 i (by omega)
  have hcb2 := hK.2.1.2.1.2.2.2.2.1 i hi
  have hcr : pw (d (170 + 14 * i)).toNat + d (180 + 14 * i) < 2000000 := enc_lt hcb2.2.2.2.2.2 (by omega)
  have hcp := pw_pos (d (170 + 14 * i)).toNat
  refine j_entry (by decide) rfl (Nat.le_of_ble_eq_true rfl) (fun h => by cases h) rfl ?_
  show J w mX9_call 0 [(0, .ref (B)), (1, .int (i32 ((i : Int)))), (2, .int (i32 (5)))] [] sh g 1 6 _
  refine j_aload_n 1 0 dX9_call_0 rfl rfl ?_
  refine j_getr 4 dX9_call_1 rfl fl_X9_23 hB.cx rfl (fun _ _ => rfl) rfl ?_
  refine j_iload_n 5 1 dX9_call_4 rfl rfl ?_
  refine j_callV 8 (As := [.int (i32 ((i : Int)))]) (kc2 := 1) (ks2 := 6) dX9_call_5 rfl mvX1_callAt lk_X9_189 hB.now.ex rfl ⟨Nat.le_of_ble_eq_true rfl, rfl⟩ rfl rfl (Nat.le_of_ble_eq_true rfl) ⟨Nat.le_of_ble_eq_true rfl, Nat.le_of_ble_eq_true rfl⟩ ⟨Nat.le_of_ble_eq_true rfl, Nat.le_of_ble_eq_true rfl⟩ ((by have h := c_callAt1 (w := w) hB.now (g := g) (by omega) (x := (i : Int)) (r32 (by omega) (by omega)) (by omega); rw [Int.toNat_natCast] at h; exact h)) x_d (k_d1 ?_)
  refine j_astore_n 9 (L2 := [(3, .ref ((B + 2) + 35 + i)), (0, .ref (B)), (1, .int (i32 ((i : Int)))), (2, .int (i32 (5)))]) dX9_call_8 rfl rfl (Nat.le_of_ble_eq_true rfl) rfl ?_
  refine j_aload_n 10 0 dX9_call_9 rfl rfl ?_
  refine j_ifnonnull 21 dX9_call_10 rfl ?_
  refine j_iload_n 22 3 dX9_call_21 rfl rfl ?_
  refine j_if_lt 25 31 dX9_call_22 rfl rfl (r32 (by decide) (by decide)) (fun c_22 => absurd c_22 (by decide)) (fun c_22 => ?_)
  refine j_iload_n 26 3 dX9_call_25 rfl rfl ?_
  refine j_bipush 28 dX9_call_26 rfl (by decide) ?_
  refine j_icmp_le 31 39 dX9_call_28 rfl rfl (r32 (by decide) (by decide)) (r32 (by decide) (by decide)) (fun c_28 => ?_) (fun c_28 => absurd c_28 (by decide))
  refine j_iload_n 40 3 dX9_call_39 rfl rfl ?_
  refine j_tabIn 124 dX9_call_40 (r32 (by decide) (by decide)) (by decide) (by decide) rfl rfl ?_
  refine j_aload_n 125 0 dX9_call_124 rfl rfl ?_
  refine j_geti 128 dX9_call_125 rfl fl_X9_208 (hB.now.cl i (show i < 40 by omega)) rfl rfl (fun r_125 => ?_)
  exact j_iret dX9_call_128 rfl (q_i T.2.2.2.2.2.2.2.1)

set_option maxRecDepth 20000 in
theorem c_call6 {w : Wd} {sh : Shp} {g : Mem} {B : Nat} {d : Nat → Int} (hB : CxS sh.1 B) (hK : KX g (B + 2) d) {i : Nat} (hi : (i : Int) < d 5) : CT w mX9_call [.ref (B), .int (i32 ((i : Int))), .int (i32 (6))] sh g (dQ (some (.int (i32 (d (175 + 14 * i))))) sh g) := by
  have hi5 := hK.2.1.1.2.2.2.2.2.1
  have h5 : g (B + 2) 5 = d 5 := hK.1.2.1.2.2.2.2.2.1
  have T := hK.1.tl (c := i) (by omega) hi
  have hcb := hK.2.1.1.2.2.2.2.2.2.2.2.2 i (by omega)
  have hcb2 := hK.2.1.2.1.2.2.2.2.1 i hi
  have hcr : pw (d (170 + 14 * i)).toNat + d (180 + 14 * i) < 2000000 := enc_lt hcb2.2.2.2.2.2 (by omega)
  have hcp := pw_pos (d (170 + 14 * i)).toNat
  refine j_entry (by decide) rfl (Nat.le_of_ble_eq_true rfl) (fun h => by cases h) rfl ?_
  show J w mX9_call 0 [(0, .ref (B)), (1, .int (i32 ((i : Int)))), (2, .int (i32 (6)))] [] sh g 1 6 _
  refine j_aload_n 1 0 dX9_call_0 rfl rfl ?_
  refine j_getr 4 dX9_call_1 rfl fl_X9_23 hB.cx rfl (fun _ _ => rfl) rfl ?_
  refine j_iload_n 5 1 dX9_call_4 rfl rfl ?_
  refine j_callV 8 (As := [.int (i32 ((i : Int)))]) (kc2 := 1) (ks2 := 6) dX9_call_5 rfl mvX1_callAt lk_X9_189 hB.now.ex rfl ⟨Nat.le_of_ble_eq_true rfl, rfl⟩ rfl rfl (Nat.le_of_ble_eq_true rfl) ⟨Nat.le_of_ble_eq_true rfl, Nat.le_of_ble_eq_true rfl⟩ ⟨Nat.le_of_ble_eq_true rfl, Nat.le_of_ble_eq_true rfl⟩ ((by have h := c_callAt1 (w := w) hB.now (g := g) (by omega) (x := (i : Int)) (r32 (by omega) (by omega)) (by omega); rw [Int.toNat_natCast] at h; exact h)) x_d (k_d1 ?_)
  refine j_astore_n 9 (L2 := [(3, .ref ((B + 2) + 35 + i)), (0, .ref (B)), (1, .int (i32 ((i : Int)))), (2, .int (i32 (6)))]) dX9_call_8 rfl rfl (Nat.le_of_ble_eq_true rfl) rfl ?_
  refine j_aload_n 10 0 dX9_call_9 rfl rfl ?_
  refine j_ifnonnull 21 dX9_call_10 rfl ?_
  refine j_iload_n 22 3 dX9_call_21 rfl rfl ?_
  refine j_if_lt 25 31 dX9_call_22 rfl rfl (r32 (by decide) (by decide)) (fun c_22 => absurd c_22 (by decide)) (fun c_22 => ?_)
  refine j_iload_n 26 3 dX9_call_25 rfl rfl ?_
  refine j_bipush 28 dX9_call_26 rfl (by decide) ?_
  refine j_icmp_le 31 39 dX9_call_28 rfl rfl (r32 (by decide) (by decide)) (r32 (by decide) (by decide)) (fun c_28 => ?_) (fun c_28 => absurd c_28 (by decide))
  refine j_iload_n 40 3 dX9_call_39 rfl rfl ?_
  refine j_tabIn 129 dX9_call_40 (r32 (by decide) (by decide)) (by decide) (by decide) rfl rfl ?_
  refine j_aload_n 130 0 dX9_call_129 rfl rfl ?_
  refine j_geti 133 dX9_call_130 rfl fl_X9_211 (hB.now.cl i (show i < 40 by omega)) rfl rfl (fun r_130 => ?_)
  exact j_iret dX9_call_133 rfl (q_i T.2.2.2.2.2.2.2.2.1)

set_option maxRecDepth 20000 in
theorem c_call7 {w : Wd} {sh : Shp} {g : Mem} {B : Nat} {d : Nat → Int} (hB : CxS sh.1 B) (hK : KX g (B + 2) d) {i : Nat} (hi : (i : Int) < d 5) : CT w mX9_call [.ref (B), .int (i32 ((i : Int))), .int (i32 (7))] sh g (dQ (some (.int (i32 (d (176 + 14 * i))))) sh g) := by
  have hi5 := hK.2.1.1.2.2.2.2.2.1
  have h5 : g (B + 2) 5 = d 5 := hK.1.2.1.2.2.2.2.2.1
  have T := hK.1.tl (c := i) (by omega) hi
  have hcb := hK.2.1.1.2.2.2.2.2.2.2.2.2 i (by omega)
  have hcb2 := hK.2.1.2.1.2.2.2.2.1 i hi
  have hcr : pw (d (170 + 14 * i)).toNat + d (180 + 14 * i) < 2000000 := enc_lt hcb2.2.2.2.2.2 (by omega)
  have hcp := pw_pos (d (170 + 14 * i)).toNat
  refine j_entry (by decide) rfl (Nat.le_of_ble_eq_true rfl) (fun h => by cases h) rfl ?_
  show J w mX9_call 0 [(0, .ref (B)), (1, .int (i32 ((i : Int)))), (2, .int (i32 (7)))] [] sh g 1 6 _
  refine j_aload_n 1 0 dX9_call_0 rfl rfl ?_
  refine j_getr 4 dX9_call_1 rfl fl_X9_23 hB.cx rfl (fun _ _ => rfl) rfl ?_
  refine j_iload_n 5 1 dX9_call_4 rfl rfl ?_
  refine j_callV 8 (As := [.int (i32 ((i : Int)))]) (kc2 := 1) (ks2 := 6) dX9_call_5 rfl mvX1_callAt lk_X9_189 hB.now.ex rfl ⟨Nat.le_of_ble_eq_true rfl, rfl⟩ rfl rfl (Nat.le_of_ble_eq_true rfl) ⟨Nat.le_of_ble_eq_true rfl, Nat.le_of_ble_eq_true rfl⟩ ⟨Nat.le_of_ble_eq_true rfl, Nat.le_of_ble_eq_true rfl⟩ ((by have h := c_callAt1 (w := w) hB.now (g := g) (by omega) (x := (i : Int)) (r32 (by omega) (by omega)) (by omega); rw [Int.toNat_natCast] at h; exact h)) x_d (k_d1 ?_)
  refine j_astore_n 9 (L2 := [(3, .ref ((B + 2) + 35 + i)), (0, .ref (B)), (1, .int (i32 ((i : Int)))), (2, .int (i32 (7)))]) dX9_call_8 rfl rfl (Nat.le_of_ble_eq_true rfl) rfl ?_
  refine j_aload_n 10 0 dX9_call_9 rfl rfl ?_
  refine j_ifnonnull 21 dX9_call_10 rfl ?_
  refine j_iload_n 22 3 dX9_call_21 rfl rfl ?_
  refine j_if_lt 25 31 dX9_call_22 rfl rfl (r32 (by decide) (by decide)) (fun c_22 => absurd c_22 (by decide)) (fun c_22 => ?_)
  refine j_iload_n 26 3 dX9_call_25 rfl rfl ?_
  refine j_bipush 28 dX9_call_26 rfl (by decide) ?_
  refine j_icmp_le 31 39 dX9_call_28 rfl rfl (r32 (by decide) (by decide)) (r32 (by decide) (by decide)) (fun c_28 => ?_) (fun c_28 => absurd c_28 (by decide))
  refine j_iload_n 40 3 dX9_call_39 rfl rfl ?_
  refine j_tabIn 134 dX9_call_40 (r32 (by decide) (by decide)) (by decide) (by decide) rfl rfl ?_
  refine j_aload_n 135 0 dX9_call_134 rfl rfl ?_
  refine j_geti 138 dX9_call_135 rfl fl_X9_214 (hB.now.cl i (show i < 40 by omega)) rfl rfl (fun r_135 => ?_)
  exact j_iret dX9_call_138 rfl (q_i T.2.2.2.2.2.2.2.2.2.1)

set_option maxRecDepth 20000 in
theorem c_call8 {w : Wd} {sh : Shp} {g : Mem} {B : Nat} {d : Nat → Int} (hB : CxS sh.1 B) (hK : KX g (B + 2) d) {i : Nat} (hi : (i : Int) < d 5) : CT w mX9_call [.ref (B), .int (i32 ((i : Int))), .int (i32 (8))] sh g (dQ (some (.int (i32 (d (177 + 14 * i))))) sh g) := by
  have hi5 := hK.2.1.1.2.2.2.2.2.1
  have h5 : g (B + 2) 5 = d 5 := hK.1.2.1.2.2.2.2.2.1
  have T := hK.1.tl (c := i) (by omega) hi
  have hcb := hK.2.1.1.2.2.2.2.2.2.2.2.2 i (by omega)
  have hcb2 := hK.2.1.2.1.2.2.2.2.1 i hi
  have hcr : pw (d (170 + 14 * i)).toNat + d (180 + 14 * i) < 2000000 := enc_lt hcb2.2.2.2.2.2 (by omega)
  have hcp := pw_pos (d (170 + 14 * i)).toNat
  refine j_entry (by decide) rfl (Nat.le_of_ble_eq_true rfl) (fun h => by cases h) rfl ?_
  show J w mX9_call 0 [(0, .ref (B)), (1, .int (i32 ((i : Int)))), (2, .int (i32 (8)))] [] sh g 1 6 _
  refine j_aload_n 1 0 dX9_call_0 rfl rfl ?_
  refine j_getr 4 dX9_call_1 rfl fl_X9_23 hB.cx rfl (fun _ _ => rfl) rfl ?_
  refine j_iload_n 5 1 dX9_call_4 rfl rfl ?_
  refine j_callV 8 (As := [.int (i32 ((i : Int)))]) (kc2 := 1) (ks2 := 6) dX9_call_5 rfl mvX1_callAt lk_X9_189 hB.now.ex rfl ⟨Nat.le_of_ble_eq_true rfl, rfl⟩ rfl rfl (Nat.le_of_ble_eq_true rfl) ⟨Nat.le_of_ble_eq_true rfl, Nat.le_of_ble_eq_true rfl⟩ ⟨Nat.le_of_ble_eq_true rfl, Nat.le_of_ble_eq_true rfl⟩ ((by have h := c_callAt1 (w := w) hB.now (g := g) (by omega) (x := (i : Int)) (r32 (by omega) (by omega)) (by omega); rw [Int.toNat_natCast] at h; exact h)) x_d (k_d1 ?_)
  refine j_astore_n 9 (L2 := [(3, .ref ((B + 2) + 35 + i)), (0, .ref (B)), (1, .int (i32 ((i : Int)))), (2, .int (i32 (8)))]) dX9_call_8 rfl rfl (Nat.le_of_ble_eq_true rfl) rfl ?_
  refine j_aload_n 10 0 dX9_call_9 rfl rfl ?_
  refine j_ifnonnull 21 dX9_call_10 rfl ?_
  refine j_iload_n 22 3 dX9_call_21 rfl rfl ?_
  refine j_if_lt 25 31 dX9_call_22 rfl rfl (r32 (by decide) (by decide)) (fun c_22 => absurd c_22 (by decide)) (fun c_22 => ?_)
  refine j_iload_n 26 3 dX9_call_25 rfl rfl ?_
  refine j_bipush 28 dX9_call_26 rfl (by decide) ?_
  refine j_icmp_le 31 39 dX9_call_28 rfl rfl (r32 (by decide) (by decide)) (r32 (by decide) (by decide)) (fun c_28 => ?_) (fun c_28 => absurd c_28 (by decide))
  refine j_iload_n 40 3 dX9_call_39 rfl rfl ?_
  refine j_tabIn 139 dX9_call_40 (r32 (by decide) (by decide)) (by decide) (by decide) rfl rfl ?_
  refine j_aload_n 140 0 dX9_call_139 rfl rfl ?_
  refine j_geti 143 dX9_call_140 rfl fl_X9_217 (hB.now.cl i (show i < 40 by omega)) rfl rfl (fun r_140 => ?_)
  exact j_iret dX9_call_143 rfl (q_i T.2.2.2.2.2.2.2.2.2.2.1)

set_option maxRecDepth 20000 in
theorem c_call9 {w : Wd} {sh : Shp} {g : Mem} {B : Nat} {d : Nat → Int} (hB : CxS sh.1 B) (hK : KX g (B + 2) d) {i : Nat} (hi : (i : Int) < d 5) : CT w mX9_call [.ref (B), .int (i32 ((i : Int))), .int (i32 (9))] sh g (dQ (some (.int (i32 (d (178 + 14 * i))))) sh g) := by
  have hi5 := hK.2.1.1.2.2.2.2.2.1
  have h5 : g (B + 2) 5 = d 5 := hK.1.2.1.2.2.2.2.2.1
  have T := hK.1.tl (c := i) (by omega) hi
  have hcb := hK.2.1.1.2.2.2.2.2.2.2.2.2 i (by omega)
  have hcb2 := hK.2.1.2.1.2.2.2.2.1 i hi
  have hcr : pw (d (170 + 14 * i)).toNat + d (180 + 14 * i) < 2000000 := enc_lt hcb2.2.2.2.2.2 (by omega)
  have hcp := pw_pos (d (170 + 14 * i)).toNat
  refine j_entry (by decide) rfl (Nat.le_of_ble_eq_true rfl) (fun h => by cases h) rfl ?_
  show J w mX9_call 0 [(0, .ref (B)), (1, .int (i32 ((i : Int)))), (2, .int (i32 (9)))] [] sh g 1 6 _
  refine j_aload_n 1 0 dX9_call_0 rfl rfl ?_
  refine j_getr 4 dX9_call_1 rfl fl_X9_23 hB.cx rfl (fun _ _ => rfl) rfl ?_
  refine j_iload_n 5 1 dX9_call_4 rfl rfl ?_
  refine j_callV 8 (As := [.int (i32 ((i : Int)))]) (kc2 := 1) (ks2 := 6) dX9_call_5 rfl mvX1_callAt lk_X9_189 hB.now.ex rfl ⟨Nat.le_of_ble_eq_true rfl, rfl⟩ rfl rfl (Nat.le_of_ble_eq_true rfl) ⟨Nat.le_of_ble_eq_true rfl, Nat.le_of_ble_eq_true rfl⟩ ⟨Nat.le_of_ble_eq_true rfl, Nat.le_of_ble_eq_true rfl⟩ ((by have h := c_callAt1 (w := w) hB.now (g := g) (by omega) (x := (i : Int)) (r32 (by omega) (by omega)) (by omega); rw [Int.toNat_natCast] at h; exact h)) x_d (k_d1 ?_)
  refine j_astore_n 9 (L2 := [(3, .ref ((B + 2) + 35 + i)), (0, .ref (B)), (1, .int (i32 ((i : Int)))), (2, .int (i32 (9)))]) dX9_call_8 rfl rfl (Nat.le_of_ble_eq_true rfl) rfl ?_
  refine j_aload_n 10 0 dX9_call_9 rfl rfl ?_
  refine j_ifnonnull 21 dX9_call_10 rfl ?_
  refine j_iload_n 22 3 dX9_call_21 rfl rfl ?_
  refine j_if_lt 25 31 dX9_call_22 rfl rfl (r32 (by decide) (by decide)) (fun c_22 => absurd c_22 (by decide)) (fun c_22 => ?_)
  refine j_iload_n 26 3 dX9_call_25 rfl rfl ?_
  refine j_bipush 28 dX9_call_26 rfl (by decide) ?_
  refine j_icmp_le 31 39 dX9_call_28 rfl rfl (r32 (by decide) (by decide)) (r32 (by decide) (by decide)) (fun c_28 => ?_) (fun c_28 => absurd c_28 (by decide))
  refine j_iload_n 40 3 dX9_call_39 rfl rfl ?_
  refine j_tabIn 144 dX9_call_40 (r32 (by decide) (by decide)) (by decide) (by decide) rfl rfl ?_
  refine j_aload_n 145 0 dX9_call_144 rfl rfl ?_
  refine j_geti 148 dX9_call_145 rfl fl_X9_220 (hB.now.cl i (show i < 40 by omega)) rfl rfl (fun r_145 => ?_)
  exact j_iret dX9_call_148 rfl (q_i T.2.2.2.2.2.2.2.2.2.2.2)

set_option maxRecDepth 20000 in
theorem c_call10 {w : Wd} {sh : Shp} {g : Mem} {B : Nat} {d : Nat → Int} (hB : CxS sh.1 B) (hK : KX g (B + 2) d) {i : Nat} (hi : (i : Int) < d 5) : CT w mX9_call [.ref (B), .int (i32 ((i : Int))), .int (i32 (10))] sh g (dQ (some (.int (i32 (d (179 + 14 * i))))) sh g) := by
  have hi5 := hK.2.1.1.2.2.2.2.2.1
  have h5 : g (B + 2) 5 = d 5 := hK.1.2.1.2.2.2.2.2.1
  have T := hK.1.tl (c := i) (by omega) hi
  have hcb := hK.2.1.1.2.2.2.2.2.2.2.2.2 i (by omega)
  have hcb2 := hK.2.1.2.1.2.2.2.2.1 i hi
  have hcr : pw (d (170 + 14 * i)).toNat + d (180 + 14 * i) < 2000000 := enc_lt hcb2.2.2.2.2.2 (by omega)
  have hcp := pw_pos (d (170 + 14 * i)).toNat
  refine j_entry (by decide) rfl (Nat.le_of_ble_eq_true rfl) (fun h => by cases h) rfl ?_
  show J w mX9_call 0 [(0, .ref (B)), (1, .int (i32 ((i : Int)))), (2, .int (i32 (10)))] [] sh g 1 6 _
  refine j_aload_n 1 0 dX9_call_0 rfl rfl ?_
  refine j_getr 4 dX9_call_1 rfl fl_X9_23 hB.cx rfl (fun _ _ => rfl) rfl ?_
  refine j_iload_n 5 1 dX9_call_4 rfl rfl ?_
  refine j_callV 8 (As := [.int (i32 ((i : Int)))]) (kc2 := 1) (ks2 := 6) dX9_call_5 rfl mvX1_callAt lk_X9_189 hB.now.ex rfl ⟨Nat.le_of_ble_eq_true rfl, rfl⟩ rfl rfl (Nat.le_of_ble_eq_true rfl) ⟨Nat.le_of_ble_eq_true rfl, Nat.le_of_ble_eq_true rfl⟩ ⟨Nat.le_of_ble_eq_true rfl, Nat.le_of_ble_eq_true rfl⟩ ((by have h := c_callAt1 (w := w) hB.now (g := g) (by omega) (x := (i : Int)) (r32 (by omega) (by omega)) (by omega); rw [Int.toNat_natCast] at h; exact h)) x_d (k_d1 ?_)
  refine j_astore_n 9 (L2 := [(3, .ref ((B + 2) + 35 + i)), (0, .ref (B)), (1, .int (i32 ((i : Int)))), (2, .int (i32 (10)))]) dX9_call_8 rfl rfl (Nat.le_of_ble_eq_true rfl) rfl ?_
  refine j_aload_n 10 0 dX9_call_9 rfl rfl ?_
  refine j_ifnonnull 21 dX9_call_10 rfl ?_
  refine j_iload_n 22 3 dX9_call_21 rfl rfl ?_
  refine j_if_lt 25 31 dX9_call_22 rfl rfl (r32 (by decide) (by decide)) (fun c_22 => absurd c_22 (by decide)) (fun c_22 => ?_)
  refine j_iload_n 26 3 dX9_call_25 rfl rfl ?_
  refine j_bipush 28 dX9_call_26 rfl (by decide) ?_
  refine j_icmp_le 31 39 dX9_call_28 rfl rfl (r32 (by decide) (by decide)) (r32 (by decide) (by decide)) (fun c_28 => ?_) (fun c_28 => absurd c_28 (by decide))
  refine j_iload_n 40 3 dX9_call_39 rfl rfl ?_
  refine j_tabOut 149 dX9_call_40 (r32 (by decide) (by decide)) (Or.inr (by decide)) rfl ?_
  refine j_aload_n 150 1 dX9_call_149 rfl rfl ?_
  refine j_getr 153 dX9_call_150 rfl fl_X9_23 hB.cx rfl (fun _ _ => rfl) rfl ?_
  refine j_iload_n 154 2 dX9_call_153 rfl rfl ?_
  refine j_callV 157 (As := [.int (i32 ((i : Int)))]) (kc2 := 1) (ks2 := 6) dX9_call_154 rfl mvX1_registerOf lk_X9_221 hB.now.ex rfl ⟨Nat.le_of_ble_eq_true rfl, rfl⟩ rfl rfl (Nat.le_of_ble_eq_true rfl) ⟨Nat.le_of_ble_eq_true rfl, Nat.le_of_ble_eq_true rfl⟩ ⟨Nat.le_of_ble_eq_true rfl, Nat.le_of_ble_eq_true rfl⟩ (c_registerOf hB.now hK.1.1 (r32 (by omega) (by omega))) x_d (k_d1 ?_)
  exact j_iret dX9_call_157 rfl (q_i (rel_registerOf hK.1 hK.2.1 hi))

set_option maxRecDepth 20000 in
theorem c_callB {w : Wd} {sh : Shp} {g : Mem} {B : Nat} {d : Nat → Int} (hB : CxS sh.1 B) (hK : KX g (B + 2) d) {x q : Int} (hx : R32 x) (hq : R32 q) (h0 : ¬ (0 ≤ x ∧ x < d 5)) : CT w mX9_call [.ref (B), .int (i32 (x)), .int (i32 (q))] sh g (fun r sh2 g2 => r = .inr xB ∧ sh2 = (sh.1, none) ∧ g2 = g) := by
  have hi5 := hK.2.1.1.2.2.2.2.2.1
  have h5 : g (B + 2) 5 = d 5 := hK.1.2.1.2.2.2.2.2.1
  refine j_entry (by decide) rfl (Nat.le_of_ble_eq_true rfl) (fun h => by cases h) rfl ?_
  show J w mX9_call 0 [(0, .ref (B)), (1, .int (i32 (x))), (2, .int (i32 (q)))] [] sh g 1 6 _
  refine j_aload_n 1 0 dX9_call_0 rfl rfl ?_
  refine j_getr 4 dX9_call_1 rfl fl_X9_23 hB.cx rfl (fun _ _ => rfl) rfl ?_
  refine j_iload_n 5 1 dX9_call_4 rfl rfl ?_
  refine j_callV 8 (As := [.int (i32 (x))]) (kc2 := 1) (ks2 := 6) dX9_call_5 rfl mvX1_callAt lk_X9_189 hB.now.ex rfl ⟨Nat.le_of_ble_eq_true rfl, rfl⟩ rfl rfl (Nat.le_of_ble_eq_true rfl) ⟨Nat.le_of_ble_eq_true rfl, Nat.le_of_ble_eq_true rfl⟩ ⟨Nat.le_of_ble_eq_true rfl, Nat.le_of_ble_eq_true rfl⟩ (c_callAt0 hB.now (by omega) hx (by omega)) x_d (k_d1 ?_)
  refine j_astore_nN 9 (L2 := [(3, .null), (0, .ref (B)), (1, .int (i32 (x))), (2, .int (i32 (q)))]) dX9_call_8 rfl rfl (Nat.le_of_ble_eq_true rfl) rfl ?_
  refine j_aload_nN 10 0 dX9_call_9 rfl rfl ?_
  refine j_ifnonnullN 13 dX9_call_10 rfl ?_
  exact j_throw xB th_X9_call_13 ⟨Nat.le_of_ble_eq_true rfl, Nat.le_of_ble_eq_true rfl⟩ ⟨rfl, rfl, rfl⟩

set_option maxRecDepth 20000 in
theorem c_callI {w : Wd} {sh : Shp} {g : Mem} {B : Nat} {d : Nat → Int} (hB : CxS sh.1 B) (hK : KX g (B + 2) d) {i : Nat} {q : Int} (hi : (i : Int) < d 5) (hq : R32 q) (hb : q < 0 ∨ 10 < q) : CT w mX9_call [.ref (B), .int (i32 ((i : Int))), .int (i32 (q))] sh g (fun r sh2 g2 => r = .inr xI ∧ sh2 = (sh.1, none) ∧ g2 = g) := by
  have hi5 := hK.2.1.1.2.2.2.2.2.1
  have h5 : g (B + 2) 5 = d 5 := hK.1.2.1.2.2.2.2.2.1
  refine j_entry (by decide) rfl (Nat.le_of_ble_eq_true rfl) (fun h => by cases h) rfl ?_
  show J w mX9_call 0 [(0, .ref (B)), (1, .int (i32 ((i : Int)))), (2, .int (i32 (q)))] [] sh g 1 6 _
  refine j_aload_n 1 0 dX9_call_0 rfl rfl ?_
  refine j_getr 4 dX9_call_1 rfl fl_X9_23 hB.cx rfl (fun _ _ => rfl) rfl ?_
  refine j_iload_n 5 1 dX9_call_4 rfl rfl ?_
  refine j_callV 8 (As := [.int (i32 ((i : Int)))]) (kc2 := 1) (ks2 := 6) dX9_call_5 rfl mvX1_callAt lk_X9_189 hB.now.ex rfl ⟨Nat.le_of_ble_eq_true rfl, rfl⟩ rfl rfl (Nat.le_of_ble_eq_true rfl) ⟨Nat.le_of_ble_eq_true rfl, Nat.le_of_ble_eq_true rfl⟩ ⟨Nat.le_of_ble_eq_true rfl, Nat.le_of_ble_eq_true rfl⟩ ((by have h := c_callAt1 (w := w) hB.now (g := g) (by omega) (x := (i : Int)) (r32 (by omega) (by omega)) (by omega); rw [Int.toNat_natCast] at h; exact h)) x_d (k_d1 ?_)
  refine j_astore_n 9 (L2 := [(3, .ref ((B + 2) + 35 + i)), (0, .ref (B)), (1, .int (i32 ((i : Int)))), (2, .int (i32 (q)))]) dX9_call_8 rfl rfl (Nat.le_of_ble_eq_true rfl) rfl ?_
  refine j_aload_n 10 0 dX9_call_9 rfl rfl ?_
  refine j_ifnonnull 21 dX9_call_10 rfl ?_
  refine j_iload_n 22 3 dX9_call_21 rfl rfl ?_
  refine j_if_lt 25 31 dX9_call_22 rfl rfl hq (fun c_22 => ?_) (fun c_22 => ?_)
  · exact j_throw xI th_X9_call_31 ⟨Nat.le_of_ble_eq_true rfl, Nat.le_of_ble_eq_true rfl⟩ ⟨rfl, rfl, rfl⟩
  · refine j_iload_n 26 3 dX9_call_25 rfl rfl ?_
    refine j_bipush 28 dX9_call_26 rfl (by decide) ?_
    refine j_icmp_le 31 39 dX9_call_28 rfl rfl hq (r32 (by decide) (by decide)) (fun c_28 => absurd c_28 (by omega)) (fun c_28 => ?_)
    exact j_throw xI th_X9_call_31 ⟨Nat.le_of_ble_eq_true rfl, Nat.le_of_ble_eq_true rfl⟩ ⟨rfl, rfl, rfl⟩
