set_option maxRecDepth 20000 in
theorem c_rule19 {w : Wd} {sh : Shp} {g : Mem} {B : Nat} {d : Nat → Int} (hB : CxS sh.1 B) (hK : KX g (B + 2) d) {c : Nat} {hist : Nat → (Nat → Int)} (hH : HX g (B + 152) hist c) {v1 : Int} (hv1 : 1 ≤ v1) (hv2 : v1 ≤ most 19) : CT w mX9_rule [.ref (B), .int (i32 (19)), .int (i32 (v1))] sh g (iQ sh (fun z g2 => z = d 19 ∧ KX g2 (B + 2) (ud d 19 v1) ∧ HX g2 (B + 152) (push d hist) (if c < 8 then c + 1 else 8) ∧ ∀ a, a < B + 2 ∨ (B + 77 ≤ a ∧ a < B + 152) ∨ B + 754 ≤ a → g2 a = g a)) := by
  have hH0 := hH
  obtain ⟨h8, h2, hi, v, hv8, hv, hr⟩ := hH0
  refine j_entry (by decide) rfl (Nat.le_of_ble_eq_true rfl) (fun h => by cases h) rfl ?_
  show J w mX9_rule 0 [(0, .ref (B)), (1, .int (i32 (19))), (2, .int (i32 (v1)))] [] sh g 1 6 _
  refine j_iload_n 1 2 dX9_rule_0 rfl rfl ?_
  refine j_iconst 2 dX9_rule_1 rfl ?_
  refine j_icmp_lt 5 13 dX9_rule_2 rfl rfl (by have := most_r 19; exact ⟨by omega, by omega⟩) (r32 (by decide) (by decide)) (fun c_2 => absurd c_2 (by omega)) (fun c_2 => ?_)
  refine j_iload_n 6 2 dX9_rule_5 rfl rfl ?_
  refine j_iload_n 7 1 dX9_rule_6 rfl rfl ?_
  refine j_callS 10 (As := [.int (i32 (19))]) (kc2 := 1) (ks2 := 6) dX9_rule_7 rfl msX9_mostOf lk_X9_280 rfl rfl (Nat.le_of_ble_eq_true rfl) ⟨Nat.le_of_ble_eq_true rfl, Nat.le_of_ble_eq_true rfl⟩ ⟨Nat.le_of_ble_eq_true rfl, Nat.le_of_ble_eq_true rfl⟩ (c_mostOf (r32 (by decide) (by decide))) x_d (k_d1 ?_)
  refine j_icmp_le 13 21 dX9_rule_10 rfl rfl (by have := most_r 19; exact ⟨by omega, by omega⟩) (r32 (by decide) (by decide)) (fun c_10 => ?_) (fun c_10 => absurd c_10 (by omega))
  refine j_aload_n 22 0 dX9_rule_21 rfl rfl ?_
  refine j_getr 25 dX9_rule_22 rfl fl_X9_33 hB.cx rfl (fun _ _ => rfl) rfl ?_
  refine j_aload_n 26 0 dX9_rule_25 rfl rfl ?_
  refine j_getr 29 dX9_rule_26 rfl fl_X9_23 hB.cx rfl (fun _ _ => rfl) rfl ?_
  refine j_callV 32 (As := [.ref ((B + 2))]) (kc2 := 1) (ks2 := 6) dX9_rule_29 rfl mvX3_keep lk_X9_56 hB.his.hs rfl ⟨Nat.le_of_ble_eq_true rfl, rfl⟩ rfl rfl (Nat.le_of_ble_eq_true rfl) ⟨Nat.le_of_ble_eq_true rfl, Nat.le_of_ble_eq_true rfl⟩ ⟨Nat.le_of_ble_eq_true rfl, Nat.le_of_ble_eq_true rfl⟩ (c_keep hB.his hB.now hv h2 h8 hv8 (by omega)) x_v (k_v fun g_29 h_29 => ?_)
  obtain ⟨gk, hC, hg2⟩ := h_29
  obtain ⟨hH2, hfr⟩ := HX.keep hH hv (by omega) hK hC
  rw [← hg2] at hH2 hfr
  have hK2 : KX g_29 (B + 2) d := hK.rows (fun a h1 h2 => hfr a (by omega))
  refine j_aload_n 33 0 dX9_rule_32 rfl rfl ?_
  refine j_getr 36 dX9_rule_33 rfl fl_X9_23 hB.cx rfl (fun _ _ => rfl) rfl ?_
  refine j_iload_n 37 1 dX9_rule_36 rfl rfl ?_
  refine j_iload_n 38 2 dX9_rule_37 rfl rfl ?_
  refine j_callV 41 (As := [.int (i32 (19)), .int (i32 (v1))]) (kc2 := 1) (ks2 := 6) dX9_rule_38 rfl mvX1_setRule lk_X9_283 hB.now.ex rfl ⟨Nat.le_of_ble_eq_true rfl, rfl⟩ rfl rfl (Nat.le_of_ble_eq_true rfl) ⟨Nat.le_of_ble_eq_true rfl, Nat.le_of_ble_eq_true rfl⟩ ⟨Nat.le_of_ble_eq_true rfl, Nat.le_of_ble_eq_true rfl⟩ (c_setRule19 hB.now (by have := most_r 19; exact ⟨by omega, by omega⟩)) x_d (k_d1 ?_)
  exact j_iret dX9_rule_41 rfl (⟨_, rfl, rfl, hK2.1.2.1.2.2.2.2.2.2.2.1, KX.rule (q := 19) hK2 (by decide) (by omega) hv2, hH2.rows (fun a h1 h2 => up2_row (by omega)), fun a ha => (up2_row (by omega)).trans (hfr a (by omega))⟩)

set_option maxRecDepth 20000 in
theorem c_rule20 {w : Wd} {sh : Shp} {g : Mem} {B : Nat} {d : Nat → Int} (hB : CxS sh.1 B) (hK : KX g (B + 2) d) {c : Nat} {hist : Nat → (Nat → Int)} (hH : HX g (B + 152) hist c) {v1 : Int} (hv1 : 1 ≤ v1) (hv2 : v1 ≤ most 20) : CT w mX9_rule [.ref (B), .int (i32 (20)), .int (i32 (v1))] sh g (iQ sh (fun z g2 => z = d 20 ∧ KX g2 (B + 2) (ud d 20 v1) ∧ HX g2 (B + 152) (push d hist) (if c < 8 then c + 1 else 8) ∧ ∀ a, a < B + 2 ∨ (B + 77 ≤ a ∧ a < B + 152) ∨ B + 754 ≤ a → g2 a = g a)) := by
  have hH0 := hH
  obtain ⟨h8, h2, hi, v, hv8, hv, hr⟩ := hH0
  refine j_entry (by decide) rfl (Nat.le_of_ble_eq_true rfl) (fun h => by cases h) rfl ?_
  show J w mX9_rule 0 [(0, .ref (B)), (1, .int (i32 (20))), (2, .int (i32 (v1)))] [] sh g 1 6 _
  refine j_iload_n 1 2 dX9_rule_0 rfl rfl ?_
  refine j_iconst 2 dX9_rule_1 rfl ?_
  refine j_icmp_lt 5 13 dX9_rule_2 rfl rfl (by have := most_r 20; exact ⟨by omega, by omega⟩) (r32 (by decide) (by decide)) (fun c_2 => absurd c_2 (by omega)) (fun c_2 => ?_)
  refine j_iload_n 6 2 dX9_rule_5 rfl rfl ?_
  refine j_iload_n 7 1 dX9_rule_6 rfl rfl ?_
  refine j_callS 10 (As := [.int (i32 (20))]) (kc2 := 1) (ks2 := 6) dX9_rule_7 rfl msX9_mostOf lk_X9_280 rfl rfl (Nat.le_of_ble_eq_true rfl) ⟨Nat.le_of_ble_eq_true rfl, Nat.le_of_ble_eq_true rfl⟩ ⟨Nat.le_of_ble_eq_true rfl, Nat.le_of_ble_eq_true rfl⟩ (c_mostOf (r32 (by decide) (by decide))) x_d (k_d1 ?_)
  refine j_icmp_le 13 21 dX9_rule_10 rfl rfl (by have := most_r 20; exact ⟨by omega, by omega⟩) (r32 (by decide) (by decide)) (fun c_10 => ?_) (fun c_10 => absurd c_10 (by omega))
  refine j_aload_n 22 0 dX9_rule_21 rfl rfl ?_
  refine j_getr 25 dX9_rule_22 rfl fl_X9_33 hB.cx rfl (fun _ _ => rfl) rfl ?_
  refine j_aload_n 26 0 dX9_rule_25 rfl rfl ?_
  refine j_getr 29 dX9_rule_26 rfl fl_X9_23 hB.cx rfl (fun _ _ => rfl) rfl ?_
  refine j_callV 32 (As := [.ref ((B + 2))]) (kc2 := 1) (ks2 := 6) dX9_rule_29 rfl mvX3_keep lk_X9_56 hB.his.hs rfl ⟨Nat.le_of_ble_eq_true rfl, rfl⟩ rfl rfl (Nat.le_of_ble_eq_true rfl) ⟨Nat.le_of_ble_eq_true rfl, Nat.le_of_ble_eq_true rfl⟩ ⟨Nat.le_of_ble_eq_true rfl, Nat.le_of_ble_eq_true rfl⟩ (c_keep hB.his hB.now hv h2 h8 hv8 (by omega)) x_v (k_v fun g_29 h_29 => ?_)
  obtain ⟨gk, hC, hg2⟩ := h_29
  obtain ⟨hH2, hfr⟩ := HX.keep hH hv (by omega) hK hC
  rw [← hg2] at hH2 hfr
  have hK2 : KX g_29 (B + 2) d := hK.rows (fun a h1 h2 => hfr a (by omega))
  refine j_aload_n 33 0 dX9_rule_32 rfl rfl ?_
  refine j_getr 36 dX9_rule_33 rfl fl_X9_23 hB.cx rfl (fun _ _ => rfl) rfl ?_
  refine j_iload_n 37 1 dX9_rule_36 rfl rfl ?_
  refine j_iload_n 38 2 dX9_rule_37 rfl rfl ?_
  refine j_callV 41 (As := [.int (i32 (20)), .int (i32 (v1))]) (kc2 := 1) (ks2 := 6) dX9_rule_38 rfl mvX1_setRule lk_X9_283 hB.now.ex rfl ⟨Nat.le_of_ble_eq_true rfl, rfl⟩ rfl rfl (Nat.le_of_ble_eq_true rfl) ⟨Nat.le_of_ble_eq_true rfl, Nat.le_of_ble_eq_true rfl⟩ ⟨Nat.le_of_ble_eq_true rfl, Nat.le_of_ble_eq_true rfl⟩ (c_setRule20 hB.now (by have := most_r 20; exact ⟨by omega, by omega⟩)) x_d (k_d1 ?_)
  exact j_iret dX9_rule_41 rfl (⟨_, rfl, rfl, hK2.1.2.1.2.2.2.2.2.2.2.2.1, KX.rule (q := 20) hK2 (by decide) (by omega) hv2, hH2.rows (fun a h1 h2 => up2_row (by omega)), fun a ha => (up2_row (by omega)).trans (hfr a (by omega))⟩)

set_option maxRecDepth 20000 in
theorem c_rule21 {w : Wd} {sh : Shp} {g : Mem} {B : Nat} {d : Nat → Int} (hB : CxS sh.1 B) (hK : KX g (B + 2) d) {c : Nat} {hist : Nat → (Nat → Int)} (hH : HX g (B + 152) hist c) {v1 : Int} (hv1 : 1 ≤ v1) (hv2 : v1 ≤ most 21) : CT w mX9_rule [.ref (B), .int (i32 (21)), .int (i32 (v1))] sh g (iQ sh (fun z g2 => z = d 21 ∧ KX g2 (B + 2) (ud d 21 v1) ∧ HX g2 (B + 152) (push d hist) (if c < 8 then c + 1 else 8) ∧ ∀ a, a < B + 2 ∨ (B + 77 ≤ a ∧ a < B + 152) ∨ B + 754 ≤ a → g2 a = g a)) := by
  have hH0 := hH
  obtain ⟨h8, h2, hi, v, hv8, hv, hr⟩ := hH0
  refine j_entry (by decide) rfl (Nat.le_of_ble_eq_true rfl) (fun h => by cases h) rfl ?_
  show J w mX9_rule 0 [(0, .ref (B)), (1, .int (i32 (21))), (2, .int (i32 (v1)))] [] sh g 1 6 _
  refine j_iload_n 1 2 dX9_rule_0 rfl rfl ?_
  refine j_iconst 2 dX9_rule_1 rfl ?_
  refine j_icmp_lt 5 13 dX9_rule_2 rfl rfl (by have := most_r 21; exact ⟨by omega, by omega⟩) (r32 (by decide) (by decide)) (fun c_2 => absurd c_2 (by omega)) (fun c_2 => ?_)
  refine j_iload_n 6 2 dX9_rule_5 rfl rfl ?_
  refine j_iload_n 7 1 dX9_rule_6 rfl rfl ?_
  refine j_callS 10 (As := [.int (i32 (21))]) (kc2 := 1) (ks2 := 6) dX9_rule_7 rfl msX9_mostOf lk_X9_280 rfl rfl (Nat.le_of_ble_eq_true rfl) ⟨Nat.le_of_ble_eq_true rfl, Nat.le_of_ble_eq_true rfl⟩ ⟨Nat.le_of_ble_eq_true rfl, Nat.le_of_ble_eq_true rfl⟩ (c_mostOf (r32 (by decide) (by decide))) x_d (k_d1 ?_)
  refine j_icmp_le 13 21 dX9_rule_10 rfl rfl (by have := most_r 21; exact ⟨by omega, by omega⟩) (r32 (by decide) (by decide)) (fun c_10 => ?_) (fun c_10 => absurd c_10 (by omega))
  refine j_aload_n 22 0 dX9_rule_21 rfl rfl ?_
  refine j_getr 25 dX9_rule_22 rfl fl_X9_33 hB.cx rfl (fun _ _ => rfl) rfl ?_
  refine j_aload_n 26 0 dX9_rule_25 rfl rfl ?_
  refine j_getr 29 dX9_rule_26 rfl fl_X9_23 hB.cx rfl (fun _ _ => rfl) rfl ?_
  refine j_callV 32 (As := [.ref ((B + 2))]) (kc2 := 1) (ks2 := 6) dX9_rule_29 rfl mvX3_keep lk_X9_56 hB.his.hs rfl ⟨Nat.le_of_ble_eq_true rfl, rfl⟩ rfl rfl (Nat.le_of_ble_eq_true rfl) ⟨Nat.le_of_ble_eq_true rfl, Nat.le_of_ble_eq_true rfl⟩ ⟨Nat.le_of_ble_eq_true rfl, Nat.le_of_ble_eq_true rfl⟩ (c_keep hB.his hB.now hv h2 h8 hv8 (by omega)) x_v (k_v fun g_29 h_29 => ?_)
  obtain ⟨gk, hC, hg2⟩ := h_29
  obtain ⟨hH2, hfr⟩ := HX.keep hH hv (by omega) hK hC
  rw [← hg2] at hH2 hfr
  have hK2 : KX g_29 (B + 2) d := hK.rows (fun a h1 h2 => hfr a (by omega))
  refine j_aload_n 33 0 dX9_rule_32 rfl rfl ?_
  refine j_getr 36 dX9_rule_33 rfl fl_X9_23 hB.cx rfl (fun _ _ => rfl) rfl ?_
  refine j_iload_n 37 1 dX9_rule_36 rfl rfl ?_
  refine j_iload_n 38 2 dX9_rule_37 rfl rfl ?_
  refine j_callV 41 (As := [.int (i32 (21)), .int (i32 (v1))]) (kc2 := 1) (ks2 := 6) dX9_rule_38 rfl mvX1_setRule lk_X9_283 hB.now.ex rfl ⟨Nat.le_of_ble_eq_true rfl, rfl⟩ rfl rfl (Nat.le_of_ble_eq_true rfl) ⟨Nat.le_of_ble_eq_true rfl, Nat.le_of_ble_eq_true rfl⟩ ⟨Nat.le_of_ble_eq_true rfl, Nat.le_of_ble_eq_true rfl⟩ (c_setRule21 hB.now (by have := most_r 21; exact ⟨by omega, by omega⟩)) x_d (k_d1 ?_)
  exact j_iret dX9_rule_41 rfl (⟨_, rfl, rfl, hK2.1.2.1.2.2.2.2.2.2.2.2.2.1, KX.rule (q := 21) hK2 (by decide) (by omega) hv2, hH2.rows (fun a h1 h2 => up2_row (by omega)), fun a ha => (up2_row (by omega)).trans (hfr a (by omega))⟩)

set_option maxRecDepth 20000 in
theorem c_ruleI {w : Wd} {sh : Shp} {g : Mem} {B : Nat} (hB : CxS sh.1 B) {q v1 : Int} (hq : R32 q) (hv1 : R32 v1) (hb : v1 < 1 ∨ most q < v1) : CT w mX9_rule [.ref (B), .int (i32 (q)), .int (i32 (v1))] sh g (tQ xI sh g) := by
  refine j_entry (by decide) rfl (Nat.le_of_ble_eq_true rfl) (fun h => by cases h) rfl ?_
  show J w mX9_rule 0 [(0, .ref (B)), (1, .int (i32 (q))), (2, .int (i32 (v1)))] [] sh g 1 6 _
  refine j_iload_n 1 2 dX9_rule_0 rfl rfl ?_
  refine j_iconst 2 dX9_rule_1 rfl ?_
  refine j_icmp_lt 5 13 dX9_rule_2 rfl rfl hv1 (r32 (by decide) (by decide)) (fun c_2 => ?_) (fun c_2 => ?_)
  · exact j_throw xI th_X9_rule_13 ⟨Nat.le_of_ble_eq_true rfl, Nat.le_of_ble_eq_true rfl⟩ ⟨rfl, rfl, rfl⟩
  · refine j_iload_n 6 2 dX9_rule_5 rfl rfl ?_
    refine j_iload_n 7 1 dX9_rule_6 rfl rfl ?_
    refine j_callS 10 (As := [.int (i32 (q))]) (kc2 := 1) (ks2 := 6) dX9_rule_7 rfl msX9_mostOf lk_X9_280 rfl rfl (Nat.le_of_ble_eq_true rfl) ⟨Nat.le_of_ble_eq_true rfl, Nat.le_of_ble_eq_true rfl⟩ ⟨Nat.le_of_ble_eq_true rfl, Nat.le_of_ble_eq_true rfl⟩ (c_mostOf hq) x_d (k_d1 ?_)
    refine j_icmp_le 13 21 dX9_rule_10 rfl rfl hv1 (by have := most_r q; exact ⟨by omega, by omega⟩) (fun c_10 => absurd c_10 (by omega)) (fun c_10 => ?_)
    exact j_throw xI th_X9_rule_13 ⟨Nat.le_of_ble_eq_true rfl, Nat.le_of_ble_eq_true rfl⟩ ⟨rfl, rfl, rfl⟩

set_option maxRecDepth 20000 in
theorem c_hang {w : Wd} {sh : Shp} {g : Mem} {B : Nat} {d : Nat → Int} (hB : CxS sh.1 B) (hK : KX g (B + 2) d) {c : Nat} {hist : Nat → (Nat → Int)} (hH : HX g (B + 152) hist c) {i : Nat} (hi5c : (i : Int) < d 5) (hst : d (173 + 14 * i) ≤ 5) : CT w mX9_hang [.ref (B), .int (i32 ((i : Int)))] sh g (iQ sh (fun z g2 => z = d (173 + 14 * i) ∧ KX g2 (B + 2) (s_hang d i) ∧ HX g2 (B + 152) (push d hist) (if c < 8 then c + 1 else 8) ∧ ∀ a, a < B + 2 ∨ (B + 77 ≤ a ∧ a < B + 152) ∨ B + 754 ≤ a → g2 a = g a)) := by
  have hH0 := hH
  obtain ⟨h8, h2, hi, v, hv8, hv, hr⟩ := hH0
  have hi5 := hK.2.1.1.2.2.2.2.2.1
  have h5 : g (B + 2) 5 = d 5 := hK.1.2.1.2.2.2.2.2.1
  have T := hK.1.tl (c := i) (by omega) hi5c
  refine j_entry (by decide) rfl (Nat.le_of_ble_eq_true rfl) (fun h => by cases h) rfl ?_
  show J w mX9_hang 0 [(0, .ref (B)), (1, .int (i32 ((i : Int))))] [] sh g 1 6 _
  refine j_aload_n 1 0 dX9_hang_0 rfl rfl ?_
  refine j_getr 4 dX9_hang_1 rfl fl_X9_23 hB.cx rfl (fun _ _ => rfl) rfl ?_
  refine j_iload_n 5 1 dX9_hang_4 rfl rfl ?_
  refine j_callV 8 (As := [.int (i32 ((i : Int)))]) (kc2 := 1) (ks2 := 6) dX9_hang_5 rfl mvX1_callAt lk_X9_189 hB.now.ex rfl ⟨Nat.le_of_ble_eq_true rfl, rfl⟩ rfl rfl (Nat.le_of_ble_eq_true rfl) ⟨Nat.le_of_ble_eq_true rfl, Nat.le_of_ble_eq_true rfl⟩ ⟨Nat.le_of_ble_eq_true rfl, Nat.le_of_ble_eq_true rfl⟩ ((by have h := c_callAt1 (w := w) hB.now (g := g) (by omega) (x := (i : Int)) (r32 (by omega) (by omega)) (by omega); rw [Int.toNat_natCast] at h; exact h)) x_d (k_d1 ?_)
  refine j_astore_n 9 (L2 := [(2, .ref ((B + 2) + 35 + i)), (0, .ref (B)), (1, .int (i32 ((i : Int))))]) dX9_hang_8 rfl rfl (Nat.le_of_ble_eq_true rfl) rfl ?_
  refine j_aload_n 10 0 dX9_hang_9 rfl rfl ?_
  refine j_ifnonnull 21 dX9_hang_10 rfl ?_
  refine j_aload_n 22 0 dX9_hang_21 rfl rfl ?_
  refine j_callV 25 (As := []) (kc2 := 1) (ks2 := 6) dX9_hang_22 rfl mvX0_isOver lk_X9_255 (hB.now.cl i (show i < 40 by omega)) rfl ⟨Nat.le_of_ble_eq_true rfl, rfl⟩ rfl rfl (Nat.le_of_ble_eq_true rfl) ⟨Nat.le_of_ble_eq_true rfl, Nat.le_of_ble_eq_true rfl⟩ ⟨Nat.le_of_ble_eq_true rfl, Nat.le_of_ble_eq_true rfl⟩ (c_isOver (hB.now.cl i (by omega))) x_d (k_d1 ?_)
  refine j_if_eq 28 36 dX9_hang_25 rfl rfl (r01 (b01_r _)) (fun c_25 => ?_) (fun c_25 => absurd c_25 (by rw [T.1, decide_eq_false (by omega)]; decide))
  refine j_aload_n 37 1 dX9_hang_36 rfl rfl ?_
  refine j_getr 40 dX9_hang_37 rfl fl_X9_33 hB.cx rfl (fun _ _ => rfl) rfl ?_
  refine j_aload_n 41 1 dX9_hang_40 rfl rfl ?_
  refine j_getr 44 dX9_hang_41 rfl fl_X9_23 hB.cx rfl (fun _ _ => rfl) rfl ?_
  refine j_callV 47 (As := [.ref ((B + 2))]) (kc2 := 1) (ks2 := 6) dX9_hang_44 rfl mvX3_keep lk_X9_56 hB.his.hs rfl ⟨Nat.le_of_ble_eq_true rfl, rfl⟩ rfl rfl (Nat.le_of_ble_eq_true rfl) ⟨Nat.le_of_ble_eq_true rfl, Nat.le_of_ble_eq_true rfl⟩ ⟨Nat.le_of_ble_eq_true rfl, Nat.le_of_ble_eq_true rfl⟩ (c_keep hB.his hB.now hv h2 h8 hv8 (by omega)) x_v (k_v fun g_44 h_44 => ?_)
  obtain ⟨gk, hC, hg2⟩ := h_44
  obtain ⟨hH2, hfr⟩ := HX.keep hH hv (by omega) hK hC
  rw [← hg2] at hH2 hfr
  have hK2 : KX g_44 (B + 2) d := hK.rows (fun a h1 h2 => hfr a (by omega))
  refine j_aload_n 48 0 dX9_hang_47 rfl rfl ?_
  refine j_geti 51 dX9_hang_48 rfl fl_X9_205 (hB.now.cl i (show i < 40 by omega)) rfl rfl (fun r_48 => ?_)
  refine j_top (y := d (173 + 14 * i)) ((hK2.1.tl (by omega) hi5c).1) ?_
  refine j_istore_n 52 (L2 := [(3, .int (i32 (d (173 + 14 * i)))), (2, .ref ((B + 2) + 35 + i)), (0, .ref (B)), (1, .int (i32 ((i : Int))))]) dX9_hang_51 rfl rfl (Nat.le_of_ble_eq_true rfl) rfl ?_
  refine j_aload_n 53 2 dX9_hang_52 rfl rfl ?_
  refine j_getr 56 dX9_hang_53 rfl fl_X9_23 hB.cx rfl (fun _ _ => rfl) rfl ?_
  refine j_aload_n 57 1 dX9_hang_56 rfl rfl ?_
  refine j_callV 60 (As := [.ref ((B + 2) + 35 + i)]) (kc2 := 1) (ks2 := 6) dX9_hang_57 rfl mvX1_hangUp lk_X9_276 hB.now.ex rfl ⟨Nat.le_of_ble_eq_true rfl, rfl⟩ rfl rfl (Nat.le_of_ble_eq_true rfl) ⟨Nat.le_of_ble_eq_true rfl, Nat.le_of_ble_eq_true rfl⟩ ⟨Nat.le_of_ble_eq_true rfl, Nat.le_of_ble_eq_true rfl⟩ (c_hangUp hB.now hK2 hi5c (by omega)) x_v (k_v fun g_57 h_57 => ?_)
  obtain ⟨hKn, hFn, -⟩ := h_57
  refine j_iload_n 61 0 dX9_hang_60 rfl rfl ?_
  exact j_iret dX9_hang_61 rfl (⟨_, rfl, rfl, rfl, hKn, hH2.rows (fun a h1 h2 => hFn a (by omega)), fun a ha => (hFn a (by omega)).trans (hfr a (by omega))⟩)

set_option maxRecDepth 20000 in
theorem c_hangS {w : Wd} {sh : Shp} {g : Mem} {B : Nat} {d : Nat → Int} (hB : CxS sh.1 B) (hK : KX g (B + 2) d) {i : Nat} (hi5c : (i : Int) < d 5) (hst : 6 ≤ d (173 + 14 * i)) : CT w mX9_hang [.ref (B), .int (i32 ((i : Int)))] sh g (tQ xS sh g) := by
  have hi5 := hK.2.1.1.2.2.2.2.2.1
  have h5 : g (B + 2) 5 = d 5 := hK.1.2.1.2.2.2.2.2.1
  have T := hK.1.tl (c := i) (by omega) hi5c
  refine j_entry (by decide) rfl (Nat.le_of_ble_eq_true rfl) (fun h => by cases h) rfl ?_
  show J w mX9_hang 0 [(0, .ref (B)), (1, .int (i32 ((i : Int))))] [] sh g 1 6 _
  refine j_aload_n 1 0 dX9_hang_0 rfl rfl ?_
  refine j_getr 4 dX9_hang_1 rfl fl_X9_23 hB.cx rfl (fun _ _ => rfl) rfl ?_
  refine j_iload_n 5 1 dX9_hang_4 rfl rfl ?_
  refine j_callV 8 (As := [.int (i32 ((i : Int)))]) (kc2 := 1) (ks2 := 6) dX9_hang_5 rfl mvX1_callAt lk_X9_189 hB.now.ex rfl ⟨Nat.le_of_ble_eq_true rfl, rfl⟩ rfl rfl (Nat.le_of_ble_eq_true rfl) ⟨Nat.le_of_ble_eq_true rfl, Nat.le_of_ble_eq_true rfl⟩ ⟨Nat.le_of_ble_eq_true rfl, Nat.le_of_ble_eq_true rfl⟩ ((by have h := c_callAt1 (w := w) hB.now (g := g) (by omega) (x := (i : Int)) (r32 (by omega) (by omega)) (by omega); rw [Int.toNat_natCast] at h; exact h)) x_d (k_d1 ?_)
  refine j_astore_n 9 (L2 := [(2, .ref ((B + 2) + 35 + i)), (0, .ref (B)), (1, .int (i32 ((i : Int))))]) dX9_hang_8 rfl rfl (Nat.le_of_ble_eq_true rfl) rfl ?_
  refine j_aload_n 10 0 dX9_hang_9 rfl rfl ?_
  refine j_ifnonnull 21 dX9_hang_10 rfl ?_
  refine j_aload_n 22 0 dX9_hang_21 rfl rfl ?_
  refine j_callV 25 (As := []) (kc2 := 1) (ks2 := 6) dX9_hang_22 rfl mvX0_isOver lk_X9_255 (hB.now.cl i (show i < 40 by omega)) rfl ⟨Nat.le_of_ble_eq_true rfl, rfl⟩ rfl rfl (Nat.le_of_ble_eq_true rfl) ⟨Nat.le_of_ble_eq_true rfl, Nat.le_of_ble_eq_true rfl⟩ ⟨Nat.le_of_ble_eq_true rfl, Nat.le_of_ble_eq_true rfl⟩ (c_isOver (hB.now.cl i (by omega))) x_d (k_d1 ?_)
  refine j_if_eq 28 36 dX9_hang_25 rfl rfl (r01 (b01_r _)) (fun c_25 => absurd c_25 (by rw [T.1, decide_eq_true (by omega)]; decide)) (fun c_25 => ?_)
  exact j_throw xS th_X9_hang_28 ⟨Nat.le_of_ble_eq_true rfl, Nat.le_of_ble_eq_true rfl⟩ ⟨rfl, rfl, rfl⟩

set_option maxRecDepth 20000 in
theorem c_hangB {w : Wd} {sh : Shp} {g : Mem} {B : Nat} {d : Nat → Int} (hB : CxS sh.1 B) (hK : KX g (B + 2) d) {x : Int} (hx : R32 x) (h0 : ¬ (0 ≤ x ∧ x < d 5)) : CT w mX9_hang [.ref (B), .int (i32 (x))] sh g (tQ xB sh g) := by
  have hi5 := hK.2.1.1.2.2.2.2.2.1
  have h5 : g (B + 2) 5 = d 5 := hK.1.2.1.2.2.2.2.2.1
  refine j_entry (by decide) rfl (Nat.le_of_ble_eq_true rfl) (fun h => by cases h) rfl ?_
  show J w mX9_hang 0 [(0, .ref (B)), (1, .int (i32 (x)))] [] sh g 1 6 _
  refine j_aload_n 1 0 dX9_hang_0 rfl rfl ?_
  refine j_getr 4 dX9_hang_1 rfl fl_X9_23 hB.cx rfl (fun _ _ => rfl) rfl ?_
  refine j_iload_n 5 1 dX9_hang_4 rfl rfl ?_
  refine j_callV 8 (As := [.int (i32 (x))]) (kc2 := 1) (ks2 := 6) dX9_hang_5 rfl mvX1_callAt lk_X9_189 hB.now.ex rfl ⟨Nat.le_of_ble_eq_true rfl, rfl⟩ rfl rfl (Nat.le_of_ble_eq_true rfl) ⟨Nat.le_of_ble_eq_true rfl, Nat.le_of_ble_eq_true rfl⟩ ⟨Nat.le_of_ble_eq_true rfl, Nat.le_of_ble_eq_true rfl⟩ (c_callAt0 hB.now (by omega) hx (by omega)) x_d (k_d1 ?_)
  refine j_astore_nN 9 (L2 := [(2, .null), (0, .ref (B)), (1, .int (i32 (x)))]) dX9_hang_8 rfl rfl (Nat.le_of_ble_eq_true rfl) rfl ?_
  refine j_aload_nN 10 0 dX9_hang_9 rfl rfl ?_
  refine j_ifnonnullN 13 dX9_hang_10 rfl ?_
  exact j_throw xB th_X9_hang_13 ⟨Nat.le_of_ble_eq_true rfl, Nat.le_of_ble_eq_true rfl⟩ ⟨rfl, rfl, rfl⟩

set_option maxRecDepth 20000 in
theorem c_dialB {w : Wd} {sh : Shp} {g : Mem} {B : Nat} {d : Nat → Int} (hB : CxS sh.1 B) (hK : KX g (B + 2) d) {x n t : Int} (hx : R32 x) (hn : R32 n) (ht : R32 t) (h0 : ¬ (0 ≤ x ∧ x < d 2)) : CT w mX9_dial [.ref (B), .int (i32 (x)), .int (i32 (n)), .int (i32 (t))] sh g (tQ xB sh g) := by
  have h22 : g (B + 2) 2 = d 2 := hK.1.2.1.2.2.1
  refine j_entry (by decide) rfl (Nat.le_of_ble_eq_true rfl) (fun h => by cases h) rfl ?_
  show J w mX9_dial 0 [(0, .ref (B)), (1, .int (i32 (x))), (2, .int (i32 (n))), (3, .int (i32 (t)))] [] sh g 1 6 _
  refine j_aload_n 1 0 dX9_dial_0 rfl rfl ?_
  refine j_getr 4 dX9_dial_1 rfl fl_X9_23 hB.cx rfl (fun _ _ => rfl) rfl ?_
  refine j_iload_n 5 1 dX9_dial_4 rfl rfl ?_
  refine j_callV 8 (As := [.int (i32 (x))]) (kc2 := 1) (ks2 := 6) dX9_dial_5 rfl mvX1_hasLine lk_X9_110 hB.now.ex rfl ⟨Nat.le_of_ble_eq_true rfl, rfl⟩ rfl rfl (Nat.le_of_ble_eq_true rfl) ⟨Nat.le_of_ble_eq_true rfl, Nat.le_of_ble_eq_true rfl⟩ ⟨Nat.le_of_ble_eq_true rfl, Nat.le_of_ble_eq_true rfl⟩ (c_hasLine hB.now hx) x_d (k_d1 ?_)
  refine j_if_ne 11 19 dX9_dial_8 rfl rfl (r01 (b01_r _)) (fun c_8 => absurd c_8 ((fun q => q (by rw [decide_eq_false (show ¬ (0 ≤ x ∧ x < g (B + 2) 2) by omega)]; rfl)))) (fun c_8 => ?_)
  exact j_throw xB th_X9_dial_11 ⟨Nat.le_of_ble_eq_true rfl, Nat.le_of_ble_eq_true rfl⟩ ⟨rfl, rfl, rfl⟩

set_option maxRecDepth 20000 in
theorem c_dialI {w : Wd} {sh : Shp} {g : Mem} {B : Nat} {d : Nat → Int} (hB : CxS sh.1 B) (hK : KX g (B + 2) d) {x n t : Int} (hx : R32 x) (hn : R32 n) (ht : R32 t) (h0 : 0 ≤ x ∧ x < d 2) (hb : ¬ (1 ≤ n ∧ n ≤ 6 ∧ n ≤ g B 1) ∨ t < 1 ∨ 99 < t) : CT w mX9_dial [.ref (B), .int (i32 (x)), .int (i32 (n)), .int (i32 (t))] sh g (tQ xI sh g) := by
  have h22 : g (B + 2) 2 = d 2 := hK.1.2.1.2.2.1
  refine j_entry (by decide) rfl (Nat.le_of_ble_eq_true rfl) (fun h => by cases h) rfl ?_
  show J w mX9_dial 0 [(0, .ref (B)), (1, .int (i32 (x))), (2, .int (i32 (n))), (3, .int (i32 (t)))] [] sh g 1 6 _
  refine j_aload_n 1 0 dX9_dial_0 rfl rfl ?_
  refine j_getr 4 dX9_dial_1 rfl fl_X9_23 hB.cx rfl (fun _ _ => rfl) rfl ?_
  refine j_iload_n 5 1 dX9_dial_4 rfl rfl ?_
  refine j_callV 8 (As := [.int (i32 (x))]) (kc2 := 1) (ks2 := 6) dX9_dial_5 rfl mvX1_hasLine lk_X9_110 hB.now.ex rfl ⟨Nat.le_of_ble_eq_true rfl, rfl⟩ rfl rfl (Nat.le_of_ble_eq_true rfl) ⟨Nat.le_of_ble_eq_true rfl, Nat.le_of_ble_eq_true rfl⟩ ⟨Nat.le_of_ble_eq_true rfl, Nat.le_of_ble_eq_true rfl⟩ (c_hasLine hB.now hx) x_d (k_d1 ?_)
  refine j_if_ne 11 19 dX9_dial_8 rfl rfl (r01 (b01_r _)) (fun c_8 => ?_) (fun c_8 => absurd c_8 (by rw [decide_eq_true (show 0 ≤ x ∧ x < g (B + 2) 2 by omega)]; decide))
  refine j_aload_n 20 0 dX9_dial_19 rfl rfl ?_
  refine j_iload_n 21 2 dX9_dial_20 rfl rfl ?_
  refine j_callV 24 (As := [.int (i32 (n))]) (kc2 := 1) (ks2 := 6) dX9_dial_21 rfl mvX9_isDialLength lk_X9_231 hB.cx rfl ⟨Nat.le_of_ble_eq_true rfl, rfl⟩ rfl rfl (Nat.le_of_ble_eq_true rfl) ⟨Nat.le_of_ble_eq_true rfl, Nat.le_of_ble_eq_true rfl⟩ ⟨Nat.le_of_ble_eq_true rfl, Nat.le_of_ble_eq_true rfl⟩ (c_isDialLength hB hn) x_d (k_d1 ?_)
  refine j_if_eq 27 38 dX9_dial_24 rfl rfl (r01 (b01_r _)) (fun c_24 => ?_) (fun c_24 => ?_)
  · exact j_throw xI th_X9_dial_38 ⟨Nat.le_of_ble_eq_true rfl, Nat.le_of_ble_eq_true rfl⟩ ⟨rfl, rfl, rfl⟩
  · have hc5 := of_decide_eq_true (b01_1 c_24)
    refine j_iload_n 28 3 dX9_dial_27 rfl rfl ?_
    refine j_iconst 29 dX9_dial_28 rfl ?_
    refine j_icmp_lt 32 38 dX9_dial_29 rfl rfl ht (r32 (by decide) (by decide)) (fun c_29 => ?_) (fun c_29 => ?_)
    · exact j_throw xI th_X9_dial_38 ⟨Nat.le_of_ble_eq_true rfl, Nat.le_of_ble_eq_true rfl⟩ ⟨rfl, rfl, rfl⟩
    · refine j_iload_n 33 3 dX9_dial_32 rfl rfl ?_
      refine j_bipush 35 dX9_dial_33 rfl (by decide) ?_
      refine j_icmp_le 38 46 dX9_dial_35 rfl rfl ht (r32 (by decide) (by decide)) (fun c_35 => absurd c_35 (by omega)) (fun c_35 => ?_)
      exact j_throw xI th_X9_dial_38 ⟨Nat.le_of_ble_eq_true rfl, Nat.le_of_ble_eq_true rfl⟩ ⟨rfl, rfl, rfl⟩

set_option maxRecDepth 20000 in
theorem c_dialS {w : Wd} {sh : Shp} {g : Mem} {B : Nat} {d : Nat → Int} (hB : CxS sh.1 B) (hK : KX g (B + 2) d) {x n t : Int} (hx : R32 x) (hn : R32 n) (ht : R32 t) (h0 : 0 ≤ x ∧ x < d 2) (h1 : 1 ≤ n ∧ n ≤ 6 ∧ n ≤ g B 1) (h2 : 1 ≤ t ∧ t ≤ 99) (h40 : 40 ≤ d 5) : CT w mX9_dial [.ref (B), .int (i32 (x)), .int (i32 (n)), .int (i32 (t))] sh g (tQ xS sh g) := by
  have h22 : g (B + 2) 2 = d 2 := hK.1.2.1.2.2.1
  have h5 : g (B + 2) 5 = d 5 := hK.1.2.1.2.2.2.2.2.1
  refine j_entry (by decide) rfl (Nat.le_of_ble_eq_true rfl) (fun h => by cases h) rfl ?_
  show J w mX9_dial 0 [(0, .ref (B)), (1, .int (i32 (x))), (2, .int (i32 (n))), (3, .int (i32 (t)))] [] sh g 1 6 _
  refine j_aload_n 1 0 dX9_dial_0 rfl rfl ?_
  refine j_getr 4 dX9_dial_1 rfl fl_X9_23 hB.cx rfl (fun _ _ => rfl) rfl ?_
  refine j_iload_n 5 1 dX9_dial_4 rfl rfl ?_
  refine j_callV 8 (As := [.int (i32 (x))]) (kc2 := 1) (ks2 := 6) dX9_dial_5 rfl mvX1_hasLine lk_X9_110 hB.now.ex rfl ⟨Nat.le_of_ble_eq_true rfl, rfl⟩ rfl rfl (Nat.le_of_ble_eq_true rfl) ⟨Nat.le_of_ble_eq_true rfl, Nat.le_of_ble_eq_true rfl⟩ ⟨Nat.le_of_ble_eq_true rfl, Nat.le_of_ble_eq_true rfl⟩ (c_hasLine hB.now hx) x_d (k_d1 ?_)
  refine j_if_ne 11 19 dX9_dial_8 rfl rfl (r01 (b01_r _)) (fun c_8 => ?_) (fun c_8 => absurd c_8 (by rw [decide_eq_true (show 0 ≤ x ∧ x < g (B + 2) 2 by omega)]; decide))
  refine j_aload_n 20 0 dX9_dial_19 rfl rfl ?_
  refine j_iload_n 21 2 dX9_dial_20 rfl rfl ?_
  refine j_callV 24 (As := [.int (i32 (n))]) (kc2 := 1) (ks2 := 6) dX9_dial_21 rfl mvX9_isDialLength lk_X9_231 hB.cx rfl ⟨Nat.le_of_ble_eq_true rfl, rfl⟩ rfl rfl (Nat.le_of_ble_eq_true rfl) ⟨Nat.le_of_ble_eq_true rfl, Nat.le_of_ble_eq_true rfl⟩ ⟨Nat.le_of_ble_eq_true rfl, Nat.le_of_ble_eq_true rfl⟩ (c_isDialLength hB hn) x_d (k_d1 ?_)
  refine j_if_eq 27 38 dX9_dial_24 rfl rfl (r01 (b01_r _)) (fun c_24 => absurd c_24 (by rw [decide_eq_true (show 1 ≤ n ∧ n ≤ 6 ∧ n ≤ g B 1 by omega)]; decide)) (fun c_24 => ?_)
  refine j_iload_n 28 3 dX9_dial_27 rfl rfl ?_
  refine j_iconst 29 dX9_dial_28 rfl ?_
  refine j_icmp_lt 32 38 dX9_dial_29 rfl rfl ht (r32 (by decide) (by decide)) (fun c_29 => absurd c_29 (by omega)) (fun c_29 => ?_)
  refine j_iload_n 33 3 dX9_dial_32 rfl rfl ?_
  refine j_bipush 35 dX9_dial_33 rfl (by decide) ?_
  refine j_icmp_le 38 46 dX9_dial_35 rfl rfl ht (r32 (by decide) (by decide)) (fun c_35 => ?_) (fun c_35 => absurd c_35 (by omega))
  refine j_aload_n 47 0 dX9_dial_46 rfl rfl ?_
  refine j_getr 50 dX9_dial_47 rfl fl_X9_23 hB.cx rfl (fun _ _ => rfl) rfl ?_
  refine j_geti 53 dX9_dial_50 rfl fl_X9_66 hB.now.ex rfl rfl (fun r_50 => ?_)
  refine j_bipush 55 dX9_dial_53 rfl (by decide) ?_
  refine j_icmp_lt 58 66 dX9_dial_55 rfl rfl r_50 (r32 (by decide) (by decide)) (fun c_55 => absurd c_55 (by omega)) (fun c_55 => ?_)
  exact j_throw xS th_X9_dial_58 ⟨Nat.le_of_ble_eq_true rfl, Nat.le_of_ble_eq_true rfl⟩ ⟨rfl, rfl, rfl⟩

set_option maxRecDepth 20000 in
theorem c_dialN {w : Wd} {sh : Shp} {g : Mem} {B : Nat} {d : Nat → Int} (hB : CxS sh.1 B) (hK : KX g (B + 2) d) {x t : Int} {n : Nat} (h0 : 0 ≤ x ∧ x < d 2) (hn : 1 ≤ n ∧ n ≤ 6) (hf : (n : Int) ≤ g B 1) (h2t : 1 ≤ t ∧ t ≤ 99) (h40 : d 5 < 40) (hd : bdB (g (B + 1)) n = false) : CT w mX9_dial [.ref (B), .int (i32 (x)), .int (i32 ((n : Int))), .int (i32 (t))] sh g (iQ sh (fun z g2 => z = -1 ∧ g2 = up2 g B 1 0)) := by
  have h22 : g (B + 2) 2 = d 2 := hK.1.2.1.2.2.1
  have h5 : g (B + 2) 5 = d 5 := hK.1.2.1.2.2.2.2.2.1
  have hi2 := hK.2.1.1.2.2.1
  have hi5 := hK.2.1.1.2.2.2.2.2.1
  refine j_entry (by decide) rfl (Nat.le_of_ble_eq_true rfl) (fun h => by cases h) rfl ?_
  show J w mX9_dial 0 [(0, .ref (B)), (1, .int (i32 (x))), (2, .int (i32 ((n : Int)))), (3, .int (i32 (t)))] [] sh g 1 6 _
  refine j_aload_n 1 0 dX9_dial_0 rfl rfl ?_
  refine j_getr 4 dX9_dial_1 rfl fl_X9_23 hB.cx rfl (fun _ _ => rfl) rfl ?_
  refine j_iload_n 5 1 dX9_dial_4 rfl rfl ?_
  refine j_callV 8 (As := [.int (i32 (x))]) (kc2 := 1) (ks2 := 6) dX9_dial_5 rfl mvX1_hasLine lk_X9_110 hB.now.ex rfl ⟨Nat.le_of_ble_eq_true rfl, rfl⟩ rfl rfl (Nat.le_of_ble_eq_true rfl) ⟨Nat.le_of_ble_eq_true rfl, Nat.le_of_ble_eq_true rfl⟩ ⟨Nat.le_of_ble_eq_true rfl, Nat.le_of_ble_eq_true rfl⟩ (c_hasLine hB.now ⟨by omega, by omega⟩) x_d (k_d1 ?_)
  refine j_if_ne 11 19 dX9_dial_8 rfl rfl (r01 (b01_r _)) (fun c_8 => ?_) (fun c_8 => absurd c_8 (by rw [decide_eq_true (show 0 ≤ x ∧ x < g (B + 2) 2 by omega)]; decide))
  refine j_aload_n 20 0 dX9_dial_19 rfl rfl ?_
  refine j_iload_n 21 2 dX9_dial_20 rfl rfl ?_
  refine j_callV 24 (As := [.int (i32 ((n : Int)))]) (kc2 := 1) (ks2 := 6) dX9_dial_21 rfl mvX9_isDialLength lk_X9_231 hB.cx rfl ⟨Nat.le_of_ble_eq_true rfl, rfl⟩ rfl rfl (Nat.le_of_ble_eq_true rfl) ⟨Nat.le_of_ble_eq_true rfl, Nat.le_of_ble_eq_true rfl⟩ ⟨Nat.le_of_ble_eq_true rfl, Nat.le_of_ble_eq_true rfl⟩ (c_isDialLength hB (r32 (by omega) (by omega))) x_d (k_d1 ?_)
  refine j_if_eq 27 38 dX9_dial_24 rfl rfl (r01 (b01_r _)) (fun c_24 => absurd c_24 (by rw [decide_eq_true (show 1 ≤ (n : Int) ∧ (n : Int) ≤ 6 ∧ (n : Int) ≤ g B 1 by omega)]; decide)) (fun c_24 => ?_)
  refine j_iload_n 28 3 dX9_dial_27 rfl rfl ?_
  refine j_iconst 29 dX9_dial_28 rfl ?_
  refine j_icmp_lt 32 38 dX9_dial_29 rfl rfl (r32 (by omega) (by omega)) (r32 (by decide) (by decide)) (fun c_29 => absurd c_29 (by omega)) (fun c_29 => ?_)
  refine j_iload_n 33 3 dX9_dial_32 rfl rfl ?_
  refine j_bipush 35 dX9_dial_33 rfl (by decide) ?_
  refine j_icmp_le 38 46 dX9_dial_35 rfl rfl (r32 (by omega) (by omega)) (r32 (by decide) (by decide)) (fun c_35 => ?_) (fun c_35 => absurd c_35 (by omega))
  refine j_aload_n 47 0 dX9_dial_46 rfl rfl ?_
  refine j_getr 50 dX9_dial_47 rfl fl_X9_23 hB.cx rfl (fun _ _ => rfl) rfl ?_
  refine j_geti 53 dX9_dial_50 rfl fl_X9_66 hB.now.ex rfl rfl (fun r_50 => ?_)
  refine j_bipush 55 dX9_dial_53 rfl (by decide) ?_
  refine j_icmp_lt 58 66 dX9_dial_55 rfl rfl r_50 (r32 (by decide) (by decide)) (fun c_55 => ?_) (fun c_55 => absurd c_55 (by omega))
  refine j_aload_n 67 0 dX9_dial_66 rfl rfl ?_
  refine j_iload_n 68 2 dX9_dial_67 rfl rfl ?_
  refine j_callV 71 (As := [.int (i32 ((n : Int)))]) (kc2 := 1) (ks2 := 6) dX9_dial_68 rfl mvX9_bufferRow lk_X9_234 hB.cx rfl ⟨Nat.le_of_ble_eq_true rfl, rfl⟩ rfl rfl (Nat.le_of_ble_eq_true rfl) ⟨Nat.le_of_ble_eq_true rfl, Nat.le_of_ble_eq_true rfl⟩ ⟨Nat.le_of_ble_eq_true rfl, Nat.le_of_ble_eq_true rfl⟩ (c_bufferRow hB hn.2) x_d (k_d1 ?_)
  refine j_top (y := 0) (if_neg (by rw [hd]; decide)) ?_
  refine j_istore 73 (L2 := [(4, .int (i32 (0))), (0, .ref (B)), (1, .int (i32 (x))), (2, .int (i32 ((n : Int)))), (3, .int (i32 (t)))]) dX9_dial_71 rfl (Nat.le_of_ble_eq_true rfl) rfl ?_
  refine j_aload_n 74 1 dX9_dial_73 rfl rfl ?_
  refine j_iconst 75 dX9_dial_74 rfl ?_
  refine j_puti 78 dX9_dial_75 rfl fl_X9_13 hB.cx rfl rfl rfl (r32 (by decide) (by decide)) ?_
  refine j_mn (fun g_75 hg_75 => ?_)
  refine j_iload 80 0 dX9_dial_78 rfl rfl ?_
  refine j_if_ne 83 85 dX9_dial_80 rfl rfl (r32 (by decide) (by decide)) (fun c_80 => absurd c_80 (by decide)) (fun c_80 => ?_)
  refine j_iconst 84 dX9_dial_83 rfl ?_
  exact j_iret dX9_dial_84 rfl (⟨_, rfl, rfl, rfl, hg_75⟩)

theorem telC_row {g : Mem} {e c a : Nat} {x y z u : Int} (h1 : a ≠ e) (h2 : a ≠ e + 35 + c) : telC g e c x y z u a = g a := funext fun j => by unfold telC; rw [if_neg h1, if_neg h2]

set_option maxRecDepth 20000 in
theorem c_dial {w : Wd} {sh : Shp} {g : Mem} {B : Nat} {d : Nat → Int} (hB : CxS sh.1 B) (hK : KX g (B + 2) d) {c : Nat} {hist : Nat → (Nat → Int)} (hH : HX g (B + 152) hist c) {x t : Int} {n : Nat} (h0 : 0 ≤ x ∧ x < d 2) (hn : 1 ≤ n ∧ n ≤ 6) (hf : (n : Int) ≤ g B 1) (h2t : 1 ≤ t ∧ t ≤ 99) (h40 : d 5 < 40) (hd : bdB (g (B + 1)) n = true) : CT w mX9_dial [.ref (B), .int (i32 (x)), .int (i32 ((n : Int))), .int (i32 (t))] sh g (iQ sh (fun z g2 => z = d 5 ∧ KX g2 (B + 2) (s_lay d x (n : Int) (bv (g (B + 1)) n) t (bm (d 6 + 1))) ∧ HX g2 (B + 152) (push d hist) (if c < 8 then c + 1 else 8) ∧ ∀ a, a < B + 2 ∨ (B + 77 ≤ a ∧ a < B + 152) ∨ B + 754 ≤ a → g2 a = up2 g B 1 0 a)) := by
  have h22 : g (B + 2) 2 = d 2 := hK.1.2.1.2.2.1
  have h5 : g (B + 2) 5 = d 5 := hK.1.2.1.2.2.2.2.2.1
  have hi2 := hK.2.1.1.2.2.1
  have hi5 := hK.2.1.1.2.2.2.2.2.1
  have hbr := bv_rng hd
  have hp6 : pw n ≤ pw 6 := pw_le hn.2
  have hp : pw 6 = 1000000 := rfl
  have hpm := pw_pos n
  refine j_entry (by decide) rfl (Nat.le_of_ble_eq_true rfl) (fun h => by cases h) rfl ?_
  show J w mX9_dial 0 [(0, .ref (B)), (1, .int (i32 (x))), (2, .int (i32 ((n : Int)))), (3, .int (i32 (t)))] [] sh g 1 6 _
  refine j_aload_n 1 0 dX9_dial_0 rfl rfl ?_
  refine j_getr 4 dX9_dial_1 rfl fl_X9_23 hB.cx rfl (fun _ _ => rfl) rfl ?_
  refine j_iload_n 5 1 dX9_dial_4 rfl rfl ?_
  refine j_callV 8 (As := [.int (i32 (x))]) (kc2 := 1) (ks2 := 6) dX9_dial_5 rfl mvX1_hasLine lk_X9_110 hB.now.ex rfl ⟨Nat.le_of_ble_eq_true rfl, rfl⟩ rfl rfl (Nat.le_of_ble_eq_true rfl) ⟨Nat.le_of_ble_eq_true rfl, Nat.le_of_ble_eq_true rfl⟩ ⟨Nat.le_of_ble_eq_true rfl, Nat.le_of_ble_eq_true rfl⟩ (c_hasLine hB.now ⟨by omega, by omega⟩) x_d (k_d1 ?_)
  refine j_if_ne 11 19 dX9_dial_8 rfl rfl (r01 (b01_r _)) (fun c_8 => ?_) (fun c_8 => absurd c_8 (by rw [decide_eq_true (show 0 ≤ x ∧ x < g (B + 2) 2 by omega)]; decide))
  refine j_aload_n 20 0 dX9_dial_19 rfl rfl ?_
  refine j_iload_n 21 2 dX9_dial_20 rfl rfl ?_
  refine j_callV 24 (As := [.int (i32 ((n : Int)))]) (kc2 := 1) (ks2 := 6) dX9_dial_21 rfl mvX9_isDialLength lk_X9_231 hB.cx rfl ⟨Nat.le_of_ble_eq_true rfl, rfl⟩ rfl rfl (Nat.le_of_ble_eq_true rfl) ⟨Nat.le_of_ble_eq_true rfl, Nat.le_of_ble_eq_true rfl⟩ ⟨Nat.le_of_ble_eq_true rfl, Nat.le_of_ble_eq_true rfl⟩ (c_isDialLength hB (r32 (by omega) (by omega))) x_d (k_d1 ?_)
  refine j_if_eq 27 38 dX9_dial_24 rfl rfl (r01 (b01_r _)) (fun c_24 => absurd c_24 (by rw [decide_eq_true (show 1 ≤ (n : Int) ∧ (n : Int) ≤ 6 ∧ (n : Int) ≤ g B 1 by omega)]; decide)) (fun c_24 => ?_)
  refine j_iload_n 28 3 dX9_dial_27 rfl rfl ?_
  refine j_iconst 29 dX9_dial_28 rfl ?_
  refine j_icmp_lt 32 38 dX9_dial_29 rfl rfl (r32 (by omega) (by omega)) (r32 (by decide) (by decide)) (fun c_29 => absurd c_29 (by omega)) (fun c_29 => ?_)
  refine j_iload_n 33 3 dX9_dial_32 rfl rfl ?_
  refine j_bipush 35 dX9_dial_33 rfl (by decide) ?_
  refine j_icmp_le 38 46 dX9_dial_35 rfl rfl (r32 (by omega) (by omega)) (r32 (by decide) (by decide)) (fun c_35 => ?_) (fun c_35 => absurd c_35 (by omega))
  refine j_aload_n 47 0 dX9_dial_46 rfl rfl ?_
  refine j_getr 50 dX9_dial_47 rfl fl_X9_23 hB.cx rfl (fun _ _ => rfl) rfl ?_
  refine j_geti 53 dX9_dial_50 rfl fl_X9_66 hB.now.ex rfl rfl (fun r_50 => ?_)
  refine j_bipush 55 dX9_dial_53 rfl (by decide) ?_
  refine j_icmp_lt 58 66 dX9_dial_55 rfl rfl r_50 (r32 (by decide) (by decide)) (fun c_55 => ?_) (fun c_55 => absurd c_55 (by omega))
  refine j_aload_n 67 0 dX9_dial_66 rfl rfl ?_
  refine j_iload_n 68 2 dX9_dial_67 rfl rfl ?_
  refine j_callV 71 (As := [.int (i32 ((n : Int)))]) (kc2 := 1) (ks2 := 6) dX9_dial_68 rfl mvX9_bufferRow lk_X9_234 hB.cx rfl ⟨Nat.le_of_ble_eq_true rfl, rfl⟩ rfl rfl (Nat.le_of_ble_eq_true rfl) ⟨Nat.le_of_ble_eq_true rfl, Nat.le_of_ble_eq_true rfl⟩ ⟨Nat.le_of_ble_eq_true rfl, Nat.le_of_ble_eq_true rfl⟩ (c_bufferRow hB hn.2) x_d (k_d1 ?_)
  refine j_top (y := pw n + bv (g (B + 1)) n) (if_pos hd) ?_
  refine j_istore 73 (L2 := [(4, .int (i32 (pw n + bv (g (B + 1)) n))), (0, .ref (B)), (1, .int (i32 (x))), (2, .int (i32 ((n : Int)))), (3, .int (i32 (t)))]) dX9_dial_71 rfl (Nat.le_of_ble_eq_true rfl) rfl ?_
  refine j_aload_n 74 1 dX9_dial_73 rfl rfl ?_
  refine j_iconst 75 dX9_dial_74 rfl ?_
  refine j_puti 78 dX9_dial_75 rfl fl_X9_13 hB.cx rfl rfl rfl (r32 (by decide) (by decide)) ?_
  refine j_mn (fun g_75 hg_75 => ?_)
  refine j_iload 80 0 dX9_dial_78 rfl rfl ?_
  refine j_if_ne 83 85 dX9_dial_80 rfl rfl (r32 (by omega) (by omega)) (fun c_80 => ?_) (fun c_80 => absurd c_80 (by omega))
  have hK1 : KX g_75 (B + 2) d := hK.rows (fun a h1 h2 => by rw [hg_75]; exact up2_row (by omega))
  have hH1 : HX g_75 (B + 152) hist c := hH.rows (fun a h1 h2 => by rw [hg_75]; exact up2_row (by omega))
  have hH0 := hH1
  obtain ⟨h8, h2, hi, v, hv8, hv, hr⟩ := hH0
  refine j_aload_n 86 1 dX9_dial_85 rfl rfl ?_
  refine j_getr 89 dX9_dial_86 rfl fl_X9_33 hB.cx rfl (fun _ _ => rfl) rfl ?_
  refine j_aload_n 90 1 dX9_dial_89 rfl rfl ?_
  refine j_getr 93 dX9_dial_90 rfl fl_X9_23 hB.cx rfl (fun _ _ => rfl) rfl ?_
  refine j_callV 96 (As := [.ref ((B + 2))]) (kc2 := 1) (ks2 := 6) dX9_dial_93 rfl mvX3_keep lk_X9_56 hB.his.hs rfl ⟨Nat.le_of_ble_eq_true rfl, rfl⟩ rfl rfl (Nat.le_of_ble_eq_true rfl) ⟨Nat.le_of_ble_eq_true rfl, Nat.le_of_ble_eq_true rfl⟩ ⟨Nat.le_of_ble_eq_true rfl, Nat.le_of_ble_eq_true rfl⟩ (c_keep hB.his hB.now hv h2 h8 hv8 (by omega)) x_v (k_v fun g_93 h_93 => ?_)
  obtain ⟨gk, hC, hg2⟩ := h_93
  obtain ⟨hH2, hfr⟩ := HX.keep hH1 hv (by omega) hK1 hC
  rw [← hg2] at hH2 hfr
  have hK2 : KX g_93 (B + 2) d := hK1.rows (fun a h1 h2 => hfr a (by omega))
  have ht6 : g_93 (B + 2) 6 = d 6 := hK2.1.2.1.2.2.2.2.2.2.1
  obtain ⟨cc, hcc⟩ := Int.eq_ofNat_of_zero_le hi5.1
  have hc93 : g_93 (B + 2) 5 = (cc : Int) := by rw [← hcc]; exact hK2.1.2.1.2.2.2.2.2.1
  refine j_aload_n 97 1 dX9_dial_96 rfl rfl ?_
  refine j_getr 100 dX9_dial_97 rfl fl_X9_23 hB.cx rfl (fun _ _ => rfl) rfl ?_
  refine j_iload_n 101 2 dX9_dial_100 rfl rfl ?_
  refine j_iload 103 0 dX9_dial_101 rfl rfl ?_
  refine j_iload_n 104 4 dX9_dial_103 rfl rfl ?_
  refine j_aload_n 105 1 dX9_dial_104 rfl rfl ?_
  refine j_getr 108 dX9_dial_105 rfl fl_X9_23 hB.cx rfl (fun _ _ => rfl) rfl ?_
  refine j_geti 111 dX9_dial_108 rfl fl_X9_88 hB.now.ex rfl rfl (fun r_108 => ?_)
  refine j_top (y := d 6) (ht6) ?_
  refine j_iconst 112 dX9_dial_111 rfl ?_
  refine j_iadd 113 dX9_dial_112 rfl ?_
  refine j_nb ?_
  refine j_callV 116 (As := [.int (i32 (x)), .int (i32 (pw n + bv (g (B + 1)) n)), .int (i32 (t)), .int (i32 (bm ((d 6) + 1)))]) (kc2 := 1) (ks2 := 6) dX9_dial_113 rfl mvX1_tellCall lk_X9_272 hB.now.ex rfl ⟨Nat.le_of_ble_eq_true rfl, rfl⟩ rfl rfl (Nat.le_of_ble_eq_true rfl) ⟨Nat.le_of_ble_eq_true rfl, Nat.le_of_ble_eq_true rfl⟩ ⟨Nat.le_of_ble_eq_true rfl, Nat.le_of_ble_eq_true rfl⟩ (c_tellCall hB.now hK2.1.1 hc93 (by omega) ⟨by omega, by omega⟩ (r32 (by omega) (by omega)) (r32 (by omega) (by omega)) (bm_r _)) x_d (k_d1 ?_)
  have hKl : KX (telC g_93 (B + 2) cc x (pw n + bv (g (B + 1)) n) t (bm (d 6 + 1))) (B + 2) (s_lay d x (n : Int) (bv (g (B + 1)) n) t (bm (d 6 + 1))) := hK2.lay hcc (by omega) h0 (by omega) hbr ⟨by omega, by omega⟩
  exact j_iret dX9_dial_116 rfl (⟨_, rfl, rfl, hcc.symm, hKl, hH2.rows (fun a h1 h2 => telC_row (by omega) (by omega)), fun a ha => (telC_row (by omega) (by omega)).trans ((hfr a (by omega)).trans (congrFun hg_75 a))⟩)
