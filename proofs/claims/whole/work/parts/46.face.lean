/-! the class' object at B -/
def kCx (B : Nat) : Kd := (8, 0, fun j => match j with | 0 => some (B + 1) | 3 => some (B + 2) | 4 => some (B + 77) | 5 => some (B + 152) | 6 => some (B + 754) | _ => none)
def CxS (sh : Nat → Option Kd) (B : Nat) : Prop := sh B = some (kCx B) ∧ sh (B + 1) = some (11, 700, kN) ∧ ExS sh (B + 2) ∧ ExS sh (B + 77) ∧ HsS sh (B + 152)
section CS
variable {sh : Nat → Option Kd} {B : Nat}
theorem CxS.cx (h : CxS sh B) : sh B = some (kCx B) := h.1
theorem CxS.buf (h : CxS sh B) : sh (B + 1) = some (11, 700, kN) := h.2.1
theorem CxS.now (h : CxS sh B) : ExS sh (B + 2) := h.2.2.1
theorem CxS.tri (h : CxS sh B) : ExS sh (B + 77) := h.2.2.2.1
theorem CxS.his (h : CxS sh B) : HsS sh (B + 152) := h.2.2.2.2
end CS

set_option maxRecDepth 20000 in
theorem c_foretold {w : Wd} {sh : Shp} {g : Mem} {B : Nat} {d : Nat → Int} (hB : CxS sh.1 B) (hK : KX g (B + 2) d) (hT : ExI g (B + 77)) {n : Nat} {x : Int} (hn : 1 ≤ n ∧ n ≤ 600) (hx : 0 ≤ x ∧ x ≤ 11) : CT w mX9_foretold [.ref (B), .int (i32 ((n : Int))), .int (i32 (x))] sh g (iQ sh (fun z g2 => z = (s_cnt (tk d n) x : Int) ∧ (∀ a, a < B + 77 ∨ B + 152 ≤ a → g2 a = g a) ∧ ExI g2 (B + 77))) := by
  refine j_entry (by decide) rfl (Nat.le_of_ble_eq_true rfl) (fun h => by cases h) rfl ?_
  show J w mX9_foretold 0 [(0, .ref (B)), (1, .int (i32 ((n : Int)))), (2, .int (i32 (x)))] [] sh g 1 6 _
  refine j_iload_n 1 1 dX9_foretold_0 rfl rfl ?_
  refine j_iconst 2 dX9_foretold_1 rfl ?_
  refine j_icmp_lt 5 22 dX9_foretold_2 rfl rfl (r32 (by omega) (by omega)) (r32 (by decide) (by decide)) (fun c_2 => absurd c_2 (by omega)) (fun c_2 => ?_)
  refine j_iload_n 6 1 dX9_foretold_5 rfl rfl ?_
  refine j_sipush 9 dX9_foretold_6 rfl (by decide) ?_
  refine j_icmp_gt 12 22 dX9_foretold_9 rfl rfl (r32 (by omega) (by omega)) (r32 (by decide) (by decide)) (fun c_9 => absurd c_9 (by omega)) (fun c_9 => ?_)
  refine j_iload_n 13 2 dX9_foretold_12 rfl rfl ?_
  refine j_if_lt 16 22 dX9_foretold_13 rfl rfl (r32 (by omega) (by omega)) (fun c_13 => absurd c_13 (by omega)) (fun c_13 => ?_)
  refine j_iload_n 17 2 dX9_foretold_16 rfl rfl ?_
  refine j_bipush 19 dX9_foretold_17 rfl (by decide) ?_
  refine j_icmp_le 22 30 dX9_foretold_19 rfl rfl (r32 (by omega) (by omega)) (r32 (by decide) (by decide)) (fun c_19 => ?_) (fun c_19 => absurd c_19 (by omega))
  refine j_aload_n 31 0 dX9_foretold_30 rfl rfl ?_
  refine j_getr 34 dX9_foretold_31 rfl fl_X9_27 hB.cx rfl (fun _ _ => rfl) rfl ?_
  refine j_aload_n 35 0 dX9_foretold_34 rfl rfl ?_
  refine j_getr 38 dX9_foretold_35 rfl fl_X9_23 hB.cx rfl (fun _ _ => rfl) rfl ?_
  refine j_callV 41 (As := [.ref ((B + 2))]) (kc2 := 1) (ks2 := 6) dX9_foretold_38 rfl mvX1_copyFrom lk_X9_63 hB.tri.ex rfl ⟨Nat.le_of_ble_eq_true rfl, rfl⟩ rfl rfl (Nat.le_of_ble_eq_true rfl) ⟨Nat.le_of_ble_eq_true rfl, Nat.le_of_ble_eq_true rfl⟩ ⟨Nat.le_of_ble_eq_true rfl, Nat.le_of_ble_eq_true rfl⟩ (c_copyX hB.tri hB.now (by omega)) x_v (k_v fun g_38 h_38 => ?_)
  obtain ⟨k1, k2, k3⟩ := h_38.kx (by omega) hK hT
  refine j_aload_n 42 0 dX9_foretold_41 rfl rfl ?_
  refine j_getr 45 dX9_foretold_42 rfl fl_X9_27 hB.cx rfl (fun _ _ => rfl) rfl ?_
  refine j_iload_n 46 1 dX9_foretold_45 rfl rfl ?_
  refine j_callV 49 (As := [.int (i32 ((n : Int)))]) (kc2 := 1) (ks2 := 6) dX9_foretold_46 rfl mvX1_settle lk_X9_262 hB.tri.ex rfl ⟨Nat.le_of_ble_eq_true rfl, rfl⟩ rfl rfl (Nat.le_of_ble_eq_true rfl) ⟨Nat.le_of_ble_eq_true rfl, Nat.le_of_ble_eq_true rfl⟩ ⟨Nat.le_of_ble_eq_true rfl, Nat.le_of_ble_eq_true rfl⟩ (c_settle hB.tri k1 (by omega)) x_v (k_v fun g_46 h_46 => ?_)
  obtain ⟨m, m1, m2, m3, m4, m5⟩ := h_46
  have hcn := (settle_cnt m2.2.1 m1 m3).1 x
  have hrc := rel_countIn m2.1 (x := x) (by omega)
  refine j_aload_n 50 0 dX9_foretold_49 rfl rfl ?_
  refine j_getr 53 dX9_foretold_50 rfl fl_X9_27 hB.cx rfl (fun _ _ => rfl) rfl ?_
  refine j_iload_n 54 2 dX9_foretold_53 rfl rfl ?_
  refine j_callV 57 (As := [.int (i32 (x))]) (kc2 := 1) (ks2 := 6) dX9_foretold_54 rfl mvX1_countIn lk_X9_69 hB.tri.ex rfl ⟨Nat.le_of_ble_eq_true rfl, rfl⟩ rfl rfl (Nat.le_of_ble_eq_true rfl) ⟨Nat.le_of_ble_eq_true rfl, Nat.le_of_ble_eq_true rfl⟩ ⟨Nat.le_of_ble_eq_true rfl, Nat.le_of_ble_eq_true rfl⟩ (c_countIn hB.tri (r32 (by omega) (by omega))) x_d (k_d1 ?_)
  exact j_iret dX9_foretold_57 rfl (⟨_, rfl, rfl, by rw [hrc, hcn], fun a ha => (m4 a (by omega)).trans (k2 a (by omega)), m2.1.1⟩)

theorem HX.rows {g g2 : Mem} {h c : Nat} {hist : Nat → (Nat → Int)} (H : HX g h hist c) (q : ∀ a, h ≤ a → a < h + 602 → g2 a = g a) : HX g2 h hist c := by
  obtain ⟨h8, h2, hi, v, hv8, hv, hr⟩ := H
  exact ⟨h8, by rw [q h (by omega) (by omega)]; exact h2, fun i hi8 => (hi i hi8).same (fun a h1 h2 => by rw [q a (by omega) (by omega)]), v, hv8, by rw [q h (by omega) (by omega)]; exact hv, fun j hj => (hr j hj).rows (fun a h1 h2 => q a (by omega) (by omega))⟩

set_option maxRecDepth 20000 in
theorem c_pass {w : Wd} {sh : Shp} {g : Mem} {B : Nat} {d : Nat → Int} (hB : CxS sh.1 B) (hK : KX g (B + 2) d) {n c : Nat} {hist : Nat → (Nat → Int)} (hH : HX g (B + 152) hist c) (hn : 1 ≤ n ∧ n ≤ 300) : CT w mX9_pass [.ref (B), .int (i32 ((n : Int)))] sh g (iQ sh (fun z g2 => z = (s_cnt (tk d n) 6 : Int) - (s_cnt d 6 : Int) ∧ KX g2 (B + 2) (tk d n) ∧ HX g2 (B + 152) (push d hist) (if c < 8 then c + 1 else 8) ∧ ∀ a, a < B + 2 ∨ (B + 77 ≤ a ∧ a < B + 152) ∨ B + 754 ≤ a → g2 a = g a)) := by
  have hH0 := hH
  obtain ⟨h8, h2, hi, v, hv8, hv, hr⟩ := hH0
  refine j_entry (by decide) rfl (Nat.le_of_ble_eq_true rfl) (fun h => by cases h) rfl ?_
  show J w mX9_pass 0 [(0, .ref (B)), (1, .int (i32 ((n : Int))))] [] sh g 1 6 _
  refine j_iload_n 1 1 dX9_pass_0 rfl rfl ?_
  refine j_iconst 2 dX9_pass_1 rfl ?_
  refine j_icmp_lt 5 12 dX9_pass_2 rfl rfl (r32 (by omega) (by omega)) (r32 (by decide) (by decide)) (fun c_2 => absurd c_2 (by omega)) (fun c_2 => ?_)
  refine j_iload_n 6 1 dX9_pass_5 rfl rfl ?_
  refine j_sipush 9 dX9_pass_6 rfl (by decide) ?_
  refine j_icmp_le 12 20 dX9_pass_9 rfl rfl (r32 (by omega) (by omega)) (r32 (by decide) (by decide)) (fun c_9 => ?_) (fun c_9 => absurd c_9 (by omega))
  refine j_aload_n 21 0 dX9_pass_20 rfl rfl ?_
  refine j_getr 24 dX9_pass_21 rfl fl_X9_33 hB.cx rfl (fun _ _ => rfl) rfl ?_
  refine j_aload_n 25 0 dX9_pass_24 rfl rfl ?_
  refine j_getr 28 dX9_pass_25 rfl fl_X9_23 hB.cx rfl (fun _ _ => rfl) rfl ?_
  refine j_callV 31 (As := [.ref ((B + 2))]) (kc2 := 1) (ks2 := 6) dX9_pass_28 rfl mvX3_keep lk_X9_56 hB.his.hs rfl ⟨Nat.le_of_ble_eq_true rfl, rfl⟩ rfl rfl (Nat.le_of_ble_eq_true rfl) ⟨Nat.le_of_ble_eq_true rfl, Nat.le_of_ble_eq_true rfl⟩ ⟨Nat.le_of_ble_eq_true rfl, Nat.le_of_ble_eq_true rfl⟩ (c_keep hB.his hB.now hv h2 h8 hv8 (by omega)) x_v (k_v fun g_28 h_28 => ?_)
  obtain ⟨gk, hC, hg2⟩ := h_28
  obtain ⟨hH2, hfr⟩ := HX.keep hH hv (by omega) hK hC
  rw [← hg2] at hH2 hfr
  have hK2 : KX g_28 (B + 2) d := hK.rows (fun a h1 h2 => hfr a (by omega))
  refine j_aload_n 32 0 dX9_pass_31 rfl rfl ?_
  refine j_getr 35 dX9_pass_32 rfl fl_X9_23 hB.cx rfl (fun _ _ => rfl) rfl ?_
  refine j_bipush 37 dX9_pass_35 rfl (by decide) ?_
  refine j_callV 40 (As := [.int (i32 (6))]) (kc2 := 1) (ks2 := 6) dX9_pass_37 rfl mvX1_countIn lk_X9_69 hB.now.ex rfl ⟨Nat.le_of_ble_eq_true rfl, rfl⟩ rfl rfl (Nat.le_of_ble_eq_true rfl) ⟨Nat.le_of_ble_eq_true rfl, Nat.le_of_ble_eq_true rfl⟩ ⟨Nat.le_of_ble_eq_true rfl, Nat.le_of_ble_eq_true rfl⟩ (c_countIn hB.now (r32 (by decide) (by decide))) x_d (k_d1 ?_)
  have hcl : s_cnt d 6 ≤ 40 := cnt_le _ 40
  refine j_top (y := (s_cnt d 6 : Int)) (by rw [rel_countIn hK2.1 (by decide)]) ?_
  refine j_istore_n 41 (L2 := [(2, .int (i32 ((s_cnt d 6 : Int)))), (0, .ref (B)), (1, .int (i32 ((n : Int))))]) dX9_pass_40 rfl rfl (Nat.le_of_ble_eq_true rfl) rfl ?_
  refine j_iconst 42 dX9_pass_41 rfl ?_
  refine j_istore_n 43 (L2 := [(3, .int (i32 (0))), (2, .int (i32 ((s_cnt d 6 : Int)))), (0, .ref (B)), (1, .int (i32 ((n : Int))))]) dX9_pass_42 rfl rfl (Nat.le_of_ble_eq_true rfl) rfl ?_
  suffices lp_43 : ∀ (n_43 : Nat) (k : Nat) (ga : Mem), n - k < n_43 → k ≤ n → KX ga (B + 2) (tk d k) → Fr g_28 ga (B + 2) → J w mX9_pass 43 [(3, .int (i32 ((k : Int)))), (2, .int (i32 ((s_cnt d 6 : Int)))), (0, .ref (B)), (1, .int (i32 ((n : Int))))] [] sh ga 1 6 (iQ sh (fun z g2 => z = (s_cnt (tk d n) 6 : Int) - (s_cnt d 6 : Int) ∧ KX g2 (B + 2) (tk d n) ∧ HX g2 (B + 152) (push d hist) (if c < 8 then c + 1 else 8) ∧ ∀ a, a < B + 2 ∨ (B + 77 ≤ a ∧ a < B + 152) ∨ B + 754 ≤ a → g2 a = g a)) by
    exact lp_43 _ 0 g_28 (Nat.lt_succ_self _) (by omega) hK2 Fr.rf
  intro n_43
  induction n_43 with
  | zero => intro k ga h_; exact absurd h_ (Nat.not_lt_zero _)
  | succ n_43 ih_43 =>
    intro k ga hn_43 hk hKa hFa
    refine j_iload_n 44 0 dX9_pass_43 rfl rfl ?_
    refine j_iload_n 45 3 dX9_pass_44 rfl rfl ?_
    refine j_icmp_ge 48 61 dX9_pass_45 rfl rfl (r32 (by omega) (by omega)) (r32 (by omega) (by omega)) (fun c_45 => ?_) (fun c_45 => ?_)
    · refine j_aload_n 62 2 dX9_pass_61 rfl rfl ?_
      refine j_getr 65 dX9_pass_62 rfl fl_X9_23 hB.cx rfl (fun _ _ => rfl) rfl ?_
      refine j_bipush 67 dX9_pass_65 rfl (by decide) ?_
      refine j_callV 70 (As := [.int (i32 (6))]) (kc2 := 1) (ks2 := 6) dX9_pass_67 rfl mvX1_countIn lk_X9_69 hB.now.ex rfl ⟨Nat.le_of_ble_eq_true rfl, rfl⟩ rfl rfl (Nat.le_of_ble_eq_true rfl) ⟨Nat.le_of_ble_eq_true rfl, Nat.le_of_ble_eq_true rfl⟩ ⟨Nat.le_of_ble_eq_true rfl, Nat.le_of_ble_eq_true rfl⟩ (c_countIn hB.now (r32 (by decide) (by decide))) x_d (k_d1 ?_)
      refine j_iload_n 71 1 dX9_pass_70 rfl rfl ?_
      refine j_isub 72 dX9_pass_71 rfl ?_
      exact j_iret dX9_pass_72 rfl (⟨_, rfl, rfl, by have hkn : k = n := (by omega); subst hkn; exact ⟨by rw [rel_countIn hKa.1 (by decide)], hKa, hH2.rows (fun a h1 h2 => hFa a (by omega)), fun a ha => (hFa a (by omega)).trans (hfr a (by omega))⟩⟩)
    · refine j_aload_n 49 2 dX9_pass_48 rfl rfl ?_
      refine j_getr 52 dX9_pass_49 rfl fl_X9_23 hB.cx rfl (fun _ _ => rfl) rfl ?_
      refine j_callV 55 (As := []) (kc2 := 1) (ks2 := 6) dX9_pass_52 rfl mvX1_tick lk_X9_259 hB.now.ex rfl ⟨Nat.le_of_ble_eq_true rfl, rfl⟩ rfl rfl (Nat.le_of_ble_eq_true rfl) ⟨Nat.le_of_ble_eq_true rfl, Nat.le_of_ble_eq_true rfl⟩ ⟨Nat.le_of_ble_eq_true rfl, Nat.le_of_ble_eq_true rfl⟩ (c_tick hB.now hKa) x_v (k_v fun g_52 h_52 => ?_)
      obtain ⟨hKn, hF3, -⟩ := h_52
      have hFn : Fr g_28 g_52 (B + 2) := hFa.tr hF3
      refine j_iinc 58 0 (y := ((k + 1 : Nat) : Int)) (L2 := [(3, .int (i32 (((k + 1 : Nat) : Int)))), (2, .int (i32 ((s_cnt d 6 : Int)))), (0, .ref (B)), (1, .int (i32 ((n : Int))))]) dX9_pass_55 rfl rfl (by omega) (Nat.le_of_ble_eq_true rfl) rfl ?_
      refine j_goto 43 dX9_pass_58 rfl ?_
      exact ih_43 (k + 1) _ (by omega) (by omega) hKn hFn

set_option maxRecDepth 20000 in
theorem c_undo1 {w : Wd} {sh : Shp} {g : Mem} {B c : Nat} {hist : Nat → (Nat → Int)} (hB : CxS sh.1 B) (hI : ExI g (B + 2)) (hH : HX g (B + 152) hist c) (hc1 : 1 ≤ c) : CT w mX9_undo [.ref (B)] sh g (iQ sh (fun z g2 => z = (c : Int) - 1 ∧ KX g2 (B + 2) (hist 0) ∧ HX g2 (B + 152) (fun j => hist (j + 1)) (c - 1) ∧ ∀ a, (a < B + 2 ∨ B + 77 ≤ a) → a ≠ B + 152 → g2 a = g a)) := by
  have hH0 := hH
  obtain ⟨h8, h2, hi, v, hv8, hv, hr⟩ := hH0
  refine j_entry (by decide) rfl (Nat.le_of_ble_eq_true rfl) (fun h => by cases h) rfl ?_
  show J w mX9_undo 0 [(0, .ref (B))] [] sh g 0 0 _
  refine j_aload_n 1 0 dX9_undo_0 rfl rfl ?_
  refine j_getr 4 dX9_undo_1 rfl fl_X9_33 hB.cx rfl (fun _ _ => rfl) rfl ?_
  refine j_aload_n 5 0 dX9_undo_4 rfl rfl ?_
  refine j_getr 8 dX9_undo_5 rfl fl_X9_23 hB.cx rfl (fun _ _ => rfl) rfl ?_
  refine j_callV 11 (As := [.ref ((B + 2))]) (kc2 := 0) (ks2 := 0) dX9_undo_8 rfl mvX3_takeBack lk_X9_286 hB.his.hs rfl ⟨Nat.le_of_ble_eq_true rfl, rfl⟩ rfl rfl (Nat.le_of_ble_eq_true rfl) ⟨Nat.le_of_ble_eq_true rfl, Nat.le_of_ble_eq_true rfl⟩ ⟨Nat.le_of_ble_eq_true rfl, Nat.le_of_ble_eq_true rfl⟩ (c_takeBack hB.his hB.now hv h2 h8 hc1 hv8 (by omega)) x_i (k_i fun z_8 g_8 h_8 => ?_)
  obtain ⟨hz, gb, hC, hg2⟩ := h_8
  obtain ⟨b1, b2, b3⟩ := HX.back hH hv hc1 (by omega) hI hC
  rw [← hg2] at b1 b2 b3
  exact j_iret dX9_undo_11 rfl (⟨_, rfl, rfl, hz, b1, b2, fun a ha ha2 => b3 a ha2 ha⟩)

set_option maxRecDepth 20000 in
theorem c_undo0 {w : Wd} {sh : Shp} {g : Mem} {B : Nat} {hist : Nat → (Nat → Int)} (hB : CxS sh.1 B) (hH : HX g (B + 152) hist 0) : CT w mX9_undo [.ref (B)] sh g (dQ (some (.int (i32 (-1)))) sh g) := by
  refine j_entry (by decide) rfl (Nat.le_of_ble_eq_true rfl) (fun h => by cases h) rfl ?_
  show J w mX9_undo 0 [(0, .ref (B))] [] sh g 0 0 _
  refine j_aload_n 1 0 dX9_undo_0 rfl rfl ?_
  refine j_getr 4 dX9_undo_1 rfl fl_X9_33 hB.cx rfl (fun _ _ => rfl) rfl ?_
  refine j_aload_n 5 0 dX9_undo_4 rfl rfl ?_
  refine j_getr 8 dX9_undo_5 rfl fl_X9_23 hB.cx rfl (fun _ _ => rfl) rfl ?_
  refine j_callV 11 (As := [.ref ((B + 2))]) (kc2 := 0) (ks2 := 0) dX9_undo_8 rfl mvX3_takeBack lk_X9_286 hB.his.hs rfl ⟨Nat.le_of_ble_eq_true rfl, rfl⟩ rfl rfl (Nat.le_of_ble_eq_true rfl) ⟨Nat.le_of_ble_eq_true rfl, Nat.le_of_ble_eq_true rfl⟩ ⟨Nat.le_of_ble_eq_true rfl, Nat.le_of_ble_eq_true rfl⟩ (c_takeBack0 hB.his hB.now hH.2.1) x_d (k_d1 ?_)
  exact j_iret dX9_undo_11 rfl (q_i rfl)
