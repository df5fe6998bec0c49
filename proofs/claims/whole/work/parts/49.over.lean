set_option maxRecDepth 20000 in
theorem c_isOver {w : Wd} {sh : Shp} {g : Mem} {a : Nat} (ha : sh.1 a = some (0, 0, kN)) : CT w mX0_isOver [.ref (a)] sh g (dQ (some (.int (i32 (b01 (decide (5 < g a 1)))))) sh g) := by
  refine j_entry (by decide) rfl (Nat.le_of_ble_eq_true rfl) (fun h => by cases h) rfl ?_
  show J w mX0_isOver 0 [(0, .ref (a))] [] sh g 0 0 _
  refine j_aload_n 1 0 dX0_isOver_0 rfl rfl ?_
  refine j_geti 4 dX0_isOver_1 rfl fl_X0_15 ha rfl rfl (fun r_1 => ?_)
  refine j_bipush 6 dX0_isOver_4 rfl (by decide) ?_
  refine j_icmp_lt 9 13 dX0_isOver_6 rfl rfl r_1 (r32 (by decide) (by decide)) (fun c_6 => ?_) (fun c_6 => ?_)
  · refine j_iconst 14 dX0_isOver_13 rfl ?_
    exact j_zret dX0_isOver_14 rfl (Or.inl rfl) (q_i (by first | (rw [decide_eq_true (show 5 < g a 1 by omega)]; rfl) | (rw [decide_eq_false (show ¬ 5 < g a 1 by omega)]; rfl)))
  · refine j_iconst 10 dX0_isOver_9 rfl ?_
    refine j_goto 14 dX0_isOver_10 rfl ?_
    exact j_zret dX0_isOver_14 rfl (Or.inr rfl) (q_i (by first | (rw [decide_eq_true (show 5 < g a 1 by omega)]; rfl) | (rw [decide_eq_false (show ¬ 5 < g a 1 by omega)]; rfl)))

theorem at5_o5 {d : Nat → Int} {c : Nat} {y : Int} : (s_isOver d c y) 5 = d 5 := by unfold s_isOver; rw [ud_n (by omega), ud_n (by omega), ud_n (by omega)]
theorem at5_w5 {d : Nat → Int} {c : Nat} {y : Int} : (s_waits d c y) 5 = d 5 := by unfold s_waits; rw [ud_n (by omega), ud_n (by omega), ud_n (by omega)]
theorem at5_k5 {d : Nat → Int} {c : Nat} {x y : Int} : (s_talks d c x y) 5 = d 5 := by unfold s_talks; rw [ud_n (by omega), ud_n (by omega), ud_n (by omega), ud_n (by omega), ud_n (by omega)]
theorem at5_f5 {d : Nat → Int} {c : Nat} : (s_freeReg d c) 5 = d 5 := by
  unfold s_freeReg
  split
  · rfl
  · show ud (ud (ud (ud d _ _) _ _) _ _) _ _ 5 = d 5
    rw [ud_n (by omega), ud_n (by omega), ud_n (by omega), ud_n (by omega)]
theorem at5_a5 {d : Nat → Int} {x k : Nat} {v : Int} : (s_addGroup d x k v) 5 = d 5 := ud_n (by omega)
theorem at5_v5 {d : Nat → Int} {r : Nat} : ∀ k, (s_ovF d r k) 5 = d 5
  | 0 => rfl
  | k + 1 => by rw [ovF_s, ud_n (by decide), at5_a5]; exact at5_v5 k
theorem at5_y5 {d : Nat → Int} {c r k : Nat} : (s_way d c r k) 5 = d 5 := by
  unfold s_way
  split
  · exact at5_o5
  · rw [at5_a5, at5_a5, at5_k5]
theorem at5_l5 {d : Nat → Int} {c m : Nat} {v : Int} : (s_looks d c m v) 5 = d 5 := by
  unfold s_looks
  split
  · rw [at5_y5, at5_v5]
  · split
    · exact at5_o5
    · exact at5_k5
theorem at5_m5 {d : Nat → Int} {k : Nat} : (s_marks d k) 5 = d 5 := by
  unfold s_marks
  split
  · rfl
  · split
    · exact ud_n (by omega)
    · unfold s_found; rw [at5_l5, at5_f5, ud_n (by omega), ud_n (by omega)]
theorem at5_d15 {d : Nat → Int} {r c : Nat} : (s_dial1 d r c) 5 = d 5 := by
  unfold s_dial1
  split
  · exact ud_n (by omega)
  · rfl
theorem at5_d5 {d : Nat → Int} {r : Nat} : (s_dials d r) 5 = d 5 := by
  unfold s_dials
  split
  · rfl
  · split
    · unfold s_dial2
      split
      · rw [at5_w5, at5_d15]
      · split
        · exact at5_d15
        · split
          · rw [ud_n (by omega), at5_d15]
          · rw [at5_o5, at5_f5, ud_n (by omega), at5_d15]
    · rfl
theorem at5_c5 {d : Nat → Int} {c : Nat} : (f_come d c) 5 = d 5 := by
  unfold f_come
  split
  · unfold s_comes
    split
    · rw [at5_o5, ud_n (by omega)]
    · rw [at5_w5, ud_n (by omega)]
  · rfl
theorem at5_t5 {d : Nat → Int} {c : Nat} : (f_talk d c) 5 = d 5 := by
  unfold f_talk
  split
  · unfold s_talk1
    split
    · rw [at5_o5, ud_n (by omega)]
    · exact ud_n (by omega)
  · rfl
theorem s_tick_5 {d : Nat → Int} : (s_tick d) 5 = d 5 := by
  unfold s_tick s_t9
  rw [itr_at (i := 5) (f := f_sum) (fun e k _ => at5_a5) _ (Nat.le_refl _)]
  unfold s_t8
  rw [ud_n (by decide)]
  unfold s_t7
  rw [itr_at (i := 5) (f := s_takesRegister) (fun e k _ => by unfold s_takesRegister; split <;> first | rfl | rw [ud_n (by omega), ud_n (by omega), ud_n (by omega)]) _ (Nat.le_refl _)]
  unfold s_t6
  rw [itr_at (i := 5) (f := s_takesMarker) (fun e k _ => by unfold s_takesMarker; split <;> first | rfl | rw [ud_n (by omega), ud_n (by omega), ud_n (by omega)]) _ (Nat.le_refl _)]
  unfold s_t5
  rw [itr_at (i := 5) (f := s_dials) (fun e k _ => at5_d5) _ (Nat.le_refl _)]
  unfold s_t4
  rw [itr_at (i := 5) (f := s_marks) (fun e k _ => at5_m5) _ (Nat.le_refl _)]
  unfold s_t3
  rw [itr_at (i := 5) (f := f_talk) (fun e k _ => at5_t5) _ (Nat.le_refl _)]
  unfold s_t2
  rw [itr_at (i := 5) (f := f_come) (fun e k _ => at5_c5) _ (Nat.le_refl _)]
  exact ud_n (by decide)

set_option maxRecDepth 20000 in
theorem c_overIn1 {w : Wd} {sh : Shp} {g : Mem} {B : Nat} {d : Nat → Int} (hB : CxS sh.1 B) (hK : KX g (B + 2) d) (hT : ExI g (B + 77)) {c : Nat} (hc5 : (c : Int) < d 5) (hc40 : c < 40) : CT w mX9_overIn [.ref (B), .int (i32 ((c : Int)))] sh g (iQ sh (fun z g2 => z = fst (fun (k : Nat) => decide (5 < tk d k (173 + 14 * c))) 601 ∧ (∀ a, a < B + 77 ∨ B + 152 ≤ a → g2 a = g a) ∧ ExI g2 (B + 77))) := by
  refine j_entry (by decide) rfl (Nat.le_of_ble_eq_true rfl) (fun h => by cases h) rfl ?_
  show J w mX9_overIn 0 [(0, .ref (B)), (1, .int (i32 ((c : Int))))] [] sh g 1 6 _
  refine j_aload_n 1 0 dX9_overIn_0 rfl rfl ?_
  refine j_getr 4 dX9_overIn_1 rfl fl_X9_27 hB.cx rfl (fun _ _ => rfl) rfl ?_
  refine j_aload_n 5 0 dX9_overIn_4 rfl rfl ?_
  refine j_getr 8 dX9_overIn_5 rfl fl_X9_23 hB.cx rfl (fun _ _ => rfl) rfl ?_
  refine j_callV 11 (As := [.ref ((B + 2))]) (kc2 := 1) (ks2 := 6) dX9_overIn_8 rfl mvX1_copyFrom lk_X9_63 hB.tri.ex rfl ⟨Nat.le_of_ble_eq_true rfl, rfl⟩ rfl rfl (Nat.le_of_ble_eq_true rfl) ⟨Nat.le_of_ble_eq_true rfl, Nat.le_of_ble_eq_true rfl⟩ ⟨Nat.le_of_ble_eq_true rfl, Nat.le_of_ble_eq_true rfl⟩ (c_copyX hB.tri hB.now (by omega)) x_v (k_v fun g_8 h_8 => ?_)
  obtain ⟨k1, k2, k3⟩ := h_8.kx (by omega) hK hT
  have h40 := hK.2.1.1.2.2.2.2.2.1
  refine j_aload_n 12 0 dX9_overIn_11 rfl rfl ?_
  refine j_getr 15 dX9_overIn_12 rfl fl_X9_27 hB.cx rfl (fun _ _ => rfl) rfl ?_
  refine j_iload_n 16 1 dX9_overIn_15 rfl rfl ?_
  refine j_callV 19 (As := [.int (i32 ((c : Int)))]) (kc2 := 1) (ks2 := 6) dX9_overIn_16 rfl mvX1_callAt lk_X9_189 hB.tri.ex rfl ⟨Nat.le_of_ble_eq_true rfl, rfl⟩ rfl rfl (Nat.le_of_ble_eq_true rfl) ⟨Nat.le_of_ble_eq_true rfl, Nat.le_of_ble_eq_true rfl⟩ ⟨Nat.le_of_ble_eq_true rfl, Nat.le_of_ble_eq_true rfl⟩ ((by have h := c_callAt1 (w := w) hB.tri (g := g_8) (by rw [k1.1.2.1.2.2.2.2.2.1]; exact h40.2) (x := (c : Int)) (r32 (by omega) (by omega)) (by rw [k1.1.2.1.2.2.2.2.2.1]; exact ⟨by omega, hc5⟩); rw [Int.toNat_natCast] at h; exact h)) x_d (k_d1 ?_)
  refine j_astore_n 20 (L2 := [(2, .ref ((B + 77) + 35 + c)), (0, .ref (B)), (1, .int (i32 ((c : Int))))]) dX9_overIn_19 rfl rfl (Nat.le_of_ble_eq_true rfl) rfl ?_
  refine j_aload_n 21 0 dX9_overIn_20 rfl rfl ?_
  refine j_ifnonnull 32 dX9_overIn_21 rfl ?_
  refine j_iconst 33 dX9_overIn_32 rfl ?_
  refine j_istore_n 34 (L2 := [(3, .int (i32 (0))), (2, .ref ((B + 77) + 35 + c)), (0, .ref (B)), (1, .int (i32 ((c : Int))))]) dX9_overIn_33 rfl rfl (Nat.le_of_ble_eq_true rfl) rfl ?_
  suffices lp_34 : ∀ (n_34 : Nat) (k : Nat) (ga : Mem), 600 - k < n_34 → k ≤ 600 → KX ga (B + 77) (tk d k) → Fr g_8 ga (B + 77) → (tk d k) 5 = d 5 → (∀ j, j < k → (fun (k : Nat) => decide (5 < tk d k (173 + 14 * c))) j = false) → J w mX9_overIn 34 [(3, .int (i32 ((k : Int)))), (2, .ref ((B + 77) + 35 + c)), (0, .ref (B)), (1, .int (i32 ((c : Int))))] [] sh ga 1 6 (iQ sh (fun z g2 => z = fst (fun (k : Nat) => decide (5 < tk d k (173 + 14 * c))) 601 ∧ (∀ a, a < B + 77 ∨ B + 152 ≤ a → g2 a = g a) ∧ ExI g2 (B + 77))) by
    exact lp_34 _ 0 g_8 (Nat.lt_succ_self _) (by omega) k1 Fr.rf rfl (fun j hj => absurd hj (Nat.not_lt_zero j))
  intro n_34
  induction n_34 with
  | zero => intro k ga h_; exact absurd h_ (Nat.not_lt_zero _)
  | succ n_34 ih_34 =>
    intro k ga hn_34 hk hKa hFa h5k hp
    have hst : ga (B + 77 + 35 + c) 1 = tk d k (173 + 14 * c) := by have h := hKa.1.st (c := c) (by omega); rw [if_pos (by rw [h5k]; exact hc5)] at h; exact h
    refine j_iload_n 35 0 dX9_overIn_34 rfl rfl ?_
    refine j_sipush 38 dX9_overIn_35 rfl (by decide) ?_
    refine j_icmp_ge 41 63 dX9_overIn_38 rfl rfl (r32 (by omega) (by omega)) (r32 (by decide) (by decide)) (fun c_38 => ?_) (fun c_38 => ?_)
    · refine j_aload_n 64 1 dX9_overIn_63 rfl rfl ?_
      refine j_callV 67 (As := []) (kc2 := 1) (ks2 := 6) dX9_overIn_64 rfl mvX0_isOver lk_X9_255 (hB.tri.cl c (show c < 40 by omega)) rfl ⟨Nat.le_of_ble_eq_true rfl, rfl⟩ rfl rfl (Nat.le_of_ble_eq_true rfl) ⟨Nat.le_of_ble_eq_true rfl, Nat.le_of_ble_eq_true rfl⟩ ⟨Nat.le_of_ble_eq_true rfl, Nat.le_of_ble_eq_true rfl⟩ (c_isOver (hB.tri.cl c (by omega))) x_d (k_d1 ?_)
      refine j_if_eq 70 76 dX9_overIn_67 rfl rfl (r01 (b01_r _)) (fun c_67 => ?_) (fun c_67 => ?_)
      · have hq : (fun (k : Nat) => decide (5 < tk d k (173 + 14 * c))) k = false := by have h := b01_0 c_67; rw [hst] at h; exact h
        have hz : fst (fun (k : Nat) => decide (5 < tk d k (173 + 14 * c))) 601 = -1 := fst_none (fun j hj => (Nat.lt_or_ge j k).elim (fun q => hp j q) (fun q => by rw [show j = k by omega]; exact hq))
        refine j_iconst 77 dX9_overIn_76 rfl ?_
        exact j_iret dX9_overIn_77 rfl (⟨_, rfl, rfl, hz.symm, fun a ha => (hFa a (by omega)).trans (k2 a (by omega)), hKa.1.1⟩)
      · have hq : (fun (k : Nat) => decide (5 < tk d k (173 + 14 * c))) k = true := by have h := b01_1 c_67; rw [hst] at h; exact h
        have hz : fst (fun (k : Nat) => decide (5 < tk d k (173 + 14 * c))) 601 = 600 := by rw [fst_hit (p := (fun (k : Nat) => decide (5 < tk d k (173 + 14 * c)))) (k := k) (by omega) hp hq]; omega
        refine j_sipush 73 dX9_overIn_70 rfl (by decide) ?_
        refine j_goto 77 dX9_overIn_73 rfl ?_
        exact j_iret dX9_overIn_77 rfl (⟨_, rfl, rfl, hz.symm, fun a ha => (hFa a (by omega)).trans (k2 a (by omega)), hKa.1.1⟩)
    · refine j_aload_n 42 1 dX9_overIn_41 rfl rfl ?_
      refine j_callV 45 (As := []) (kc2 := 1) (ks2 := 6) dX9_overIn_42 rfl mvX0_isOver lk_X9_255 (hB.tri.cl c (show c < 40 by omega)) rfl ⟨Nat.le_of_ble_eq_true rfl, rfl⟩ rfl rfl (Nat.le_of_ble_eq_true rfl) ⟨Nat.le_of_ble_eq_true rfl, Nat.le_of_ble_eq_true rfl⟩ ⟨Nat.le_of_ble_eq_true rfl, Nat.le_of_ble_eq_true rfl⟩ (c_isOver (hB.tri.cl c (by omega))) x_d (k_d1 ?_)
      refine j_if_eq 48 50 dX9_overIn_45 rfl rfl (r01 (b01_r _)) (fun c_45 => ?_) (fun c_45 => ?_)
      · have hq : (fun (k : Nat) => decide (5 < tk d k (173 + 14 * c))) k = false := by have h := b01_0 c_45; rw [hst] at h; exact h
        refine j_aload_n 51 2 dX9_overIn_50 rfl rfl ?_
        refine j_getr 54 dX9_overIn_51 rfl fl_X9_27 hB.cx rfl (fun _ _ => rfl) rfl ?_
        refine j_callV 57 (As := []) (kc2 := 1) (ks2 := 6) dX9_overIn_54 rfl mvX1_tick lk_X9_259 hB.tri.ex rfl ⟨Nat.le_of_ble_eq_true rfl, rfl⟩ rfl rfl (Nat.le_of_ble_eq_true rfl) ⟨Nat.le_of_ble_eq_true rfl, Nat.le_of_ble_eq_true rfl⟩ ⟨Nat.le_of_ble_eq_true rfl, Nat.le_of_ble_eq_true rfl⟩ (c_tick hB.tri hKa) x_v (k_v fun g_54 h_54 => ?_)
        obtain ⟨hKn, hF3, -⟩ := h_54
        have hFn : Fr g_8 g_54 (B + 77) := hFa.tr hF3
        have h5n : (tk d (k + 1)) 5 = d 5 := s_tick_5.trans h5k
        refine j_iinc 60 0 (y := ((k + 1 : Nat) : Int)) (L2 := [(3, .int (i32 (((k + 1 : Nat) : Int)))), (2, .ref ((B + 77) + 35 + c)), (0, .ref (B)), (1, .int (i32 ((c : Int))))]) dX9_overIn_57 rfl rfl (by omega) (Nat.le_of_ble_eq_true rfl) rfl ?_
        refine j_goto 34 dX9_overIn_60 rfl ?_
        exact ih_34 (k + 1) _ (by omega) (by omega) hKn hFn h5n (lt_step hp hq)
      · have hq : (fun (k : Nat) => decide (5 < tk d k (173 + 14 * c))) k = true := by have h := b01_1 c_45; rw [hst] at h; exact h
        have hz : fst (fun (k : Nat) => decide (5 < tk d k (173 + 14 * c))) 601 = (k : Int) := fst_hit (by omega) hp hq
        refine j_iload_n 49 0 dX9_overIn_48 rfl rfl ?_
        exact j_iret dX9_overIn_49 rfl (⟨_, rfl, rfl, hz.symm, fun a ha => (hFa a (by omega)).trans (k2 a (by omega)), hKa.1.1⟩)

set_option maxRecDepth 20000 in
theorem c_overIn0 {w : Wd} {sh : Shp} {g : Mem} {B : Nat} {d : Nat → Int} (hB : CxS sh.1 B) (hK : KX g (B + 2) d) (hT : ExI g (B + 77)) {x : Int} (hx : R32 x) (hb : ¬ (0 ≤ x ∧ x < d 5)) : CT w mX9_overIn [.ref (B), .int (i32 (x))] sh g (fun r sh2 g2 => r = .inr xB ∧ sh2 = (sh.1, none) ∧ (∀ a, a < B + 77 ∨ B + 152 ≤ a → g2 a = g a) ∧ ExI g2 (B + 77)) := by
  refine j_entry (by decide) rfl (Nat.le_of_ble_eq_true rfl) (fun h => by cases h) rfl ?_
  show J w mX9_overIn 0 [(0, .ref (B)), (1, .int (i32 (x)))] [] sh g 1 6 _
  refine j_aload_n 1 0 dX9_overIn_0 rfl rfl ?_
  refine j_getr 4 dX9_overIn_1 rfl fl_X9_27 hB.cx rfl (fun _ _ => rfl) rfl ?_
  refine j_aload_n 5 0 dX9_overIn_4 rfl rfl ?_
  refine j_getr 8 dX9_overIn_5 rfl fl_X9_23 hB.cx rfl (fun _ _ => rfl) rfl ?_
  refine j_callV 11 (As := [.ref ((B + 2))]) (kc2 := 1) (ks2 := 6) dX9_overIn_8 rfl mvX1_copyFrom lk_X9_63 hB.tri.ex rfl ⟨Nat.le_of_ble_eq_true rfl, rfl⟩ rfl rfl (Nat.le_of_ble_eq_true rfl) ⟨Nat.le_of_ble_eq_true rfl, Nat.le_of_ble_eq_true rfl⟩ ⟨Nat.le_of_ble_eq_true rfl, Nat.le_of_ble_eq_true rfl⟩ (c_copyX hB.tri hB.now (by omega)) x_v (k_v fun g_8 h_8 => ?_)
  obtain ⟨k1, k2, k3⟩ := h_8.kx (by omega) hK hT
  have h40 := hK.2.1.1.2.2.2.2.2.1
  refine j_aload_n 12 0 dX9_overIn_11 rfl rfl ?_
  refine j_getr 15 dX9_overIn_12 rfl fl_X9_27 hB.cx rfl (fun _ _ => rfl) rfl ?_
  refine j_iload_n 16 1 dX9_overIn_15 rfl rfl ?_
  refine j_callV 19 (As := [.int (i32 (x))]) (kc2 := 1) (ks2 := 6) dX9_overIn_16 rfl mvX1_callAt lk_X9_189 hB.tri.ex rfl ⟨Nat.le_of_ble_eq_true rfl, rfl⟩ rfl rfl (Nat.le_of_ble_eq_true rfl) ⟨Nat.le_of_ble_eq_true rfl, Nat.le_of_ble_eq_true rfl⟩ ⟨Nat.le_of_ble_eq_true rfl, Nat.le_of_ble_eq_true rfl⟩ (c_callAt0 hB.tri (by rw [k1.1.2.1.2.2.2.2.2.1]; exact h40.2) hx (by rw [k1.1.2.1.2.2.2.2.2.1]; exact hb)) x_d (k_d1 ?_)
  refine j_astore_nN 20 (L2 := [(2, .null), (0, .ref (B)), (1, .int (i32 (x)))]) dX9_overIn_19 rfl rfl (Nat.le_of_ble_eq_true rfl) rfl ?_
  refine j_aload_nN 21 0 dX9_overIn_20 rfl rfl ?_
  refine j_ifnonnullN 24 dX9_overIn_21 rfl ?_
  exact j_throw xB th_X9_overIn_24 ⟨Nat.le_of_ble_eq_true rfl, Nat.le_of_ble_eq_true rfl⟩ ⟨rfl, rfl, fun a ha => k2 a (by omega), k1.1.1⟩
