/-! the reference's reader: rules -/
theorem seen_b0 (a b c : Bool) : (i32 (b01 a + 2 * b01 b + 4 * b01 c) >>> (i32 0 &&& 31)) &&& i32 1 = i32 (b01 a) := by cases a <;> cases b <;> cases c <;> decide +kernel
theorem seen_b1 (a b c : Bool) : (i32 (b01 a + 2 * b01 b + 4 * b01 c) >>> (i32 1 &&& 31)) &&& i32 1 = i32 (b01 b) := by cases a <;> cases b <;> cases c <;> decide +kernel
theorem seen_b2 (a b c : Bool) : (i32 (b01 a + 2 * b01 b + 4 * b01 c) >>> (i32 2 &&& 31)) &&& i32 1 = i32 (b01 c) := by cases a <;> cases b <;> cases c <;> decide +kernel
theorem seen_o0 (a b c : Bool) : i32 (b01 a + 2 * b01 b + 4 * b01 c) ||| (i32 1 <<< (i32 0 &&& 31)) = i32 (b01 true + 2 * b01 b + 4 * b01 c) := by cases a <;> cases b <;> cases c <;> decide +kernel
theorem seen_o1 (a b c : Bool) : i32 (b01 a + 2 * b01 b + 4 * b01 c) ||| (i32 1 <<< (i32 1 &&& 31)) = i32 (b01 a + 2 * b01 true + 4 * b01 c) := by cases a <;> cases b <;> cases c <;> decide +kernel
theorem seen_o2 (a b c : Bool) : i32 (b01 a + 2 * b01 b + 4 * b01 c) ||| (i32 1 <<< (i32 2 &&& 31)) = i32 (b01 a + 2 * b01 b + 4 * b01 true) := by cases a <;> cases b <;> cases c <;> decide +kernel
theorem seen_r (a b c : Bool) : R32 (b01 a + 2 * b01 b + 4 * b01 c) := by cases a <;> cases b <;> cases c <;> exact ⟨by decide, by decide⟩
section RPV
variable {g g1 g2 : Mem} {m k : Nat} {x : Int} {T : Tx} {p : Nat} {e : PE}
theorem RE.dr (h : RE g m T e) : RE (up2 g (m + 3) k x) m T e := by
  obtain ⟨h1, ⟨p, h2, h3⟩, h4, h5, h6⟩ := h
  exact ⟨⟨h1.1, by rw [up2_a (by omega)]; exact h1.2.1, fun k hk => by rw [up2_a (by omega)]; exact h1.2.2.1 k hk, h1.2.2.2⟩, ⟨p, by rw [up2_a (by omega)]; exact h2, h3⟩, by rw [up2_a (by omega)]; exact h4, by rw [up2_a (by omega)]; exact h5, h6⟩
theorem FD.s14 (h : FD g g1 m) : FD g (up2 g1 m 14 x) m := ⟨fun a h1 h3 => by rw [up2_row h1]; exact h.1 a h1 h3, fun j hj => by rw [up2_k (by omega)]; exact h.2 j hj⟩
end RPV

set_option maxRecDepth 20000 in
theorem rp_readOne0 {w : Wd} {sh : Shp} {g : Mem} {m : Nat} (hM : MdS sh.1 m) {T : Tx} {d : Nat → Int} {s : Nat → Bool} {p st : Nat} (h0 : RG g m T p) (hd : g (m + 3) = d) (hP : PInv d) (hS : SM g m s) (hst : st ≤ 1000)  : CT w mX10_readOne [.ref (m), .int (i32 (0)), .int (i32 (((st : Nat) : Int))), .int (i32 (19)), .int (i32 (40))] sh g (vQ sh (RP g m T (P_rule T st d s p 0))) := by
  have hX := h0.1
  have h7 := hX.1
  have hTb := hX.2.2.2
  have hsk2 := sk_le h0.2.2.1
  have hp4 := h0.2.1
  have hpT := h0.2.2.1
  have h5 := h0.2.2.2.1
  have F0 : FM g g m := FM.rf
  have hbb := hP.1
  have hb2 := hbb.2.2.1
  have hb3 := hbb.2.2.2.1
  have hb4 := hbb.2.2.2.2.1
  have hb5 := hbb.2.2.2.2.2.1
  refine j_entry (by decide) rfl (Nat.le_of_ble_eq_true rfl) (fun h => by cases h) rfl ?_
  show J w mX10_readOne 0 [(0, .ref (m)), (1, .int (i32 (0))), (2, .int (i32 (((st : Nat) : Int)))), (3, .int (i32 (19))), (4, .int (i32 (40)))] [] sh g 0 0 _
  refine j_aload_n 1 0 dX10_readOne_0 rfl rfl ?_
  refine j_geti 4 dX10_readOne_1 rfl fl_X10_136 hM.md rfl rfl (fun r_1 => ?_)
  refine j_top (y := b01 (s 0) + 2 * b01 (s 1) + 4 * b01 (s 2)) (hS) ?_
  refine j_iload_n 5 1 dX10_readOne_4 rfl rfl ?_
  refine j_ishr 6 dX10_readOne_5 rfl ?_
  refine j_iconst 7 dX10_readOne_6 rfl ?_
  refine j_iand 8 dX10_readOne_7 rfl ?_
  refine j_topI (y := b01 (s 0)) (seen_b0 _ _ _) ?_
  refine j_iconst 9 dX10_readOne_8 rfl ?_
  cases hsi : s 0
  ·
    refine j_icmp_ne 12 19 dX10_readOne_9 rfl rfl (r32 (by decide) (by decide)) (r32 (by decide) (by decide)) (fun c_9 => ?_) (fun c_9 => absurd c_9 (by decide))
    refine j_aload_n 20 0 dX10_readOne_19 rfl rfl ?_
    refine j_dup 21 dX10_readOne_20 rfl rfl ?_
    refine j_geti 24 dX10_readOne_21 rfl fl_X10_136 hM.md rfl rfl (fun r_21 => ?_)
    refine j_top (y := b01 (s 0) + 2 * b01 (s 1) + 4 * b01 (s 2)) ((F0.2 14 (by decide)).trans hS) ?_
    refine j_iconst 25 dX10_readOne_24 rfl ?_
    refine j_iload_n 26 1 dX10_readOne_25 rfl rfl ?_
    refine j_ishl 27 dX10_readOne_26 rfl ?_
    refine j_ior 28 dX10_readOne_27 rfl ?_
    refine j_topI (y := b01 true + 2 * b01 (s 1) + 4 * b01 (s 2)) (seen_o0 _ _ _) ?_
    refine j_puti 31 dX10_readOne_28 rfl fl_X10_136 hM.md rfl rfl rfl (seen_r _ _ _) ?_
    refine j_mn (fun g_28 hg_28 => ?_)
    have F28 : FD g g_28 m := by rw [hg_28]; exact F0.fd.s14
    have S28 : RG g_28 m T p := by rw [hg_28]; exact h0.up (by decide)
    have D28 : g_28 (m + 3) = d := by rw [hg_28, up2_row (by omega)]; exact ((F0.1 _ (by omega)).trans hd)
    refine j_aload_n 32 0 dX10_readOne_31 rfl rfl ?_
    refine j_getr 35 dX10_readOne_32 rfl fl_X10_20 hM.md rfl (fun _ _ => rfl) rfl ?_
    refine j_iload_n 36 3 dX10_readOne_35 rfl rfl ?_
    refine j_aload_n 37 0 dX10_readOne_36 rfl rfl ?_
    refine j_iconst 38 dX10_readOne_37 rfl ?_
    refine j_iload 40 4 dX10_readOne_38 rfl rfl ?_
    refine j_callV 43 (As := [.int (i32 (1)), .int (i32 (40))]) (kc2 := 0) (ks2 := 0) dX10_readOne_40 rfl mvX10_number lk_X10_126 hM.md rfl ⟨Nat.le_of_ble_eq_true rfl, rfl⟩ rfl rfl (Nat.le_of_ble_eq_true rfl) ⟨Nat.le_of_ble_eq_true rfl, Nat.le_of_ble_eq_true rfl⟩ ⟨Nat.le_of_ble_eq_true rfl, Nat.le_of_ble_eq_true rfl⟩ (rp_number hM (by first | decide | omega) (by first | decide | omega) (by first | decide | omega) (by first | decide | omega) (st := (.inl (p))) S28) x_i (k_i fun z_40 g_40 h_40 => ?_)
    obtain ⟨Fz1, hz1, S1⟩ := h_40
    have F1 := (FM.rf (g := g_28) (m := m)).tr Fz1
    have hdl1 : (sk T (p)) + dn T (sk T (p)) ≤ T.2 := rn_le hD (sk_le S28.2.2.1)
    rcases numC T (sk T (p)) (1) (40) with hB | hB | hB
    ·
      rw [numS_1 hB] at hz1 S1
      refine j_top (y := nv T (sk T (p))) hz1 ?_
      refine j_iast 44 (19) dX10_readOne_43 rfl hM.dra rfl (by omega) (show 19 < 729 by omega) (r32 (by omega) (by omega)) ?_
      refine j_mn (fun g_43 hg_43 => ?_)
      exact j_vret dX10_readOne_44 rfl (⟨rfl, rfl, by rw [hg_43]; exact (F28.tr F1.fd).dr, by
        rw [show P_rule T st d s p 0 = .inl (ud d (19 + 0) (nv T (sk T (p))), sTold s 0, (sk T (p)) + dn T (sk T (p))) from by unfold P_rule; rw [if_neg (show ¬ s 0 = true by rw [hsi]; decide), show most ((19 + 0 : Nat) : Int) = 40 from by decide, kNum_1 hB]; first | done | rfl]
        rw [hg_43]
        refine ⟨S1.dr, by rw [up2_ud, F1.1 _ (by omega), D28], SM.dr ?_⟩
        show _ = _
        rw [F1.2 14 (by decide), hg_28, up2_s]
        rfl⟩)
    ·
      rw [numS_2 hB] at hz1 S1
      refine j_top (y := 0) hz1 ?_
      refine j_iast 44 (19) dX10_readOne_43 rfl hM.dra rfl (by omega) (show 19 < 729 by omega) (r32 (by decide) (by decide)) ?_
      refine j_mn (fun g_43 hg_43 => ?_)
      exact j_vret dX10_readOne_44 rfl (⟨rfl, rfl, by rw [hg_43]; exact (F28.tr F1.fd).dr, by
        rw [show P_rule T st d s p 0 = .inr ((-2), (sk T (p))) from by unfold P_rule; rw [if_neg (show ¬ s 0 = true by rw [hsi]; decide), show most ((19 + 0 : Nat) : Int) = 40 from by decide, kNum_2 hB]]
        rw [hg_43]
        exact S1.dr⟩)
    ·
      rw [numS_3 hB] at hz1 S1
      refine j_top (y := 0) hz1 ?_
      refine j_iast 44 (19) dX10_readOne_43 rfl hM.dra rfl (by omega) (show 19 < 729 by omega) (r32 (by decide) (by decide)) ?_
      refine j_mn (fun g_43 hg_43 => ?_)
      exact j_vret dX10_readOne_44 rfl (⟨rfl, rfl, by rw [hg_43]; exact (F28.tr F1.fd).dr, by
        rw [show P_rule T st d s p 0 = .inr ((-3), (sk T (p))) from by unfold P_rule; rw [if_neg (show ¬ s 0 = true by rw [hsi]; decide), show most ((19 + 0 : Nat) : Int) = 40 from by decide, kNum_3 hB]]
        rw [hg_43]
        exact S1.dr⟩)
  ·
    refine j_icmp_ne 12 19 dX10_readOne_9 rfl rfl (r32 (by decide) (by decide)) (r32 (by decide) (by decide)) (fun c_9 => absurd rfl c_9) (fun c_9 => ?_)
    refine j_aload_n 13 0 dX10_readOne_12 rfl rfl ?_
    refine j_bipush 15 dX10_readOne_13 rfl (by decide) ?_
    refine j_iload_n 16 2 dX10_readOne_15 rfl rfl ?_
    refine j_callV 19 (As := [.int (i32 (-2)), .int (i32 (((st : Nat) : Int)))]) (kc2 := 0) (ks2 := 0) dX10_readOne_16 rfl mvX10_report lk_X10_78 hM.md rfl ⟨Nat.le_of_ble_eq_true rfl, rfl⟩ rfl rfl (Nat.le_of_ble_eq_true rfl) ⟨Nat.le_of_ble_eq_true rfl, Nat.le_of_ble_eq_true rfl⟩ ⟨Nat.le_of_ble_eq_true rfl, Nat.le_of_ble_eq_true rfl⟩ (rp_report0 hM h0.2.2.2.1 (r32 (by decide) (by decide)) (r32 (by omega) (by omega))) x_d (k_d0 ?_)
    refine j_mn (fun g2 hg2 => ?_)
    have S2 : RE g2 m T ((-2), st) := by rw [hg2]; exact h0.err (by decide)
    have F2 : FM g g2 m := by rw [hg2]; exact (F0.up (by decide)).up (by decide)
    refine j_aload_n 20 0 dX10_readOne_19 rfl rfl ?_
    refine j_dup 21 dX10_readOne_20 rfl rfl ?_
    refine j_geti 24 dX10_readOne_21 rfl fl_X10_136 hM.md rfl rfl (fun r_21 => ?_)
    refine j_top (y := b01 (s 0) + 2 * b01 (s 1) + 4 * b01 (s 2)) ((F2.2 14 (by decide)).trans hS) ?_
    refine j_iconst 25 dX10_readOne_24 rfl ?_
    refine j_iload_n 26 1 dX10_readOne_25 rfl rfl ?_
    refine j_ishl 27 dX10_readOne_26 rfl ?_
    refine j_ior 28 dX10_readOne_27 rfl ?_
    refine j_topI (y := b01 true + 2 * b01 (s 1) + 4 * b01 (s 2)) (seen_o0 _ _ _) ?_
    refine j_puti 31 dX10_readOne_28 rfl fl_X10_136 hM.md rfl rfl rfl (seen_r _ _ _) ?_
    refine j_mn (fun g_28 hg_28 => ?_)
    have F28 : FD g g_28 m := by rw [hg_28]; exact F2.fd.s14
    have S28 : RE g_28 m T ((-2), st) := by rw [hg_28]; exact S2.up (by decide)
    have D28 : g_28 (m + 3) = d := by rw [hg_28, up2_row (by omega)]; exact ((F2.1 _ (by omega)).trans hd)
    refine j_aload_n 32 0 dX10_readOne_31 rfl rfl ?_
    refine j_getr 35 dX10_readOne_32 rfl fl_X10_20 hM.md rfl (fun _ _ => rfl) rfl ?_
    refine j_iload_n 36 3 dX10_readOne_35 rfl rfl ?_
    refine j_aload_n 37 0 dX10_readOne_36 rfl rfl ?_
    refine j_iconst 38 dX10_readOne_37 rfl ?_
    refine j_iload 40 4 dX10_readOne_38 rfl rfl ?_
    refine j_callV 43 (As := [.int (i32 (1)), .int (i32 (40))]) (kc2 := 0) (ks2 := 0) dX10_readOne_40 rfl mvX10_number lk_X10_126 hM.md rfl ⟨Nat.le_of_ble_eq_true rfl, rfl⟩ rfl rfl (Nat.le_of_ble_eq_true rfl) ⟨Nat.le_of_ble_eq_true rfl, Nat.le_of_ble_eq_true rfl⟩ ⟨Nat.le_of_ble_eq_true rfl, Nat.le_of_ble_eq_true rfl⟩ (rp_numberX hM (r32 (by decide) (by decide)) (r32 (by decide) (by decide)) S28) x_i (k_i fun z_40 g_40 h_40 => ?_)
    obtain ⟨Fz3, hz3, S3⟩ := h_40
    have F3 := (FM.rf (g := g_28) (m := m)).tr Fz3
    refine j_top (y := 0) hz3 ?_
    refine j_iast 44 (19) dX10_readOne_43 rfl hM.dra rfl (by omega) (show 19 < 729 by omega) (r32 (by decide) (by decide)) ?_
    refine j_mn (fun g_43 hg_43 => ?_)
    exact j_vret dX10_readOne_44 rfl (⟨rfl, rfl, by rw [hg_43]; exact (F28.tr F3.fd).dr, by
      rw [show P_rule T st d s p 0 = .inr ((-2), st) from by unfold P_rule; rw [if_pos hsi]]
      rw [hg_43]
      exact S3.dr⟩)

set_option maxRecDepth 20000 in
theorem rp_readOne1 {w : Wd} {sh : Shp} {g : Mem} {m : Nat} (hM : MdS sh.1 m) {T : Tx} {d : Nat → Int} {s : Nat → Bool} {p st : Nat} (h0 : RG g m T p) (hd : g (m + 3) = d) (hP : PInv d) (hS : SM g m s) (hst : st ≤ 1000)  : CT w mX10_readOne [.ref (m), .int (i32 (1)), .int (i32 (((st : Nat) : Int))), .int (i32 (20)), .int (i32 (20))] sh g (vQ sh (RP g m T (P_rule T st d s p 1))) := by
  have hX := h0.1
  have h7 := hX.1
  have hTb := hX.2.2.2
  have hsk2 := sk_le h0.2.2.1
  have hp4 := h0.2.1
  have hpT := h0.2.2.1
  have h5 := h0.2.2.2.1
  have F0 : FM g g m := FM.rf
  have hbb := hP.1
  have hb2 := hbb.2.2.1
  have hb3 := hbb.2.2.2.1
  have hb4 := hbb.2.2.2.2.1
  have hb5 := hbb.2.2.2.2.2.1
  refine j_entry (by decide) rfl (Nat.le_of_ble_eq_true rfl) (fun h => by cases h) rfl ?_
  show J w mX10_readOne 0 [(0, .ref (m)), (1, .int (i32 (1))), (2, .int (i32 (((st : Nat) : Int)))), (3, .int (i32 (20))), (4, .int (i32 (20)))] [] sh g 0 0 _
  refine j_aload_n 1 0 dX10_readOne_0 rfl rfl ?_
  refine j_geti 4 dX10_readOne_1 rfl fl_X10_136 hM.md rfl rfl (fun r_1 => ?_)
  refine j_top (y := b01 (s 0) + 2 * b01 (s 1) + 4 * b01 (s 2)) (hS) ?_
  refine j_iload_n 5 1 dX10_readOne_4 rfl rfl ?_
  refine j_ishr 6 dX10_readOne_5 rfl ?_
  refine j_iconst 7 dX10_readOne_6 rfl ?_
  refine j_iand 8 dX10_readOne_7 rfl ?_
  refine j_topI (y := b01 (s 1)) (seen_b1 _ _ _) ?_
  refine j_iconst 9 dX10_readOne_8 rfl ?_
  cases hsi : s 1
  ·
    refine j_icmp_ne 12 19 dX10_readOne_9 rfl rfl (r32 (by decide) (by decide)) (r32 (by decide) (by decide)) (fun c_9 => ?_) (fun c_9 => absurd c_9 (by decide))
    refine j_aload_n 20 0 dX10_readOne_19 rfl rfl ?_
    refine j_dup 21 dX10_readOne_20 rfl rfl ?_
    refine j_geti 24 dX10_readOne_21 rfl fl_X10_136 hM.md rfl rfl (fun r_21 => ?_)
    refine j_top (y := b01 (s 0) + 2 * b01 (s 1) + 4 * b01 (s 2)) ((F0.2 14 (by decide)).trans hS) ?_
    refine j_iconst 25 dX10_readOne_24 rfl ?_
    refine j_iload_n 26 1 dX10_readOne_25 rfl rfl ?_
    refine j_ishl 27 dX10_readOne_26 rfl ?_
    refine j_ior 28 dX10_readOne_27 rfl ?_
    refine j_topI (y := b01 (s 0) + 2 * b01 true + 4 * b01 (s 2)) (seen_o1 _ _ _) ?_
    refine j_puti 31 dX10_readOne_28 rfl fl_X10_136 hM.md rfl rfl rfl (seen_r _ _ _) ?_
    refine j_mn (fun g_28 hg_28 => ?_)
    have F28 : FD g g_28 m := by rw [hg_28]; exact F0.fd.s14
    have S28 : RG g_28 m T p := by rw [hg_28]; exact h0.up (by decide)
    have D28 : g_28 (m + 3) = d := by rw [hg_28, up2_row (by omega)]; exact ((F0.1 _ (by omega)).trans hd)
    refine j_aload_n 32 0 dX10_readOne_31 rfl rfl ?_
    refine j_getr 35 dX10_readOne_32 rfl fl_X10_20 hM.md rfl (fun _ _ => rfl) rfl ?_
    refine j_iload_n 36 3 dX10_readOne_35 rfl rfl ?_
    refine j_aload_n 37 0 dX10_readOne_36 rfl rfl ?_
    refine j_iconst 38 dX10_readOne_37 rfl ?_
    refine j_iload 40 4 dX10_readOne_38 rfl rfl ?_
    refine j_callV 43 (As := [.int (i32 (1)), .int (i32 (20))]) (kc2 := 0) (ks2 := 0) dX10_readOne_40 rfl mvX10_number lk_X10_126 hM.md rfl ⟨Nat.le_of_ble_eq_true rfl, rfl⟩ rfl rfl (Nat.le_of_ble_eq_true rfl) ⟨Nat.le_of_ble_eq_true rfl, Nat.le_of_ble_eq_true rfl⟩ ⟨Nat.le_of_ble_eq_true rfl, Nat.le_of_ble_eq_true rfl⟩ (rp_number hM (by first | decide | omega) (by first | decide | omega) (by first | decide | omega) (by first | decide | omega) (st := (.inl (p))) S28) x_i (k_i fun z_40 g_40 h_40 => ?_)
    obtain ⟨Fz4, hz4, S4⟩ := h_40
    have F4 := (FM.rf (g := g_28) (m := m)).tr Fz4
    have hdl4 : (sk T (p)) + dn T (sk T (p)) ≤ T.2 := rn_le hD (sk_le S28.2.2.1)
    rcases numC T (sk T (p)) (1) (20) with hB | hB | hB
    ·
      rw [numS_1 hB] at hz4 S4
      refine j_top (y := nv T (sk T (p))) hz4 ?_
      refine j_iast 44 (20) dX10_readOne_43 rfl hM.dra rfl (by omega) (show 20 < 729 by omega) (r32 (by omega) (by omega)) ?_
      refine j_mn (fun g_43 hg_43 => ?_)
      exact j_vret dX10_readOne_44 rfl (⟨rfl, rfl, by rw [hg_43]; exact (F28.tr F4.fd).dr, by
        rw [show P_rule T st d s p 1 = .inl (ud d (19 + 1) (nv T (sk T (p))), sTold s 1, (sk T (p)) + dn T (sk T (p))) from by unfold P_rule; rw [if_neg (show ¬ s 1 = true by rw [hsi]; decide), show most ((19 + 1 : Nat) : Int) = 20 from by decide, kNum_1 hB]; first | done | rfl]
        rw [hg_43]
        refine ⟨S4.dr, by rw [up2_ud, F4.1 _ (by omega), D28], SM.dr ?_⟩
        show _ = _
        rw [F4.2 14 (by decide), hg_28, up2_s]
        rfl⟩)
    ·
      rw [numS_2 hB] at hz4 S4
      refine j_top (y := 0) hz4 ?_
      refine j_iast 44 (20) dX10_readOne_43 rfl hM.dra rfl (by omega) (show 20 < 729 by omega) (r32 (by decide) (by decide)) ?_
      refine j_mn (fun g_43 hg_43 => ?_)
      exact j_vret dX10_readOne_44 rfl (⟨rfl, rfl, by rw [hg_43]; exact (F28.tr F4.fd).dr, by
        rw [show P_rule T st d s p 1 = .inr ((-2), (sk T (p))) from by unfold P_rule; rw [if_neg (show ¬ s 1 = true by rw [hsi]; decide), show most ((19 + 1 : Nat) : Int) = 20 from by decide, kNum_2 hB]]
        rw [hg_43]
        exact S4.dr⟩)
    ·
      rw [numS_3 hB] at hz4 S4
      refine j_top (y := 0) hz4 ?_
      refine j_iast 44 (20) dX10_readOne_43 rfl hM.dra rfl (by omega) (show 20 < 729 by omega) (r32 (by decide) (by decide)) ?_
      refine j_mn (fun g_43 hg_43 => ?_)
      exact j_vret dX10_readOne_44 rfl (⟨rfl, rfl, by rw [hg_43]; exact (F28.tr F4.fd).dr, by
        rw [show P_rule T st d s p 1 = .inr ((-3), (sk T (p))) from by unfold P_rule; rw [if_neg (show ¬ s 1 = true by rw [hsi]; decide), show most ((19 + 1 : Nat) : Int) = 20 from by decide, kNum_3 hB]]
        rw [hg_43]
        exact S4.dr⟩)
  ·
    refine j_icmp_ne 12 19 dX10_readOne_9 rfl rfl (r32 (by decide) (by decide)) (r32 (by decide) (by decide)) (fun c_9 => absurd rfl c_9) (fun c_9 => ?_)
    refine j_aload_n 13 0 dX10_readOne_12 rfl rfl ?_
    refine j_bipush 15 dX10_readOne_13 rfl (by decide) ?_
    refine j_iload_n 16 2 dX10_readOne_15 rfl rfl ?_
    refine j_callV 19 (As := [.int (i32 (-2)), .int (i32 (((st : Nat) : Int)))]) (kc2 := 0) (ks2 := 0) dX10_readOne_16 rfl mvX10_report lk_X10_78 hM.md rfl ⟨Nat.le_of_ble_eq_true rfl, rfl⟩ rfl rfl (Nat.le_of_ble_eq_true rfl) ⟨Nat.le_of_ble_eq_true rfl, Nat.le_of_ble_eq_true rfl⟩ ⟨Nat.le_of_ble_eq_true rfl, Nat.le_of_ble_eq_true rfl⟩ (rp_report0 hM h0.2.2.2.1 (r32 (by decide) (by decide)) (r32 (by omega) (by omega))) x_d (k_d0 ?_)
    refine j_mn (fun g5 hg5 => ?_)
    have S5 : RE g5 m T ((-2), st) := by rw [hg5]; exact h0.err (by decide)
    have F5 : FM g g5 m := by rw [hg5]; exact (F0.up (by decide)).up (by decide)
    refine j_aload_n 20 0 dX10_readOne_19 rfl rfl ?_
    refine j_dup 21 dX10_readOne_20 rfl rfl ?_
    refine j_geti 24 dX10_readOne_21 rfl fl_X10_136 hM.md rfl rfl (fun r_21 => ?_)
    refine j_top (y := b01 (s 0) + 2 * b01 (s 1) + 4 * b01 (s 2)) ((F5.2 14 (by decide)).trans hS) ?_
    refine j_iconst 25 dX10_readOne_24 rfl ?_
    refine j_iload_n 26 1 dX10_readOne_25 rfl rfl ?_
    refine j_ishl 27 dX10_readOne_26 rfl ?_
    refine j_ior 28 dX10_readOne_27 rfl ?_
    refine j_topI (y := b01 (s 0) + 2 * b01 true + 4 * b01 (s 2)) (seen_o1 _ _ _) ?_
    refine j_puti 31 dX10_readOne_28 rfl fl_X10_136 hM.md rfl rfl rfl (seen_r _ _ _) ?_
    refine j_mn (fun g_28 hg_28 => ?_)
    have F28 : FD g g_28 m := by rw [hg_28]; exact F5.fd.s14
    have S28 : RE g_28 m T ((-2), st) := by rw [hg_28]; exact S5.up (by decide)
    have D28 : g_28 (m + 3) = d := by rw [hg_28, up2_row (by omega)]; exact ((F5.1 _ (by omega)).trans hd)
    refine j_aload_n 32 0 dX10_readOne_31 rfl rfl ?_
    refine j_getr 35 dX10_readOne_32 rfl fl_X10_20 hM.md rfl (fun _ _ => rfl) rfl ?_
    refine j_iload_n 36 3 dX10_readOne_35 rfl rfl ?_
    refine j_aload_n 37 0 dX10_readOne_36 rfl rfl ?_
    refine j_iconst 38 dX10_readOne_37 rfl ?_
    refine j_iload 40 4 dX10_readOne_38 rfl rfl ?_
    refine j_callV 43 (As := [.int (i32 (1)), .int (i32 (20))]) (kc2 := 0) (ks2 := 0) dX10_readOne_40 rfl mvX10_number lk_X10_126 hM.md rfl ⟨Nat.le_of_ble_eq_true rfl, rfl⟩ rfl rfl (Nat.le_of_ble_eq_true rfl) ⟨Nat.le_of_ble_eq_true rfl, Nat.le_of_ble_eq_true rfl⟩ ⟨Nat.le_of_ble_eq_true rfl, Nat.le_of_ble_eq_true rfl⟩ (rp_numberX hM (r32 (by decide) (by decide)) (r32 (by decide) (by decide)) S28) x_i (k_i fun z_40 g_40 h_40 => ?_)
    obtain ⟨Fz6, hz6, S6⟩ := h_40
    have F6 := (FM.rf (g := g_28) (m := m)).tr Fz6
    refine j_top (y := 0) hz6 ?_
    refine j_iast 44 (20) dX10_readOne_43 rfl hM.dra rfl (by omega) (show 20 < 729 by omega) (r32 (by decide) (by decide)) ?_
    refine j_mn (fun g_43 hg_43 => ?_)
    exact j_vret dX10_readOne_44 rfl (⟨rfl, rfl, by rw [hg_43]; exact (F28.tr F6.fd).dr, by
      rw [show P_rule T st d s p 1 = .inr ((-2), st) from by unfold P_rule; rw [if_pos hsi]]
      rw [hg_43]
      exact S6.dr⟩)

set_option maxRecDepth 20000 in
theorem rp_readOne2 {w : Wd} {sh : Shp} {g : Mem} {m : Nat} (hM : MdS sh.1 m) {T : Tx} {d : Nat → Int} {s : Nat → Bool} {p st : Nat} (h0 : RG g m T p) (hd : g (m + 3) = d) (hP : PInv d) (hS : SM g m s) (hst : st ≤ 1000)  : CT w mX10_readOne [.ref (m), .int (i32 (2)), .int (i32 (((st : Nat) : Int))), .int (i32 (21)), .int (i32 (9))] sh g (vQ sh (RP g m T (P_rule T st d s p 2))) := by
  have hX := h0.1
  have h7 := hX.1
  have hTb := hX.2.2.2
  have hsk2 := sk_le h0.2.2.1
  have hp4 := h0.2.1
  have hpT := h0.2.2.1
  have h5 := h0.2.2.2.1
  have F0 : FM g g m := FM.rf
  have hbb := hP.1
  have hb2 := hbb.2.2.1
  have hb3 := hbb.2.2.2.1
  have hb4 := hbb.2.2.2.2.1
  have hb5 := hbb.2.2.2.2.2.1
  refine j_entry (by decide) rfl (Nat.le_of_ble_eq_true rfl) (fun h => by cases h) rfl ?_
  show J w mX10_readOne 0 [(0, .ref (m)), (1, .int (i32 (2))), (2, .int (i32 (((st : Nat) : Int)))), (3, .int (i32 (21))), (4, .int (i32 (9)))] [] sh g 0 0 _
  refine j_aload_n 1 0 dX10_readOne_0 rfl rfl ?_
  refine j_geti 4 dX10_readOne_1 rfl fl_X10_136 hM.md rfl rfl (fun r_1 => ?_)
  refine j_top (y := b01 (s 0) + 2 * b01 (s 1) + 4 * b01 (s 2)) (hS) ?_
  refine j_iload_n 5 1 dX10_readOne_4 rfl rfl ?_
  refine j_ishr 6 dX10_readOne_5 rfl ?_
  refine j_iconst 7 dX10_readOne_6 rfl ?_
  refine j_iand 8 dX10_readOne_7 rfl ?_
  refine j_topI (y := b01 (s 2)) (seen_b2 _ _ _) ?_
  refine j_iconst 9 dX10_readOne_8 rfl ?_
  cases hsi : s 2
  ·
    refine j_icmp_ne 12 19 dX10_readOne_9 rfl rfl (r32 (by decide) (by decide)) (r32 (by decide) (by decide)) (fun c_9 => ?_) (fun c_9 => absurd c_9 (by decide))
    refine j_aload_n 20 0 dX10_readOne_19 rfl rfl ?_
    refine j_dup 21 dX10_readOne_20 rfl rfl ?_
    refine j_geti 24 dX10_readOne_21 rfl fl_X10_136 hM.md rfl rfl (fun r_21 => ?_)
    refine j_top (y := b01 (s 0) + 2 * b01 (s 1) + 4 * b01 (s 2)) ((F0.2 14 (by decide)).trans hS) ?_
    refine j_iconst 25 dX10_readOne_24 rfl ?_
    refine j_iload_n 26 1 dX10_readOne_25 rfl rfl ?_
    refine j_ishl 27 dX10_readOne_26 rfl ?_
    refine j_ior 28 dX10_readOne_27 rfl ?_
    refine j_topI (y := b01 (s 0) + 2 * b01 (s 1) + 4 * b01 true) (seen_o2 _ _ _) ?_
    refine j_puti 31 dX10_readOne_28 rfl fl_X10_136 hM.md rfl rfl rfl (seen_r _ _ _) ?_
    refine j_mn (fun g_28 hg_28 => ?_)
    have F28 : FD g g_28 m := by rw [hg_28]; exact F0.fd.s14
    have S28 : RG g_28 m T p := by rw [hg_28]; exact h0.up (by decide)
    have D28 : g_28 (m + 3) = d := by rw [hg_28, up2_row (by omega)]; exact ((F0.1 _ (by omega)).trans hd)
    refine j_aload_n 32 0 dX10_readOne_31 rfl rfl ?_
    refine j_getr 35 dX10_readOne_32 rfl fl_X10_20 hM.md rfl (fun _ _ => rfl) rfl ?_
    refine j_iload_n 36 3 dX10_readOne_35 rfl rfl ?_
    refine j_aload_n 37 0 dX10_readOne_36 rfl rfl ?_
    refine j_iconst 38 dX10_readOne_37 rfl ?_
    refine j_iload 40 4 dX10_readOne_38 rfl rfl ?_
    refine j_callV 43 (As := [.int (i32 (1)), .int (i32 (9))]) (kc2 := 0) (ks2 := 0) dX10_readOne_40 rfl mvX10_number lk_X10_126 hM.md rfl ⟨Nat.le_of_ble_eq_true rfl, rfl⟩ rfl rfl (Nat.le_of_ble_eq_true rfl) ⟨Nat.le_of_ble_eq_true rfl, Nat.le_of_ble_eq_true rfl⟩ ⟨Nat.le_of_ble_eq_true rfl, Nat.le_of_ble_eq_true rfl⟩ (rp_number hM (by first | decide | omega) (by first | decide | omega) (by first | decide | omega) (by first | decide | omega) (st := (.inl (p))) S28) x_i (k_i fun z_40 g_40 h_40 => ?_)
    obtain ⟨Fz7, hz7, S7⟩ := h_40
    have F7 := (FM.rf (g := g_28) (m := m)).tr Fz7
    have hdl7 : (sk T (p)) + dn T (sk T (p)) ≤ T.2 := rn_le hD (sk_le S28.2.2.1)
    rcases numC T (sk T (p)) (1) (9) with hB | hB | hB
    ·
      rw [numS_1 hB] at hz7 S7
      refine j_top (y := nv T (sk T (p))) hz7 ?_
      refine j_iast 44 (21) dX10_readOne_43 rfl hM.dra rfl (by omega) (show 21 < 729 by omega) (r32 (by omega) (by omega)) ?_
      refine j_mn (fun g_43 hg_43 => ?_)
      exact j_vret dX10_readOne_44 rfl (⟨rfl, rfl, by rw [hg_43]; exact (F28.tr F7.fd).dr, by
        rw [show P_rule T st d s p 2 = .inl (ud d (19 + 2) (nv T (sk T (p))), sTold s 2, (sk T (p)) + dn T (sk T (p))) from by unfold P_rule; rw [if_neg (show ¬ s 2 = true by rw [hsi]; decide), show most ((19 + 2 : Nat) : Int) = 9 from by decide, kNum_1 hB]; first | done | rfl]
        rw [hg_43]
        refine ⟨S7.dr, by rw [up2_ud, F7.1 _ (by omega), D28], SM.dr ?_⟩
        show _ = _
        rw [F7.2 14 (by decide), hg_28, up2_s]
        rfl⟩)
    ·
      rw [numS_2 hB] at hz7 S7
      refine j_top (y := 0) hz7 ?_
      refine j_iast 44 (21) dX10_readOne_43 rfl hM.dra rfl (by omega) (show 21 < 729 by omega) (r32 (by decide) (by decide)) ?_
      refine j_mn (fun g_43 hg_43 => ?_)
      exact j_vret dX10_readOne_44 rfl (⟨rfl, rfl, by rw [hg_43]; exact (F28.tr F7.fd).dr, by
        rw [show P_rule T st d s p 2 = .inr ((-2), (sk T (p))) from by unfold P_rule; rw [if_neg (show ¬ s 2 = true by rw [hsi]; decide), show most ((19 + 2 : Nat) : Int) = 9 from by decide, kNum_2 hB]]
        rw [hg_43]
        exact S7.dr⟩)
    ·
      rw [numS_3 hB] at hz7 S7
      refine j_top (y := 0) hz7 ?_
      refine j_iast 44 (21) dX10_readOne_43 rfl hM.dra rfl (by omega) (show 21 < 729 by omega) (r32 (by decide) (by decide)) ?_
      refine j_mn (fun g_43 hg_43 => ?_)
      exact j_vret dX10_readOne_44 rfl (⟨rfl, rfl, by rw [hg_43]; exact (F28.tr F7.fd).dr, by
        rw [show P_rule T st d s p 2 = .inr ((-3), (sk T (p))) from by unfold P_rule; rw [if_neg (show ¬ s 2 = true by rw [hsi]; decide), show most ((19 + 2 : Nat) : Int) = 9 from by decide, kNum_3 hB]]
        rw [hg_43]
        exact S7.dr⟩)
  ·
    refine j_icmp_ne 12 19 dX10_readOne_9 rfl rfl (r32 (by decide) (by decide)) (r32 (by decide) (by decide)) (fun c_9 => absurd rfl c_9) (fun c_9 => ?_)
    refine j_aload_n 13 0 dX10_readOne_12 rfl rfl ?_
    refine j_bipush 15 dX10_readOne_13 rfl (by decide) ?_
    refine j_iload_n 16 2 dX10_readOne_15 rfl rfl ?_
    refine j_callV 19 (As := [.int (i32 (-2)), .int (i32 (((st : Nat) : Int)))]) (kc2 := 0) (ks2 := 0) dX10_readOne_16 rfl mvX10_report lk_X10_78 hM.md rfl ⟨Nat.le_of_ble_eq_true rfl, rfl⟩ rfl rfl (Nat.le_of_ble_eq_true rfl) ⟨Nat.le_of_ble_eq_true rfl, Nat.le_of_ble_eq_true rfl⟩ ⟨Nat.le_of_ble_eq_true rfl, Nat.le_of_ble_eq_true rfl⟩ (rp_report0 hM h0.2.2.2.1 (r32 (by decide) (by decide)) (r32 (by omega) (by omega))) x_d (k_d0 ?_)
    refine j_mn (fun g8 hg8 => ?_)
    have S8 : RE g8 m T ((-2), st) := by rw [hg8]; exact h0.err (by decide)
    have F8 : FM g g8 m := by rw [hg8]; exact (F0.up (by decide)).up (by decide)
    refine j_aload_n 20 0 dX10_readOne_19 rfl rfl ?_
    refine j_dup 21 dX10_readOne_20 rfl rfl ?_
    refine j_geti 24 dX10_readOne_21 rfl fl_X10_136 hM.md rfl rfl (fun r_21 => ?_)
    refine j_top (y := b01 (s 0) + 2 * b01 (s 1) + 4 * b01 (s 2)) ((F8.2 14 (by decide)).trans hS) ?_
    refine j_iconst 25 dX10_readOne_24 rfl ?_
    refine j_iload_n 26 1 dX10_readOne_25 rfl rfl ?_
    refine j_ishl 27 dX10_readOne_26 rfl ?_
    refine j_ior 28 dX10_readOne_27 rfl ?_
    refine j_topI (y := b01 (s 0) + 2 * b01 (s 1) + 4 * b01 true) (seen_o2 _ _ _) ?_
    refine j_puti 31 dX10_readOne_28 rfl fl_X10_136 hM.md rfl rfl rfl (seen_r _ _ _) ?_
    refine j_mn (fun g_28 hg_28 => ?_)
    have F28 : FD g g_28 m := by rw [hg_28]; exact F8.fd.s14
    have S28 : RE g_28 m T ((-2), st) := by rw [hg_28]; exact S8.up (by decide)
    have D28 : g_28 (m + 3) = d := by rw [hg_28, up2_row (by omega)]; exact ((F8.1 _ (by omega)).trans hd)
    refine j_aload_n 32 0 dX10_readOne_31 rfl rfl ?_
    refine j_getr 35 dX10_readOne_32 rfl fl_X10_20 hM.md rfl (fun _ _ => rfl) rfl ?_
    refine j_iload_n 36 3 dX10_readOne_35 rfl rfl ?_
    refine j_aload_n 37 0 dX10_readOne_36 rfl rfl ?_
    refine j_iconst 38 dX10_readOne_37 rfl ?_
    refine j_iload 40 4 dX10_readOne_38 rfl rfl ?_
    refine j_callV 43 (As := [.int (i32 (1)), .int (i32 (9))]) (kc2 := 0) (ks2 := 0) dX10_readOne_40 rfl mvX10_number lk_X10_126 hM.md rfl ⟨Nat.le_of_ble_eq_true rfl, rfl⟩ rfl rfl (Nat.le_of_ble_eq_true rfl) ⟨Nat.le_of_ble_eq_true rfl, Nat.le_of_ble_eq_true rfl⟩ ⟨Nat.le_of_ble_eq_true rfl, Nat.le_of_ble_eq_true rfl⟩ (rp_numberX hM (r32 (by decide) (by decide)) (r32 (by decide) (by decide)) S28) x_i (k_i fun z_40 g_40 h_40 => ?_)
    obtain ⟨Fz9, hz9, S9⟩ := h_40
    have F9 := (FM.rf (g := g_28) (m := m)).tr Fz9
    refine j_top (y := 0) hz9 ?_
    refine j_iast 44 (21) dX10_readOne_43 rfl hM.dra rfl (by omega) (show 21 < 729 by omega) (r32 (by decide) (by decide)) ?_
    refine j_mn (fun g_43 hg_43 => ?_)
    exact j_vret dX10_readOne_44 rfl (⟨rfl, rfl, by rw [hg_43]; exact (F28.tr F9.fd).dr, by
      rw [show P_rule T st d s p 2 = .inr ((-2), st) from by unfold P_rule; rw [if_pos hsi]]
      rw [hg_43]
      exact S9.dr⟩)
