/-! the reader of the class: choices and routes, walked -/
theorem isL_ln {T : Tx} {q : Nat} : isL (byT T q) = true ↔ ln T q ≠ 0 := by
  constructor
  · intro h; have := ln_pos h; omega
  · intro h
    have h1 := (rn_spec (T := T) hL q).1 0 (show 0 < ln T q by omega)
    rw [Nat.add_zero] at h1
    exact h1

set_option maxRecDepth 20000 in
theorem c_readChoice {w : Wd} {sh : Shp} {g : Mem} {R tx : Nat} (hR : RdS sh.1 R tx) {T : Tx} {d e2 : Nat → Int} {s : Nat → Bool} {c n cnt p : Nat} {v len : Int} {g0 : Mem} (htx : tx < R ∨ R + 76 ≤ tx) (hc8 : c < 8) (hcnt : cnt < 3) (hRl : RelX g0 (R + 1) d) (hP : PInv d) (H0 : MRd g R tx T s (sk T p)) (HM : MidR g g0 (R + 1) c n v len d e2 cnt)  : CT w mX8_readChoice [.ref (R), .ref (R + 1 + 9 + 2 * c)] sh g (iQ sh (CPm g g0 R tx T c n v len d cnt (P_c1 T s c e2 cnt p))) := by
  have F0 : FrR g g R := FrR.rf
  have hX0 := H0.1
  have hk0 := H0.2.1
  have hq0 := H0.2.2.1
  have hT7 := hX0.1
  have hTb := hX0.2.2.2
  have hr0 := hk0.2.2.1
  refine j_entry (by decide) rfl (Nat.le_of_ble_eq_true rfl) (fun h => by cases h) rfl ?_
  show J w mX8_readChoice 0 [(0, .ref (R)), (1, .ref (R + 1 + 9 + 2 * c))] [] sh g 0 0 _
  refine j_aload_n 1 0 dX8_readChoice_0 rfl rfl ?_
  rcases namC T (sk T p) with hA | hA | hA
  ·
    refine j_callV 4 (As := []) (kc2 := 0) (ks2 := 0) dX8_readChoice_1 rfl mvX8_checkName lk_X8_125 hR.rd rfl ⟨Nat.le_of_ble_eq_true rfl, rfl⟩ rfl rfl (Nat.le_of_ble_eq_true rfl) ⟨Nat.le_of_ble_eq_true rfl, Nat.le_of_ble_eq_true rfl⟩ ⟨Nat.le_of_ble_eq_true rfl, Nat.le_of_ble_eq_true rfl⟩ (c_nam1 hR hX0 hk0 hq0 hA.1 hA.2) x_d (k_d1 ?_)
    refine j_if_ne 7 9 dX8_readChoice_4 rfl rfl (r32 (by decide) (by decide)) (fun c_4 => ?_) (fun c_4 => absurd c_4 (by decide))
    have hnm := name_of hTb hk0 hA.1 hA.2
    have hvn := (nm_parts hA.2 hA.1).1
    refine j_aload_n 10 0 dX8_readChoice_9 rfl rfl ?_
    refine j_getr 13 dX8_readChoice_10 rfl fl_X8_12 hR.rd rfl (fun _ _ => rfl) rfl ?_
    refine j_aload_n 14 0 dX8_readChoice_13 rfl rfl ?_
    refine j_getl 17 dX8_readChoice_14 rfl fl_X8_128 hR.rd rfl rfl (fun r_14 => ?_)
    refine j_topL (y := nm27 (nmH T (sk T p)) (nmT T (sk T p))) (hnm.1) ?_
    refine j_callV 20 (As := [.long (i64 (nm27 (nmH T (sk T p)) (nmT T (sk T p))))]) (kc2 := 0) (ks2 := 0) dX8_readChoice_17 rfl mvX1_groupNamed lk_X8_132 hR.told.ex rfl ⟨Nat.le_of_ble_eq_true rfl, rfl⟩ rfl rfl (Nat.le_of_ble_eq_true rfl) ⟨Nat.le_of_ble_eq_true rfl, Nat.le_of_ble_eq_true rfl⟩ ⟨Nat.le_of_ble_eq_true rfl, Nat.le_of_ble_eq_true rfl⟩ (c_groupNamed hR.told HM.1 (by rw [← hnm.1]; exact ⟨by omega, by omega⟩)) x_d (k_d1 ?_)
    refine j_top (y := s_groupOf e2 (nmH T (sk T p)) (nmT T (sk T p))) (HM.grp hc8 hRl hP hvn) ?_
    refine j_istore_n 21 (L2 := [(2, .int (i32 (s_groupOf e2 (nmH T (sk T p)) (nmT T (sk T p))))), (0, .ref (R)), (1, .ref (R + 1 + 9 + 2 * c))]) dX8_readChoice_20 rfl rfl (Nat.le_of_ble_eq_true rfl) rfl ?_
    refine j_iload_n 22 0 dX8_readChoice_21 rfl rfl ?_
    refine j_iconst 23 dX8_readChoice_22 rfl ?_
    refine j_icmp_eq 26 34 dX8_readChoice_23 rfl rfl (fst_r32 _ (by decide)) (r32 (by decide) (by decide)) (fun c_23 => ?_) (fun c_23 => ?_)
    · have hbad : s_groupOf e2 (nmH T (sk T p)) (nmT T (sk T p)) = -1 ∨ chosen e2 c (s_groupOf e2 (nmH T (sk T p)) (nmT T (sk T p))) cnt = true := Or.inl c_23
      refine j_aload_n 35 1 dX8_readChoice_34 rfl rfl ?_
      refine j_bipush 37 dX8_readChoice_35 rfl (by decide) ?_
      refine j_callV 40 (As := [.int (i32 (-4))]) (kc2 := 0) (ks2 := 0) dX8_readChoice_37 rfl mvX8_fail lk_X8_67 hR.rd rfl ⟨Nat.le_of_ble_eq_true rfl, rfl⟩ rfl rfl (Nat.le_of_ble_eq_true rfl) ⟨Nat.le_of_ble_eq_true rfl, Nat.le_of_ble_eq_true rfl⟩ ⟨Nat.le_of_ble_eq_true rfl, Nat.le_of_ble_eq_true rfl⟩ (c_fail hR (q := (sk T p)) (by omega) hr0 (r32 (by decide) (by decide))) x_d (k_d1 ?_)
      exact j_zret dX8_readChoice_40 rfl (Or.inl rfl) (⟨_, rfl, rfl, cpm_bad F0 HM.1 (by unfold P_c1; rw [kNam_1 hA, if_pos hbad])⟩)
    · have hgr := s_groupOf_r c_23
      have hd3 : e2 3 = d 3 := HM.2.2.2.2.2.2.2.2.2.1 3 (by omega)
      refine j_aload_n 27 2 dX8_readChoice_26 rfl rfl ?_
      refine j_iload_n 28 0 dX8_readChoice_27 rfl rfl ?_
      refine j_callV 31 (As := [.int (i32 (s_groupOf e2 (nmH T (sk T p)) (nmT T (sk T p))))]) (kc2 := 0) (ks2 := 0) dX8_readChoice_28 rfl mvX6_hasChoice lk_X8_159 (hR.told.rt c hc8) rfl ⟨Nat.le_of_ble_eq_true rfl, rfl⟩ rfl rfl (Nat.le_of_ble_eq_true rfl) ⟨Nat.le_of_ble_eq_true rfl, Nat.le_of_ble_eq_true rfl⟩ ⟨Nat.le_of_ble_eq_true rfl, Nat.le_of_ble_eq_true rfl⟩ (c_hasCh (hR.told.rt c hc8) (hR.told.ch c hc8) (by omega) HM.2.2.2.2.2.2.2.1 (by omega) (fst_r32 _ (by decide))) x_d (k_d1 ?_)
      have hch := HM.chs (s_groupOf e2 (nmH T (sk T p)) (nmT T (sk T p))) cnt (Nat.le_refl _)
      rcases Bool.eq_false_or_eq_true (chosen e2 c (s_groupOf e2 (nmH T (sk T p)) (nmT T (sk T p))) cnt) with hB | hB
      ·
        refine j_top (y := 1) (by rw [hch, hB]; rfl) ?_
        refine j_if_eq 34 41 dX8_readChoice_31 rfl rfl (r32 (by decide) (by decide)) (fun c_31 => absurd c_31 (by decide)) (fun c_31 => ?_)
        have hbad : s_groupOf e2 (nmH T (sk T p)) (nmT T (sk T p)) = -1 ∨ chosen e2 c (s_groupOf e2 (nmH T (sk T p)) (nmT T (sk T p))) cnt = true := Or.inr hB
        refine j_aload_n 35 1 dX8_readChoice_34 rfl rfl ?_
        refine j_bipush 37 dX8_readChoice_35 rfl (by decide) ?_
        refine j_callV 40 (As := [.int (i32 (-4))]) (kc2 := 0) (ks2 := 0) dX8_readChoice_37 rfl mvX8_fail lk_X8_67 hR.rd rfl ⟨Nat.le_of_ble_eq_true rfl, rfl⟩ rfl rfl (Nat.le_of_ble_eq_true rfl) ⟨Nat.le_of_ble_eq_true rfl, Nat.le_of_ble_eq_true rfl⟩ ⟨Nat.le_of_ble_eq_true rfl, Nat.le_of_ble_eq_true rfl⟩ (c_fail hR (q := (sk T p)) (by omega) hr0 (r32 (by decide) (by decide))) x_d (k_d1 ?_)
        exact j_zret dX8_readChoice_40 rfl (Or.inl rfl) (⟨_, rfl, rfl, cpm_bad F0 HM.1 (by unfold P_c1; rw [kNam_1 hA, if_pos hbad])⟩)
      ·
        refine j_top (y := 0) (by rw [hch, hB]; rfl) ?_
        refine j_if_eq 34 41 dX8_readChoice_31 rfl rfl (r32 (by decide) (by decide)) (fun c_31 => ?_) (fun c_31 => absurd c_31 (by decide))
        have hnb : ¬ (s_groupOf e2 (nmH T (sk T p)) (nmT T (sk T p)) = -1 ∨ chosen e2 c (s_groupOf e2 (nmH T (sk T p)) (nmT T (sk T p))) cnt = true) := fun z => by rcases z with z | z; exact c_23 z; rw [hB] at z; cases z
        refine j_aload_n 42 2 dX8_readChoice_41 rfl rfl ?_
        refine j_iload_n 43 0 dX8_readChoice_42 rfl rfl ?_
        refine j_callV 46 (As := [.int (i32 (s_groupOf e2 (nmH T (sk T p)) (nmT T (sk T p))))]) (kc2 := 0) (ks2 := 0) dX8_readChoice_43 rfl mvX6_addChoice lk_X8_164 (hR.told.rt c hc8) rfl ⟨Nat.le_of_ble_eq_true rfl, rfl⟩ rfl rfl (Nat.le_of_ble_eq_true rfl) ⟨Nat.le_of_ble_eq_true rfl, Nat.le_of_ble_eq_true rfl⟩ ⟨Nat.le_of_ble_eq_true rfl, Nat.le_of_ble_eq_true rfl⟩ (c_addCh (hR.told.rt c hc8) (hR.told.ch c hc8) (by omega) HM.2.2.2.2.2.2.2.1 (by omega) (by omega) (fst_r32 _ (by decide))) x_d (k_d0 ?_)
        refine j_mn (fun g1 hg1 => ?_)
        have HM1 : MidR g1 g0 (R + 1) c n v len d (ud e2 (99 + 7 * c + cnt) (s_groupOf e2 (nmH T (sk T p)) (nmT T (sk T p)))) (cnt + 1) := by rw [hg1]; exact HM.add hc8 hcnt (by omega)
        have H1 : MRd g1 R tx T s (sk T p) := H0.upd (fun j => by rw [hg1]; repeat (first | rw [up2_row (by omega)] | rw [up2_a (by omega)])) (by rw [hg1]; repeat (first | rw [up2_row (by omega)] | rw [up2_a (by omega)]))
        have F1 : FrR g g1 R := F0.tr (fun a ha => by rw [hg1]; repeat (first | rw [up2_row (by omega)] | rw [up2_a (by omega)]))
        have hz : szT T (sk T p) = ln T (sk T p) := sz_L hTb hA.1
        have hsz := szT_le hTb hq0
        refine j_aload_n 47 1 dX8_readChoice_46 rfl rfl ?_
        refine j_callV 50 (As := []) (kc2 := 0) (ks2 := 0) dX8_readChoice_47 rfl mvX8_advance lk_X8_45 hR.rd rfl ⟨Nat.le_of_ble_eq_true rfl, rfl⟩ rfl rfl (Nat.le_of_ble_eq_true rfl) ⟨Nat.le_of_ble_eq_true rfl, Nat.le_of_ble_eq_true rfl⟩ ⟨Nat.le_of_ble_eq_true rfl, Nat.le_of_ble_eq_true rfl⟩ (c_advance hR H1.1 (by rw [H1.2.1.1, hz]) (by omega) (by omega)) x_d (k_d0 ?_)
        refine j_mn (fun g2 hg2 => ?_)
        have H2 : MRd g2 R tx T s (sk T ((sk T p) + ln T (sk T p))) := by rw [hg2]; exact H1.adv htx hz
        have HM2 : MidR g2 g0 (R + 1) c n v len d (ud e2 (99 + 7 * c + cnt) (s_groupOf e2 (nmH T (sk T p)) (nmT T (sk T p)))) (cnt + 1) := by rw [hg2]; exact HM1.rows hc8 (fun a h1 h2 => tokM_o (by omega))
        have F2 : FrR g g2 R := by rw [hg2]; exact F1.adv
        refine j_iconst 51 dX8_readChoice_50 rfl ?_
        exact j_zret dX8_readChoice_51 rfl (Or.inr rfl) (⟨_, rfl, rfl, cpm_ok F2 H2 HM2 (p2 := (sk T p) + ln T (sk T p)) rfl (by unfold P_c1; rw [kNam_1 hA, if_neg hnb])⟩)
  ·
    refine j_callV 4 (As := []) (kc2 := 0) (ks2 := 0) dX8_readChoice_1 rfl mvX8_checkName lk_X8_125 hR.rd rfl ⟨Nat.le_of_ble_eq_true rfl, rfl⟩ rfl rfl (Nat.le_of_ble_eq_true rfl) ⟨Nat.le_of_ble_eq_true rfl, Nat.le_of_ble_eq_true rfl⟩ ⟨Nat.le_of_ble_eq_true rfl, Nat.le_of_ble_eq_true rfl⟩ (c_nam2 hR hX0 hk0 hq0 hA) x_d (k_d1 ?_)
    refine j_if_ne 7 9 dX8_readChoice_4 rfl rfl (r32 (by decide) (by decide)) (fun c_4 => absurd c_4 (by decide)) (fun c_4 => ?_)
    refine j_iconst 8 dX8_readChoice_7 rfl ?_
    exact j_zret dX8_readChoice_8 rfl (Or.inl rfl) (⟨_, rfl, rfl, cpm_bad F0 HM.1 (by unfold P_c1; rw [kNam_2 hA])⟩)
  ·
    refine j_callV 4 (As := []) (kc2 := 0) (ks2 := 0) dX8_readChoice_1 rfl mvX8_checkName lk_X8_125 hR.rd rfl ⟨Nat.le_of_ble_eq_true rfl, rfl⟩ rfl rfl (Nat.le_of_ble_eq_true rfl) ⟨Nat.le_of_ble_eq_true rfl, Nat.le_of_ble_eq_true rfl⟩ ⟨Nat.le_of_ble_eq_true rfl, Nat.le_of_ble_eq_true rfl⟩ (c_nam3 hR hX0 hk0 hq0 hA.1 hA.2) x_d (k_d1 ?_)
    refine j_if_ne 7 9 dX8_readChoice_4 rfl rfl (r32 (by decide) (by decide)) (fun c_4 => absurd c_4 (by decide)) (fun c_4 => ?_)
    refine j_iconst 8 dX8_readChoice_7 rfl ?_
    exact j_zret dX8_readChoice_8 rfl (Or.inl rfl) (⟨_, rfl, rfl, cpm_bad F0 HM.1 (by unfold P_c1; rw [kNam_3 hA])⟩)

theorem P_c1_s {T : Tx} {s : Nat → Bool} {r n p : Nat} {d : Nat → Int} {x : (Nat → Int) × (Nat → Bool) × Nat} (h : P_c1 T s r d n p = .inl x) : x.2.1 = s := by
  unfold P_c1 kNam at h
  split at h
  · cases h
  · split at h
    · dsimp only at h
      split at h
      · cases h
      · cases h; rfl
    · cases h

set_option maxRecDepth 20000 in
theorem c_readRoute {w : Wd} {sh : Shp} {g : Mem} {R tx : Nat} (hR : RdS sh.1 R tx) {T : Tx} {d : Nat → Int} {s : Nat → Bool} {st : Nat} (htx : tx < R ∨ R + 76 ≤ tx) (H0 : CRd g R tx T d s st)  : CT w mX8_readRoute [.ref (R)] sh g (iQ sh (CP g R tx T (P_route2 T st d s (st + szT T st)))) := by
  have F0 : FrR g g R := FrR.rf
  have hX0 := H0.1
  have hk0 := H0.2.1
  have hq0 := H0.2.2.1
  have hR0 := H0.2.2.2.1
  have hP0 := H0.2.2.2.2.1
  have hT7 := hX0.1
  have hTb := hX0.2.2.2
  have hbb := hP0.1
  have hr0 := hk0.2.2.1
  have hb2 := hbb.2.2.1
  have hb3 := hbb.2.2.2.1
  have hb4 := hbb.2.2.2.2.1
  have hb5 := hbb.2.2.2.2.2.1
  refine j_entry (by decide) rfl (Nat.le_of_ble_eq_true rfl) (fun h => by cases h) rfl ?_
  show J w mX8_readRoute 0 [(0, .ref (R))] [] sh g 0 0 _
  refine j_aload_n 1 0 dX8_readRoute_0 rfl rfl ?_
  refine j_getr 4 dX8_readRoute_1 rfl fl_X8_12 hR.rd rfl (fun _ _ => rfl) rfl ?_
  refine j_geti 7 dX8_readRoute_4 rfl fl_X8_140 hR.told.ex rfl rfl (fun r_4 => ?_)
  refine j_top (y := d 4) (hR0.2.1.2.2.2.2.1) ?_
  refine j_bipush 9 dX8_readRoute_7 rfl (by decide) ?_
  refine j_icmp_lt 12 19 dX8_readRoute_9 rfl rfl ⟨by omega, by omega⟩ (r32 (by decide) (by decide)) (fun c_9 => ?_) (fun c_9 => ?_)
  · obtain ⟨c, hc⟩ := Int.eq_ofNat_of_zero_le hbb.2.2.2.2.1.1
    have hc8 : c < 8 := by omega
    have hz1 : szT T st = szT T st := rfl
    refine j_aload_n 20 0 dX8_readRoute_19 rfl rfl ?_
    refine j_callV 23 (As := []) (kc2 := 0) (ks2 := 0) dX8_readRoute_20 rfl mvX8_advance lk_X8_45 hR.rd rfl ⟨Nat.le_of_ble_eq_true rfl, rfl⟩ rfl rfl (Nat.le_of_ble_eq_true rfl) ⟨Nat.le_of_ble_eq_true rfl, Nat.le_of_ble_eq_true rfl⟩ ⟨Nat.le_of_ble_eq_true rfl, Nat.le_of_ble_eq_true rfl⟩ (c_adv hR htx H0 hz1) x_d (k_d0 ?_)
    refine j_mn (fun g1 hg1 => ?_)
    have H1 : CRd g1 R tx T d s (sk T (st + szT T st)) := by rw [hg1]; exact H0.adv htx hz1
    have F1 : FrR g g1 R := by rw [hg1]; exact F0.adv
    obtain ⟨hX1, hk1, hq1, hR1, hP1, hs1, he1⟩ := id H1
    have hr1 := hk1.2.2.1
    refine j_aload_n 24 0 dX8_readRoute_23 rfl rfl ?_
    refine j_iconst 25 dX8_readRoute_24 rfl ?_
    rcases digC T (sk T (st + szT T st)) 5 with hA | hA | hA
    ·
      refine j_callV 28 (As := [.int (i32 (5))]) (kc2 := 0) (ks2 := 0) dX8_readRoute_25 rfl mvX8_checkDigits lk_X8_108 hR.rd rfl ⟨Nat.le_of_ble_eq_true rfl, rfl⟩ rfl rfl (Nat.le_of_ble_eq_true rfl) ⟨Nat.le_of_ble_eq_true rfl, Nat.le_of_ble_eq_true rfl⟩ ⟨Nat.le_of_ble_eq_true rfl, Nat.le_of_ble_eq_true rfl⟩ (c_dig1 hR hX1 hk1 hq1 (by decide) hA.1 hA.2) x_d (k_d1 ?_)
      refine j_if_ne 31 33 dX8_readRoute_28 rfl rfl (r32 (by decide) (by decide)) (fun c_28 => ?_) (fun c_28 => absurd c_28 (by decide))
      have hrow := row_of hTb hk1 hA.1
      have hdb := bv_rng (bd_of (T := T) (q := (sk T (st + szT T st))) _ (Nat.le_refl _))
      have hro : g1 R 13 = enc ((dn T (sk T (st + szT T st)) : Nat) : Int) (bv (fT T (sk T (st + szT T st))) (dn T (sk T (st + szT T st)))) := hrow.1 (by omega)
      refine j_aload_n 34 0 dX8_readRoute_33 rfl rfl ?_
      refine j_geti 37 dX8_readRoute_34 rfl fl_X8_111 hR.rd rfl rfl (fun r_34 => ?_)
      refine j_top (y := enc ((dn T (sk T (st + szT T st)) : Nat) : Int) (bv (fT T (sk T (st + szT T st))) (dn T (sk T (st + szT T st))))) (hro) ?_
      refine j_istore_n 38 (L2 := [(1, .int (i32 (enc ((dn T (sk T (st + szT T st)) : Nat) : Int) (bv (fT T (sk T (st + szT T st))) (dn T (sk T (st + szT T st))))))), (0, .ref (R))]) dX8_readRoute_37 rfl rfl (Nat.le_of_ble_eq_true rfl) rfl ?_
      refine j_aload_n 39 1 dX8_readRoute_38 rfl rfl ?_
      refine j_getr 42 dX8_readRoute_39 rfl fl_X8_12 hR.rd rfl (fun _ _ => rfl) rfl ?_
      refine j_iload_n 43 0 dX8_readRoute_42 rfl rfl ?_
      refine j_callV 46 (As := [.int (i32 (enc ((dn T (sk T (st + szT T st)) : Nat) : Int) (bv (fT T (sk T (st + szT T st))) (dn T (sk T (st + szT T st))))))]) (kc2 := 0) (ks2 := 0) dX8_readRoute_43 rfl mvX1_hasPrefix lk_X8_143 hR.told.ex rfl ⟨Nat.le_of_ble_eq_true rfl, rfl⟩ rfl rfl (Nat.le_of_ble_eq_true rfl) ⟨Nat.le_of_ble_eq_true rfl, Nat.le_of_ble_eq_true rfl⟩ ⟨Nat.le_of_ble_eq_true rfl, Nat.le_of_ble_eq_true rfl⟩ (c_hasPrefix hR.told hR1.1 (by rw [← hro]; exact ⟨by omega, by omega⟩)) x_d (k_d1 ?_)
      have hpa : x_prefixAt g1 (R + 1) (enc ((dn T (sk T (st + szT T st)) : Nat) : Int) (bv (fT T (sk T (st + szT T st))) (dn T (sk T (st + szT T st))))) = s_prefAt d (dn T (sk T (st + szT T st))) (bv (fT T (sk T (st + szT T st))) (dn T (sk T (st + szT T st)))) := rel_prefixAt hR1 hP1.2.1 hdb.1 hdb.2
      by_cases hB : s_prefAt d (dn T (sk T (st + szT T st))) (bv (fT T (sk T (st + szT T st))) (dn T (sk T (st + szT T st)))) = -1
      ·
        refine j_top (y := 0) (by rw [hpa, hB]; rfl) ?_
        refine j_if_eq 49 56 dX8_readRoute_46 rfl rfl (r32 (by decide) (by decide)) (fun c_46 => ?_) (fun c_46 => absurd c_46 (by decide))
        have hz2 : szT T (sk T (st + szT T st)) = dn T (sk T (st + szT T st)) := sz_D hTb hA.1
        refine j_aload_n 57 1 dX8_readRoute_56 rfl rfl ?_
        refine j_callV 60 (As := []) (kc2 := 0) (ks2 := 0) dX8_readRoute_57 rfl mvX8_advance lk_X8_45 hR.rd rfl ⟨Nat.le_of_ble_eq_true rfl, rfl⟩ rfl rfl (Nat.le_of_ble_eq_true rfl) ⟨Nat.le_of_ble_eq_true rfl, Nat.le_of_ble_eq_true rfl⟩ ⟨Nat.le_of_ble_eq_true rfl, Nat.le_of_ble_eq_true rfl⟩ (c_adv hR htx H1 hz2) x_d (k_d0 ?_)
        refine j_mn (fun g2 hg2 => ?_)
        have H2 : CRd g2 R tx T d s (sk T ((sk T (st + szT T st)) + dn T (sk T (st + szT T st)))) := by rw [hg2]; exact H1.adv htx hz2
        have F2 : FrR g g2 R := by rw [hg2]; exact F1.adv
        obtain ⟨hX2, hk2, hq2, hR2, hP2, hs2, he2⟩ := id H2
        have hr2 := hk2.2.2.1
        refine j_aload_n 61 1 dX8_readRoute_60 rfl rfl ?_
        refine j_iload_n 62 0 dX8_readRoute_61 rfl rfl ?_
        refine j_callS 65 (As := [.int (i32 (enc ((dn T (sk T (st + szT T st)) : Nat) : Int) (bv (fT T (sk T (st + szT T st))) (dn T (sk T (st + szT T st))))))]) (kc2 := 0) (ks2 := 0) dX8_readRoute_62 rfl msX7_lengthOf lk_X8_146 rfl rfl (Nat.le_of_ble_eq_true rfl) ⟨Nat.le_of_ble_eq_true rfl, Nat.le_of_ble_eq_true rfl⟩ ⟨Nat.le_of_ble_eq_true rfl, Nat.le_of_ble_eq_true rfl⟩ (c_lengthOf (by rw [← hro]; exact ⟨by omega, by omega⟩)) x_d (k_d1 ?_)
        refine j_top (y := ((dn T (sk T (st + szT T st)) : Nat) : Int)) (by rw [show r_len 10 (enc ((dn T (sk T (st + szT T st)) : Nat) : Int) (bv (fT T (sk T (st + szT T st))) (dn T (sk T (st + szT T st))))) = dn T (sk T (st + szT T st)) from r_len_enc 10 _ _ (by omega) hdb.1 hdb.2]) ?_
        refine j_bipush 67 dX8_readRoute_65 rfl (by decide) ?_
        rcases numC T (sk T ((sk T (st + szT T st)) + dn T (sk T (st + szT T st)))) (((dn T (sk T (st + szT T st)) : Nat) : Int)) (6) with hC | hC | hC
        ·
          refine j_callV 70 (As := [.int (i32 (((dn T (sk T (st + szT T st)) : Nat) : Int))), .int (i32 (6))]) (kc2 := 0) (ks2 := 0) dX8_readRoute_67 rfl mvX8_checkNumber lk_X8_71 hR.rd rfl ⟨Nat.le_of_ble_eq_true rfl, rfl⟩ rfl rfl (Nat.le_of_ble_eq_true rfl) ⟨Nat.le_of_ble_eq_true rfl, Nat.le_of_ble_eq_true rfl⟩ ⟨Nat.le_of_ble_eq_true rfl, Nat.le_of_ble_eq_true rfl⟩ (c_num1 hR hX2 hk2 hq2 (by first | decide | omega) (by first | decide | omega) (by first | decide | omega) (by first | decide | omega) hC.1 hC.2) x_d (k_d1 ?_)
          refine j_if_ne 73 75 dX8_readRoute_70 rfl rfl (r32 (by decide) (by decide)) (fun c_70 => ?_) (fun c_70 => absurd c_70 (by decide))
          have hnu2 := num_of hTb hk2 hC.1
          have hz4 : szT T (sk T ((sk T (st + szT T st)) + dn T (sk T (st + szT T st)))) = dn T (sk T ((sk T (st + szT T st)) + dn T (sk T (st + szT T st)))) := sz_D hTb hC.1
          refine j_aload_n 76 1 dX8_readRoute_75 rfl rfl ?_
          refine j_getr 79 dX8_readRoute_76 rfl fl_X8_12 hR.rd rfl (fun _ _ => rfl) rfl ?_
          refine j_iload_n 80 0 dX8_readRoute_79 rfl rfl ?_
          refine j_aload_n 81 1 dX8_readRoute_80 rfl rfl ?_
          refine j_geti 84 dX8_readRoute_81 rfl fl_X8_75 hR.rd rfl rfl (fun r_81 => ?_)
          refine j_top (y := (nv T (sk T ((sk T (st + szT T st)) + dn T (sk T (st + szT T st)))))) (hnu2.1 (by omega)) ?_
          refine j_callV 87 (As := [.int (i32 (enc ((dn T (sk T (st + szT T st)) : Nat) : Int) (bv (fT T (sk T (st + szT T st))) (dn T (sk T (st + szT T st)))))), .int (i32 ((nv T (sk T ((sk T (st + szT T st)) + dn T (sk T (st + szT T st)))))))]) (kc2 := 0) (ks2 := 0) dX8_readRoute_84 rfl mvX1_tellRoute lk_X8_151 hR.told.ex rfl ⟨Nat.le_of_ble_eq_true rfl, rfl⟩ rfl rfl (Nat.le_of_ble_eq_true rfl) ⟨Nat.le_of_ble_eq_true rfl, Nat.le_of_ble_eq_true rfl⟩ ⟨Nat.le_of_ble_eq_true rfl, Nat.le_of_ble_eq_true rfl⟩ (c_tellRoute hR.told (c := c) (by rw [← hc]; exact hR2.2.1.2.2.2.2.1) hc8 (by rw [← hro]; exact ⟨by omega, by omega⟩) (r32 (by omega) (by omega))) x_d (k_d1 ?_)
          refine j_mn (fun g3 hg3 => ?_)
          have M3 : MidR g3 g2 (R + 1) c (dn T (sk T (st + szT T st))) (bv (fT T (sk T (st + szT T st))) (dn T (sk T (st + szT T st)))) (nv T (sk T ((sk T (st + szT T st)) + dn T (sk T (st + szT T st))))) d d 0 := by
            refine ⟨hR2.1.same (fun a h1 h2 => ?_), fun a z1 z2 z3 z4 z5 => ?_, fun j hj => ?_, ?_, ?_, ?_, ?_, ?_, fun j hj => absurd hj (Nat.not_lt_zero j), fun j hj => rfl, fun j hj => absurd hj (Nat.not_lt_zero j)⟩
            · rw [hg3, up2_k (by decide), up2_k (by decide), up2_k (by decide), up2_k (by decide)]
            · rw [hg3, up2_row (by omega), up2_row (by omega), up2_row (by omega), up2_row (by omega)]
            · rw [hg3, up2_k hj, up2_a (by omega), up2_a (by omega), up2_a (by omega)]
            · rw [hg3, up2_s]
            · rw [hg3, up2_a (by omega), up2_k (by decide), up2_k (by decide), up2_k (by decide)]
            · rw [hg3, up2_a (by omega), up2_k (by decide), up2_k (by decide), up2_s]
            · rw [hg3, up2_a (by omega), up2_k (by decide), up2_s]
            · rw [hg3, up2_a (by omega), up2_s]; rfl
          have H3 : MRd g3 R tx T s (sk T ((sk T (st + szT T st)) + dn T (sk T (st + szT T st)))) := H2.mrd.upd (fun j => by rw [hg3]; repeat (first | rw [up2_row (by omega)] | rw [up2_a (by omega)])) (by rw [hg3]; repeat (first | rw [up2_row (by omega)] | rw [up2_a (by omega)]))
          have F3 : FrR g g3 R := F2.tr (fun a ha => by rw [hg3]; repeat (first | rw [up2_row (by omega)] | rw [up2_a (by omega)]))
          have hsz := szT_le hTb hq2
          refine j_astore_n 88 (L2 := [(2, .ref (R + 1 + 9 + 2 * c)), (1, .int (i32 (enc ((dn T (sk T (st + szT T st)) : Nat) : Int) (bv (fT T (sk T (st + szT T st))) (dn T (sk T (st + szT T st))))))), (0, .ref (R))]) dX8_readRoute_87 rfl rfl (Nat.le_of_ble_eq_true rfl) rfl ?_
          refine j_aload_n 89 2 dX8_readRoute_88 rfl rfl ?_
          refine j_callV 92 (As := []) (kc2 := 0) (ks2 := 0) dX8_readRoute_89 rfl mvX8_advance lk_X8_45 hR.rd rfl ⟨Nat.le_of_ble_eq_true rfl, rfl⟩ rfl rfl (Nat.le_of_ble_eq_true rfl) ⟨Nat.le_of_ble_eq_true rfl, Nat.le_of_ble_eq_true rfl⟩ ⟨Nat.le_of_ble_eq_true rfl, Nat.le_of_ble_eq_true rfl⟩ (c_advance hR H3.1 (by rw [H3.2.1.1, hz4]) (by omega) (by omega)) x_d (k_d0 ?_)
          refine j_mn (fun g4 hg4 => ?_)
          have H4 : MRd g4 R tx T s (sk T ((sk T ((sk T (st + szT T st)) + dn T (sk T (st + szT T st)))) + dn T (sk T ((sk T (st + szT T st)) + dn T (sk T (st + szT T st)))))) := by rw [hg4]; exact H3.adv htx hz4
          have M4 : MidR g4 g2 (R + 1) c (dn T (sk T (st + szT T st))) (bv (fT T (sk T (st + szT T st))) (dn T (sk T (st + szT T st)))) (nv T (sk T ((sk T (st + szT T st)) + dn T (sk T (st + szT T st))))) d d 0 := by rw [hg4]; exact M3.rows hc8 (fun a h1 h2 => tokM_o (by omega))
          have F4 : FrR g g4 R := by rw [hg4]; exact F3.adv
          have hres0 : P_route2 T st d s (st + szT T st) = P_ch2 T s c (fun e c => a_route e (dn T (sk T (st + szT T st))) (bv (fT T (sk T (st + szT T st))) (dn T (sk T (st + szT T st)))) (nv T (sk T ((sk T (st + szT T st)) + dn T (sk T (st + szT T st))))) c) 3 d 0 ((sk T ((sk T (st + szT T st)) + dn T (sk T (st + szT T st)))) + dn T (sk T ((sk T (st + szT T st)) + dn T (sk T (st + szT T st))))) := by unfold P_route2; rw [if_neg (show ¬ 8 ≤ d 4 by omega), kDig_1 hA, if_pos hB, kNum_1 hC, hc, Int.toNat_natCast]
          generalize hFI : (fun e c => a_route e (dn T (sk T (st + szT T st))) (bv (fT T (sk T (st + szT T st))) (dn T (sk T (st + szT T st)))) (nv T (sk T ((sk T (st + szT T st)) + dn T (sk T (st + szT T st))))) c) = fin at hres0
          generalize hRS : P_route2 T st d s (st + szT T st) = res at hres0 ⊢
          have hfin : ∀ (g9 : Mem) (e2 : Nat → Int) (n q : Nat), 1 ≤ n ∧ n ≤ 3 → MRd g9 R tx T s q → MidR g9 g2 (R + 1) c (dn T (sk T (st + szT T st))) (bv (fT T (sk T (st + szT T st))) (dn T (sk T (st + szT T st)))) (nv T (sk T ((sk T (st + szT T st)) + dn T (sk T (st + szT T st))))) d e2 n → CRd g9 R tx T (fin e2 n) s q := fun g9 e2 n q hn3 h1 h2 => by
            have h3 := h2.fin (by omega) hc8 ⟨by omega, by omega⟩ hdb (by omega) hn3 hR2 hP2
            rw [← hFI]
            exact h1.crd h3.1 h3.2
          refine j_aload_n 93 0 dX8_readRoute_92 rfl rfl ?_
          refine j_ifnull 96 dX8_readRoute_93 rfl ?_
          refine j_aload_n 97 2 dX8_readRoute_96 rfl rfl ?_
          refine j_aload_n 98 0 dX8_readRoute_97 rfl rfl ?_
          refine j_callV 101 (As := [.ref (R + 1 + 9 + 2 * c)]) (kc2 := 0) (ks2 := 0) dX8_readRoute_98 rfl mvX8_readChoice lk_X8_155 hR.rd rfl ⟨Nat.le_of_ble_eq_true rfl, rfl⟩ rfl rfl (Nat.le_of_ble_eq_true rfl) ⟨Nat.le_of_ble_eq_true rfl, Nat.le_of_ble_eq_true rfl⟩ ⟨Nat.le_of_ble_eq_true rfl, Nat.le_of_ble_eq_true rfl⟩ (c_readChoice (p := (sk T ((sk T (st + szT T st)) + dn T (sk T (st + szT T st)))) + dn T (sk T ((sk T (st + szT T st)) + dn T (sk T (st + szT T st))))) hR htx hc8 (by decide) hR2 hP2 H4 M4) x_i (k_i fun z_98 g_98 h_98 => ?_)
          obtain ⟨F5, hcp⟩ := h_98
          rcases hc1 : P_c1 T s c d 0 ((sk T ((sk T (st + szT T st)) + dn T (sk T (st + szT T st)))) + dn T (sk T ((sk T (st + szT T st)) + dn T (sk T (st + szT T st))))) with x1 | e1
          · rw [hc1] at hcp
            obtain ⟨hz98, H5, M5⟩ := hcp
            have F6 := F4.tr F5
            have hs1 : x1.2.1 = s := P_c1_s hc1
            rw [hs1] at H5
            have hres1 : res = if isL (byT T (sk T x1.2.2)) = true then P_ch2 T s c fin 2 x1.1 1 x1.2.2 else .inl (fin x1.1 1, s, x1.2.2) := hres0.trans (ch2_l (f := 2) hc1)
            refine j_top (y := 1) hz98 ?_
            refine j_if_eq 104 108 dX8_readRoute_101 rfl rfl (r32 (by decide) (by decide)) (fun c_101 => absurd c_101 (by decide)) (fun c_101 => ?_)
            refine j_iconst 105 dX8_readRoute_104 rfl ?_
            refine j_goto 109 dX8_readRoute_105 rfl ?_
            refine j_istore_n 110 (L2 := [(3, .int (i32 (1))), (2, .ref (R + 1 + 9 + 2 * c)), (1, .int (i32 (enc ((dn T (sk T (st + szT T st)) : Nat) : Int) (bv (fT T (sk T (st + szT T st))) (dn T (sk T (st + szT T st))))))), (0, .ref (R))]) dX8_readRoute_109 rfl rfl (Nat.le_of_ble_eq_true rfl) rfl ?_
            refine j_iconst 111 dX8_readRoute_110 rfl ?_
            refine j_istore 113 (L2 := [(4, .int (i32 (1))), (3, .int (i32 (1))), (2, .ref (R + 1 + 9 + 2 * c)), (1, .int (i32 (enc ((dn T (sk T (st + szT T st)) : Nat) : Int) (bv (fT T (sk T (st + szT T st))) (dn T (sk T (st + szT T st))))))), (0, .ref (R))]) dX8_readRoute_111 rfl (Nat.le_of_ble_eq_true rfl) rfl ?_
            suffices lp_113 : ∀ (n_113 : Nat) (n : Nat) (e2 : Nat → Int) (p2 : Nat) (gk : Mem), 3 - n < n_113 → 1 ≤ n → n ≤ 3 → MRd gk R tx T s (sk T p2) → MidR gk g2 (R + 1) c (dn T (sk T (st + szT T st))) (bv (fT T (sk T (st + szT T st))) (dn T (sk T (st + szT T st)))) (nv T (sk T ((sk T (st + szT T st)) + dn T (sk T (st + szT T st))))) d e2 n → FrR g gk R → (res = if isL (byT T (sk T p2)) = true then P_ch2 T s c fin (3 - n) e2 n p2 else .inl (fin e2 n, s, p2)) → J w mX8_readRoute 113 [(4, .int (i32 ((n : Nat) : Int))), (3, .int (i32 1)), (2, .ref (R + 1 + 9 + 2 * c)), (0, .ref (R))] [] sh gk 0 0 (iQ sh (CP g R tx T res)) by
              refine j_sub [0, 1, 2, 4] rfl ?_
              exact lp_113 _ 1 x1.1 x1.2.2 _ (Nat.lt_succ_self _) (by decide) (by decide) H5 M5 F6 hres1
            intro n_113
            induction n_113 with
            | zero => intro n e2 p2 gk h_; exact absurd h_ (Nat.not_lt_zero _)
            | succ n_113 ih_113 =>
              intro n e2 p2 gk hn_113 hn1 hn3 HK MK9 FK hresK
              have hTk := HK.1.2.2.2
              have hkr := kdT_r (T := T) (sk T p2)
              refine j_iload 115 0 dX8_readRoute_113 rfl rfl ?_
              refine j_iconst 116 dX8_readRoute_115 rfl ?_
              refine j_icmp_ge 119 143 dX8_readRoute_116 rfl rfl (r32 (by omega) (by omega)) (r32 (by decide) (by decide)) (fun c_116 => ?_) (fun c_116 => ?_)
              · have hend : res = .inl (fin e2 n, s, p2) := by rw [hresK, show n = 3 by omega]; split <;> rfl
                refine j_iload_n 144 1 dX8_readRoute_143 rfl rfl ?_
                exact j_zret dX8_readRoute_144 rfl (Or.inr rfl) (⟨_, rfl, rfl, cp_ok FK (hfin gk e2 n _ ⟨hn1, hn3⟩ HK MK9) (p2 := p2) rfl hend⟩)
              · refine j_iload_n 120 1 dX8_readRoute_119 rfl rfl ?_
                refine j_if_eq 123 143 dX8_readRoute_120 rfl rfl (r32 (by decide) (by decide)) (fun c_120 => absurd c_120 (by decide)) (fun c_120 => ?_)
                refine j_aload_n 124 3 dX8_readRoute_123 rfl rfl ?_
                refine j_geti 127 dX8_readRoute_124 rfl fl_X8_52 hR.rd rfl rfl (fun r_124 => ?_)
                refine j_top (y := kdT T (sk T p2)) (HK.2.1.2.1) ?_
                refine j_iconst 128 dX8_readRoute_127 rfl ?_
                refine j_icmp_ne 131 143 dX8_readRoute_128 rfl rfl ⟨by omega, by omega⟩ (r32 (by decide) (by decide)) (fun c_128 => ?_) (fun c_128 => ?_)
                · have hend : res = .inl (fin e2 n, s, p2) := by rw [hresK, if_neg (fun z => c_128 ((kd_L hTk).mpr (isL_ln.mp z)))]
                  refine j_iload_n 144 1 dX8_readRoute_143 rfl rfl ?_
                  exact j_zret dX8_readRoute_144 rfl (Or.inr rfl) (⟨_, rfl, rfl, cp_ok FK (hfin gk e2 n _ ⟨hn1, hn3⟩ HK MK9) (p2 := p2) rfl hend⟩)
                · have hlt : isL (byT T (sk T p2)) = true := isL_ln.mpr ((kd_L hTk).mp c_128)
                  obtain ⟨f9, hf9⟩ : ∃ f9, 3 - n = f9 + 1 := ⟨2 - n, by omega⟩
                  rw [if_pos hlt, hf9] at hresK
                  refine j_aload_n 132 3 dX8_readRoute_131 rfl rfl ?_
                  refine j_aload_n 133 2 dX8_readRoute_132 rfl rfl ?_
                  refine j_callV 136 (As := [.ref (R + 1 + 9 + 2 * c)]) (kc2 := 0) (ks2 := 0) dX8_readRoute_133 rfl mvX8_readChoice lk_X8_155 hR.rd rfl ⟨Nat.le_of_ble_eq_true rfl, rfl⟩ rfl rfl (Nat.le_of_ble_eq_true rfl) ⟨Nat.le_of_ble_eq_true rfl, Nat.le_of_ble_eq_true rfl⟩ ⟨Nat.le_of_ble_eq_true rfl, Nat.le_of_ble_eq_true rfl⟩ (c_readChoice (p := p2) hR htx hc8 (show n < 3 by omega) hR2 hP2 HK MK9) x_i (k_i fun z_133 g_133 h_133 => ?_)
                  obtain ⟨F7, hcp7⟩ := h_133
                  rcases hc7 : P_c1 T s c e2 n p2 with x7 | e7
                  · rw [hc7] at hcp7
                    obtain ⟨hz7, H7, M7⟩ := hcp7
                    rw [P_c1_s hc7] at H7
                    have hres7 : res = if isL (byT T (sk T x7.2.2)) = true then P_ch2 T s c fin (3 - (n + 1)) x7.1 (n + 1) x7.2.2 else .inl (fin x7.1 (n + 1), s, x7.2.2) := by rw [hresK, ch2_l hc7, show 3 - (n + 1) = f9 by omega]
                    refine j_top (y := 1) hz7 ?_
                    refine j_istore_n 137 (L2 := [(3, .int (i32 (1))), (4, .int (i32 (((n : Nat) : Int)))), (2, .ref (R + 1 + 9 + 2 * c)), (0, .ref (R))]) dX8_readRoute_136 rfl rfl (Nat.le_of_ble_eq_true rfl) rfl ?_
                    refine j_iinc 140 1 (y := ((n : Nat) : Int) + 1) (L2 := [(4, .int (i32 (((n : Nat) : Int) + 1))), (3, .int (i32 (1))), (2, .ref (R + 1 + 9 + 2 * c)), (0, .ref (R))]) dX8_readRoute_137 rfl rfl (by omega) (Nat.le_of_ble_eq_true rfl) rfl ?_
                    refine j_goto 113 dX8_readRoute_140 rfl ?_
                    refine j_sub [0, 1, 2, 3] rfl ?_
                    exact ih_113 (n + 1) x7.1 x7.2.2 _ (by omega) (by omega) (by omega) H7 M7 (FK.tr F7) hres7
                  · rw [hc7] at hcp7
                    obtain ⟨hz7, B7⟩ := hcp7
                    have hres7 : res = .inr e7 := by rw [hresK, ch2_r hc7]
                    refine j_top (y := 0) hz7 ?_
                    refine j_istore_n 137 (L2 := [(3, .int (i32 (0))), (4, .int (i32 (((n : Nat) : Int)))), (2, .ref (R + 1 + 9 + 2 * c)), (0, .ref (R))]) dX8_readRoute_136 rfl rfl (Nat.le_of_ble_eq_true rfl) rfl ?_
                    refine j_iinc 140 1 (y := ((n : Nat) : Int) + 1) (L2 := [(4, .int (i32 (((n : Nat) : Int) + 1))), (3, .int (i32 (0))), (2, .ref (R + 1 + 9 + 2 * c)), (0, .ref (R))]) dX8_readRoute_137 rfl rfl (by omega) (Nat.le_of_ble_eq_true rfl) rfl ?_
                    refine j_goto 113 dX8_readRoute_140 rfl ?_
                    refine j_iload 115 0 dX8_readRoute_113 rfl rfl ?_
                    refine j_iconst 116 dX8_readRoute_115 rfl ?_
                    refine j_icmp_ge 119 143 dX8_readRoute_116 rfl rfl (r32 (by omega) (by omega)) (r32 (by decide) (by decide)) (fun c_116b => ?_) (fun c_116b => ?_)
                    · refine j_iload_n 144 1 dX8_readRoute_143 rfl rfl ?_
                      exact j_zret dX8_readRoute_144 rfl (Or.inl rfl) (⟨_, rfl, rfl, FK.tr F7, by rw [hres7]; exact ⟨rfl, B7⟩⟩)
                    · refine j_iload_n 120 1 dX8_readRoute_119 rfl rfl ?_
                      refine j_if_eq 123 143 dX8_readRoute_120 rfl rfl (r32 (by decide) (by decide)) (fun c_120 => ?_) (fun c_120 => absurd c_120 (by decide))
                      refine j_iload_n 144 1 dX8_readRoute_143 rfl rfl ?_
                      exact j_zret dX8_readRoute_144 rfl (Or.inl rfl) (⟨_, rfl, rfl, FK.tr F7, by rw [hres7]; exact ⟨rfl, B7⟩⟩)
          · rw [hc1] at hcp
            obtain ⟨hz98, B5⟩ := hcp
            have F6 := F4.tr F5
            have hres1 : res = .inr e1 := hres0.trans (ch2_r (f := 2) hc1)
            refine j_top (y := 0) hz98 ?_
            refine j_if_eq 104 108 dX8_readRoute_101 rfl rfl (r32 (by decide) (by decide)) (fun c_101 => ?_) (fun c_101 => absurd rfl c_101)
            refine j_iconst 109 dX8_readRoute_108 rfl ?_
            refine j_istore_n 110 (L2 := [(3, .int (i32 (0))), (2, .ref (R + 1 + 9 + 2 * c)), (1, .int (i32 (enc ((dn T (sk T (st + szT T st)) : Nat) : Int) (bv (fT T (sk T (st + szT T st))) (dn T (sk T (st + szT T st))))))), (0, .ref (R))]) dX8_readRoute_109 rfl rfl (Nat.le_of_ble_eq_true rfl) rfl ?_
            refine j_iconst 111 dX8_readRoute_110 rfl ?_
            refine j_istore 113 (L2 := [(4, .int (i32 (1))), (3, .int (i32 (0))), (2, .ref (R + 1 + 9 + 2 * c)), (1, .int (i32 (enc ((dn T (sk T (st + szT T st)) : Nat) : Int) (bv (fT T (sk T (st + szT T st))) (dn T (sk T (st + szT T st))))))), (0, .ref (R))]) dX8_readRoute_111 rfl (Nat.le_of_ble_eq_true rfl) rfl ?_
            refine j_iload 115 0 dX8_readRoute_113 rfl rfl ?_
            refine j_iconst 116 dX8_readRoute_115 rfl ?_
            refine j_icmp_ge 119 143 dX8_readRoute_116 rfl rfl (r32 (by decide) (by decide)) (r32 (by decide) (by decide)) (fun c_116b => ?_) (fun c_116b => ?_)
            · refine j_iload_n 144 1 dX8_readRoute_143 rfl rfl ?_
              exact j_zret dX8_readRoute_144 rfl (Or.inl rfl) (⟨_, rfl, rfl, F6, by rw [hres1]; exact ⟨rfl, B5⟩⟩)
            · refine j_iload_n 120 1 dX8_readRoute_119 rfl rfl ?_
              refine j_if_eq 123 143 dX8_readRoute_120 rfl rfl (r32 (by decide) (by decide)) (fun c_120 => ?_) (fun c_120 => absurd c_120 (by decide))
              refine j_iload_n 144 1 dX8_readRoute_143 rfl rfl ?_
              exact j_zret dX8_readRoute_144 rfl (Or.inl rfl) (⟨_, rfl, rfl, F6, by rw [hres1]; exact ⟨rfl, B5⟩⟩)
        ·
          refine j_callV 70 (As := [.int (i32 (((dn T (sk T (st + szT T st)) : Nat) : Int))), .int (i32 (6))]) (kc2 := 0) (ks2 := 0) dX8_readRoute_67 rfl mvX8_checkNumber lk_X8_71 hR.rd rfl ⟨Nat.le_of_ble_eq_true rfl, rfl⟩ rfl rfl (Nat.le_of_ble_eq_true rfl) ⟨Nat.le_of_ble_eq_true rfl, Nat.le_of_ble_eq_true rfl⟩ ⟨Nat.le_of_ble_eq_true rfl, Nat.le_of_ble_eq_true rfl⟩ (c_num2 hR hX2 hk2 hq2 (by first | decide | omega) (by first | decide | omega) (by first | decide | omega) (by first | decide | omega) hC) x_d (k_d1 ?_)
          refine j_if_ne 73 75 dX8_readRoute_70 rfl rfl (r32 (by decide) (by decide)) (fun c_70 => absurd c_70 (by decide)) (fun c_70 => ?_)
          refine j_iconst 74 dX8_readRoute_73 rfl ?_
          exact j_zret dX8_readRoute_74 rfl (Or.inl rfl) (⟨_, rfl, rfl, cp_bad F2 hR2.1 (by unfold P_route2; rw [if_neg (show ¬ 8 ≤ d 4 by omega), kDig_1 hA, if_pos hB, kNum_2 hC])⟩)
        ·
          refine j_callV 70 (As := [.int (i32 (((dn T (sk T (st + szT T st)) : Nat) : Int))), .int (i32 (6))]) (kc2 := 0) (ks2 := 0) dX8_readRoute_67 rfl mvX8_checkNumber lk_X8_71 hR.rd rfl ⟨Nat.le_of_ble_eq_true rfl, rfl⟩ rfl rfl (Nat.le_of_ble_eq_true rfl) ⟨Nat.le_of_ble_eq_true rfl, Nat.le_of_ble_eq_true rfl⟩ ⟨Nat.le_of_ble_eq_true rfl, Nat.le_of_ble_eq_true rfl⟩ (c_num3 hR hX2 hk2 hq2 (by first | decide | omega) (by first | decide | omega) (by first | decide | omega) (by first | decide | omega) hC.1 hC.2) x_d (k_d1 ?_)
          refine j_if_ne 73 75 dX8_readRoute_70 rfl rfl (r32 (by decide) (by decide)) (fun c_70 => absurd c_70 (by decide)) (fun c_70 => ?_)
          refine j_iconst 74 dX8_readRoute_73 rfl ?_
          exact j_zret dX8_readRoute_74 rfl (Or.inl rfl) (⟨_, rfl, rfl, cp_bad F2 hR2.1 (by unfold P_route2; rw [if_neg (show ¬ 8 ≤ d 4 by omega), kDig_1 hA, if_pos hB, kNum_3 hC])⟩)
      ·
        refine j_top (y := 1) (by rw [hpa, decide_eq_false hB]; rfl) ?_
        refine j_if_eq 49 56 dX8_readRoute_46 rfl rfl (r32 (by decide) (by decide)) (fun c_46 => absurd c_46 (by decide)) (fun c_46 => ?_)
        refine j_aload_n 50 1 dX8_readRoute_49 rfl rfl ?_
        refine j_bipush 52 dX8_readRoute_50 rfl (by decide) ?_
        refine j_callV 55 (As := [.int (i32 (-4))]) (kc2 := 0) (ks2 := 0) dX8_readRoute_52 rfl mvX8_fail lk_X8_67 hR.rd rfl ⟨Nat.le_of_ble_eq_true rfl, rfl⟩ rfl rfl (Nat.le_of_ble_eq_true rfl) ⟨Nat.le_of_ble_eq_true rfl, Nat.le_of_ble_eq_true rfl⟩ ⟨Nat.le_of_ble_eq_true rfl, Nat.le_of_ble_eq_true rfl⟩ (c_fail hR (q := (sk T (st + szT T st))) (by omega) hr1 (r32 (by decide) (by decide))) x_d (k_d1 ?_)
        exact j_zret dX8_readRoute_55 rfl (Or.inl rfl) (⟨_, rfl, rfl, cp_bad F1 hR1.1 (by unfold P_route2; rw [if_neg (show ¬ 8 ≤ d 4 by omega), kDig_1 hA, if_neg hB])⟩)
    ·
      refine j_callV 28 (As := [.int (i32 (5))]) (kc2 := 0) (ks2 := 0) dX8_readRoute_25 rfl mvX8_checkDigits lk_X8_108 hR.rd rfl ⟨Nat.le_of_ble_eq_true rfl, rfl⟩ rfl rfl (Nat.le_of_ble_eq_true rfl) ⟨Nat.le_of_ble_eq_true rfl, Nat.le_of_ble_eq_true rfl⟩ ⟨Nat.le_of_ble_eq_true rfl, Nat.le_of_ble_eq_true rfl⟩ (c_dig2 hR hX1 hk1 hq1 (by decide) hA) x_d (k_d1 ?_)
      refine j_if_ne 31 33 dX8_readRoute_28 rfl rfl (r32 (by decide) (by decide)) (fun c_28 => absurd c_28 (by decide)) (fun c_28 => ?_)
      refine j_iconst 32 dX8_readRoute_31 rfl ?_
      exact j_zret dX8_readRoute_32 rfl (Or.inl rfl) (⟨_, rfl, rfl, cp_bad F1 hR1.1 (by unfold P_route2; rw [if_neg (show ¬ 8 ≤ d 4 by omega), kDig_2 hA])⟩)
    ·
      refine j_callV 28 (As := [.int (i32 (5))]) (kc2 := 0) (ks2 := 0) dX8_readRoute_25 rfl mvX8_checkDigits lk_X8_108 hR.rd rfl ⟨Nat.le_of_ble_eq_true rfl, rfl⟩ rfl rfl (Nat.le_of_ble_eq_true rfl) ⟨Nat.le_of_ble_eq_true rfl, Nat.le_of_ble_eq_true rfl⟩ ⟨Nat.le_of_ble_eq_true rfl, Nat.le_of_ble_eq_true rfl⟩ (c_dig3 hR hX1 hk1 hq1 (by decide) hA.1 hA.2) x_d (k_d1 ?_)
      refine j_if_ne 31 33 dX8_readRoute_28 rfl rfl (r32 (by decide) (by decide)) (fun c_28 => absurd c_28 (by decide)) (fun c_28 => ?_)
      refine j_iconst 32 dX8_readRoute_31 rfl ?_
      exact j_zret dX8_readRoute_32 rfl (Or.inl rfl) (⟨_, rfl, rfl, cp_bad F1 hR1.1 (by unfold P_route2; rw [if_neg (show ¬ 8 ≤ d 4 by omega), kDig_3 hA])⟩)
  · refine j_aload_n 13 0 dX8_readRoute_12 rfl rfl ?_
    refine j_bipush 15 dX8_readRoute_13 rfl (by decide) ?_
    refine j_callV 18 (As := [.int (i32 (-5))]) (kc2 := 0) (ks2 := 0) dX8_readRoute_15 rfl mvX8_fail lk_X8_67 hR.rd rfl ⟨Nat.le_of_ble_eq_true rfl, rfl⟩ rfl rfl (Nat.le_of_ble_eq_true rfl) ⟨Nat.le_of_ble_eq_true rfl, Nat.le_of_ble_eq_true rfl⟩ ⟨Nat.le_of_ble_eq_true rfl, Nat.le_of_ble_eq_true rfl⟩ (c_fail hR (q := st) (by omega) hr0 (r32 (by decide) (by decide))) x_d (k_d1 ?_)
    exact j_zret dX8_readRoute_18 rfl (Or.inl rfl) (⟨_, rfl, rfl, cp_bad F0 hR0.1 (by unfold P_route2; exact if_pos (by omega))⟩)
