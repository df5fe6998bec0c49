/-! the reference's reader: digits and names -/
theorem naM_4 {g : Mem} {m q k : Nat} {f : Nat → Int} : naM g m q k f m 18 = (q : Int) := by rw [naM_at]; rfl

set_option maxRecDepth 20000 in
theorem rp_digitsG {w : Wd} {sh : Shp} {g : Mem} {m : Nat} (hM : MdS sh.1 m) {T : Tx} {most : Nat} (hmo : most ≤ 1000) {p : Nat} (h0 : RG g m T p) : CT w mX10_readDigits [.ref (m), .int (i32 ((most : Int)))] sh g (vQ sh (fun g2 => FM g g2 m ∧ RS g2 m T (digS T most (.inl p)) ∧ ∀ p2, (.inl p : Sx) = .inl p2 → g2 m 15 = ((sk T p2 : Nat) : Int) ∧ g2 m 16 = ((dn T (sk T p2) : Nat) : Int) ∧ g2 m 17 = dvF (fT T (sk T p2)) (dn T (sk T p2)))) := by
  have hX := h0.1
  have h7 := hX.1
  have hsk2 := sk_le h0.2.2.1
  have hp4 := h0.2.1
  have hpT := h0.2.2.1
  have h5 := h0.2.2.2.1
  refine j_entry (by decide) rfl (Nat.le_of_ble_eq_true rfl) (fun h => by cases h) rfl ?_
  show J w mX10_readDigits 0 [(0, .ref (m)), (1, .int (i32 ((most : Int))))] [] sh g 0 0 _
  refine j_aload_n 1 0 dX10_readDigits_0 rfl rfl ?_
  refine j_callV 4 (As := []) (kc2 := 0) (ks2 := 0) dX10_readDigits_1 rfl mvX10_ahead lk_X10_65 hM.md rfl ⟨Nat.le_of_ble_eq_true rfl, rfl⟩ rfl rfl (Nat.le_of_ble_eq_true rfl) ⟨Nat.le_of_ble_eq_true rfl, Nat.le_of_ble_eq_true rfl⟩ ⟨Nat.le_of_ble_eq_true rfl, Nat.le_of_ble_eq_true rfl⟩ (rp_ahead hM hX hp4 hpT) x_d (k_d1 ?_)
  refine j_istore_n 5 (L2 := [(2, .int (i32 (byT T ((sk T p))))), (0, .ref (m)), (1, .int (i32 ((most : Int))))]) dX10_readDigits_4 rfl rfl (Nat.le_of_ble_eq_true rfl) rfl ?_
  refine j_aload_n 6 1 dX10_readDigits_5 rfl rfl ?_
  refine j_aload_n 7 1 dX10_readDigits_6 rfl rfl ?_
  refine j_geti 10 dX10_readDigits_7 rfl fl_X10_44 hM.md rfl rfl (fun r_7 => ?_)
  refine j_top (y := ((sk T p : Nat) : Int)) (up2_s) ?_
  refine j_puti 13 dX10_readDigits_10 rfl fl_X10_94 hM.md rfl rfl rfl (r32 (by omega) (by omega)) ?_
  refine j_mn (fun g_10 hg_10 => ?_)
  refine j_aload_n 14 1 dX10_readDigits_13 rfl rfl ?_
  refine j_iconst 15 dX10_readDigits_14 rfl ?_
  refine j_puti 18 dX10_readDigits_15 rfl fl_X10_97 hM.md rfl rfl rfl (r32 (by decide) (by decide)) ?_
  refine j_mn (fun g_15 hg_15 => ?_)
  refine j_aload_n 19 1 dX10_readDigits_18 rfl rfl ?_
  refine j_iconst 20 dX10_readDigits_19 rfl ?_
  refine j_puti 23 dX10_readDigits_20 rfl fl_X10_100 hM.md rfl rfl rfl (r32 (by decide) (by decide)) ?_
  refine j_mem (show up2 g_15 m 17 0 = (dgM g m (sk T p) (0) (fT T (sk T p))) by rw [hg_15, hg_10]; exact dg_0) ?_
  suffices lp_23 : ∀ (n_23 : Nat) (k : Nat), dn T (sk T p) - k < n_23 → k ≤ dn T (sk T p) → J w mX10_readDigits 23 [(2, .int (i32 (byT T ((sk T p))))), (0, .ref (m)), (1, .int (i32 ((most : Int))))] [] sh (dgM g m (sk T p) (k) (fT T (sk T p))) 0 0 (vQ sh (fun g2 => FM g g2 m ∧ RS g2 m T (digS T most (.inl p)) ∧ ∀ p2, (.inl p : Sx) = .inl p2 → g2 m 15 = ((sk T p2 : Nat) : Int) ∧ g2 m 16 = ((dn T (sk T p2) : Nat) : Int) ∧ g2 m 17 = dvF (fT T (sk T p2)) (dn T (sk T p2)))) by
    exact lp_23 _ 0 (Nat.lt_succ_self _) (by omega)
  intro n_23
  induction n_23 with
  | zero => intro k h_; exact absurd h_ (Nat.not_lt_zero _)
  | succ n_23 ih_23 =>
    intro k hn_23 hk
    have hbv := bv_rng (bd_of (T := T) (q := sk T p) k hk)
    have hdv : k ≤ 6 → dvF (fT T (sk T p)) k = bv (fT T (sk T p)) k := fun h => dvF_bv k h
    have hpw : k ≤ 6 → pw k ≤ 1000000 := fun h => pw_le h
    have hdl : sk T p + dn T (sk T p) ≤ T.2 := rn_le hD hsk2
    refine j_aload_n 24 1 dX10_readDigits_23 rfl rfl ?_
    refine j_aload_n 25 1 dX10_readDigits_24 rfl rfl ?_
    refine j_geti 28 dX10_readDigits_25 rfl fl_X10_44 hM.md rfl rfl (fun r_25 => ?_)
    refine j_top (y := (((sk T p) + k : Nat) : Int)) ((by rw [dgM_at]; rfl)) ?_
    refine j_callV 31 (As := [.int (i32 ((((sk T p) + k : Nat) : Int)))]) (kc2 := 0) (ks2 := 0) dX10_readDigits_28 rfl mvX10_byteAt lk_X10_47 hM.md rfl ⟨Nat.le_of_ble_eq_true rfl, rfl⟩ rfl rfl (Nat.le_of_ble_eq_true rfl) ⟨Nat.le_of_ble_eq_true rfl, Nat.le_of_ble_eq_true rfl⟩ ⟨Nat.le_of_ble_eq_true rfl, Nat.le_of_ble_eq_true rfl⟩ (rp_byteAt hM (hX.fm dgM_FM) (k := (sk T p) + k) (by omega)) x_d (k_d1 ?_)
    refine j_bipush 33 dX10_readDigits_31 rfl (by decide) ?_
    refine j_bipush 35 dX10_readDigits_33 rfl (by decide) ?_
    refine j_callS 38 (As := [.int (i32 (byT T ((sk T p) + k))), .int (i32 (48)), .int (i32 (57))]) (kc2 := 0) (ks2 := 0) dX10_readDigits_35 rfl msX10_in lk_X10_57 rfl rfl (Nat.le_of_ble_eq_true rfl) ⟨Nat.le_of_ble_eq_true rfl, Nat.le_of_ble_eq_true rfl⟩ ⟨Nat.le_of_ble_eq_true rfl, Nat.le_of_ble_eq_true rfl⟩ (r_in (by have := byT_r hX.2.2.2 ((sk T p) + k); exact ⟨by omega, by omega⟩) (r32 (by decide) (by decide)) (r32 (by decide) (by decide))) x_d (k_d1 ?_)
    refine j_top (y := b01 (isD (byT T ((sk T p) + k)))) (rfl) ?_
    refine j_if_eq 41 96 dX10_readDigits_38 rfl rfl (r01 (b01_r _)) (fun c_38 => ?_) (fun c_38 => ?_)
    · have hkd : k = dn T (sk T p) := by have h : ¬ k < dn T (sk T p) := fun z => b01_ne.mp c_38 ((dn_is hk).mpr z); omega
      subst hkd
      refine j_aload_n 97 1 dX10_readDigits_96 rfl rfl ?_
      rcases digC T (sk T p) most with hA | hA | hA
      ·
        refine j_geti 100 dX10_readDigits_97 rfl fl_X10_97 hM.md rfl rfl (fun r_97 => ?_)
        refine j_top (y := ((dn T (sk T p) : Nat) : Int)) ((by rw [dgM_at]; rfl)) ?_
        refine j_if_ne 103 113 dX10_readDigits_100 rfl rfl (r32 (by omega) (by omega)) (fun c_100 => ?_) (fun c_100 => absurd c_100 (by omega))
        refine j_aload_n 114 1 dX10_readDigits_113 rfl rfl ?_
        refine j_callV 117 (As := []) (kc2 := 0) (ks2 := 0) dX10_readDigits_114 rfl mvX10_isGood lk_X10_61 hM.md rfl ⟨Nat.le_of_ble_eq_true rfl, rfl⟩ rfl rfl (Nat.le_of_ble_eq_true rfl) ⟨Nat.le_of_ble_eq_true rfl, Nat.le_of_ble_eq_true rfl⟩ ⟨Nat.le_of_ble_eq_true rfl, Nat.le_of_ble_eq_true rfl⟩ (rp_isGood hM) x_d (k_d1 ?_)
        refine j_top (y := 1) (by rw [decide_eq_true (show _ = (0 : Int) by rw [dgM_5]; exact h5)]; rfl) ?_
        refine j_if_eq 120 138 dX10_readDigits_117 rfl rfl (r32 (by decide) (by decide)) (fun c_117 => absurd c_117 (by decide)) (fun c_117 => ?_)
        refine j_aload_n 121 1 dX10_readDigits_120 rfl rfl ?_
        refine j_geti 124 dX10_readDigits_121 rfl fl_X10_97 hM.md rfl rfl (fun r_121 => ?_)
        refine j_top (y := ((dn T (sk T p) : Nat) : Int)) ((by rw [dgM_at]; rfl)) ?_
        refine j_iload_n 125 2 dX10_readDigits_124 rfl rfl ?_
        refine j_icmp_le 128 138 dX10_readDigits_125 rfl rfl (r32 (by omega) (by omega)) (r32 (by omega) (by omega)) (fun c_125 => ?_) (fun c_125 => absurd c_125 (by omega))
        exact j_vret dX10_readDigits_138 rfl (⟨rfl, rfl, dgM_FM, by rw [digS_1 hA]; exact dgM_RG h0 (by omega), fun p2 hp2 => by cases hp2; exact ⟨by rw [dgM_at]; rfl, by rw [dgM_at]; rfl, by rw [dgM_at]; rfl⟩⟩)
      ·
        refine j_geti 100 dX10_readDigits_97 rfl fl_X10_97 hM.md rfl rfl (fun r_97 => ?_)
        refine j_top (y := ((dn T (sk T p) : Nat) : Int)) ((by rw [dgM_at]; rfl)) ?_
        refine j_top (y := 0) (by rw [hA]; rfl) ?_
        refine j_if_ne 103 113 dX10_readDigits_100 rfl rfl (r32 (by decide) (by decide)) (fun c_100 => absurd c_100 (by decide)) (fun c_100 => ?_)
        refine j_aload_n 104 1 dX10_readDigits_103 rfl rfl ?_
        refine j_bipush 106 dX10_readDigits_104 rfl (by decide) ?_
        refine j_aload_n 107 1 dX10_readDigits_106 rfl rfl ?_
        refine j_geti 110 dX10_readDigits_107 rfl fl_X10_94 hM.md rfl rfl (fun r_107 => ?_)
        refine j_top (y := (((sk T p) : Nat) : Int)) ((by rw [dgM_at]; rfl)) ?_
        refine j_callV 113 (As := [.int (i32 (-2)), .int (i32 ((((sk T p) : Nat) : Int)))]) (kc2 := 0) (ks2 := 0) dX10_readDigits_110 rfl mvX10_report lk_X10_78 hM.md rfl ⟨Nat.le_of_ble_eq_true rfl, rfl⟩ rfl rfl (Nat.le_of_ble_eq_true rfl) ⟨Nat.le_of_ble_eq_true rfl, Nat.le_of_ble_eq_true rfl⟩ ⟨Nat.le_of_ble_eq_true rfl, Nat.le_of_ble_eq_true rfl⟩ (rp_report0 hM (by rw [dgM_5]; exact h5) (r32 (by decide) (by decide)) (r32 (by omega) (by omega))) x_d (k_d0 ?_)
        refine j_aload_n 114 1 dX10_readDigits_113 rfl rfl ?_
        refine j_callV 117 (As := []) (kc2 := 0) (ks2 := 0) dX10_readDigits_114 rfl mvX10_isGood lk_X10_61 hM.md rfl ⟨Nat.le_of_ble_eq_true rfl, rfl⟩ rfl rfl (Nat.le_of_ble_eq_true rfl) ⟨Nat.le_of_ble_eq_true rfl, Nat.le_of_ble_eq_true rfl⟩ ⟨Nat.le_of_ble_eq_true rfl, Nat.le_of_ble_eq_true rfl⟩ (rp_isGood hM) x_d (k_d1 ?_)
        refine j_top (y := 0) (by rw [up2_k (by decide), up2_s]; rfl) ?_
        refine j_if_eq 120 138 dX10_readDigits_117 rfl rfl (r32 (by decide) (by decide)) (fun c_117 => ?_) (fun c_117 => absurd c_117 (by decide))
        exact j_vret dX10_readDigits_138 rfl (⟨rfl, rfl, (dgM_FM.up (by decide)).up (by decide), by rw [digS_2 hA]; exact (dgM_RG h0 (by omega)).err (by decide), fun p2 hp2 => by cases hp2; exact ⟨by rw [up2_k (by decide), up2_k (by decide), dgM_at]; rfl, by rw [up2_k (by decide), up2_k (by decide), dgM_at]; rfl, by rw [up2_k (by decide), up2_k (by decide), dgM_at]; rfl⟩⟩)
      ·
        refine j_geti 100 dX10_readDigits_97 rfl fl_X10_97 hM.md rfl rfl (fun r_97 => ?_)
        refine j_top (y := ((dn T (sk T p) : Nat) : Int)) ((by rw [dgM_at]; rfl)) ?_
        refine j_if_ne 103 113 dX10_readDigits_100 rfl rfl (r32 (by omega) (by omega)) (fun c_100 => ?_) (fun c_100 => absurd c_100 (by omega))
        refine j_aload_n 114 1 dX10_readDigits_113 rfl rfl ?_
        refine j_callV 117 (As := []) (kc2 := 0) (ks2 := 0) dX10_readDigits_114 rfl mvX10_isGood lk_X10_61 hM.md rfl ⟨Nat.le_of_ble_eq_true rfl, rfl⟩ rfl rfl (Nat.le_of_ble_eq_true rfl) ⟨Nat.le_of_ble_eq_true rfl, Nat.le_of_ble_eq_true rfl⟩ ⟨Nat.le_of_ble_eq_true rfl, Nat.le_of_ble_eq_true rfl⟩ (rp_isGood hM) x_d (k_d1 ?_)
        refine j_top (y := 1) (by rw [decide_eq_true (show _ = (0 : Int) by rw [dgM_5]; exact h5)]; rfl) ?_
        refine j_if_eq 120 138 dX10_readDigits_117 rfl rfl (r32 (by decide) (by decide)) (fun c_117 => absurd c_117 (by decide)) (fun c_117 => ?_)
        refine j_aload_n 121 1 dX10_readDigits_120 rfl rfl ?_
        refine j_geti 124 dX10_readDigits_121 rfl fl_X10_97 hM.md rfl rfl (fun r_121 => ?_)
        refine j_top (y := ((dn T (sk T p) : Nat) : Int)) ((by rw [dgM_at]; rfl)) ?_
        refine j_iload_n 125 2 dX10_readDigits_124 rfl rfl ?_
        refine j_icmp_le 128 138 dX10_readDigits_125 rfl rfl (r32 (by omega) (by omega)) (r32 (by omega) (by omega)) (fun c_125 => absurd c_125 (by omega)) (fun c_125 => ?_)
        refine j_aload_n 129 1 dX10_readDigits_128 rfl rfl ?_
        refine j_bipush 131 dX10_readDigits_129 rfl (by decide) ?_
        refine j_aload_n 132 1 dX10_readDigits_131 rfl rfl ?_
        refine j_geti 135 dX10_readDigits_132 rfl fl_X10_94 hM.md rfl rfl (fun r_132 => ?_)
        refine j_top (y := (((sk T p) : Nat) : Int)) ((by rw [dgM_at]; rfl)) ?_
        refine j_callV 138 (As := [.int (i32 (-3)), .int (i32 ((((sk T p) : Nat) : Int)))]) (kc2 := 0) (ks2 := 0) dX10_readDigits_135 rfl mvX10_report lk_X10_78 hM.md rfl ⟨Nat.le_of_ble_eq_true rfl, rfl⟩ rfl rfl (Nat.le_of_ble_eq_true rfl) ⟨Nat.le_of_ble_eq_true rfl, Nat.le_of_ble_eq_true rfl⟩ ⟨Nat.le_of_ble_eq_true rfl, Nat.le_of_ble_eq_true rfl⟩ (rp_report0 hM (by rw [dgM_5]; exact h5) (r32 (by decide) (by decide)) (r32 (by omega) (by omega))) x_d (k_d0 ?_)
        exact j_vret dX10_readDigits_138 rfl (⟨rfl, rfl, (dgM_FM.up (by decide)).up (by decide), by rw [digS_3 hA]; exact (dgM_RG h0 (by omega)).err (by decide), fun p2 hp2 => by cases hp2; exact ⟨by rw [up2_k (by decide), up2_k (by decide), dgM_at]; rfl, by rw [up2_k (by decide), up2_k (by decide), dgM_at]; rfl, by rw [up2_k (by decide), up2_k (by decide), dgM_at]; rfl⟩⟩)
    · have hkl := (dn_is hk).mp (Classical.byContradiction fun z => c_38 (b01_ne.mpr z))
      have hby := of_decide_eq_true (dn_lt hkl)
      refine j_aload_n 42 1 dX10_readDigits_41 rfl rfl ?_
      refine j_geti 45 dX10_readDigits_42 rfl fl_X10_97 hM.md rfl rfl (fun r_42 => ?_)
      refine j_top (y := (k : Int)) ((by rw [dgM_at]; rfl)) ?_
      refine j_bipush 47 dX10_readDigits_45 rfl (by decide) ?_
      refine j_icmp_ge 50 73 dX10_readDigits_47 rfl rfl (r32 (by omega) (by omega)) (r32 (by decide) (by decide)) (fun c_47 => ?_) (fun c_47 => ?_)
      · refine j_aload_n 74 1 dX10_readDigits_73 rfl rfl ?_
        refine j_dup 75 dX10_readDigits_74 rfl rfl ?_
        refine j_geti 78 dX10_readDigits_75 rfl fl_X10_97 hM.md rfl rfl (fun r_75 => ?_)
        refine j_top (y := (k : Int)) ((by first | (rw [dgM_at]; rfl) | (rw [hg_70, up2_k (by decide), dgM_at]; rfl))) ?_
        refine j_iconst 79 dX10_readDigits_78 rfl ?_
        refine j_iadd 80 dX10_readDigits_79 rfl ?_
        refine j_top (y := ((k + 1 : Nat) : Int)) (by omega) ?_
        refine j_puti 83 dX10_readDigits_80 rfl fl_X10_97 hM.md rfl rfl rfl (r32 (by omega) (by omega)) ?_
        refine j_mn (fun g_80 hg_80 => ?_)
        refine j_aload_n 84 1 dX10_readDigits_83 rfl rfl ?_
        refine j_dup 85 dX10_readDigits_84 rfl rfl ?_
        refine j_geti 88 dX10_readDigits_85 rfl fl_X10_44 hM.md rfl rfl (fun r_85 => ?_)
        refine j_top (y := (((sk T p) + k : Nat) : Int)) ((by first | (rw [hg_80, up2_k (by decide), dgM_at]; rfl) | (rw [hg_80, up2_k (by decide), hg_70, up2_k (by decide), dgM_at]; rfl))) ?_
        refine j_iconst 89 dX10_readDigits_88 rfl ?_
        refine j_iadd 90 dX10_readDigits_89 rfl ?_
        refine j_top (y := (((sk T p) + (k + 1) : Nat) : Int)) (by omega) ?_
        refine j_puti 93 dX10_readDigits_90 rfl fl_X10_44 hM.md rfl rfl rfl (r32 (by omega) (by omega)) ?_
        refine j_mn (fun g_90 hg_90 => ?_)
        refine j_goto 23 dX10_readDigits_93 rfl ?_
        refine j_mem (show _ = (dgM g m (sk T p) (k + 1) (fT T (sk T p))) from by first | (rw [hg_90, hg_80, hg_70]; exact dg_s (by show _ = if k < 6 then _ else _; rw [if_pos (by omega)]; rfl)) | (rw [hg_90, hg_80]; exact dg_t (by show _ = if k < 6 then _ else _; rw [if_neg (by omega)]))) ?_
        exact ih_23 (k + 1) (by omega) (by omega)
      · have hdv6 := hdv (by omega)
        have hpw6 := hpw (by omega)
        refine j_aload_n 51 1 dX10_readDigits_50 rfl rfl ?_
        refine j_bipush 53 dX10_readDigits_51 rfl (by decide) ?_
        refine j_aload_n 54 1 dX10_readDigits_53 rfl rfl ?_
        refine j_geti 57 dX10_readDigits_54 rfl fl_X10_100 hM.md rfl rfl (fun r_54 => ?_)
        refine j_top (y := dvF (fT T (sk T p)) k) ((by rw [dgM_at]; rfl)) ?_
        refine j_imul 58 dX10_readDigits_57 rfl ?_
        refine j_aload_n 59 1 dX10_readDigits_58 rfl rfl ?_
        refine j_aload_n 60 1 dX10_readDigits_59 rfl rfl ?_
        refine j_geti 63 dX10_readDigits_60 rfl fl_X10_44 hM.md rfl rfl (fun r_60 => ?_)
        refine j_top (y := (((sk T p) + k : Nat) : Int)) ((by rw [dgM_at]; rfl)) ?_
        refine j_callV 66 (As := [.int (i32 ((((sk T p) + k : Nat) : Int)))]) (kc2 := 0) (ks2 := 0) dX10_readDigits_63 rfl mvX10_byteAt lk_X10_47 hM.md rfl ⟨Nat.le_of_ble_eq_true rfl, rfl⟩ rfl rfl (Nat.le_of_ble_eq_true rfl) ⟨Nat.le_of_ble_eq_true rfl, Nat.le_of_ble_eq_true rfl⟩ ⟨Nat.le_of_ble_eq_true rfl, Nat.le_of_ble_eq_true rfl⟩ (rp_byteAt hM (hX.fm dgM_FM) (k := (sk T p) + k) (by omega)) x_d (k_d1 ?_)
        refine j_iadd 67 dX10_readDigits_66 rfl ?_
        refine j_bipush 69 dX10_readDigits_67 rfl (by decide) ?_
        refine j_isub 70 dX10_readDigits_69 rfl ?_
        refine j_top (y := 10 * dvF (fT T (sk T p)) k + byT T ((sk T p) + k) - 48) (by omega) ?_
        refine j_puti 73 dX10_readDigits_70 rfl fl_X10_100 hM.md rfl rfl rfl (r32 (by omega) (by omega)) ?_
        refine j_mn (fun g_70 hg_70 => ?_)
        refine j_aload_n 74 1 dX10_readDigits_73 rfl rfl ?_
        refine j_dup 75 dX10_readDigits_74 rfl rfl ?_
        refine j_geti 78 dX10_readDigits_75 rfl fl_X10_97 hM.md rfl rfl (fun r_75 => ?_)
        refine j_top (y := (k : Int)) ((by first | (rw [dgM_at]; rfl) | (rw [hg_70, up2_k (by decide), dgM_at]; rfl))) ?_
        refine j_iconst 79 dX10_readDigits_78 rfl ?_
        refine j_iadd 80 dX10_readDigits_79 rfl ?_
        refine j_top (y := ((k + 1 : Nat) : Int)) (by omega) ?_
        refine j_puti 83 dX10_readDigits_80 rfl fl_X10_97 hM.md rfl rfl rfl (r32 (by omega) (by omega)) ?_
        refine j_mn (fun g_80 hg_80 => ?_)
        refine j_aload_n 84 1 dX10_readDigits_83 rfl rfl ?_
        refine j_dup 85 dX10_readDigits_84 rfl rfl ?_
        refine j_geti 88 dX10_readDigits_85 rfl fl_X10_44 hM.md rfl rfl (fun r_85 => ?_)
        refine j_top (y := (((sk T p) + k : Nat) : Int)) ((by first | (rw [hg_80, up2_k (by decide), dgM_at]; rfl) | (rw [hg_80, up2_k (by decide), hg_70, up2_k (by decide), dgM_at]; rfl))) ?_
        refine j_iconst 89 dX10_readDigits_88 rfl ?_
        refine j_iadd 90 dX10_readDigits_89 rfl ?_
        refine j_top (y := (((sk T p) + (k + 1) : Nat) : Int)) (by omega) ?_
        refine j_puti 93 dX10_readDigits_90 rfl fl_X10_44 hM.md rfl rfl rfl (r32 (by omega) (by omega)) ?_
        refine j_mn (fun g_90 hg_90 => ?_)
        refine j_goto 23 dX10_readDigits_93 rfl ?_
        refine j_mem (show _ = (dgM g m (sk T p) (k + 1) (fT T (sk T p))) from by first | (rw [hg_90, hg_80, hg_70]; exact dg_s (by show _ = if k < 6 then _ else _; rw [if_pos (by omega)]; rfl)) | (rw [hg_90, hg_80]; exact dg_t (by show _ = if k < 6 then _ else _; rw [if_neg (by omega)]))) ?_
        exact ih_23 (k + 1) (by omega) (by omega)

set_option maxRecDepth 20000 in
theorem rp_digitsE {w : Wd} {sh : Shp} {g : Mem} {m : Nat} (hM : MdS sh.1 m) {T : Tx} {most : Nat} (hmo : most ≤ 1000) {e : PE} (h0 : RE g m T e) : CT w mX10_readDigits [.ref (m), .int (i32 ((most : Int)))] sh g (vQ sh (fun g2 => FM g g2 m ∧ RS g2 m T (digS T most (.inr e)) ∧ ∀ p2, (.inr e : Sx) = .inl p2 → g2 m 15 = ((sk T p2 : Nat) : Int) ∧ g2 m 16 = ((dn T (sk T p2) : Nat) : Int) ∧ g2 m 17 = dvF (fT T (sk T p2)) (dn T (sk T p2)))) := by
  have hX := h0.1
  have h7 := hX.1
  obtain ⟨p, hp4, hpT⟩ := h0.2.1
  have hsk2 := sk_le hpT
  have h5 := h0.2.2.1
  have h51 := h0.2.2.2.2
  refine j_entry (by decide) rfl (Nat.le_of_ble_eq_true rfl) (fun h => by cases h) rfl ?_
  show J w mX10_readDigits 0 [(0, .ref (m)), (1, .int (i32 ((most : Int))))] [] sh g 0 0 _
  refine j_aload_n 1 0 dX10_readDigits_0 rfl rfl ?_
  refine j_callV 4 (As := []) (kc2 := 0) (ks2 := 0) dX10_readDigits_1 rfl mvX10_ahead lk_X10_65 hM.md rfl ⟨Nat.le_of_ble_eq_true rfl, rfl⟩ rfl rfl (Nat.le_of_ble_eq_true rfl) ⟨Nat.le_of_ble_eq_true rfl, Nat.le_of_ble_eq_true rfl⟩ ⟨Nat.le_of_ble_eq_true rfl, Nat.le_of_ble_eq_true rfl⟩ (rp_ahead hM hX hp4 hpT) x_d (k_d1 ?_)
  refine j_istore_n 5 (L2 := [(2, .int (i32 (byT T ((sk T p))))), (0, .ref (m)), (1, .int (i32 ((most : Int))))]) dX10_readDigits_4 rfl rfl (Nat.le_of_ble_eq_true rfl) rfl ?_
  refine j_aload_n 6 1 dX10_readDigits_5 rfl rfl ?_
  refine j_aload_n 7 1 dX10_readDigits_6 rfl rfl ?_
  refine j_geti 10 dX10_readDigits_7 rfl fl_X10_44 hM.md rfl rfl (fun r_7 => ?_)
  refine j_top (y := ((sk T p : Nat) : Int)) (up2_s) ?_
  refine j_puti 13 dX10_readDigits_10 rfl fl_X10_94 hM.md rfl rfl rfl (r32 (by omega) (by omega)) ?_
  refine j_mn (fun g_10 hg_10 => ?_)
  refine j_aload_n 14 1 dX10_readDigits_13 rfl rfl ?_
  refine j_iconst 15 dX10_readDigits_14 rfl ?_
  refine j_puti 18 dX10_readDigits_15 rfl fl_X10_97 hM.md rfl rfl rfl (r32 (by decide) (by decide)) ?_
  refine j_mn (fun g_15 hg_15 => ?_)
  refine j_aload_n 19 1 dX10_readDigits_18 rfl rfl ?_
  refine j_iconst 20 dX10_readDigits_19 rfl ?_
  refine j_puti 23 dX10_readDigits_20 rfl fl_X10_100 hM.md rfl rfl rfl (r32 (by decide) (by decide)) ?_
  refine j_mem (show up2 g_15 m 17 0 = (dgM g m (sk T p) (0) (fT T (sk T p))) by rw [hg_15, hg_10]; exact dg_0) ?_
  suffices lp_23 : ∀ (n_23 : Nat) (k : Nat), dn T (sk T p) - k < n_23 → k ≤ dn T (sk T p) → J w mX10_readDigits 23 [(2, .int (i32 (byT T ((sk T p))))), (0, .ref (m)), (1, .int (i32 ((most : Int))))] [] sh (dgM g m (sk T p) (k) (fT T (sk T p))) 0 0 (vQ sh (fun g2 => FM g g2 m ∧ RS g2 m T (digS T most (.inr e)) ∧ ∀ p2, (.inr e : Sx) = .inl p2 → g2 m 15 = ((sk T p2 : Nat) : Int) ∧ g2 m 16 = ((dn T (sk T p2) : Nat) : Int) ∧ g2 m 17 = dvF (fT T (sk T p2)) (dn T (sk T p2)))) by
    exact lp_23 _ 0 (Nat.lt_succ_self _) (by omega)
  intro n_23
  induction n_23 with
  | zero => intro k h_; exact absurd h_ (Nat.not_lt_zero _)
  | succ n_23 ih_23 =>
    intro k hn_23 hk
    have hbv := bv_rng (bd_of (T := T) (q := sk T p) k hk)
    have hdv : k ≤ 6 → dvF (fT T (sk T p)) k = bv (fT T (sk T p)) k := fun h => dvF_bv k h
    have hpw : k ≤ 6 → pw k ≤ 1000000 := fun h => pw_le h
    have hdl : sk T p + dn T (sk T p) ≤ T.2 := rn_le hD hsk2
    refine j_aload_n 24 1 dX10_readDigits_23 rfl rfl ?_
    refine j_aload_n 25 1 dX10_readDigits_24 rfl rfl ?_
    refine j_geti 28 dX10_readDigits_25 rfl fl_X10_44 hM.md rfl rfl (fun r_25 => ?_)
    refine j_top (y := (((sk T p) + k : Nat) : Int)) ((by rw [dgM_at]; rfl)) ?_
    refine j_callV 31 (As := [.int (i32 ((((sk T p) + k : Nat) : Int)))]) (kc2 := 0) (ks2 := 0) dX10_readDigits_28 rfl mvX10_byteAt lk_X10_47 hM.md rfl ⟨Nat.le_of_ble_eq_true rfl, rfl⟩ rfl rfl (Nat.le_of_ble_eq_true rfl) ⟨Nat.le_of_ble_eq_true rfl, Nat.le_of_ble_eq_true rfl⟩ ⟨Nat.le_of_ble_eq_true rfl, Nat.le_of_ble_eq_true rfl⟩ (rp_byteAt hM (hX.fm dgM_FM) (k := (sk T p) + k) (by omega)) x_d (k_d1 ?_)
    refine j_bipush 33 dX10_readDigits_31 rfl (by decide) ?_
    refine j_bipush 35 dX10_readDigits_33 rfl (by decide) ?_
    refine j_callS 38 (As := [.int (i32 (byT T ((sk T p) + k))), .int (i32 (48)), .int (i32 (57))]) (kc2 := 0) (ks2 := 0) dX10_readDigits_35 rfl msX10_in lk_X10_57 rfl rfl (Nat.le_of_ble_eq_true rfl) ⟨Nat.le_of_ble_eq_true rfl, Nat.le_of_ble_eq_true rfl⟩ ⟨Nat.le_of_ble_eq_true rfl, Nat.le_of_ble_eq_true rfl⟩ (r_in (by have := byT_r hX.2.2.2 ((sk T p) + k); exact ⟨by omega, by omega⟩) (r32 (by decide) (by decide)) (r32 (by decide) (by decide))) x_d (k_d1 ?_)
    refine j_top (y := b01 (isD (byT T ((sk T p) + k)))) (rfl) ?_
    refine j_if_eq 41 96 dX10_readDigits_38 rfl rfl (r01 (b01_r _)) (fun c_38 => ?_) (fun c_38 => ?_)
    · have hkd : k = dn T (sk T p) := by have h : ¬ k < dn T (sk T p) := fun z => b01_ne.mp c_38 ((dn_is hk).mpr z); omega
      subst hkd
      refine j_aload_n 97 1 dX10_readDigits_96 rfl rfl ?_
      by_cases hA : dn T (sk T p) = 0
      ·
        refine j_geti 100 dX10_readDigits_97 rfl fl_X10_97 hM.md rfl rfl (fun r_97 => ?_)
        refine j_top (y := ((dn T (sk T p) : Nat) : Int)) ((by rw [dgM_at]; rfl)) ?_
        refine j_top (y := 0) (by rw [hA]; rfl) ?_
        refine j_if_ne 103 113 dX10_readDigits_100 rfl rfl (r32 (by decide) (by decide)) (fun c_100 => absurd c_100 (by decide)) (fun c_100 => ?_)
        refine j_aload_n 104 1 dX10_readDigits_103 rfl rfl ?_
        refine j_bipush 106 dX10_readDigits_104 rfl (by decide) ?_
        refine j_aload_n 107 1 dX10_readDigits_106 rfl rfl ?_
        refine j_geti 110 dX10_readDigits_107 rfl fl_X10_94 hM.md rfl rfl (fun r_107 => ?_)
        refine j_top (y := (((sk T p) : Nat) : Int)) ((by rw [dgM_at]; rfl)) ?_
        refine j_callV 113 (As := [.int (i32 (-2)), .int (i32 ((((sk T p) : Nat) : Int)))]) (kc2 := 0) (ks2 := 0) dX10_readDigits_110 rfl mvX10_report lk_X10_78 hM.md rfl ⟨Nat.le_of_ble_eq_true rfl, rfl⟩ rfl rfl (Nat.le_of_ble_eq_true rfl) ⟨Nat.le_of_ble_eq_true rfl, Nat.le_of_ble_eq_true rfl⟩ ⟨Nat.le_of_ble_eq_true rfl, Nat.le_of_ble_eq_true rfl⟩ (rp_report1 hM (by rw [dgM_5, h5]; exact h51) (r32 (by decide) (by decide)) (r32 (by omega) (by omega))) x_d (k_d0 ?_)
        refine j_aload_n 114 1 dX10_readDigits_113 rfl rfl ?_
        refine j_callV 117 (As := []) (kc2 := 0) (ks2 := 0) dX10_readDigits_114 rfl mvX10_isGood lk_X10_61 hM.md rfl ⟨Nat.le_of_ble_eq_true rfl, rfl⟩ rfl rfl (Nat.le_of_ble_eq_true rfl) ⟨Nat.le_of_ble_eq_true rfl, Nat.le_of_ble_eq_true rfl⟩ ⟨Nat.le_of_ble_eq_true rfl, Nat.le_of_ble_eq_true rfl⟩ (rp_isGood hM) x_d (k_d1 ?_)
        refine j_top (y := 0) (by rw [decide_eq_false (show ¬ _ = (0 : Int) by rw [dgM_5]; omega)]; rfl) ?_
        refine j_if_eq 120 138 dX10_readDigits_117 rfl rfl (r32 (by decide) (by decide)) (fun c_117 => ?_) (fun c_117 => absurd c_117 (by decide))
        exact j_vret dX10_readDigits_138 rfl (⟨rfl, rfl, dgM_FM, dgM_RE h0 (by omega), fun p2 hp2 => by cases hp2⟩)
      ·
        refine j_geti 100 dX10_readDigits_97 rfl fl_X10_97 hM.md rfl rfl (fun r_97 => ?_)
        refine j_top (y := ((dn T (sk T p) : Nat) : Int)) ((by rw [dgM_at]; rfl)) ?_
        refine j_if_ne 103 113 dX10_readDigits_100 rfl rfl (r32 (by omega) (by omega)) (fun c_100 => ?_) (fun c_100 => absurd c_100 (by omega))
        refine j_aload_n 114 1 dX10_readDigits_113 rfl rfl ?_
        refine j_callV 117 (As := []) (kc2 := 0) (ks2 := 0) dX10_readDigits_114 rfl mvX10_isGood lk_X10_61 hM.md rfl ⟨Nat.le_of_ble_eq_true rfl, rfl⟩ rfl rfl (Nat.le_of_ble_eq_true rfl) ⟨Nat.le_of_ble_eq_true rfl, Nat.le_of_ble_eq_true rfl⟩ ⟨Nat.le_of_ble_eq_true rfl, Nat.le_of_ble_eq_true rfl⟩ (rp_isGood hM) x_d (k_d1 ?_)
        refine j_top (y := 0) (by rw [decide_eq_false (show ¬ _ = (0 : Int) by rw [dgM_5]; omega)]; rfl) ?_
        refine j_if_eq 120 138 dX10_readDigits_117 rfl rfl (r32 (by decide) (by decide)) (fun c_117 => ?_) (fun c_117 => absurd c_117 (by decide))
        exact j_vret dX10_readDigits_138 rfl (⟨rfl, rfl, dgM_FM, dgM_RE h0 (by omega), fun p2 hp2 => by cases hp2⟩)
    · have hkl := (dn_is hk).mp (Classical.byContradiction fun z => c_38 (b01_ne.mpr z))
      have hby := of_decide_eq_true (dn_lt hkl)
      refine j_aload_n 42 1 dX10_readDigits_41 rfl rfl ?_
      refine j_geti 45 dX10_readDigits_42 rfl fl_X10_97 hM.md rfl rfl (fun r_42 => ?_)
      refine j_top (y := (k : Int)) ((by rw [dgM_at]; rfl)) ?_
      refine j_bipush 47 dX10_readDigits_45 rfl (by decide) ?_
      refine j_icmp_ge 50 73 dX10_readDigits_47 rfl rfl (r32 (by omega) (by omega)) (r32 (by decide) (by decide)) (fun c_47 => ?_) (fun c_47 => ?_)
      · refine j_aload_n 74 1 dX10_readDigits_73 rfl rfl ?_
        refine j_dup 75 dX10_readDigits_74 rfl rfl ?_
        refine j_geti 78 dX10_readDigits_75 rfl fl_X10_97 hM.md rfl rfl (fun r_75 => ?_)
        refine j_top (y := (k : Int)) ((by first | (rw [dgM_at]; rfl) | (rw [hg_70, up2_k (by decide), dgM_at]; rfl))) ?_
        refine j_iconst 79 dX10_readDigits_78 rfl ?_
        refine j_iadd 80 dX10_readDigits_79 rfl ?_
        refine j_top (y := ((k + 1 : Nat) : Int)) (by omega) ?_
        refine j_puti 83 dX10_readDigits_80 rfl fl_X10_97 hM.md rfl rfl rfl (r32 (by omega) (by omega)) ?_
        refine j_mn (fun g_80 hg_80 => ?_)
        refine j_aload_n 84 1 dX10_readDigits_83 rfl rfl ?_
        refine j_dup 85 dX10_readDigits_84 rfl rfl ?_
        refine j_geti 88 dX10_readDigits_85 rfl fl_X10_44 hM.md rfl rfl (fun r_85 => ?_)
        refine j_top (y := (((sk T p) + k : Nat) : Int)) ((by first | (rw [hg_80, up2_k (by decide), dgM_at]; rfl) | (rw [hg_80, up2_k (by decide), hg_70, up2_k (by decide), dgM_at]; rfl))) ?_
        refine j_iconst 89 dX10_readDigits_88 rfl ?_
        refine j_iadd 90 dX10_readDigits_89 rfl ?_
        refine j_top (y := (((sk T p) + (k + 1) : Nat) : Int)) (by omega) ?_
        refine j_puti 93 dX10_readDigits_90 rfl fl_X10_44 hM.md rfl rfl rfl (r32 (by omega) (by omega)) ?_
        refine j_mn (fun g_90 hg_90 => ?_)
        refine j_goto 23 dX10_readDigits_93 rfl ?_
        refine j_mem (show _ = (dgM g m (sk T p) (k + 1) (fT T (sk T p))) from by first | (rw [hg_90, hg_80, hg_70]; exact dg_s (by show _ = if k < 6 then _ else _; rw [if_pos (by omega)]; rfl)) | (rw [hg_90, hg_80]; exact dg_t (by show _ = if k < 6 then _ else _; rw [if_neg (by omega)]))) ?_
        exact ih_23 (k + 1) (by omega) (by omega)
      · have hdv6 := hdv (by omega)
        have hpw6 := hpw (by omega)
        refine j_aload_n 51 1 dX10_readDigits_50 rfl rfl ?_
        refine j_bipush 53 dX10_readDigits_51 rfl (by decide) ?_
        refine j_aload_n 54 1 dX10_readDigits_53 rfl rfl ?_
        refine j_geti 57 dX10_readDigits_54 rfl fl_X10_100 hM.md rfl rfl (fun r_54 => ?_)
        refine j_top (y := dvF (fT T (sk T p)) k) ((by rw [dgM_at]; rfl)) ?_
        refine j_imul 58 dX10_readDigits_57 rfl ?_
        refine j_aload_n 59 1 dX10_readDigits_58 rfl rfl ?_
        refine j_aload_n 60 1 dX10_readDigits_59 rfl rfl ?_
        refine j_geti 63 dX10_readDigits_60 rfl fl_X10_44 hM.md rfl rfl (fun r_60 => ?_)
        refine j_top (y := (((sk T p) + k : Nat) : Int)) ((by rw [dgM_at]; rfl)) ?_
        refine j_callV 66 (As := [.int (i32 ((((sk T p) + k : Nat) : Int)))]) (kc2 := 0) (ks2 := 0) dX10_readDigits_63 rfl mvX10_byteAt lk_X10_47 hM.md rfl ⟨Nat.le_of_ble_eq_true rfl, rfl⟩ rfl rfl (Nat.le_of_ble_eq_true rfl) ⟨Nat.le_of_ble_eq_true rfl, Nat.le_of_ble_eq_true rfl⟩ ⟨Nat.le_of_ble_eq_true rfl, Nat.le_of_ble_eq_true rfl⟩ (rp_byteAt hM (hX.fm dgM_FM) (k := (sk T p) + k) (by omega)) x_d (k_d1 ?_)
        refine j_iadd 67 dX10_readDigits_66 rfl ?_
        refine j_bipush 69 dX10_readDigits_67 rfl (by decide) ?_
        refine j_isub 70 dX10_readDigits_69 rfl ?_
        refine j_top (y := 10 * dvF (fT T (sk T p)) k + byT T ((sk T p) + k) - 48) (by omega) ?_
        refine j_puti 73 dX10_readDigits_70 rfl fl_X10_100 hM.md rfl rfl rfl (r32 (by omega) (by omega)) ?_
        refine j_mn (fun g_70 hg_70 => ?_)
        refine j_aload_n 74 1 dX10_readDigits_73 rfl rfl ?_
        refine j_dup 75 dX10_readDigits_74 rfl rfl ?_
        refine j_geti 78 dX10_readDigits_75 rfl fl_X10_97 hM.md rfl rfl (fun r_75 => ?_)
        refine j_top (y := (k : Int)) ((by first | (rw [dgM_at]; rfl) | (rw [hg_70, up2_k (by decide), dgM_at]; rfl))) ?_
        refine j_iconst 79 dX10_readDigits_78 rfl ?_
        refine j_iadd 80 dX10_readDigits_79 rfl ?_
        refine j_top (y := ((k + 1 : Nat) : Int)) (by omega) ?_
        refine j_puti 83 dX10_readDigits_80 rfl fl_X10_97 hM.md rfl rfl rfl (r32 (by omega) (by omega)) ?_
        refine j_mn (fun g_80 hg_80 => ?_)
        refine j_aload_n 84 1 dX10_readDigits_83 rfl rfl ?_
        refine j_dup 85 dX10_readDigits_84 rfl rfl ?_
        refine j_geti 88 dX10_readDigits_85 rfl fl_X10_44 hM.md rfl rfl (fun r_85 => ?_)
        refine j_top (y := (((sk T p) + k : Nat) : Int)) ((by first | (rw [hg_80, up2_k (by decide), dgM_at]; rfl) | (rw [hg_80, up2_k (by decide), hg_70, up2_k (by decide), dgM_at]; rfl))) ?_
        refine j_iconst 89 dX10_readDigits_88 rfl ?_
        refine j_iadd 90 dX10_readDigits_89 rfl ?_
        refine j_top (y := (((sk T p) + (k + 1) : Nat) : Int)) (by omega) ?_
        refine j_puti 93 dX10_readDigits_90 rfl fl_X10_44 hM.md rfl rfl rfl (r32 (by omega) (by omega)) ?_
        refine j_mn (fun g_90 hg_90 => ?_)
        refine j_goto 23 dX10_readDigits_93 rfl ?_
        refine j_mem (show _ = (dgM g m (sk T p) (k + 1) (fT T (sk T p))) from by first | (rw [hg_90, hg_80, hg_70]; exact dg_s (by show _ = if k < 6 then _ else _; rw [if_pos (by omega)]; rfl)) | (rw [hg_90, hg_80]; exact dg_t (by show _ = if k < 6 then _ else _; rw [if_neg (by omega)]))) ?_
        exact ih_23 (k + 1) (by omega) (by omega)

theorem nmT_f {T : Tx} {q n : Nat} : l27 (fun i => fT T q (4 + i)) n = l27 (fT T (q + 4)) n := by
  have : (fun i => fT T q (4 + i)) = fT T (q + 4) := funext fun i => by show byT T (q + (4 + i)) = byT T (q + 4 + i); rw [Nat.add_assoc]
  rw [this]

set_option maxRecDepth 20000 in
theorem rp_nameG {w : Wd} {sh : Shp} {g : Mem} {m : Nat} (hM : MdS sh.1 m) {T : Tx} {p : Nat} (h0 : RG g m T p) : CT w mX10_readName [.ref (m)] sh g (vQ sh (fun g2 => FM g g2 m ∧ RS g2 m T (namS T (.inl p)) ∧ ∀ p2, (.inl p : Sx) = .inl p2 → ln T (sk T p2) ≤ 8 → g2 m 18 = ((sk T p2 : Nat) : Int) ∧ g2 m 19 = nmH T (sk T p2) ∧ g2 m 20 = nmT T (sk T p2))) := by
  have hX := h0.1
  have h7 := hX.1
  have hsk2 := sk_le h0.2.2.1
  have hp4 := h0.2.1
  have hpT := h0.2.2.1
  have h5 := h0.2.2.2.1
  refine j_entry (by decide) rfl (Nat.le_of_ble_eq_true rfl) (fun h => by cases h) rfl ?_
  show J w mX10_readName 0 [(0, .ref (m))] [] sh g 0 0 _
  refine j_aload_n 1 0 dX10_readName_0 rfl rfl ?_
  refine j_callV 4 (As := []) (kc2 := 0) (ks2 := 0) dX10_readName_1 rfl mvX10_ahead lk_X10_65 hM.md rfl ⟨Nat.le_of_ble_eq_true rfl, rfl⟩ rfl rfl (Nat.le_of_ble_eq_true rfl) ⟨Nat.le_of_ble_eq_true rfl, Nat.le_of_ble_eq_true rfl⟩ ⟨Nat.le_of_ble_eq_true rfl, Nat.le_of_ble_eq_true rfl⟩ (rp_ahead hM hX hp4 hpT) x_d (k_d1 ?_)
  refine j_istore_n 5 (L2 := [(1, .int (i32 (byT T ((sk T p))))), (0, .ref (m))]) dX10_readName_4 rfl rfl (Nat.le_of_ble_eq_true rfl) rfl ?_
  refine j_iconst 6 dX10_readName_5 rfl ?_
  refine j_istore_n 7 (L2 := [(2, .int (i32 (0))), (1, .int (i32 (byT T ((sk T p))))), (0, .ref (m))]) dX10_readName_6 rfl rfl (Nat.le_of_ble_eq_true rfl) rfl ?_
  refine j_aload_n 8 2 dX10_readName_7 rfl rfl ?_
  refine j_aload_n 9 2 dX10_readName_8 rfl rfl ?_
  refine j_geti 12 dX10_readName_9 rfl fl_X10_44 hM.md rfl rfl (fun r_9 => ?_)
  refine j_top (y := ((sk T p : Nat) : Int)) (up2_s) ?_
  refine j_puti 15 dX10_readName_12 rfl fl_X10_103 hM.md rfl rfl rfl (r32 (by omega) (by omega)) ?_
  refine j_mn (fun g_12 hg_12 => ?_)
  refine j_aload_n 16 2 dX10_readName_15 rfl rfl ?_
  refine j_iconst 17 dX10_readName_16 rfl ?_
  refine j_puti 20 dX10_readName_17 rfl fl_X10_106 hM.md rfl rfl rfl (r32 (by decide) (by decide)) ?_
  refine j_mn (fun g_17 hg_17 => ?_)
  refine j_aload_n 21 2 dX10_readName_20 rfl rfl ?_
  refine j_iconst 22 dX10_readName_21 rfl ?_
  refine j_puti 25 dX10_readName_22 rfl fl_X10_109 hM.md rfl rfl rfl (r32 (by decide) (by decide)) ?_
  refine j_mem (show up2 g_17 m 20 0 = (naM g m (sk T p) (0) (fT T (sk T p))) by rw [hg_17, hg_12]; exact na_0) ?_
  suffices lp_25 : ∀ (n_25 : Nat) (k : Nat), ln T (sk T p) - k < n_25 → k ≤ ln T (sk T p) → J w mX10_readName 25 [(2, .int (i32 ((k : Int)))), (1, .int (i32 (byT T ((sk T p))))), (0, .ref (m))] [] sh (naM g m (sk T p) (k) (fT T (sk T p))) 0 0 (vQ sh (fun g2 => FM g g2 m ∧ RS g2 m T (namS T (.inl p)) ∧ ∀ p2, (.inl p : Sx) = .inl p2 → ln T (sk T p2) ≤ 8 → g2 m 18 = ((sk T p2 : Nat) : Int) ∧ g2 m 19 = nmH T (sk T p2) ∧ g2 m 20 = nmT T (sk T p2))) by
    exact lp_25 _ 0 (Nat.lt_succ_self _) (by omega)
  intro n_25
  induction n_25 with
  | zero => intro k h_; exact absurd h_ (Nat.not_lt_zero _)
  | succ n_25 ih_25 =>
    intro k hn_25 hk
    have hdl : sk T p + ln T (sk T p) ≤ T.2 := rn_le hL hsk2
    refine j_aload_n 26 2 dX10_readName_25 rfl rfl ?_
    refine j_aload_n 27 2 dX10_readName_26 rfl rfl ?_
    refine j_geti 30 dX10_readName_27 rfl fl_X10_103 hM.md rfl rfl (fun r_27 => ?_)
    refine j_top (y := (((sk T p) : Nat) : Int)) (naM_4) ?_
    refine j_iload_n 31 0 dX10_readName_30 rfl rfl ?_
    refine j_iadd 32 dX10_readName_31 rfl ?_
    refine j_top (y := (((sk T p) + k : Nat) : Int)) (by omega) ?_
    refine j_callV 35 (As := [.int (i32 ((((sk T p) + k : Nat) : Int)))]) (kc2 := 0) (ks2 := 0) dX10_readName_32 rfl mvX10_byteAt lk_X10_47 hM.md rfl ⟨Nat.le_of_ble_eq_true rfl, rfl⟩ rfl rfl (Nat.le_of_ble_eq_true rfl) ⟨Nat.le_of_ble_eq_true rfl, Nat.le_of_ble_eq_true rfl⟩ ⟨Nat.le_of_ble_eq_true rfl, Nat.le_of_ble_eq_true rfl⟩ (rp_byteAt hM (hX.fm naM_FM) (k := (sk T p) + k) (by omega)) x_d (k_d1 ?_)
    refine j_bipush 37 dX10_readName_35 rfl (by decide) ?_
    refine j_bipush 39 dX10_readName_37 rfl (by decide) ?_
    refine j_callS 42 (As := [.int (i32 (byT T ((sk T p) + k))), .int (i32 (97)), .int (i32 (122))]) (kc2 := 0) (ks2 := 0) dX10_readName_39 rfl msX10_in lk_X10_57 rfl rfl (Nat.le_of_ble_eq_true rfl) ⟨Nat.le_of_ble_eq_true rfl, Nat.le_of_ble_eq_true rfl⟩ ⟨Nat.le_of_ble_eq_true rfl, Nat.le_of_ble_eq_true rfl⟩ (r_in (by have := byT_r hX.2.2.2 ((sk T p) + k); exact ⟨by omega, by omega⟩) (r32 (by decide) (by decide)) (r32 (by decide) (by decide))) x_d (k_d1 ?_)
    refine j_top (y := b01 (isL (byT T ((sk T p) + k)))) (rfl) ?_
    refine j_if_eq 45 107 dX10_readName_42 rfl rfl (r01 (b01_r _)) (fun c_42 => ?_) (fun c_42 => ?_)
    · have hkd : k = ln T (sk T p) := by have h : ¬ k < ln T (sk T p) := fun z => b01_ne.mp c_42 ((ln_is hk).mpr z); omega
      subst hkd
      refine j_iload_n 108 1 dX10_readName_107 rfl rfl ?_
      rcases namC T (sk T p) with hA | hA | hA
      ·
        refine j_bipush 110 dX10_readName_108 rfl (by decide) ?_
        refine j_bipush 112 dX10_readName_110 rfl (by decide) ?_
        refine j_callS 115 (As := [.int (i32 (byT T ((sk T p)))), .int (i32 (97)), .int (i32 (122))]) (kc2 := 0) (ks2 := 0) dX10_readName_112 rfl msX10_in lk_X10_57 rfl rfl (Nat.le_of_ble_eq_true rfl) ⟨Nat.le_of_ble_eq_true rfl, Nat.le_of_ble_eq_true rfl⟩ ⟨Nat.le_of_ble_eq_true rfl, Nat.le_of_ble_eq_true rfl⟩ (r_in (by have := byT_r hX.2.2.2 ((sk T p)); exact ⟨by omega, by omega⟩) (r32 (by decide) (by decide)) (r32 (by decide) (by decide))) x_d (k_d1 ?_)
        refine j_top (y := 1) (by show b01 (isL (byT T (sk T p))) = 1; rw [show isL (byT T (sk T p)) = true from ln_lt (T := T) (q := sk T p) (j := 0) (by omega)]; rfl) ?_
        refine j_if_ne 118 128 dX10_readName_115 rfl rfl (r32 (by decide) (by decide)) (fun c_115 => ?_) (fun c_115 => absurd c_115 (by decide))
        refine j_aload_n 129 2 dX10_readName_128 rfl rfl ?_
        refine j_callV 132 (As := []) (kc2 := 0) (ks2 := 0) dX10_readName_129 rfl mvX10_isGood lk_X10_61 hM.md rfl ⟨Nat.le_of_ble_eq_true rfl, rfl⟩ rfl rfl (Nat.le_of_ble_eq_true rfl) ⟨Nat.le_of_ble_eq_true rfl, Nat.le_of_ble_eq_true rfl⟩ ⟨Nat.le_of_ble_eq_true rfl, Nat.le_of_ble_eq_true rfl⟩ (rp_isGood hM) x_d (k_d1 ?_)
        refine j_top (y := 1) (by rw [decide_eq_true (show _ = (0 : Int) by rw [naM_5]; exact h5)]; rfl) ?_
        refine j_if_eq 135 151 dX10_readName_132 rfl rfl (r32 (by decide) (by decide)) (fun c_132 => absurd c_132 (by decide)) (fun c_132 => ?_)
        refine j_iload_n 136 0 dX10_readName_135 rfl rfl ?_
        refine j_bipush 138 dX10_readName_136 rfl (by decide) ?_
        refine j_icmp_le 141 151 dX10_readName_138 rfl rfl (r32 (by omega) (by omega)) (r32 (by decide) (by decide)) (fun c_138 => ?_) (fun c_138 => absurd c_138 (by omega))
        refine j_aload_n 152 2 dX10_readName_151 rfl rfl ?_
        refine j_callV 155 (As := []) (kc2 := 0) (ks2 := 0) dX10_readName_152 rfl mvX10_isGood lk_X10_61 hM.md rfl ⟨Nat.le_of_ble_eq_true rfl, rfl⟩ rfl rfl (Nat.le_of_ble_eq_true rfl) ⟨Nat.le_of_ble_eq_true rfl, Nat.le_of_ble_eq_true rfl⟩ ⟨Nat.le_of_ble_eq_true rfl, Nat.le_of_ble_eq_true rfl⟩ (rp_isGood hM) x_d (k_d1 ?_)
        refine j_top (y := 1) (by rw [decide_eq_true (show _ = (0 : Int) by rw [naM_5]; exact h5)]; rfl) ?_
        refine j_if_eq 158 168 dX10_readName_155 rfl rfl (r32 (by decide) (by decide)) (fun c_155 => absurd c_155 (by decide)) (fun c_155 => ?_)
        refine j_aload_n 159 2 dX10_readName_158 rfl rfl ?_
        refine j_aload_n 160 2 dX10_readName_159 rfl rfl ?_
        refine j_geti 163 dX10_readName_160 rfl fl_X10_103 hM.md rfl rfl (fun r_160 => ?_)
        refine j_top (y := (((sk T p) : Nat) : Int)) (naM_4) ?_
        refine j_iload_n 164 0 dX10_readName_163 rfl rfl ?_
        refine j_iadd 165 dX10_readName_164 rfl ?_
        refine j_top (y := (((sk T p) + ln T (sk T p) : Nat) : Int)) (by omega) ?_
        refine j_puti 168 dX10_readName_165 rfl fl_X10_44 hM.md rfl rfl rfl (r32 (by omega) (by omega)) ?_
        refine j_mn (fun g_165 hg_165 => ?_)
        exact j_vret dX10_readName_168 rfl (⟨rfl, rfl, by rw [hg_165]; exact naM_FM.up (by decide), by rw [namS_1 hA, hg_165]; exact (naM_RG h0 hsk2).mv (by omega), fun p2 hp2 h8 => by cases hp2; exact ⟨by rw [hg_165, up2_k (by decide)]; exact naM_4, by rw [hg_165, up2_k (by decide), naM_at]; show l27 _ (min (ln T (sk T p)) 4) = _; rfl, by rw [hg_165, up2_k (by decide), naM_at]; show l27 _ (min (ln T (sk T p) - 4) 4) = _; rw [show min (ln T (sk T p) - 4) 4 = ln T (sk T p) - 4 by omega]; exact nmT_f⟩⟩)
      ·
        refine j_bipush 110 dX10_readName_108 rfl (by decide) ?_
        refine j_bipush 112 dX10_readName_110 rfl (by decide) ?_
        refine j_callS 115 (As := [.int (i32 (byT T ((sk T p)))), .int (i32 (97)), .int (i32 (122))]) (kc2 := 0) (ks2 := 0) dX10_readName_112 rfl msX10_in lk_X10_57 rfl rfl (Nat.le_of_ble_eq_true rfl) ⟨Nat.le_of_ble_eq_true rfl, Nat.le_of_ble_eq_true rfl⟩ ⟨Nat.le_of_ble_eq_true rfl, Nat.le_of_ble_eq_true rfl⟩ (r_in (by have := byT_r hX.2.2.2 ((sk T p)); exact ⟨by omega, by omega⟩) (r32 (by decide) (by decide)) (r32 (by decide) (by decide))) x_d (k_d1 ?_)
        refine j_top (y := 0) (by show b01 (isL (byT T (sk T p))) = 0; rw [show isL (byT T (sk T p)) = false from (by have h := ln_at (T := T) (q := sk T p); rw [hA] at h; exact h)]; rfl) ?_
        refine j_if_ne 118 128 dX10_readName_115 rfl rfl (r32 (by decide) (by decide)) (fun c_115 => absurd c_115 (by decide)) (fun c_115 => ?_)
        refine j_aload_n 119 2 dX10_readName_118 rfl rfl ?_
        refine j_bipush 121 dX10_readName_119 rfl (by decide) ?_
        refine j_aload_n 122 2 dX10_readName_121 rfl rfl ?_
        refine j_geti 125 dX10_readName_122 rfl fl_X10_103 hM.md rfl rfl (fun r_122 => ?_)
        refine j_top (y := (((sk T p) : Nat) : Int)) (naM_4) ?_
        refine j_callV 128 (As := [.int (i32 (-2)), .int (i32 ((((sk T p) : Nat) : Int)))]) (kc2 := 0) (ks2 := 0) dX10_readName_125 rfl mvX10_report lk_X10_78 hM.md rfl ⟨Nat.le_of_ble_eq_true rfl, rfl⟩ rfl rfl (Nat.le_of_ble_eq_true rfl) ⟨Nat.le_of_ble_eq_true rfl, Nat.le_of_ble_eq_true rfl⟩ ⟨Nat.le_of_ble_eq_true rfl, Nat.le_of_ble_eq_true rfl⟩ (rp_report0 hM (by rw [naM_5]; exact h5) (r32 (by decide) (by decide)) (r32 (by omega) (by omega))) x_d (k_d0 ?_)
        refine j_aload_n 129 2 dX10_readName_128 rfl rfl ?_
        refine j_callV 132 (As := []) (kc2 := 0) (ks2 := 0) dX10_readName_129 rfl mvX10_isGood lk_X10_61 hM.md rfl ⟨Nat.le_of_ble_eq_true rfl, rfl⟩ rfl rfl (Nat.le_of_ble_eq_true rfl) ⟨Nat.le_of_ble_eq_true rfl, Nat.le_of_ble_eq_true rfl⟩ ⟨Nat.le_of_ble_eq_true rfl, Nat.le_of_ble_eq_true rfl⟩ (rp_isGood hM) x_d (k_d1 ?_)
        refine j_top (y := 0) (by rw [up2_k (by decide), up2_s]; rfl) ?_
        refine j_if_eq 135 151 dX10_readName_132 rfl rfl (r32 (by decide) (by decide)) (fun c_132 => ?_) (fun c_132 => absurd c_132 (by decide))
        refine j_aload_n 152 2 dX10_readName_151 rfl rfl ?_
        refine j_callV 155 (As := []) (kc2 := 0) (ks2 := 0) dX10_readName_152 rfl mvX10_isGood lk_X10_61 hM.md rfl ⟨Nat.le_of_ble_eq_true rfl, rfl⟩ rfl rfl (Nat.le_of_ble_eq_true rfl) ⟨Nat.le_of_ble_eq_true rfl, Nat.le_of_ble_eq_true rfl⟩ ⟨Nat.le_of_ble_eq_true rfl, Nat.le_of_ble_eq_true rfl⟩ (rp_isGood hM) x_d (k_d1 ?_)
        refine j_top (y := 0) (by rw [up2_k (by decide), up2_s]; rfl) ?_
        refine j_if_eq 158 168 dX10_readName_155 rfl rfl (r32 (by decide) (by decide)) (fun c_155 => ?_) (fun c_155 => absurd c_155 (by decide))
        exact j_vret dX10_readName_168 rfl (⟨rfl, rfl, (naM_FM.up (by decide)).up (by decide), by rw [namS_2 hA]; exact (naM_RG h0 hsk2).err (by decide), fun p2 hp2 h8 => by cases hp2; exact ⟨by rw [up2_k (by decide), up2_k (by decide)]; exact naM_4, by rw [up2_k (by decide), up2_k (by decide), naM_at]; show l27 _ (min (ln T (sk T p)) 4) = _; rfl, by rw [up2_k (by decide), up2_k (by decide), naM_at]; show l27 _ (min (ln T (sk T p) - 4) 4) = _; rw [show min (ln T (sk T p) - 4) 4 = ln T (sk T p) - 4 by omega]; exact nmT_f⟩⟩)
      ·
        refine j_bipush 110 dX10_readName_108 rfl (by decide) ?_
        refine j_bipush 112 dX10_readName_110 rfl (by decide) ?_
        refine j_callS 115 (As := [.int (i32 (byT T ((sk T p)))), .int (i32 (97)), .int (i32 (122))]) (kc2 := 0) (ks2 := 0) dX10_readName_112 rfl msX10_in lk_X10_57 rfl rfl (Nat.le_of_ble_eq_true rfl) ⟨Nat.le_of_ble_eq_true rfl, Nat.le_of_ble_eq_true rfl⟩ ⟨Nat.le_of_ble_eq_true rfl, Nat.le_of_ble_eq_true rfl⟩ (r_in (by have := byT_r hX.2.2.2 ((sk T p)); exact ⟨by omega, by omega⟩) (r32 (by decide) (by decide)) (r32 (by decide) (by decide))) x_d (k_d1 ?_)
        refine j_top (y := 1) (by show b01 (isL (byT T (sk T p))) = 1; rw [show isL (byT T (sk T p)) = true from ln_lt (T := T) (q := sk T p) (j := 0) (by omega)]; rfl) ?_
        refine j_if_ne 118 128 dX10_readName_115 rfl rfl (r32 (by decide) (by decide)) (fun c_115 => ?_) (fun c_115 => absurd c_115 (by decide))
        refine j_aload_n 129 2 dX10_readName_128 rfl rfl ?_
        refine j_callV 132 (As := []) (kc2 := 0) (ks2 := 0) dX10_readName_129 rfl mvX10_isGood lk_X10_61 hM.md rfl ⟨Nat.le_of_ble_eq_true rfl, rfl⟩ rfl rfl (Nat.le_of_ble_eq_true rfl) ⟨Nat.le_of_ble_eq_true rfl, Nat.le_of_ble_eq_true rfl⟩ ⟨Nat.le_of_ble_eq_true rfl, Nat.le_of_ble_eq_true rfl⟩ (rp_isGood hM) x_d (k_d1 ?_)
        refine j_top (y := 1) (by rw [decide_eq_true (show _ = (0 : Int) by rw [naM_5]; exact h5)]; rfl) ?_
        refine j_if_eq 135 151 dX10_readName_132 rfl rfl (r32 (by decide) (by decide)) (fun c_132 => absurd c_132 (by decide)) (fun c_132 => ?_)
        refine j_iload_n 136 0 dX10_readName_135 rfl rfl ?_
        refine j_bipush 138 dX10_readName_136 rfl (by decide) ?_
        refine j_icmp_le 141 151 dX10_readName_138 rfl rfl (r32 (by omega) (by omega)) (r32 (by decide) (by decide)) (fun c_138 => absurd c_138 (by omega)) (fun c_138 => ?_)
        refine j_aload_n 142 2 dX10_readName_141 rfl rfl ?_
        refine j_bipush 144 dX10_readName_142 rfl (by decide) ?_
        refine j_aload_n 145 2 dX10_readName_144 rfl rfl ?_
        refine j_geti 148 dX10_readName_145 rfl fl_X10_103 hM.md rfl rfl (fun r_145 => ?_)
        refine j_top (y := (((sk T p) : Nat) : Int)) (naM_4) ?_
        refine j_callV 151 (As := [.int (i32 (-3)), .int (i32 ((((sk T p) : Nat) : Int)))]) (kc2 := 0) (ks2 := 0) dX10_readName_148 rfl mvX10_report lk_X10_78 hM.md rfl ⟨Nat.le_of_ble_eq_true rfl, rfl⟩ rfl rfl (Nat.le_of_ble_eq_true rfl) ⟨Nat.le_of_ble_eq_true rfl, Nat.le_of_ble_eq_true rfl⟩ ⟨Nat.le_of_ble_eq_true rfl, Nat.le_of_ble_eq_true rfl⟩ (rp_report0 hM (by rw [naM_5]; exact h5) (r32 (by decide) (by decide)) (r32 (by omega) (by omega))) x_d (k_d0 ?_)
        refine j_aload_n 152 2 dX10_readName_151 rfl rfl ?_
        refine j_callV 155 (As := []) (kc2 := 0) (ks2 := 0) dX10_readName_152 rfl mvX10_isGood lk_X10_61 hM.md rfl ⟨Nat.le_of_ble_eq_true rfl, rfl⟩ rfl rfl (Nat.le_of_ble_eq_true rfl) ⟨Nat.le_of_ble_eq_true rfl, Nat.le_of_ble_eq_true rfl⟩ ⟨Nat.le_of_ble_eq_true rfl, Nat.le_of_ble_eq_true rfl⟩ (rp_isGood hM) x_d (k_d1 ?_)
        refine j_top (y := 0) (by rw [up2_k (by decide), up2_s]; rfl) ?_
        refine j_if_eq 158 168 dX10_readName_155 rfl rfl (r32 (by decide) (by decide)) (fun c_155 => ?_) (fun c_155 => absurd c_155 (by decide))
        exact j_vret dX10_readName_168 rfl (⟨rfl, rfl, (naM_FM.up (by decide)).up (by decide), by rw [namS_3 hA]; exact (naM_RG h0 hsk2).err (by decide), fun p2 hp2 h8 => by cases hp2; exact ⟨by rw [up2_k (by decide), up2_k (by decide)]; exact naM_4, by rw [up2_k (by decide), up2_k (by decide), naM_at]; show l27 _ (min (ln T (sk T p)) 4) = _; rfl, by rw [up2_k (by decide), up2_k (by decide), naM_at]; show l27 _ (min (ln T (sk T p) - 4) 4) = _; rw [show min (ln T (sk T p) - 4) 4 = ln T (sk T p) - 4 by omega]; exact nmT_f⟩⟩)
    · have hkl := (ln_is hk).mp (Classical.byContradiction fun z => c_42 (b01_ne.mpr z))
      have hby := of_decide_eq_true (ln_lt hkl)
      refine j_aload_n 46 2 dX10_readName_45 rfl rfl ?_
      refine j_aload_n 47 2 dX10_readName_46 rfl rfl ?_
      refine j_geti 50 dX10_readName_47 rfl fl_X10_103 hM.md rfl rfl (fun r_47 => ?_)
      refine j_top (y := (((sk T p) : Nat) : Int)) (naM_4) ?_
      refine j_iload_n 51 0 dX10_readName_50 rfl rfl ?_
      refine j_iadd 52 dX10_readName_51 rfl ?_
      refine j_top (y := (((sk T p) + k : Nat) : Int)) (by omega) ?_
      refine j_callV 55 (As := [.int (i32 ((((sk T p) + k : Nat) : Int)))]) (kc2 := 0) (ks2 := 0) dX10_readName_52 rfl mvX10_byteAt lk_X10_47 hM.md rfl ⟨Nat.le_of_ble_eq_true rfl, rfl⟩ rfl rfl (Nat.le_of_ble_eq_true rfl) ⟨Nat.le_of_ble_eq_true rfl, Nat.le_of_ble_eq_true rfl⟩ ⟨Nat.le_of_ble_eq_true rfl, Nat.le_of_ble_eq_true rfl⟩ (rp_byteAt hM (hX.fm naM_FM) (k := (sk T p) + k) (by omega)) x_d (k_d1 ?_)
      refine j_bipush 57 dX10_readName_55 rfl (by decide) ?_
      refine j_isub 58 dX10_readName_57 rfl ?_
      refine j_iconst 59 dX10_readName_58 rfl ?_
      refine j_iadd 60 dX10_readName_59 rfl ?_
      refine j_top (y := byT T ((sk T p) + k) - 96) (by omega) ?_
      refine j_istore_n 61 (L2 := [(3, .int (i32 (byT T ((sk T p) + k) - 96))), (2, .int (i32 ((k : Int)))), (1, .int (i32 (byT T ((sk T p))))), (0, .ref (m))]) dX10_readName_60 rfl rfl (Nat.le_of_ble_eq_true rfl) rfl ?_
      refine j_iload_n 62 1 dX10_readName_61 rfl rfl ?_
      refine j_iconst 63 dX10_readName_62 rfl ?_
      refine j_icmp_ge 66 82 dX10_readName_63 rfl rfl (r32 (by omega) (by omega)) (r32 (by decide) (by decide)) (fun c_63 => ?_) (fun c_63 => ?_)
      · refine j_iload_n 83 1 dX10_readName_82 rfl rfl ?_
        refine j_bipush 85 dX10_readName_83 rfl (by decide) ?_
        refine j_icmp_ge 88 101 dX10_readName_85 rfl rfl (r32 (by omega) (by omega)) (r32 (by decide) (by decide)) (fun c_85 => ?_) (fun c_85 => ?_)
        · refine j_iinc 104 1 (y := ((k + 1 : Nat) : Int)) (L2 := [(2, .int (i32 (((k + 1 : Nat) : Int)))), (3, .int (i32 (byT T ((sk T p) + k) - 96))), (1, .int (i32 (byT T ((sk T p))))), (0, .ref (m))]) dX10_readName_101 rfl rfl (by omega) (Nat.le_of_ble_eq_true rfl) rfl ?_
          refine j_goto 25 dX10_readName_104 rfl ?_
          refine j_sub [0, 2, 3] rfl ?_
          refine j_mem (show _ = (naM g m (sk T p) (k + 1) (fT T (sk T p))) from by first | (rw [hg_76]; exact na_h (by omega) rfl) | (rw [hg_98]; exact na_t ⟨by omega, by omega⟩ hl4) | exact na_8 (by omega)) ?_
          exact ih_25 (k + 1) (by omega) (by omega)
        · have hlr := l27_r (f := fun i => (fT T (sk T p)) (4 + i)) (m := k - 4) (by omega) (fun j hj => let_of (4 + j) (by omega))
          have hl4 : 27 * l27 (fun i => (fT T (sk T p)) (4 + i)) (k - 4) + (byT T ((sk T p) + k) - 96) = l27 (fun i => (fT T (sk T p)) (4 + i)) (k + 1 - 4) := by
            rw [show k + 1 - 4 = (k - 4) + 1 by omega]
            show _ = 27 * l27 (fun i => (fT T (sk T p)) (4 + i)) (k - 4) + ((fT T (sk T p)) (4 + (k - 4)) - 96)
            rw [show 4 + (k - 4) = k by omega]
            rfl
          refine j_aload_n 89 3 dX10_readName_88 rfl rfl ?_
          refine j_bipush 91 dX10_readName_89 rfl (by decide) ?_
          refine j_aload_n 92 3 dX10_readName_91 rfl rfl ?_
          refine j_geti 95 dX10_readName_92 rfl fl_X10_109 hM.md rfl rfl (fun r_92 => ?_)
          refine j_top (y := l27 (fun i => (fT T (sk T p)) (4 + i)) (k - 4)) ((by rw [naM_at]; show l27 _ (min (k - 4) 4) = _; rw [show min (k - 4) 4 = k - 4 by omega])) ?_
          refine j_imul 96 dX10_readName_95 rfl ?_
          refine j_iload_n 97 0 dX10_readName_96 rfl rfl ?_
          refine j_iadd 98 dX10_readName_97 rfl ?_
          refine j_puti 101 dX10_readName_98 rfl fl_X10_109 hM.md rfl rfl rfl (r32 (by omega) (by omega)) ?_
          refine j_mn (fun g_98 hg_98 => ?_)
          refine j_iinc 104 1 (y := ((k + 1 : Nat) : Int)) (L2 := [(2, .int (i32 (((k + 1 : Nat) : Int)))), (3, .int (i32 (byT T ((sk T p) + k) - 96))), (1, .int (i32 (byT T ((sk T p))))), (0, .ref (m))]) dX10_readName_101 rfl rfl (by omega) (Nat.le_of_ble_eq_true rfl) rfl ?_
          refine j_goto 25 dX10_readName_104 rfl ?_
          refine j_sub [0, 2, 3] rfl ?_
          refine j_mem (show _ = (naM g m (sk T p) (k + 1) (fT T (sk T p))) from by first | (rw [hg_76]; exact na_h (by omega) rfl) | (rw [hg_98]; exact na_t ⟨by omega, by omega⟩ hl4) | exact na_8 (by omega)) ?_
          exact ih_25 (k + 1) (by omega) (by omega)
      · have hlr := l27_r (f := (fT T (sk T p))) (m := k) (by omega) (fun j hj => let_of j (by omega))
        have hlr1 := l27_r (f := (fT T (sk T p))) (m := k + 1) (by omega) (fun j hj => let_of j (by omega))
        have hl1 : l27 (fT T (sk T p)) (k + 1) = 27 * l27 (fT T (sk T p)) k + (byT T ((sk T p) + k) - 96) := rfl
        refine j_aload_n 67 3 dX10_readName_66 rfl rfl ?_
        refine j_bipush 69 dX10_readName_67 rfl (by decide) ?_
        refine j_aload_n 70 3 dX10_readName_69 rfl rfl ?_
        refine j_geti 73 dX10_readName_70 rfl fl_X10_106 hM.md rfl rfl (fun r_70 => ?_)
        refine j_top (y := l27 (fT T (sk T p)) k) ((by rw [naM_at]; show l27 _ (min k 4) = _; rw [show min k 4 = k by omega])) ?_
        refine j_imul 74 dX10_readName_73 rfl ?_
        refine j_iload_n 75 0 dX10_readName_74 rfl rfl ?_
        refine j_iadd 76 dX10_readName_75 rfl ?_
        refine j_top (y := l27 (fT T (sk T p)) (k + 1)) (by omega) ?_
        refine j_puti 79 dX10_readName_76 rfl fl_X10_106 hM.md rfl rfl rfl (r32 (by omega) (by omega)) ?_
        refine j_mn (fun g_76 hg_76 => ?_)
        refine j_goto 101 dX10_readName_79 rfl ?_
        refine j_iinc 104 1 (y := ((k + 1 : Nat) : Int)) (L2 := [(2, .int (i32 (((k + 1 : Nat) : Int)))), (3, .int (i32 (byT T ((sk T p) + k) - 96))), (1, .int (i32 (byT T ((sk T p))))), (0, .ref (m))]) dX10_readName_101 rfl rfl (by omega) (Nat.le_of_ble_eq_true rfl) rfl ?_
        refine j_goto 25 dX10_readName_104 rfl ?_
        refine j_sub [0, 2, 3] rfl ?_
        refine j_mem (show _ = (naM g m (sk T p) (k + 1) (fT T (sk T p))) from by first | (rw [hg_76]; exact na_h (by omega) rfl) | (rw [hg_98]; exact na_t ⟨by omega, by omega⟩ hl4) | exact na_8 (by omega)) ?_
        exact ih_25 (k + 1) (by omega) (by omega)

set_option maxRecDepth 20000 in
theorem rp_nameE {w : Wd} {sh : Shp} {g : Mem} {m : Nat} (hM : MdS sh.1 m) {T : Tx} {e : PE} (h0 : RE g m T e) : CT w mX10_readName [.ref (m)] sh g (vQ sh (fun g2 => FM g g2 m ∧ RS g2 m T (namS T (.inr e)) ∧ ∀ p2, (.inr e : Sx) = .inl p2 → ln T (sk T p2) ≤ 8 → g2 m 18 = ((sk T p2 : Nat) : Int) ∧ g2 m 19 = nmH T (sk T p2) ∧ g2 m 20 = nmT T (sk T p2))) := by
  have hX := h0.1
  have h7 := hX.1
  obtain ⟨p, hp4, hpT⟩ := h0.2.1
  have hsk2 := sk_le hpT
  have h5 := h0.2.2.1
  have h51 := h0.2.2.2.2
  refine j_entry (by decide) rfl (Nat.le_of_ble_eq_true rfl) (fun h => by cases h) rfl ?_
  show J w mX10_readName 0 [(0, .ref (m))] [] sh g 0 0 _
  refine j_aload_n 1 0 dX10_readName_0 rfl rfl ?_
  refine j_callV 4 (As := []) (kc2 := 0) (ks2 := 0) dX10_readName_1 rfl mvX10_ahead lk_X10_65 hM.md rfl ⟨Nat.le_of_ble_eq_true rfl, rfl⟩ rfl rfl (Nat.le_of_ble_eq_true rfl) ⟨Nat.le_of_ble_eq_true rfl, Nat.le_of_ble_eq_true rfl⟩ ⟨Nat.le_of_ble_eq_true rfl, Nat.le_of_ble_eq_true rfl⟩ (rp_ahead hM hX hp4 hpT) x_d (k_d1 ?_)
  refine j_istore_n 5 (L2 := [(1, .int (i32 (byT T ((sk T p))))), (0, .ref (m))]) dX10_readName_4 rfl rfl (Nat.le_of_ble_eq_true rfl) rfl ?_
  refine j_iconst 6 dX10_readName_5 rfl ?_
  refine j_istore_n 7 (L2 := [(2, .int (i32 (0))), (1, .int (i32 (byT T ((sk T p))))), (0, .ref (m))]) dX10_readName_6 rfl rfl (Nat.le_of_ble_eq_true rfl) rfl ?_
  refine j_aload_n 8 2 dX10_readName_7 rfl rfl ?_
  refine j_aload_n 9 2 dX10_readName_8 rfl rfl ?_
  refine j_geti 12 dX10_readName_9 rfl fl_X10_44 hM.md rfl rfl (fun r_9 => ?_)
  refine j_top (y := ((sk T p : Nat) : Int)) (up2_s) ?_
  refine j_puti 15 dX10_readName_12 rfl fl_X10_103 hM.md rfl rfl rfl (r32 (by omega) (by omega)) ?_
  refine j_mn (fun g_12 hg_12 => ?_)
  refine j_aload_n 16 2 dX10_readName_15 rfl rfl ?_
  refine j_iconst 17 dX10_readName_16 rfl ?_
  refine j_puti 20 dX10_readName_17 rfl fl_X10_106 hM.md rfl rfl rfl (r32 (by decide) (by decide)) ?_
  refine j_mn (fun g_17 hg_17 => ?_)
  refine j_aload_n 21 2 dX10_readName_20 rfl rfl ?_
  refine j_iconst 22 dX10_readName_21 rfl ?_
  refine j_puti 25 dX10_readName_22 rfl fl_X10_109 hM.md rfl rfl rfl (r32 (by decide) (by decide)) ?_
  refine j_mem (show up2 g_17 m 20 0 = (naM g m (sk T p) (0) (fT T (sk T p))) by rw [hg_17, hg_12]; exact na_0) ?_
  suffices lp_25 : ∀ (n_25 : Nat) (k : Nat), ln T (sk T p) - k < n_25 → k ≤ ln T (sk T p) → J w mX10_readName 25 [(2, .int (i32 ((k : Int)))), (1, .int (i32 (byT T ((sk T p))))), (0, .ref (m))] [] sh (naM g m (sk T p) (k) (fT T (sk T p))) 0 0 (vQ sh (fun g2 => FM g g2 m ∧ RS g2 m T (namS T (.inr e)) ∧ ∀ p2, (.inr e : Sx) = .inl p2 → ln T (sk T p2) ≤ 8 → g2 m 18 = ((sk T p2 : Nat) : Int) ∧ g2 m 19 = nmH T (sk T p2) ∧ g2 m 20 = nmT T (sk T p2))) by
    exact lp_25 _ 0 (Nat.lt_succ_self _) (by omega)
  intro n_25
  induction n_25 with
  | zero => intro k h_; exact absurd h_ (Nat.not_lt_zero _)
  | succ n_25 ih_25 =>
    intro k hn_25 hk
    have hdl : sk T p + ln T (sk T p) ≤ T.2 := rn_le hL hsk2
    refine j_aload_n 26 2 dX10_readName_25 rfl rfl ?_
    refine j_aload_n 27 2 dX10_readName_26 rfl rfl ?_
    refine j_geti 30 dX10_readName_27 rfl fl_X10_103 hM.md rfl rfl (fun r_27 => ?_)
    refine j_top (y := (((sk T p) : Nat) : Int)) (naM_4) ?_
    refine j_iload_n 31 0 dX10_readName_30 rfl rfl ?_
    refine j_iadd 32 dX10_readName_31 rfl ?_
    refine j_top (y := (((sk T p) + k : Nat) : Int)) (by omega) ?_
    refine j_callV 35 (As := [.int (i32 ((((sk T p) + k : Nat) : Int)))]) (kc2 := 0) (ks2 := 0) dX10_readName_32 rfl mvX10_byteAt lk_X10_47 hM.md rfl ⟨Nat.le_of_ble_eq_true rfl, rfl⟩ rfl rfl (Nat.le_of_ble_eq_true rfl) ⟨Nat.le_of_ble_eq_true rfl, Nat.le_of_ble_eq_true rfl⟩ ⟨Nat.le_of_ble_eq_true rfl, Nat.le_of_ble_eq_true rfl⟩ (rp_byteAt hM (hX.fm naM_FM) (k := (sk T p) + k) (by omega)) x_d (k_d1 ?_)
    refine j_bipush 37 dX10_readName_35 rfl (by decide) ?_
    refine j_bipush 39 dX10_readName_37 rfl (by decide) ?_
    refine j_callS 42 (As := [.int (i32 (byT T ((sk T p) + k))), .int (i32 (97)), .int (i32 (122))]) (kc2 := 0) (ks2 := 0) dX10_readName_39 rfl msX10_in lk_X10_57 rfl rfl (Nat.le_of_ble_eq_true rfl) ⟨Nat.le_of_ble_eq_true rfl, Nat.le_of_ble_eq_true rfl⟩ ⟨Nat.le_of_ble_eq_true rfl, Nat.le_of_ble_eq_true rfl⟩ (r_in (by have := byT_r hX.2.2.2 ((sk T p) + k); exact ⟨by omega, by omega⟩) (r32 (by decide) (by decide)) (r32 (by decide) (by decide))) x_d (k_d1 ?_)
    refine j_top (y := b01 (isL (byT T ((sk T p) + k)))) (rfl) ?_
    refine j_if_eq 45 107 dX10_readName_42 rfl rfl (r01 (b01_r _)) (fun c_42 => ?_) (fun c_42 => ?_)
    · have hkd : k = ln T (sk T p) := by have h : ¬ k < ln T (sk T p) := fun z => b01_ne.mp c_42 ((ln_is hk).mpr z); omega
      subst hkd
      refine j_iload_n 108 1 dX10_readName_107 rfl rfl ?_
      by_cases hA : ln T (sk T p) = 0
      ·
        refine j_bipush 110 dX10_readName_108 rfl (by decide) ?_
        refine j_bipush 112 dX10_readName_110 rfl (by decide) ?_
        refine j_callS 115 (As := [.int (i32 (byT T ((sk T p)))), .int (i32 (97)), .int (i32 (122))]) (kc2 := 0) (ks2 := 0) dX10_readName_112 rfl msX10_in lk_X10_57 rfl rfl (Nat.le_of_ble_eq_true rfl) ⟨Nat.le_of_ble_eq_true rfl, Nat.le_of_ble_eq_true rfl⟩ ⟨Nat.le_of_ble_eq_true rfl, Nat.le_of_ble_eq_true rfl⟩ (r_in (by have := byT_r hX.2.2.2 ((sk T p)); exact ⟨by omega, by omega⟩) (r32 (by decide) (by decide)) (r32 (by decide) (by decide))) x_d (k_d1 ?_)
        refine j_top (y := 0) (by show b01 (isL (byT T (sk T p))) = 0; rw [show isL (byT T (sk T p)) = false from (by have h := ln_at (T := T) (q := sk T p); rw [hA] at h; exact h)]; rfl) ?_
        refine j_if_ne 118 128 dX10_readName_115 rfl rfl (r32 (by decide) (by decide)) (fun c_115 => absurd c_115 (by decide)) (fun c_115 => ?_)
        refine j_aload_n 119 2 dX10_readName_118 rfl rfl ?_
        refine j_bipush 121 dX10_readName_119 rfl (by decide) ?_
        refine j_aload_n 122 2 dX10_readName_121 rfl rfl ?_
        refine j_geti 125 dX10_readName_122 rfl fl_X10_103 hM.md rfl rfl (fun r_122 => ?_)
        refine j_top (y := (((sk T p) : Nat) : Int)) (naM_4) ?_
        refine j_callV 128 (As := [.int (i32 (-2)), .int (i32 ((((sk T p) : Nat) : Int)))]) (kc2 := 0) (ks2 := 0) dX10_readName_125 rfl mvX10_report lk_X10_78 hM.md rfl ⟨Nat.le_of_ble_eq_true rfl, rfl⟩ rfl rfl (Nat.le_of_ble_eq_true rfl) ⟨Nat.le_of_ble_eq_true rfl, Nat.le_of_ble_eq_true rfl⟩ ⟨Nat.le_of_ble_eq_true rfl, Nat.le_of_ble_eq_true rfl⟩ (rp_report1 hM (by rw [naM_5, h5]; exact h51) (r32 (by decide) (by decide)) (r32 (by omega) (by omega))) x_d (k_d0 ?_)
        refine j_aload_n 129 2 dX10_readName_128 rfl rfl ?_
        refine j_callV 132 (As := []) (kc2 := 0) (ks2 := 0) dX10_readName_129 rfl mvX10_isGood lk_X10_61 hM.md rfl ⟨Nat.le_of_ble_eq_true rfl, rfl⟩ rfl rfl (Nat.le_of_ble_eq_true rfl) ⟨Nat.le_of_ble_eq_true rfl, Nat.le_of_ble_eq_true rfl⟩ ⟨Nat.le_of_ble_eq_true rfl, Nat.le_of_ble_eq_true rfl⟩ (rp_isGood hM) x_d (k_d1 ?_)
        refine j_top (y := 0) (by rw [decide_eq_false (show ¬ _ = (0 : Int) by rw [naM_5]; omega)]; rfl) ?_
        refine j_if_eq 135 151 dX10_readName_132 rfl rfl (r32 (by decide) (by decide)) (fun c_132 => ?_) (fun c_132 => absurd c_132 (by decide))
        refine j_aload_n 152 2 dX10_readName_151 rfl rfl ?_
        refine j_callV 155 (As := []) (kc2 := 0) (ks2 := 0) dX10_readName_152 rfl mvX10_isGood lk_X10_61 hM.md rfl ⟨Nat.le_of_ble_eq_true rfl, rfl⟩ rfl rfl (Nat.le_of_ble_eq_true rfl) ⟨Nat.le_of_ble_eq_true rfl, Nat.le_of_ble_eq_true rfl⟩ ⟨Nat.le_of_ble_eq_true rfl, Nat.le_of_ble_eq_true rfl⟩ (rp_isGood hM) x_d (k_d1 ?_)
        refine j_top (y := 0) (by rw [decide_eq_false (show ¬ _ = (0 : Int) by rw [naM_5]; omega)]; rfl) ?_
        refine j_if_eq 158 168 dX10_readName_155 rfl rfl (r32 (by decide) (by decide)) (fun c_155 => ?_) (fun c_155 => absurd c_155 (by decide))
        exact j_vret dX10_readName_168 rfl (⟨rfl, rfl, naM_FM, naM_RE h0 hsk2, fun p2 hp2 => by cases hp2⟩)
      ·
        refine j_bipush 110 dX10_readName_108 rfl (by decide) ?_
        refine j_bipush 112 dX10_readName_110 rfl (by decide) ?_
        refine j_callS 115 (As := [.int (i32 (byT T ((sk T p)))), .int (i32 (97)), .int (i32 (122))]) (kc2 := 0) (ks2 := 0) dX10_readName_112 rfl msX10_in lk_X10_57 rfl rfl (Nat.le_of_ble_eq_true rfl) ⟨Nat.le_of_ble_eq_true rfl, Nat.le_of_ble_eq_true rfl⟩ ⟨Nat.le_of_ble_eq_true rfl, Nat.le_of_ble_eq_true rfl⟩ (r_in (by have := byT_r hX.2.2.2 ((sk T p)); exact ⟨by omega, by omega⟩) (r32 (by decide) (by decide)) (r32 (by decide) (by decide))) x_d (k_d1 ?_)
        refine j_top (y := 1) (by show b01 (isL (byT T (sk T p))) = 1; rw [show isL (byT T (sk T p)) = true from ln_lt (T := T) (q := sk T p) (j := 0) (by omega)]; rfl) ?_
        refine j_if_ne 118 128 dX10_readName_115 rfl rfl (r32 (by decide) (by decide)) (fun c_115 => ?_) (fun c_115 => absurd c_115 (by decide))
        refine j_aload_n 129 2 dX10_readName_128 rfl rfl ?_
        refine j_callV 132 (As := []) (kc2 := 0) (ks2 := 0) dX10_readName_129 rfl mvX10_isGood lk_X10_61 hM.md rfl ⟨Nat.le_of_ble_eq_true rfl, rfl⟩ rfl rfl (Nat.le_of_ble_eq_true rfl) ⟨Nat.le_of_ble_eq_true rfl, Nat.le_of_ble_eq_true rfl⟩ ⟨Nat.le_of_ble_eq_true rfl, Nat.le_of_ble_eq_true rfl⟩ (rp_isGood hM) x_d (k_d1 ?_)
        refine j_top (y := 0) (by rw [decide_eq_false (show ¬ _ = (0 : Int) by rw [naM_5]; omega)]; rfl) ?_
        refine j_if_eq 135 151 dX10_readName_132 rfl rfl (r32 (by decide) (by decide)) (fun c_132 => ?_) (fun c_132 => absurd c_132 (by decide))
        refine j_aload_n 152 2 dX10_readName_151 rfl rfl ?_
        refine j_callV 155 (As := []) (kc2 := 0) (ks2 := 0) dX10_readName_152 rfl mvX10_isGood lk_X10_61 hM.md rfl ⟨Nat.le_of_ble_eq_true rfl, rfl⟩ rfl rfl (Nat.le_of_ble_eq_true rfl) ⟨Nat.le_of_ble_eq_true rfl, Nat.le_of_ble_eq_true rfl⟩ ⟨Nat.le_of_ble_eq_true rfl, Nat.le_of_ble_eq_true rfl⟩ (rp_isGood hM) x_d (k_d1 ?_)
        refine j_top (y := 0) (by rw [decide_eq_false (show ¬ _ = (0 : Int) by rw [naM_5]; omega)]; rfl) ?_
        refine j_if_eq 158 168 dX10_readName_155 rfl rfl (r32 (by decide) (by decide)) (fun c_155 => ?_) (fun c_155 => absurd c_155 (by decide))
        exact j_vret dX10_readName_168 rfl (⟨rfl, rfl, naM_FM, naM_RE h0 hsk2, fun p2 hp2 => by cases hp2⟩)
    · have hkl := (ln_is hk).mp (Classical.byContradiction fun z => c_42 (b01_ne.mpr z))
      have hby := of_decide_eq_true (ln_lt hkl)
      refine j_aload_n 46 2 dX10_readName_45 rfl rfl ?_
      refine j_aload_n 47 2 dX10_readName_46 rfl rfl ?_
      refine j_geti 50 dX10_readName_47 rfl fl_X10_103 hM.md rfl rfl (fun r_47 => ?_)
      refine j_top (y := (((sk T p) : Nat) : Int)) (naM_4) ?_
      refine j_iload_n 51 0 dX10_readName_50 rfl rfl ?_
      refine j_iadd 52 dX10_readName_51 rfl ?_
      refine j_top (y := (((sk T p) + k : Nat) : Int)) (by omega) ?_
      refine j_callV 55 (As := [.int (i32 ((((sk T p) + k : Nat) : Int)))]) (kc2 := 0) (ks2 := 0) dX10_readName_52 rfl mvX10_byteAt lk_X10_47 hM.md rfl ⟨Nat.le_of_ble_eq_true rfl, rfl⟩ rfl rfl (Nat.le_of_ble_eq_true rfl) ⟨Nat.le_of_ble_eq_true rfl, Nat.le_of_ble_eq_true rfl⟩ ⟨Nat.le_of_ble_eq_true rfl, Nat.le_of_ble_eq_true rfl⟩ (rp_byteAt hM (hX.fm naM_FM) (k := (sk T p) + k) (by omega)) x_d (k_d1 ?_)
      refine j_bipush 57 dX10_readName_55 rfl (by decide) ?_
      refine j_isub 58 dX10_readName_57 rfl ?_
      refine j_iconst 59 dX10_readName_58 rfl ?_
      refine j_iadd 60 dX10_readName_59 rfl ?_
      refine j_top (y := byT T ((sk T p) + k) - 96) (by omega) ?_
      refine j_istore_n 61 (L2 := [(3, .int (i32 (byT T ((sk T p) + k) - 96))), (2, .int (i32 ((k : Int)))), (1, .int (i32 (byT T ((sk T p))))), (0, .ref (m))]) dX10_readName_60 rfl rfl (Nat.le_of_ble_eq_true rfl) rfl ?_
      refine j_iload_n 62 1 dX10_readName_61 rfl rfl ?_
      refine j_iconst 63 dX10_readName_62 rfl ?_
      refine j_icmp_ge 66 82 dX10_readName_63 rfl rfl (r32 (by omega) (by omega)) (r32 (by decide) (by decide)) (fun c_63 => ?_) (fun c_63 => ?_)
      · refine j_iload_n 83 1 dX10_readName_82 rfl rfl ?_
        refine j_bipush 85 dX10_readName_83 rfl (by decide) ?_
        refine j_icmp_ge 88 101 dX10_readName_85 rfl rfl (r32 (by omega) (by omega)) (r32 (by decide) (by decide)) (fun c_85 => ?_) (fun c_85 => ?_)
        · refine j_iinc 104 1 (y := ((k + 1 : Nat) : Int)) (L2 := [(2, .int (i32 (((k + 1 : Nat) : Int)))), (3, .int (i32 (byT T ((sk T p) + k) - 96))), (1, .int (i32 (byT T ((sk T p))))), (0, .ref (m))]) dX10_readName_101 rfl rfl (by omega) (Nat.le_of_ble_eq_true rfl) rfl ?_
          refine j_goto 25 dX10_readName_104 rfl ?_
          refine j_sub [0, 2, 3] rfl ?_
          refine j_mem (show _ = (naM g m (sk T p) (k + 1) (fT T (sk T p))) from by first | (rw [hg_76]; exact na_h (by omega) rfl) | (rw [hg_98]; exact na_t ⟨by omega, by omega⟩ hl4) | exact na_8 (by omega)) ?_
          exact ih_25 (k + 1) (by omega) (by omega)
        · have hlr := l27_r (f := fun i => (fT T (sk T p)) (4 + i)) (m := k - 4) (by omega) (fun j hj => let_of (4 + j) (by omega))
          have hl4 : 27 * l27 (fun i => (fT T (sk T p)) (4 + i)) (k - 4) + (byT T ((sk T p) + k) - 96) = l27 (fun i => (fT T (sk T p)) (4 + i)) (k + 1 - 4) := by
            rw [show k + 1 - 4 = (k - 4) + 1 by omega]
            show _ = 27 * l27 (fun i => (fT T (sk T p)) (4 + i)) (k - 4) + ((fT T (sk T p)) (4 + (k - 4)) - 96)
            rw [show 4 + (k - 4) = k by omega]
            rfl
          refine j_aload_n 89 3 dX10_readName_88 rfl rfl ?_
          refine j_bipush 91 dX10_readName_89 rfl (by decide) ?_
          refine j_aload_n 92 3 dX10_readName_91 rfl rfl ?_
          refine j_geti 95 dX10_readName_92 rfl fl_X10_109 hM.md rfl rfl (fun r_92 => ?_)
          refine j_top (y := l27 (fun i => (fT T (sk T p)) (4 + i)) (k - 4)) ((by rw [naM_at]; show l27 _ (min (k - 4) 4) = _; rw [show min (k - 4) 4 = k - 4 by omega])) ?_
          refine j_imul 96 dX10_readName_95 rfl ?_
          refine j_iload_n 97 0 dX10_readName_96 rfl rfl ?_
          refine j_iadd 98 dX10_readName_97 rfl ?_
          refine j_puti 101 dX10_readName_98 rfl fl_X10_109 hM.md rfl rfl rfl (r32 (by omega) (by omega)) ?_
          refine j_mn (fun g_98 hg_98 => ?_)
          refine j_iinc 104 1 (y := ((k + 1 : Nat) : Int)) (L2 := [(2, .int (i32 (((k + 1 : Nat) : Int)))), (3, .int (i32 (byT T ((sk T p) + k) - 96))), (1, .int (i32 (byT T ((sk T p))))), (0, .ref (m))]) dX10_readName_101 rfl rfl (by omega) (Nat.le_of_ble_eq_true rfl) rfl ?_
          refine j_goto 25 dX10_readName_104 rfl ?_
          refine j_sub [0, 2, 3] rfl ?_
          refine j_mem (show _ = (naM g m (sk T p) (k + 1) (fT T (sk T p))) from by first | (rw [hg_76]; exact na_h (by omega) rfl) | (rw [hg_98]; exact na_t ⟨by omega, by omega⟩ hl4) | exact na_8 (by omega)) ?_
          exact ih_25 (k + 1) (by omega) (by omega)
      · have hlr := l27_r (f := (fT T (sk T p))) (m := k) (by omega) (fun j hj => let_of j (by omega))
        have hlr1 := l27_r (f := (fT T (sk T p))) (m := k + 1) (by omega) (fun j hj => let_of j (by omega))
        have hl1 : l27 (fT T (sk T p)) (k + 1) = 27 * l27 (fT T (sk T p)) k + (byT T ((sk T p) + k) - 96) := rfl
        refine j_aload_n 67 3 dX10_readName_66 rfl rfl ?_
        refine j_bipush 69 dX10_readName_67 rfl (by decide) ?_
        refine j_aload_n 70 3 dX10_readName_69 rfl rfl ?_
        refine j_geti 73 dX10_readName_70 rfl fl_X10_106 hM.md rfl rfl (fun r_70 => ?_)
        refine j_top (y := l27 (fT T (sk T p)) k) ((by rw [naM_at]; show l27 _ (min k 4) = _; rw [show min k 4 = k by omega])) ?_
        refine j_imul 74 dX10_readName_73 rfl ?_
        refine j_iload_n 75 0 dX10_readName_74 rfl rfl ?_
        refine j_iadd 76 dX10_readName_75 rfl ?_
        refine j_top (y := l27 (fT T (sk T p)) (k + 1)) (by omega) ?_
        refine j_puti 79 dX10_readName_76 rfl fl_X10_106 hM.md rfl rfl rfl (r32 (by omega) (by omega)) ?_
        refine j_mn (fun g_76 hg_76 => ?_)
        refine j_goto 101 dX10_readName_79 rfl ?_
        refine j_iinc 104 1 (y := ((k + 1 : Nat) : Int)) (L2 := [(2, .int (i32 (((k + 1 : Nat) : Int)))), (3, .int (i32 (byT T ((sk T p) + k) - 96))), (1, .int (i32 (byT T ((sk T p))))), (0, .ref (m))]) dX10_readName_101 rfl rfl (by omega) (Nat.le_of_ble_eq_true rfl) rfl ?_
        refine j_goto 25 dX10_readName_104 rfl ?_
        refine j_sub [0, 2, 3] rfl ?_
        refine j_mem (show _ = (naM g m (sk T p) (k + 1) (fT T (sk T p))) from by first | (rw [hg_76]; exact na_h (by omega) rfl) | (rw [hg_98]; exact na_t ⟨by omega, by omega⟩ hl4) | exact na_8 (by omega)) ?_
        exact ih_25 (k + 1) (by omega) (by omega)

theorem rp_digits {w : Wd} {sh : Shp} {g : Mem} {m : Nat} (hM : MdS sh.1 m) {T : Tx} {most : Nat} (hmo : most ≤ 1000) {st : Sx} (h0 : RS g m T st) : CT w mX10_readDigits [.ref m, .int (i32 (most : Int))] sh g (vQ sh (fun g2 => FM g g2 m ∧ RS g2 m T (digS T most st) ∧ ∀ p2, st = .inl p2 → g2 m 15 = ((sk T p2 : Nat) : Int) ∧ g2 m 16 = ((dn T (sk T p2) : Nat) : Int) ∧ g2 m 17 = dvF (fT T (sk T p2)) (dn T (sk T p2)))) := by
  cases st with
  | inl p => exact rp_digitsG hM hmo h0
  | inr e => exact rp_digitsE hM hmo h0
theorem rp_name {w : Wd} {sh : Shp} {g : Mem} {m : Nat} (hM : MdS sh.1 m) {T : Tx} {st : Sx} (h0 : RS g m T st) : CT w mX10_readName [.ref m] sh g (vQ sh (fun g2 => FM g g2 m ∧ RS g2 m T (namS T st) ∧ ∀ p2, st = .inl p2 → ln T (sk T p2) ≤ 8 → g2 m 18 = ((sk T p2 : Nat) : Int) ∧ g2 m 19 = nmH T (sk T p2) ∧ g2 m 20 = nmT T (sk T p2))) := by
  cases st with
  | inl p => exact rp_nameG hM h0
  | inr e => exact rp_nameE hM h0
