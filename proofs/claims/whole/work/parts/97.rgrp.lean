set_option maxRecDepth 20000 in
theorem rp_readGroup {w : Wd} {sh : Shp} {g : Mem} {m : Nat} (hM : MdS sh.1 m) {T : Tx} {d : Nat → Int} {s : Nat → Bool} {p st : Nat} (h0 : RG g m T p) (hd : g (m + 3) = d) (hP : PInv d) (hS : SM g m s) (hst : st ≤ 1000)  : CT w mX10_readGroup [.ref (m), .int (i32 (((st : Nat) : Int)))] sh g (vQ sh (RP g m T (P_group T st d s p))) := by
  have hX := h0.1
  have h7 := hX.1
  have hTb := hX.2.2.2
  have hsk2 := sk_le h0.2.2.1
  have hp4 := h0.2.1
  have hpT := h0.2.2.1
  have h5 := h0.2.2.2.1
  have F0 : FM g g m := FM.rf
  have hbb := hP.1
  have hb2 := hbb.2.2.1
  have hb3 := hbb.2.2.2.1
  have hb4 := hbb.2.2.2.2.1
  have hb5 := hbb.2.2.2.2.2.1
  refine j_entry (by decide) rfl (Nat.le_of_ble_eq_true rfl) (fun h => by cases h) rfl ?_
  show J w mX10_readGroup 0 [(0, .ref (m)), (1, .int (i32 (((st : Nat) : Int))))] [] sh g 0 0 _
  refine j_aload_n 1 0 dX10_readGroup_0 rfl rfl ?_
  refine j_getr 4 dX10_readGroup_1 rfl fl_X10_20 hM.md rfl (fun _ _ => rfl) rfl ?_
  refine j_iconst 5 dX10_readGroup_4 rfl ?_
  refine j_iald 6 3 dX10_readGroup_5 rfl hM.dra rfl rfl (show 3 < 729 by omega) (fun r_5 => ?_)
  refine j_top (y := d 3) (congrFun hd 3) ?_
  refine j_iconst 7 dX10_readGroup_6 rfl ?_
  refine j_icmp_ne 10 17 dX10_readGroup_7 rfl rfl ⟨by omega, by omega⟩ (r32 (by decide) (by decide)) (fun c_7_1 => ?_) (fun c_7_1 => ?_)
  · skip
    refine j_aload_n 18 0 dX10_readGroup_17 rfl rfl ?_
    refine j_callV 21 (As := []) (kc2 := 0) (ks2 := 0) dX10_readGroup_18 rfl mvX10_readName lk_X10_120 hM.md rfl ⟨Nat.le_of_ble_eq_true rfl, rfl⟩ rfl rfl (Nat.le_of_ble_eq_true rfl) ⟨Nat.le_of_ble_eq_true rfl, Nat.le_of_ble_eq_true rfl⟩ ⟨Nat.le_of_ble_eq_true rfl, Nat.le_of_ble_eq_true rfl⟩ (rp_name hM (st := (.inl (p))) h0) x_v (k_v fun g_18 h_18 => ?_)
    obtain ⟨Fz2, S2, C2⟩ := h_18
    have F2 := F0.tr Fz2
    have hdl2 : (sk T (p)) + ln T (sk T (p)) ≤ T.2 := rn_le hL (sk_le h0.2.2.1)
    rcases namC T (sk T (p)) with hA | hA | hA
    ·
      rw [namS_1 hA] at S2
      obtain ⟨D18_2, D19_2, D20_2⟩ := C2 _ rfl hA.2
      have hvn2 := (nm_parts hA.2 hA.1).1
      refine j_aload_n 22 0 dX10_readGroup_21 rfl rfl ?_
      refine j_callV 25 (As := []) (kc2 := 0) (ks2 := 0) dX10_readGroup_22 rfl mvX10_isGood lk_X10_61 hM.md rfl ⟨Nat.le_of_ble_eq_true rfl, rfl⟩ rfl rfl (Nat.le_of_ble_eq_true rfl) ⟨Nat.le_of_ble_eq_true rfl, Nat.le_of_ble_eq_true rfl⟩ ⟨Nat.le_of_ble_eq_true rfl, Nat.le_of_ble_eq_true rfl⟩ (rp_isGood hM) x_d (k_d1 ?_)
      refine j_top (y := 1) (by rw [decide_eq_true S2.2.2.2.1]; rfl) ?_
      refine j_if_eq 28 57 dX10_readGroup_25 rfl rfl (r32 (by decide) (by decide)) (fun c_25 => absurd c_25 (by decide)) (fun c_25 => ?_)
      refine j_aload_n 29 0 dX10_readGroup_28 rfl rfl ?_
      refine j_getr 32 dX10_readGroup_29 rfl fl_X10_20 hM.md rfl (fun _ _ => rfl) rfl ?_
      refine j_aload_n 33 0 dX10_readGroup_32 rfl rfl ?_
      refine j_geti 36 dX10_readGroup_33 rfl fl_X10_106 hM.md rfl rfl (fun r_33 => ?_)
      refine j_top (y := nmH T (sk T (p))) (D19_2) ?_
      refine j_aload_n 37 0 dX10_readGroup_36 rfl rfl ?_
      refine j_geti 40 dX10_readGroup_37 rfl fl_X10_109 hM.md rfl rfl (fun r_37 => ?_)
      refine j_top (y := nmT T (sk T (p))) (D20_2) ?_
      refine j_callS 43 (As := [.ref (m + 3), .int (i32 (nmH T (sk T (p)))), .int (i32 (nmT T (sk T (p))))]) (kc2 := 0) (ks2 := 0) dX10_readGroup_40 rfl msX10_groupOf lk_X10_123 rfl rfl (Nat.le_of_ble_eq_true rfl) ⟨Nat.le_of_ble_eq_true rfl, Nat.le_of_ble_eq_true rfl⟩ ⟨Nat.le_of_ble_eq_true rfl, Nat.le_of_ble_eq_true rfl⟩ (r_groupOf hM.dra (show g_18 (m + 3) 3 ≤ 5 by rw [((F2.1 _ (by omega)).trans hd)]; omega) (by rw [← D19_2]; exact r_33) (by rw [← D20_2]; exact r_37)) x_d (k_d1 ?_)
      refine j_top (y := s_groupOf d (nmH T (sk T (p))) (nmT T (sk T (p)))) (by rw [((F2.1 _ (by omega)).trans hd)]) ?_
      refine j_iconst 44 dX10_readGroup_43 rfl ?_
      refine j_icmp_eq 47 57 dX10_readGroup_44 rfl rfl (fst_r32 _ (by decide)) (r32 (by decide) (by decide)) (fun c_44_3 => ?_) (fun c_44_3 => ?_)
      · skip
        refine j_aload_n 58 0 dX10_readGroup_57 rfl rfl ?_
        refine j_geti 61 dX10_readGroup_58 rfl fl_X10_106 hM.md rfl rfl (fun r_58 => ?_)
        refine j_top (y := nmH T (sk T (p))) (D19_2) ?_
        refine j_istore_n 62 (L2 := [(2, .int (i32 (nmH T (sk T (p))))), (0, .ref (m)), (1, .int (i32 (((st : Nat) : Int))))]) dX10_readGroup_61 rfl rfl (Nat.le_of_ble_eq_true rfl) rfl ?_
        refine j_aload_n 63 1 dX10_readGroup_62 rfl rfl ?_
        refine j_geti 66 dX10_readGroup_63 rfl fl_X10_109 hM.md rfl rfl (fun r_63 => ?_)
        refine j_top (y := nmT T (sk T (p))) (D20_2) ?_
        refine j_istore_n 67 (L2 := [(3, .int (i32 (nmT T (sk T (p))))), (2, .int (i32 (nmH T (sk T (p))))), (0, .ref (m)), (1, .int (i32 (((st : Nat) : Int))))]) dX10_readGroup_66 rfl rfl (Nat.le_of_ble_eq_true rfl) rfl ?_
        refine j_aload_n 68 2 dX10_readGroup_67 rfl rfl ?_
        refine j_iconst 69 dX10_readGroup_68 rfl ?_
        refine j_bipush 71 dX10_readGroup_69 rfl (by decide) ?_
        refine j_callV 74 (As := [.int (i32 (1)), .int (i32 (8))]) (kc2 := 0) (ks2 := 0) dX10_readGroup_71 rfl mvX10_number lk_X10_126 hM.md rfl ⟨Nat.le_of_ble_eq_true rfl, rfl⟩ rfl rfl (Nat.le_of_ble_eq_true rfl) ⟨Nat.le_of_ble_eq_true rfl, Nat.le_of_ble_eq_true rfl⟩ ⟨Nat.le_of_ble_eq_true rfl, Nat.le_of_ble_eq_true rfl⟩ (rp_number hM (by first | decide | omega) (by first | decide | omega) (by first | decide | omega) (by first | decide | omega) (st := (.inl ((sk T (p)) + ln T (sk T (p))))) S2) x_i (k_i fun z_71 g_71 h_71 => ?_)
        obtain ⟨Fz4, hz4, S4⟩ := h_71
        have F4 := F2.tr Fz4
        have hdl4 : (sk T ((sk T (p)) + ln T (sk T (p)))) + dn T (sk T ((sk T (p)) + ln T (sk T (p)))) ≤ T.2 := rn_le hD (sk_le S2.2.2.1)
        rcases numC T (sk T ((sk T (p)) + ln T (sk T (p)))) (1) (8) with hB | hB | hB
        ·
          rw [numS_1 hB] at hz4 S4
          refine j_top (y := nv T (sk T ((sk T (p)) + ln T (sk T (p))))) hz4 ?_
          refine j_istore 76 (L2 := [(4, .int (i32 (nv T (sk T ((sk T (p)) + ln T (sk T (p))))))), (3, .int (i32 (nmT T (sk T (p))))), (2, .int (i32 (nmH T (sk T (p))))), (0, .ref (m)), (1, .int (i32 (((st : Nat) : Int))))]) dX10_readGroup_74 rfl (Nat.le_of_ble_eq_true rfl) rfl ?_
          refine j_aload_n 77 3 dX10_readGroup_76 rfl rfl ?_
          refine j_iconst 78 dX10_readGroup_77 rfl ?_
          refine j_iload 80 0 dX10_readGroup_78 rfl rfl ?_
          refine j_iconst 81 dX10_readGroup_80 rfl ?_
          refine j_isub 82 dX10_readGroup_81 rfl ?_
          refine j_callV 85 (As := [.int (i32 (0)), .int (i32 ((nv T (sk T ((sk T (p)) + ln T (sk T (p))))) - (1)))]) (kc2 := 0) (ks2 := 0) dX10_readGroup_82 rfl mvX10_number lk_X10_126 hM.md rfl ⟨Nat.le_of_ble_eq_true rfl, rfl⟩ rfl rfl (Nat.le_of_ble_eq_true rfl) ⟨Nat.le_of_ble_eq_true rfl, Nat.le_of_ble_eq_true rfl⟩ ⟨Nat.le_of_ble_eq_true rfl, Nat.le_of_ble_eq_true rfl⟩ (rp_number hM (by first | decide | omega) (by first | decide | omega) (by first | decide | omega) (by first | decide | omega) (st := (.inl ((sk T ((sk T (p)) + ln T (sk T (p)))) + dn T (sk T ((sk T (p)) + ln T (sk T (p))))))) S4) x_i (k_i fun z_82 g_82 h_82 => ?_)
          obtain ⟨Fz5, hz5, S5⟩ := h_82
          have F5 := F4.tr Fz5
          have hdl5 : (sk T ((sk T ((sk T (p)) + ln T (sk T (p)))) + dn T (sk T ((sk T (p)) + ln T (sk T (p)))))) + dn T (sk T ((sk T ((sk T (p)) + ln T (sk T (p)))) + dn T (sk T ((sk T (p)) + ln T (sk T (p)))))) ≤ T.2 := rn_le hD (sk_le S4.2.2.1)
          rcases numC T (sk T ((sk T ((sk T (p)) + ln T (sk T (p)))) + dn T (sk T ((sk T (p)) + ln T (sk T (p)))))) (0) ((nv T (sk T ((sk T (p)) + ln T (sk T (p))))) - (1)) with hC | hC | hC
          ·
            rw [numS_1 hC] at hz5 S5
            refine j_top (y := nv T (sk T ((sk T ((sk T (p)) + ln T (sk T (p)))) + dn T (sk T ((sk T (p)) + ln T (sk T (p))))))) hz5 ?_
            refine j_istore 87 (L2 := [(5, .int (i32 (nv T (sk T ((sk T ((sk T (p)) + ln T (sk T (p)))) + dn T (sk T ((sk T (p)) + ln T (sk T (p))))))))), (4, .int (i32 (nv T (sk T ((sk T (p)) + ln T (sk T (p))))))), (3, .int (i32 (nmT T (sk T (p))))), (2, .int (i32 (nmH T (sk T (p))))), (0, .ref (m)), (1, .int (i32 (((st : Nat) : Int))))]) dX10_readGroup_85 rfl (Nat.le_of_ble_eq_true rfl) rfl ?_
            refine j_aload_n 88 4 dX10_readGroup_87 rfl rfl ?_
            refine j_callV 91 (As := []) (kc2 := 0) (ks2 := 0) dX10_readGroup_88 rfl mvX10_isGood lk_X10_61 hM.md rfl ⟨Nat.le_of_ble_eq_true rfl, rfl⟩ rfl rfl (Nat.le_of_ble_eq_true rfl) ⟨Nat.le_of_ble_eq_true rfl, Nat.le_of_ble_eq_true rfl⟩ ⟨Nat.le_of_ble_eq_true rfl, Nat.le_of_ble_eq_true rfl⟩ (rp_isGood hM) x_d (k_d1 ?_)
            refine j_top (y := 1) (by rw [decide_eq_true S5.2.2.2.1]; rfl) ?_
            refine j_if_ne 94 95 dX10_readGroup_91 rfl rfl (r32 (by decide) (by decide)) (fun c_91 => ?_) (fun c_91 => absurd c_91 (by decide))
            refine j_bipush 97 dX10_readGroup_95 rfl (by decide) ?_
            refine j_bipush 99 dX10_readGroup_97 rfl (by decide) ?_
            refine j_aload_n 100 4 dX10_readGroup_99 rfl rfl ?_
            refine j_getr 103 dX10_readGroup_100 rfl fl_X10_20 hM.md rfl (fun _ _ => rfl) rfl ?_
            refine j_iconst 104 dX10_readGroup_103 rfl ?_
            refine j_iald 105 3 dX10_readGroup_104 rfl hM.dra rfl rfl (show 3 < 729 by omega) (fun r_104 => ?_)
            refine j_top (y := d 3) (congrFun ((F5.1 _ (by omega)).trans hd) 3) ?_
            refine j_imul 106 dX10_readGroup_105 rfl ?_
            refine j_iadd 107 dX10_readGroup_106 rfl ?_
            refine j_istore 109 (L2 := [(6, .int (i32 ((50) + ((9) * (d 3))))), (5, .int (i32 (nv T (sk T ((sk T ((sk T (p)) + ln T (sk T (p)))) + dn T (sk T ((sk T (p)) + ln T (sk T (p))))))))), (4, .int (i32 (nv T (sk T ((sk T (p)) + ln T (sk T (p))))))), (3, .int (i32 (nmT T (sk T (p))))), (2, .int (i32 (nmH T (sk T (p))))), (0, .ref (m)), (1, .int (i32 (((st : Nat) : Int))))]) dX10_readGroup_107 rfl (Nat.le_of_ble_eq_true rfl) rfl ?_
            refine j_aload_n 110 5 dX10_readGroup_109 rfl rfl ?_
            refine j_getr 113 dX10_readGroup_110 rfl fl_X10_20 hM.md rfl (fun _ _ => rfl) rfl ?_
            refine j_iload 115 0 dX10_readGroup_113 rfl rfl ?_
            refine j_iconst 116 dX10_readGroup_115 rfl ?_
            refine j_iadd 117 dX10_readGroup_116 rfl ?_
            refine j_iload 119 2 dX10_readGroup_117 rfl rfl ?_
            refine j_iast 120 (50 + 9 * (d 3).toNat) dX10_readGroup_119 rfl hM.dra rfl (by omega) (show 50 + 9 * (d 3).toNat < 729 by omega) (r32 (by omega) (by omega)) ?_
            refine j_mn (fun g_119 hg_119 => ?_)
            refine j_aload_n 121 5 dX10_readGroup_120 rfl rfl ?_
            refine j_getr 124 dX10_readGroup_121 rfl fl_X10_20 hM.md rfl (fun _ _ => rfl) rfl ?_
            refine j_iload 126 0 dX10_readGroup_124 rfl rfl ?_
            refine j_iconst 127 dX10_readGroup_126 rfl ?_
            refine j_iadd 128 dX10_readGroup_127 rfl ?_
            refine j_iload 130 1 dX10_readGroup_128 rfl rfl ?_
            refine j_iast 131 (51 + 9 * (d 3).toNat) dX10_readGroup_130 rfl hM.dra rfl (by omega) (show 51 + 9 * (d 3).toNat < 729 by omega) (r32 (by omega) (by omega)) ?_
            refine j_mn (fun g_130 hg_130 => ?_)
            refine j_aload_n 132 5 dX10_readGroup_131 rfl rfl ?_
            refine j_getr 135 dX10_readGroup_132 rfl fl_X10_20 hM.md rfl (fun _ _ => rfl) rfl ?_
            refine j_iload 137 0 dX10_readGroup_135 rfl rfl ?_
            refine j_bipush 139 dX10_readGroup_137 rfl (by decide) ?_
            refine j_iadd 140 dX10_readGroup_139 rfl ?_
            refine j_iload_n 141 4 dX10_readGroup_140 rfl rfl ?_
            refine j_iast 142 (57 + 9 * (d 3).toNat) dX10_readGroup_141 rfl hM.dra rfl (by omega) (show 57 + 9 * (d 3).toNat < 729 by omega) (by rw [← D19_2]; exact r_58) ?_
            refine j_mn (fun g_141 hg_141 => ?_)
            refine j_aload_n 143 5 dX10_readGroup_142 rfl rfl ?_
            refine j_getr 146 dX10_readGroup_143 rfl fl_X10_20 hM.md rfl (fun _ _ => rfl) rfl ?_
            refine j_iload 148 0 dX10_readGroup_146 rfl rfl ?_
            refine j_bipush 150 dX10_readGroup_148 rfl (by decide) ?_
            refine j_iadd 151 dX10_readGroup_150 rfl ?_
            refine j_iload_n 152 3 dX10_readGroup_151 rfl rfl ?_
            refine j_iast 153 (58 + 9 * (d 3).toNat) dX10_readGroup_152 rfl hM.dra rfl (by omega) (show 58 + 9 * (d 3).toNat < 729 by omega) (by rw [← D20_2]; exact r_63) ?_
            refine j_mn (fun g_152 hg_152 => ?_)
            refine j_aload_n 154 5 dX10_readGroup_153 rfl rfl ?_
            refine j_getr 157 dX10_readGroup_154 rfl fl_X10_20 hM.md rfl (fun _ _ => rfl) rfl ?_
            refine j_iconst 158 dX10_readGroup_157 rfl ?_
            refine j_dup2 159 dX10_readGroup_158 rfl rfl rfl ?_
            refine j_iald 160 3 dX10_readGroup_159 rfl hM.dra rfl rfl (show 3 < 729 by omega) (fun r_159 => ?_)
            refine j_top (y := d 3) ((by rw [hg_152, up2_k (by omega), hg_141, up2_k (by omega), hg_130, up2_k (by omega), hg_119, up2_k (by omega)]; exact congrFun ((F5.1 _ (by omega)).trans hd) 3)) ?_
            refine j_iconst 161 dX10_readGroup_160 rfl ?_
            refine j_iadd 162 dX10_readGroup_161 rfl ?_
            refine j_iast 163 (3) dX10_readGroup_162 rfl hM.dra rfl (by omega) (show 3 < 729 by omega) (r32 (by omega) (by omega)) ?_
            refine j_mn (fun g_162 hg_162 => ?_)
            exact j_vret dX10_readGroup_163 rfl (⟨rfl, rfl, by rw [hg_162, hg_152, hg_141, hg_130, hg_119]; exact F5.fd.dr.dr.dr.dr.dr, by
              rw [show P_group T st d s p = .inl (a_group d (nmH T (sk T (p))) (nmT T (sk T (p))) (nv T (sk T ((sk T (p)) + ln T (sk T (p))))) (nv T (sk T ((sk T ((sk T (p)) + ln T (sk T (p)))) + dn T (sk T ((sk T (p)) + ln T (sk T (p))))))), s, (sk T ((sk T ((sk T (p)) + ln T (sk T (p)))) + dn T (sk T ((sk T (p)) + ln T (sk T (p)))))) + dn T (sk T ((sk T ((sk T (p)) + ln T (sk T (p)))) + dn T (sk T ((sk T (p)) + ln T (sk T (p))))))) from by unfold P_group; rw [if_neg (show ¬ 5 ≤ d 3 by omega), kNam_1 hA, if_pos c_44_3, kNum_1 hB, kNum_1 hC]]
              rw [hg_162, hg_152, hg_141, hg_130, hg_119]
              exact ⟨S5.dr.dr.dr.dr.dr, by rw [up2_ud, up2_ud, up2_ud, up2_ud, up2_ud, ((F5.1 _ (by omega)).trans hd)]; rfl, ((hS.fm F5).dr.dr.dr.dr.dr)⟩⟩)
          ·
            rw [numS_2 hC] at hz5 S5
            refine j_top (y := 0) hz5 ?_
            refine j_istore 87 (L2 := [(5, .int (i32 (0))), (4, .int (i32 (nv T (sk T ((sk T (p)) + ln T (sk T (p))))))), (3, .int (i32 (nmT T (sk T (p))))), (2, .int (i32 (nmH T (sk T (p))))), (0, .ref (m)), (1, .int (i32 (((st : Nat) : Int))))]) dX10_readGroup_85 rfl (Nat.le_of_ble_eq_true rfl) rfl ?_
            refine j_aload_n 88 4 dX10_readGroup_87 rfl rfl ?_
            refine j_callV 91 (As := []) (kc2 := 0) (ks2 := 0) dX10_readGroup_88 rfl mvX10_isGood lk_X10_61 hM.md rfl ⟨Nat.le_of_ble_eq_true rfl, rfl⟩ rfl rfl (Nat.le_of_ble_eq_true rfl) ⟨Nat.le_of_ble_eq_true rfl, Nat.le_of_ble_eq_true rfl⟩ ⟨Nat.le_of_ble_eq_true rfl, Nat.le_of_ble_eq_true rfl⟩ (rp_isGood hM) x_d (k_d1 ?_)
            refine j_top (y := 0) (by rw [decide_eq_false (by have h1 := S5.2.2.1; have h2 := S5.2.2.2.2; dsimp only at h1 h2; omega)]; rfl) ?_
            refine j_if_ne 94 95 dX10_readGroup_91 rfl rfl (r32 (by decide) (by decide)) (fun c_91 => absurd c_91 (by decide)) (fun c_91 => ?_)
            exact j_vret dX10_readGroup_94 rfl (⟨rfl, rfl, F5.fd, by
              rw [show P_group T st d s p = .inr ((-2), (sk T ((sk T ((sk T (p)) + ln T (sk T (p)))) + dn T (sk T ((sk T (p)) + ln T (sk T (p))))))) from by unfold P_group; rw [if_neg (show ¬ 5 ≤ d 3 by omega), kNam_1 hA, if_pos c_44_3, kNum_1 hB, kNum_2 hC]]
              exact S5⟩)
          ·
            rw [numS_3 hC] at hz5 S5
            refine j_top (y := 0) hz5 ?_
            refine j_istore 87 (L2 := [(5, .int (i32 (0))), (4, .int (i32 (nv T (sk T ((sk T (p)) + ln T (sk T (p))))))), (3, .int (i32 (nmT T (sk T (p))))), (2, .int (i32 (nmH T (sk T (p))))), (0, .ref (m)), (1, .int (i32 (((st : Nat) : Int))))]) dX10_readGroup_85 rfl (Nat.le_of_ble_eq_true rfl) rfl ?_
            refine j_aload_n 88 4 dX10_readGroup_87 rfl rfl ?_
            refine j_callV 91 (As := []) (kc2 := 0) (ks2 := 0) dX10_readGroup_88 rfl mvX10_isGood lk_X10_61 hM.md rfl ⟨Nat.le_of_ble_eq_true rfl, rfl⟩ rfl rfl (Nat.le_of_ble_eq_true rfl) ⟨Nat.le_of_ble_eq_true rfl, Nat.le_of_ble_eq_true rfl⟩ ⟨Nat.le_of_ble_eq_true rfl, Nat.le_of_ble_eq_true rfl⟩ (rp_isGood hM) x_d (k_d1 ?_)
            refine j_top (y := 0) (by rw [decide_eq_false (by have h1 := S5.2.2.1; have h2 := S5.2.2.2.2; dsimp only at h1 h2; omega)]; rfl) ?_
            refine j_if_ne 94 95 dX10_readGroup_91 rfl rfl (r32 (by decide) (by decide)) (fun c_91 => absurd c_91 (by decide)) (fun c_91 => ?_)
            exact j_vret dX10_readGroup_94 rfl (⟨rfl, rfl, F5.fd, by
              rw [show P_group T st d s p = .inr ((-3), (sk T ((sk T ((sk T (p)) + ln T (sk T (p)))) + dn T (sk T ((sk T (p)) + ln T (sk T (p))))))) from by unfold P_group; rw [if_neg (show ¬ 5 ≤ d 3 by omega), kNam_1 hA, if_pos c_44_3, kNum_1 hB, kNum_3 hC]]
              exact S5⟩)
        ·
          rw [numS_2 hB] at hz4 S4
          refine j_top (y := 0) hz4 ?_
          refine j_istore 76 (L2 := [(4, .int (i32 (0))), (3, .int (i32 (nmT T (sk T (p))))), (2, .int (i32 (nmH T (sk T (p))))), (0, .ref (m)), (1, .int (i32 (((st : Nat) : Int))))]) dX10_readGroup_74 rfl (Nat.le_of_ble_eq_true rfl) rfl ?_
          refine j_aload_n 77 3 dX10_readGroup_76 rfl rfl ?_
          refine j_iconst 78 dX10_readGroup_77 rfl ?_
          refine j_iload 80 0 dX10_readGroup_78 rfl rfl ?_
          refine j_iconst 81 dX10_readGroup_80 rfl ?_
          refine j_isub 82 dX10_readGroup_81 rfl ?_
          refine j_callV 85 (As := [.int (i32 (0)), .int (i32 ((0) - (1)))]) (kc2 := 0) (ks2 := 0) dX10_readGroup_82 rfl mvX10_number lk_X10_126 hM.md rfl ⟨Nat.le_of_ble_eq_true rfl, rfl⟩ rfl rfl (Nat.le_of_ble_eq_true rfl) ⟨Nat.le_of_ble_eq_true rfl, Nat.le_of_ble_eq_true rfl⟩ ⟨Nat.le_of_ble_eq_true rfl, Nat.le_of_ble_eq_true rfl⟩ (rp_numberX hM (r32 (by decide) (by decide)) (r32 (by omega) (by omega)) S4) x_i (k_i fun z_82 g_82 h_82 => ?_)
          obtain ⟨Fz6, hz6, S6⟩ := h_82
          have F6 := F4.tr Fz6
          refine j_top (y := 0) hz6 ?_
          refine j_istore 87 (L2 := [(5, .int (i32 (0))), (4, .int (i32 (0))), (3, .int (i32 (nmT T (sk T (p))))), (2, .int (i32 (nmH T (sk T (p))))), (0, .ref (m)), (1, .int (i32 (((st : Nat) : Int))))]) dX10_readGroup_85 rfl (Nat.le_of_ble_eq_true rfl) rfl ?_
          refine j_aload_n 88 4 dX10_readGroup_87 rfl rfl ?_
          refine j_callV 91 (As := []) (kc2 := 0) (ks2 := 0) dX10_readGroup_88 rfl mvX10_isGood lk_X10_61 hM.md rfl ⟨Nat.le_of_ble_eq_true rfl, rfl⟩ rfl rfl (Nat.le_of_ble_eq_true rfl) ⟨Nat.le_of_ble_eq_true rfl, Nat.le_of_ble_eq_true rfl⟩ ⟨Nat.le_of_ble_eq_true rfl, Nat.le_of_ble_eq_true rfl⟩ (rp_isGood hM) x_d (k_d1 ?_)
          refine j_top (y := 0) (by rw [decide_eq_false (by have h1 := S6.2.2.1; have h2 := S6.2.2.2.2; dsimp only at h1 h2; omega)]; rfl) ?_
          refine j_if_ne 94 95 dX10_readGroup_91 rfl rfl (r32 (by decide) (by decide)) (fun c_91 => absurd c_91 (by decide)) (fun c_91 => ?_)
          exact j_vret dX10_readGroup_94 rfl (⟨rfl, rfl, F6.fd, by
            rw [show P_group T st d s p = .inr ((-2), (sk T ((sk T (p)) + ln T (sk T (p))))) from by unfold P_group; rw [if_neg (show ¬ 5 ≤ d 3 by omega), kNam_1 hA, if_pos c_44_3, kNum_2 hB]]
            exact S6⟩)
        ·
          rw [numS_3 hB] at hz4 S4
          refine j_top (y := 0) hz4 ?_
          refine j_istore 76 (L2 := [(4, .int (i32 (0))), (3, .int (i32 (nmT T (sk T (p))))), (2, .int (i32 (nmH T (sk T (p))))), (0, .ref (m)), (1, .int (i32 (((st : Nat) : Int))))]) dX10_readGroup_74 rfl (Nat.le_of_ble_eq_true rfl) rfl ?_
          refine j_aload_n 77 3 dX10_readGroup_76 rfl rfl ?_
          refine j_iconst 78 dX10_readGroup_77 rfl ?_
          refine j_iload 80 0 dX10_readGroup_78 rfl rfl ?_
          refine j_iconst 81 dX10_readGroup_80 rfl ?_
          refine j_isub 82 dX10_readGroup_81 rfl ?_
          refine j_callV 85 (As := [.int (i32 (0)), .int (i32 ((0) - (1)))]) (kc2 := 0) (ks2 := 0) dX10_readGroup_82 rfl mvX10_number lk_X10_126 hM.md rfl ⟨Nat.le_of_ble_eq_true rfl, rfl⟩ rfl rfl (Nat.le_of_ble_eq_true rfl) ⟨Nat.le_of_ble_eq_true rfl, Nat.le_of_ble_eq_true rfl⟩ ⟨Nat.le_of_ble_eq_true rfl, Nat.le_of_ble_eq_true rfl⟩ (rp_numberX hM (r32 (by decide) (by decide)) (r32 (by omega) (by omega)) S4) x_i (k_i fun z_82 g_82 h_82 => ?_)
          obtain ⟨Fz7, hz7, S7⟩ := h_82
          have F7 := F4.tr Fz7
          refine j_top (y := 0) hz7 ?_
          refine j_istore 87 (L2 := [(5, .int (i32 (0))), (4, .int (i32 (0))), (3, .int (i32 (nmT T (sk T (p))))), (2, .int (i32 (nmH T (sk T (p))))), (0, .ref (m)), (1, .int (i32 (((st : Nat) : Int))))]) dX10_readGroup_85 rfl (Nat.le_of_ble_eq_true rfl) rfl ?_
          refine j_aload_n 88 4 dX10_readGroup_87 rfl rfl ?_
          refine j_callV 91 (As := []) (kc2 := 0) (ks2 := 0) dX10_readGroup_88 rfl mvX10_isGood lk_X10_61 hM.md rfl ⟨Nat.le_of_ble_eq_true rfl, rfl⟩ rfl rfl (Nat.le_of_ble_eq_true rfl) ⟨Nat.le_of_ble_eq_true rfl, Nat.le_of_ble_eq_true rfl⟩ ⟨Nat.le_of_ble_eq_true rfl, Nat.le_of_ble_eq_true rfl⟩ (rp_isGood hM) x_d (k_d1 ?_)
          refine j_top (y := 0) (by rw [decide_eq_false (by have h1 := S7.2.2.1; have h2 := S7.2.2.2.2; dsimp only at h1 h2; omega)]; rfl) ?_
          refine j_if_ne 94 95 dX10_readGroup_91 rfl rfl (r32 (by decide) (by decide)) (fun c_91 => absurd c_91 (by decide)) (fun c_91 => ?_)
          exact j_vret dX10_readGroup_94 rfl (⟨rfl, rfl, F7.fd, by
            rw [show P_group T st d s p = .inr ((-3), (sk T ((sk T (p)) + ln T (sk T (p))))) from by unfold P_group; rw [if_neg (show ¬ 5 ≤ d 3 by omega), kNam_1 hA, if_pos c_44_3, kNum_3 hB]]
            exact S7⟩)
      · skip
        refine j_aload_n 48 0 dX10_readGroup_47 rfl rfl ?_
        refine j_bipush 50 dX10_readGroup_48 rfl (by decide) ?_
        refine j_aload_n 51 0 dX10_readGroup_50 rfl rfl ?_
        refine j_geti 54 dX10_readGroup_51 rfl fl_X10_103 hM.md rfl rfl (fun r_51 => ?_)
        refine j_top (y := (((sk T (p)) : Nat) : Int)) (D18_2) ?_
        refine j_callV 57 (As := [.int (i32 (-4)), .int (i32 ((((sk T (p)) : Nat) : Int)))]) (kc2 := 0) (ks2 := 0) dX10_readGroup_54 rfl mvX10_report lk_X10_78 hM.md rfl ⟨Nat.le_of_ble_eq_true rfl, rfl⟩ rfl rfl (Nat.le_of_ble_eq_true rfl) ⟨Nat.le_of_ble_eq_true rfl, Nat.le_of_ble_eq_true rfl⟩ ⟨Nat.le_of_ble_eq_true rfl, Nat.le_of_ble_eq_true rfl⟩ (rp_report0 hM S2.2.2.2.1 (r32 (by decide) (by decide)) (r32 (by omega) (by omega))) x_d (k_d0 ?_)
        refine j_mn (fun g8 hg8 => ?_)
        have S8 : RE g8 m T ((-4), (sk T (p))) := by rw [hg8]; exact S2.err (by decide)
        have F8 : FM g g8 m := by rw [hg8]; exact (F2.up (by decide)).up (by decide)
        refine j_aload_n 58 0 dX10_readGroup_57 rfl rfl ?_
        refine j_geti 61 dX10_readGroup_58 rfl fl_X10_106 hM.md rfl rfl (fun r_58 => ?_)
        refine j_istore_n 62 (L2 := [(2, .int (i32 (g8 (m) 19))), (0, .ref (m)), (1, .int (i32 (((st : Nat) : Int))))]) dX10_readGroup_61 rfl rfl (Nat.le_of_ble_eq_true rfl) rfl ?_
        refine j_aload_n 63 1 dX10_readGroup_62 rfl rfl ?_
        refine j_geti 66 dX10_readGroup_63 rfl fl_X10_109 hM.md rfl rfl (fun r_63 => ?_)
        refine j_istore_n 67 (L2 := [(3, .int (i32 (g8 (m) 20))), (2, .int (i32 (g8 (m) 19))), (0, .ref (m)), (1, .int (i32 (((st : Nat) : Int))))]) dX10_readGroup_66 rfl rfl (Nat.le_of_ble_eq_true rfl) rfl ?_
        refine j_aload_n 68 2 dX10_readGroup_67 rfl rfl ?_
        refine j_iconst 69 dX10_readGroup_68 rfl ?_
        refine j_bipush 71 dX10_readGroup_69 rfl (by decide) ?_
        refine j_callV 74 (As := [.int (i32 (1)), .int (i32 (8))]) (kc2 := 0) (ks2 := 0) dX10_readGroup_71 rfl mvX10_number lk_X10_126 hM.md rfl ⟨Nat.le_of_ble_eq_true rfl, rfl⟩ rfl rfl (Nat.le_of_ble_eq_true rfl) ⟨Nat.le_of_ble_eq_true rfl, Nat.le_of_ble_eq_true rfl⟩ ⟨Nat.le_of_ble_eq_true rfl, Nat.le_of_ble_eq_true rfl⟩ (rp_numberX hM (r32 (by decide) (by decide)) (r32 (by decide) (by decide)) S8) x_i (k_i fun z_71 g_71 h_71 => ?_)
        obtain ⟨Fz9, hz9, S9⟩ := h_71
        have F9 := F8.tr Fz9
        refine j_top (y := 0) hz9 ?_
        refine j_istore 76 (L2 := [(4, .int (i32 (0))), (3, .int (i32 (g8 (m) 20))), (2, .int (i32 (g8 (m) 19))), (0, .ref (m)), (1, .int (i32 (((st : Nat) : Int))))]) dX10_readGroup_74 rfl (Nat.le_of_ble_eq_true rfl) rfl ?_
        refine j_aload_n 77 3 dX10_readGroup_76 rfl rfl ?_
        refine j_iconst 78 dX10_readGroup_77 rfl ?_
        refine j_iload 80 0 dX10_readGroup_78 rfl rfl ?_
        refine j_iconst 81 dX10_readGroup_80 rfl ?_
        refine j_isub 82 dX10_readGroup_81 rfl ?_
        refine j_callV 85 (As := [.int (i32 (0)), .int (i32 ((0) - (1)))]) (kc2 := 0) (ks2 := 0) dX10_readGroup_82 rfl mvX10_number lk_X10_126 hM.md rfl ⟨Nat.le_of_ble_eq_true rfl, rfl⟩ rfl rfl (Nat.le_of_ble_eq_true rfl) ⟨Nat.le_of_ble_eq_true rfl, Nat.le_of_ble_eq_true rfl⟩ ⟨Nat.le_of_ble_eq_true rfl, Nat.le_of_ble_eq_true rfl⟩ (rp_numberX hM (r32 (by decide) (by decide)) (r32 (by omega) (by omega)) S9) x_i (k_i fun z_82 g_82 h_82 => ?_)
        obtain ⟨Fz10, hz10, S10⟩ := h_82
        have F10 := F9.tr Fz10
        refine j_top (y := 0) hz10 ?_
        refine j_istore 87 (L2 := [(5, .int (i32 (0))), (4, .int (i32 (0))), (3, .int (i32 (g8 (m) 20))), (2, .int (i32 (g8 (m) 19))), (0, .ref (m)), (1, .int (i32 (((st : Nat) : Int))))]) dX10_readGroup_85 rfl (Nat.le_of_ble_eq_true rfl) rfl ?_
        refine j_aload_n 88 4 dX10_readGroup_87 rfl rfl ?_
        refine j_callV 91 (As := []) (kc2 := 0) (ks2 := 0) dX10_readGroup_88 rfl mvX10_isGood lk_X10_61 hM.md rfl ⟨Nat.le_of_ble_eq_true rfl, rfl⟩ rfl rfl (Nat.le_of_ble_eq_true rfl) ⟨Nat.le_of_ble_eq_true rfl, Nat.le_of_ble_eq_true rfl⟩ ⟨Nat.le_of_ble_eq_true rfl, Nat.le_of_ble_eq_true rfl⟩ (rp_isGood hM) x_d (k_d1 ?_)
        refine j_top (y := 0) (by rw [decide_eq_false (by have h1 := S10.2.2.1; have h2 := S10.2.2.2.2; dsimp only at h1 h2; omega)]; rfl) ?_
        refine j_if_ne 94 95 dX10_readGroup_91 rfl rfl (r32 (by decide) (by decide)) (fun c_91 => absurd c_91 (by decide)) (fun c_91 => ?_)
        exact j_vret dX10_readGroup_94 rfl (⟨rfl, rfl, F10.fd, by
          rw [show P_group T st d s p = .inr ((-4), (sk T (p))) from by unfold P_group; rw [if_neg (show ¬ 5 ≤ d 3 by omega), kNam_1 hA, if_neg c_44_3]]
          exact S10⟩)
    ·
      rw [namS_2 hA] at S2
      refine j_aload_n 22 0 dX10_readGroup_21 rfl rfl ?_
      refine j_callV 25 (As := []) (kc2 := 0) (ks2 := 0) dX10_readGroup_22 rfl mvX10_isGood lk_X10_61 hM.md rfl ⟨Nat.le_of_ble_eq_true rfl, rfl⟩ rfl rfl (Nat.le_of_ble_eq_true rfl) ⟨Nat.le_of_ble_eq_true rfl, Nat.le_of_ble_eq_true rfl⟩ ⟨Nat.le_of_ble_eq_true rfl, Nat.le_of_ble_eq_true rfl⟩ (rp_isGood hM) x_d (k_d1 ?_)
      refine j_top (y := 0) (by rw [decide_eq_false (by have h1 := S2.2.2.1; have h2 := S2.2.2.2.2; dsimp only at h1 h2; omega)]; rfl) ?_
      refine j_if_eq 28 57 dX10_readGroup_25 rfl rfl (r32 (by decide) (by decide)) (fun c_25 => ?_) (fun c_25 => absurd c_25 (by decide))
      refine j_aload_n 58 0 dX10_readGroup_57 rfl rfl ?_
      refine j_geti 61 dX10_readGroup_58 rfl fl_X10_106 hM.md rfl rfl (fun r_58 => ?_)
      refine j_istore_n 62 (L2 := [(2, .int (i32 (g_18 (m) 19))), (0, .ref (m)), (1, .int (i32 (((st : Nat) : Int))))]) dX10_readGroup_61 rfl rfl (Nat.le_of_ble_eq_true rfl) rfl ?_
      refine j_aload_n 63 1 dX10_readGroup_62 rfl rfl ?_
      refine j_geti 66 dX10_readGroup_63 rfl fl_X10_109 hM.md rfl rfl (fun r_63 => ?_)
      refine j_istore_n 67 (L2 := [(3, .int (i32 (g_18 (m) 20))), (2, .int (i32 (g_18 (m) 19))), (0, .ref (m)), (1, .int (i32 (((st : Nat) : Int))))]) dX10_readGroup_66 rfl rfl (Nat.le_of_ble_eq_true rfl) rfl ?_
      refine j_aload_n 68 2 dX10_readGroup_67 rfl rfl ?_
      refine j_iconst 69 dX10_readGroup_68 rfl ?_
      refine j_bipush 71 dX10_readGroup_69 rfl (by decide) ?_
      refine j_callV 74 (As := [.int (i32 (1)), .int (i32 (8))]) (kc2 := 0) (ks2 := 0) dX10_readGroup_71 rfl mvX10_number lk_X10_126 hM.md rfl ⟨Nat.le_of_ble_eq_true rfl, rfl⟩ rfl rfl (Nat.le_of_ble_eq_true rfl) ⟨Nat.le_of_ble_eq_true rfl, Nat.le_of_ble_eq_true rfl⟩ ⟨Nat.le_of_ble_eq_true rfl, Nat.le_of_ble_eq_true rfl⟩ (rp_numberX hM (r32 (by decide) (by decide)) (r32 (by decide) (by decide)) S2) x_i (k_i fun z_71 g_71 h_71 => ?_)
      obtain ⟨Fz11, hz11, S11⟩ := h_71
      have F11 := F2.tr Fz11
      refine j_top (y := 0) hz11 ?_
      refine j_istore 76 (L2 := [(4, .int (i32 (0))), (3, .int (i32 (g_18 (m) 20))), (2, .int (i32 (g_18 (m) 19))), (0, .ref (m)), (1, .int (i32 (((st : Nat) : Int))))]) dX10_readGroup_74 rfl (Nat.le_of_ble_eq_true rfl) rfl ?_
      refine j_aload_n 77 3 dX10_readGroup_76 rfl rfl ?_
      refine j_iconst 78 dX10_readGroup_77 rfl ?_
      refine j_iload 80 0 dX10_readGroup_78 rfl rfl ?_
      refine j_iconst 81 dX10_readGroup_80 rfl ?_
      refine j_isub 82 dX10_readGroup_81 rfl ?_
      refine j_callV 85 (As := [.int (i32 (0)), .int (i32 ((0) - (1)))]) (kc2 := 0) (ks2 := 0) dX10_readGroup_82 rfl mvX10_number lk_X10_126 hM.md rfl ⟨Nat.le_of_ble_eq_true rfl, rfl⟩ rfl rfl (Nat.le_of_ble_eq_true rfl) ⟨Nat.le_of_ble_eq_true rfl, Nat.le_of_ble_eq_true rfl⟩ ⟨Nat.le_of_ble_eq_true rfl, Nat.le_of_ble_eq_true rfl⟩ (rp_numberX hM (r32 (by decide) (by decide)) (r32 (by omega) (by omega)) S11) x_i (k_i fun z_82 g_82 h_82 => ?_)
      obtain ⟨Fz12, hz12, S12⟩ := h_82
      have F12 := F11.tr Fz12
      refine j_top (y := 0) hz12 ?_
      refine j_istore 87 (L2 := [(5, .int (i32 (0))), (4, .int (i32 (0))), (3, .int (i32 (g_18 (m) 20))), (2, .int (i32 (g_18 (m) 19))), (0, .ref (m)), (1, .int (i32 (((st : Nat) : Int))))]) dX10_readGroup_85 rfl (Nat.le_of_ble_eq_true rfl) rfl ?_
      refine j_aload_n 88 4 dX10_readGroup_87 rfl rfl ?_
      refine j_callV 91 (As := []) (kc2 := 0) (ks2 := 0) dX10_readGroup_88 rfl mvX10_isGood lk_X10_61 hM.md rfl ⟨Nat.le_of_ble_eq_true rfl, rfl⟩ rfl rfl (Nat.le_of_ble_eq_true rfl) ⟨Nat.le_of_ble_eq_true rfl, Nat.le_of_ble_eq_true rfl⟩ ⟨Nat.le_of_ble_eq_true rfl, Nat.le_of_ble_eq_true rfl⟩ (rp_isGood hM) x_d (k_d1 ?_)
      refine j_top (y := 0) (by rw [decide_eq_false (by have h1 := S12.2.2.1; have h2 := S12.2.2.2.2; dsimp only at h1 h2; omega)]; rfl) ?_
      refine j_if_ne 94 95 dX10_readGroup_91 rfl rfl (r32 (by decide) (by decide)) (fun c_91 => absurd c_91 (by decide)) (fun c_91 => ?_)
      exact j_vret dX10_readGroup_94 rfl (⟨rfl, rfl, F12.fd, by
        rw [show P_group T st d s p = .inr ((-2), (sk T (p))) from by unfold P_group; rw [if_neg (show ¬ 5 ≤ d 3 by omega), kNam_2 hA]]
        exact S12⟩)
    ·
      rw [namS_3 hA] at S2
      refine j_aload_n 22 0 dX10_readGroup_21 rfl rfl ?_
      refine j_callV 25 (As := []) (kc2 := 0) (ks2 := 0) dX10_readGroup_22 rfl mvX10_isGood lk_X10_61 hM.md rfl ⟨Nat.le_of_ble_eq_true rfl, rfl⟩ rfl rfl (Nat.le_of_ble_eq_true rfl) ⟨Nat.le_of_ble_eq_true rfl, Nat.le_of_ble_eq_true rfl⟩ ⟨Nat.le_of_ble_eq_true rfl, Nat.le_of_ble_eq_true rfl⟩ (rp_isGood hM) x_d (k_d1 ?_)
      refine j_top (y := 0) (by rw [decide_eq_false (by have h1 := S2.2.2.1; have h2 := S2.2.2.2.2; dsimp only at h1 h2; omega)]; rfl) ?_
      refine j_if_eq 28 57 dX10_readGroup_25 rfl rfl (r32 (by decide) (by decide)) (fun c_25 => ?_) (fun c_25 => absurd c_25 (by decide))
      refine j_aload_n 58 0 dX10_readGroup_57 rfl rfl ?_
      refine j_geti 61 dX10_readGroup_58 rfl fl_X10_106 hM.md rfl rfl (fun r_58 => ?_)
      refine j_istore_n 62 (L2 := [(2, .int (i32 (g_18 (m) 19))), (0, .ref (m)), (1, .int (i32 (((st : Nat) : Int))))]) dX10_readGroup_61 rfl rfl (Nat.le_of_ble_eq_true rfl) rfl ?_
      refine j_aload_n 63 1 dX10_readGroup_62 rfl rfl ?_
      refine j_geti 66 dX10_readGroup_63 rfl fl_X10_109 hM.md rfl rfl (fun r_63 => ?_)
      refine j_istore_n 67 (L2 := [(3, .int (i32 (g_18 (m) 20))), (2, .int (i32 (g_18 (m) 19))), (0, .ref (m)), (1, .int (i32 (((st : Nat) : Int))))]) dX10_readGroup_66 rfl rfl (Nat.le_of_ble_eq_true rfl) rfl ?_
      refine j_aload_n 68 2 dX10_readGroup_67 rfl rfl ?_
      refine j_iconst 69 dX10_readGroup_68 rfl ?_
      refine j_bipush 71 dX10_readGroup_69 rfl (by decide) ?_
      refine j_callV 74 (As := [.int (i32 (1)), .int (i32 (8))]) (kc2 := 0) (ks2 := 0) dX10_readGroup_71 rfl mvX10_number lk_X10_126 hM.md rfl ⟨Nat.le_of_ble_eq_true rfl, rfl⟩ rfl rfl (Nat.le_of_ble_eq_true rfl) ⟨Nat.le_of_ble_eq_true rfl, Nat.le_of_ble_eq_true rfl⟩ ⟨Nat.le_of_ble_eq_true rfl, Nat.le_of_ble_eq_true rfl⟩ (rp_numberX hM (r32 (by decide) (by decide)) (r32 (by decide) (by decide)) S2) x_i (k_i fun z_71 g_71 h_71 => ?_)
      obtain ⟨Fz13, hz13, S13⟩ := h_71
      have F13 := F2.tr Fz13
      refine j_top (y := 0) hz13 ?_
      refine j_istore 76 (L2 := [(4, .int (i32 (0))), (3, .int (i32 (g_18 (m) 20))), (2, .int (i32 (g_18 (m) 19))), (0, .ref (m)), (1, .int (i32 (((st : Nat) : Int))))]) dX10_readGroup_74 rfl (Nat.le_of_ble_eq_true rfl) rfl ?_
      refine j_aload_n 77 3 dX10_readGroup_76 rfl rfl ?_
      refine j_iconst 78 dX10_readGroup_77 rfl ?_
      refine j_iload 80 0 dX10_readGroup_78 rfl rfl ?_
      refine j_iconst 81 dX10_readGroup_80 rfl ?_
      refine j_isub 82 dX10_readGroup_81 rfl ?_
      refine j_callV 85 (As := [.int (i32 (0)), .int (i32 ((0) - (1)))]) (kc2 := 0) (ks2 := 0) dX10_readGroup_82 rfl mvX10_number lk_X10_126 hM.md rfl ⟨Nat.le_of_ble_eq_true rfl, rfl⟩ rfl rfl (Nat.le_of_ble_eq_true rfl) ⟨Nat.le_of_ble_eq_true rfl, Nat.le_of_ble_eq_true rfl⟩ ⟨Nat.le_of_ble_eq_true rfl, Nat.le_of_ble_eq_true rfl⟩ (rp_numberX hM (r32 (by decide) (by decide)) (r32 (by omega) (by omega)) S13) x_i (k_i fun z_82 g_82 h_82 => ?_)
      obtain ⟨Fz14, hz14, S14⟩ := h_82
      have F14 := F13.tr Fz14
      refine j_top (y := 0) hz14 ?_
      refine j_istore 87 (L2 := [(5, .int (i32 (0))), (4, .int (i32 (0))), (3, .int (i32 (g_18 (m) 20))), (2, .int (i32 (g_18 (m) 19))), (0, .ref (m)), (1, .int (i32 (((st : Nat) : Int))))]) dX10_readGroup_85 rfl (Nat.le_of_ble_eq_true rfl) rfl ?_
      refine j_aload_n 88 4 dX10_readGroup_87 rfl rfl ?_
      refine j_callV 91 (As := []) (kc2 := 0) (ks2 := 0) dX10_readGroup_88 rfl mvX10_isGood lk_X10_61 hM.md rfl ⟨Nat.le_of_ble_eq_true rfl, rfl⟩ rfl rfl (Nat.le_of_ble_eq_true rfl) ⟨Nat.le_of_ble_eq_true rfl, Nat.le_of_ble_eq_true rfl⟩ ⟨Nat.le_of_ble_eq_true rfl, Nat.le_of_ble_eq_true rfl⟩ (rp_isGood hM) x_d (k_d1 ?_)
      refine j_top (y := 0) (by rw [decide_eq_false (by have h1 := S14.2.2.1; have h2 := S14.2.2.2.2; dsimp only at h1 h2; omega)]; rfl) ?_
      refine j_if_ne 94 95 dX10_readGroup_91 rfl rfl (r32 (by decide) (by decide)) (fun c_91 => absurd c_91 (by decide)) (fun c_91 => ?_)
      exact j_vret dX10_readGroup_94 rfl (⟨rfl, rfl, F14.fd, by
        rw [show P_group T st d s p = .inr ((-3), (sk T (p))) from by unfold P_group; rw [if_neg (show ¬ 5 ≤ d 3 by omega), kNam_3 hA]]
        exact S14⟩)
  · skip
    refine j_aload_n 11 0 dX10_readGroup_10 rfl rfl ?_
    refine j_bipush 13 dX10_readGroup_11 rfl (by decide) ?_
    refine j_iload_n 14 1 dX10_readGroup_13 rfl rfl ?_
    refine j_callV 17 (As := [.int (i32 (-5)), .int (i32 (((st : Nat) : Int)))]) (kc2 := 0) (ks2 := 0) dX10_readGroup_14 rfl mvX10_report lk_X10_78 hM.md rfl ⟨Nat.le_of_ble_eq_true rfl, rfl⟩ rfl rfl (Nat.le_of_ble_eq_true rfl) ⟨Nat.le_of_ble_eq_true rfl, Nat.le_of_ble_eq_true rfl⟩ ⟨Nat.le_of_ble_eq_true rfl, Nat.le_of_ble_eq_true rfl⟩ (rp_report0 hM h0.2.2.2.1 (r32 (by decide) (by decide)) (r32 (by omega) (by omega))) x_d (k_d0 ?_)
    refine j_mn (fun g15 hg15 => ?_)
    have S15 : RE g15 m T ((-5), st) := by rw [hg15]; exact h0.err (by decide)
    have F15 : FM g g15 m := by rw [hg15]; exact (F0.up (by decide)).up (by decide)
    refine j_aload_n 18 0 dX10_readGroup_17 rfl rfl ?_
    refine j_callV 21 (As := []) (kc2 := 0) (ks2 := 0) dX10_readGroup_18 rfl mvX10_readName lk_X10_120 hM.md rfl ⟨Nat.le_of_ble_eq_true rfl, rfl⟩ rfl rfl (Nat.le_of_ble_eq_true rfl) ⟨Nat.le_of_ble_eq_true rfl, Nat.le_of_ble_eq_true rfl⟩ ⟨Nat.le_of_ble_eq_true rfl, Nat.le_of_ble_eq_true rfl⟩ (rp_name hM (st := (.inr ((-5), st))) S15) x_v (k_v fun g_18 h_18 => ?_)
    obtain ⟨Fz16, S16, C16⟩ := h_18
    have F16 := F15.tr Fz16
    have S16 : RE g_18 m T ((-5), st) := S16
    refine j_aload_n 22 0 dX10_readGroup_21 rfl rfl ?_
    refine j_callV 25 (As := []) (kc2 := 0) (ks2 := 0) dX10_readGroup_22 rfl mvX10_isGood lk_X10_61 hM.md rfl ⟨Nat.le_of_ble_eq_true rfl, rfl⟩ rfl rfl (Nat.le_of_ble_eq_true rfl) ⟨Nat.le_of_ble_eq_true rfl, Nat.le_of_ble_eq_true rfl⟩ ⟨Nat.le_of_ble_eq_true rfl, Nat.le_of_ble_eq_true rfl⟩ (rp_isGood hM) x_d (k_d1 ?_)
    refine j_top (y := 0) (by rw [decide_eq_false (by have h1 := S16.2.2.1; have h2 := S16.2.2.2.2; dsimp only at h1 h2; omega)]; rfl) ?_
    refine j_if_eq 28 57 dX10_readGroup_25 rfl rfl (r32 (by decide) (by decide)) (fun c_25 => ?_) (fun c_25 => absurd c_25 (by decide))
    refine j_aload_n 58 0 dX10_readGroup_57 rfl rfl ?_
    refine j_geti 61 dX10_readGroup_58 rfl fl_X10_106 hM.md rfl rfl (fun r_58 => ?_)
    refine j_istore_n 62 (L2 := [(2, .int (i32 (g_18 (m) 19))), (0, .ref (m)), (1, .int (i32 (((st : Nat) : Int))))]) dX10_readGroup_61 rfl rfl (Nat.le_of_ble_eq_true rfl) rfl ?_
    refine j_aload_n 63 1 dX10_readGroup_62 rfl rfl ?_
    refine j_geti 66 dX10_readGroup_63 rfl fl_X10_109 hM.md rfl rfl (fun r_63 => ?_)
    refine j_istore_n 67 (L2 := [(3, .int (i32 (g_18 (m) 20))), (2, .int (i32 (g_18 (m) 19))), (0, .ref (m)), (1, .int (i32 (((st : Nat) : Int))))]) dX10_readGroup_66 rfl rfl (Nat.le_of_ble_eq_true rfl) rfl ?_
    refine j_aload_n 68 2 dX10_readGroup_67 rfl rfl ?_
    refine j_iconst 69 dX10_readGroup_68 rfl ?_
    refine j_bipush 71 dX10_readGroup_69 rfl (by decide) ?_
    refine j_callV 74 (As := [.int (i32 (1)), .int (i32 (8))]) (kc2 := 0) (ks2 := 0) dX10_readGroup_71 rfl mvX10_number lk_X10_126 hM.md rfl ⟨Nat.le_of_ble_eq_true rfl, rfl⟩ rfl rfl (Nat.le_of_ble_eq_true rfl) ⟨Nat.le_of_ble_eq_true rfl, Nat.le_of_ble_eq_true rfl⟩ ⟨Nat.le_of_ble_eq_true rfl, Nat.le_of_ble_eq_true rfl⟩ (rp_numberX hM (r32 (by decide) (by decide)) (r32 (by decide) (by decide)) S16) x_i (k_i fun z_71 g_71 h_71 => ?_)
    obtain ⟨Fz17, hz17, S17⟩ := h_71
    have F17 := F16.tr Fz17
    refine j_top (y := 0) hz17 ?_
    refine j_istore 76 (L2 := [(4, .int (i32 (0))), (3, .int (i32 (g_18 (m) 20))), (2, .int (i32 (g_18 (m) 19))), (0, .ref (m)), (1, .int (i32 (((st : Nat) : Int))))]) dX10_readGroup_74 rfl (Nat.le_of_ble_eq_true rfl) rfl ?_
    refine j_aload_n 77 3 dX10_readGroup_76 rfl rfl ?_
    refine j_iconst 78 dX10_readGroup_77 rfl ?_
    refine j_iload 80 0 dX10_readGroup_78 rfl rfl ?_
    refine j_iconst 81 dX10_readGroup_80 rfl ?_
    refine j_isub 82 dX10_readGroup_81 rfl ?_
    refine j_callV 85 (As := [.int (i32 (0)), .int (i32 ((0) - (1)))]) (kc2 := 0) (ks2 := 0) dX10_readGroup_82 rfl mvX10_number lk_X10_126 hM.md rfl ⟨Nat.le_of_ble_eq_true rfl, rfl⟩ rfl rfl (Nat.le_of_ble_eq_true rfl) ⟨Nat.le_of_ble_eq_true rfl, Nat.le_of_ble_eq_true rfl⟩ ⟨Nat.le_of_ble_eq_true rfl, Nat.le_of_ble_eq_true rfl⟩ (rp_numberX hM (r32 (by decide) (by decide)) (r32 (by omega) (by omega)) S17) x_i (k_i fun z_82 g_82 h_82 => ?_)
    obtain ⟨Fz18, hz18, S18⟩ := h_82
    have F18 := F17.tr Fz18
    refine j_top (y := 0) hz18 ?_
    refine j_istore 87 (L2 := [(5, .int (i32 (0))), (4, .int (i32 (0))), (3, .int (i32 (g_18 (m) 20))), (2, .int (i32 (g_18 (m) 19))), (0, .ref (m)), (1, .int (i32 (((st : Nat) : Int))))]) dX10_readGroup_85 rfl (Nat.le_of_ble_eq_true rfl) rfl ?_
    refine j_aload_n 88 4 dX10_readGroup_87 rfl rfl ?_
    refine j_callV 91 (As := []) (kc2 := 0) (ks2 := 0) dX10_readGroup_88 rfl mvX10_isGood lk_X10_61 hM.md rfl ⟨Nat.le_of_ble_eq_true rfl, rfl⟩ rfl rfl (Nat.le_of_ble_eq_true rfl) ⟨Nat.le_of_ble_eq_true rfl, Nat.le_of_ble_eq_true rfl⟩ ⟨Nat.le_of_ble_eq_true rfl, Nat.le_of_ble_eq_true rfl⟩ (rp_isGood hM) x_d (k_d1 ?_)
    refine j_top (y := 0) (by rw [decide_eq_false (by have h1 := S18.2.2.1; have h2 := S18.2.2.2.2; dsimp only at h1 h2; omega)]; rfl) ?_
    refine j_if_ne 94 95 dX10_readGroup_91 rfl rfl (r32 (by decide) (by decide)) (fun c_91 => absurd c_91 (by decide)) (fun c_91 => ?_)
    exact j_vret dX10_readGroup_94 rfl (⟨rfl, rfl, F18.fd, by
      rw [show P_group T st d s p = .inr ((-5), st) from by unfold P_group; rw [if_pos (by omega)]]
      exact S18⟩)

section RPU
variable {g g1 g2 : Mem} {m k : Nat} {x : Int} {d : Nat → Int} {T : Tx} {p : Nat} {s : Nat → Bool} {res : PR}
theorem FD.ur (h : FD g g1 m) : FD g (upR g1 (m + 3) d) m := ⟨fun a h1 h3 => by rw [upR_n h3]; exact h.1 a h1 h3, fun j hj => by rw [upR_at (by omega)]; exact h.2 j hj⟩
theorem RG.ur (h : RG g m T p) : RG (upR g (m + 3) d) m T p := ⟨⟨h.1.1, by rw [upR_at (by omega)]; exact h.1.2.1, fun k hk => by rw [upR_at (by omega)]; exact h.1.2.2.1 k hk, h.1.2.2.2⟩, by rw [upR_at (by omega)]; exact h.2.1, h.2.2.1, by rw [upR_at (by omega)]; exact h.2.2.2.1, by rw [upR_at (by omega)]; exact h.2.2.2.2⟩
theorem SM.ur (h : SM g m s) : SM (upR g (m + 3) d) m s := by unfold SM; rw [upR_at (by omega)]; exact h
end RPU

set_option linter.constructorNameAsVariable false in
set_option maxRecDepth 20000 in
theorem rp_readCall {w : Wd} {sh : Shp} {g : Mem} {m : Nat} (hM : MdS sh.1 m) {T : Tx} {d : Nat → Int} {s : Nat → Bool} {p st : Nat} (h0 : RG g m T p) (hd : g (m + 3) = d) (hP : PInv d) (hS : SM g m s) (hst : st ≤ 1000)  : CT w mX10_readCall [.ref (m), .int (i32 (((st : Nat) : Int)))] sh g (vQ sh (RP g m T (P_call T st d s p))) := by
  have hX := h0.1
  have h7 := hX.1
  have hTb := hX.2.2.2
  have hsk2 := sk_le h0.2.2.1
  have hp4 := h0.2.1
  have hpT := h0.2.2.1
  have h5 := h0.2.2.2.1
  have F0 : FM g g m := FM.rf
  have hbb := hP.1
  have hb2 := hbb.2.2.1
  have hb3 := hbb.2.2.2.1
  have hb4 := hbb.2.2.2.2.1
  have hb5 := hbb.2.2.2.2.2.1
  refine j_entry (by decide) rfl (Nat.le_of_ble_eq_true rfl) (fun h => by cases h) rfl ?_
  show J w mX10_readCall 0 [(0, .ref (m)), (1, .int (i32 (((st : Nat) : Int))))] [] sh g 0 0 _
  refine j_aload_n 1 0 dX10_readCall_0 rfl rfl ?_
  refine j_getr 4 dX10_readCall_1 rfl fl_X10_20 hM.md rfl (fun _ _ => rfl) rfl ?_
  refine j_iconst 5 dX10_readCall_4 rfl ?_
  refine j_iald 6 5 dX10_readCall_5 rfl hM.dra rfl rfl (show 5 < 729 by omega) (fun r_5 => ?_)
  refine j_top (y := d 5) (congrFun hd 5) ?_
  refine j_bipush 8 dX10_readCall_6 rfl (by decide) ?_
  refine j_icmp_ne 11 18 dX10_readCall_8 rfl rfl ⟨by omega, by omega⟩ (r32 (by decide) (by decide)) (fun c_8_19 => ?_) (fun c_8_19 => ?_)
  · skip
    refine j_aload_n 19 0 dX10_readCall_18 rfl rfl ?_
    refine j_sipush 22 dX10_readCall_19 rfl (by decide) ?_
    refine j_callV 25 (As := [.int (i32 (700))]) (kc2 := 0) (ks2 := 0) dX10_readCall_22 rfl mvX10_readDigits lk_X10_112 hM.md rfl ⟨Nat.le_of_ble_eq_true rfl, rfl⟩ rfl rfl (Nat.le_of_ble_eq_true rfl) ⟨Nat.le_of_ble_eq_true rfl, Nat.le_of_ble_eq_true rfl⟩ ⟨Nat.le_of_ble_eq_true rfl, Nat.le_of_ble_eq_true rfl⟩ (rp_digits hM (by decide) (st := (.inl (p))) h0) x_v (k_v fun g_22 h_22 => ?_)
    obtain ⟨Fz20, S20, C20⟩ := h_22
    have F20 := F0.tr Fz20
    obtain ⟨D15_20, D16_20, D17_20⟩ := C20 _ rfl
    have hdl20 : (sk T (p)) + dn T (sk T (p)) ≤ T.2 := rn_le hD (sk_le h0.2.2.1)
    rcases digC T (sk T (p)) 700 with hA | hA | hA
    ·
      rw [digS_1 hA] at S20
      refine j_aload_n 26 0 dX10_readCall_25 rfl rfl ?_
      refine j_geti 29 dX10_readCall_26 rfl fl_X10_97 hM.md rfl rfl (fun r_26 => ?_)
      refine j_top (y := ((dn T (sk T (p)) : Nat) : Int)) (D16_20) ?_
      refine j_bipush 31 dX10_readCall_29 rfl (by decide) ?_
      refine j_icmp_le 34 38 dX10_readCall_31 rfl rfl (r32 (by omega) (by omega)) (r32 (by decide) (by decide)) (fun c_31_21 => ?_) (fun c_31_21 => ?_)
      · skip
        refine j_aload_n 39 0 dX10_readCall_38 rfl rfl ?_
        refine j_getr 42 dX10_readCall_39 rfl fl_X10_20 hM.md rfl (fun _ _ => rfl) rfl ?_
        refine j_aload_n 43 0 dX10_readCall_42 rfl rfl ?_
        refine j_geti 46 dX10_readCall_43 rfl fl_X10_97 hM.md rfl rfl (fun r_43 => ?_)
        refine j_top (y := ((dn T (sk T (p)) : Nat) : Int)) (D16_20) ?_
        refine j_aload_n 47 0 dX10_readCall_46 rfl rfl ?_
        refine j_geti 50 dX10_readCall_47 rfl fl_X10_100 hM.md rfl rfl (fun r_47 => ?_)
        have hbv20 := bv_rng (bd_of (T := T) (q := (sk T (p))) _ (Nat.le_refl _))
        have hpw20 : pw (dn T (sk T (p))) ≤ 1000000 := (pw_le (show dn T (sk T (p)) ≤ 6 by omega) : pw _ ≤ pw 6)
        refine j_top (y := bv (fT T (sk T (p))) (dn T (sk T (p)))) (D17_20.trans (dvF_bv _ (by omega))) ?_
        refine j_callS 53 (As := [.ref (m + 3), .int (i32 (((dn T (sk T (p)) : Nat) : Int))), .int (i32 (bv (fT T (sk T (p))) (dn T (sk T (p)))))]) (kc2 := 0) (ks2 := 0) dX10_readCall_50 rfl msX10_lineOf lk_X10_116 rfl rfl (Nat.le_of_ble_eq_true rfl) ⟨Nat.le_of_ble_eq_true rfl, Nat.le_of_ble_eq_true rfl⟩ ⟨Nat.le_of_ble_eq_true rfl, Nat.le_of_ble_eq_true rfl⟩ (r_lineOf hM.dra (show g_22 (m + 3) 2 ≤ 12 by rw [((F20.1 _ (by omega)).trans hd)]; omega) (r32 (by omega) (by omega)) (r32 (by omega) (by omega))) x_d (k_d1 ?_)
        refine j_top (y := s_lineOf d ((dn T (sk T (p)) : Nat) : Int) (bv (fT T (sk T (p))) (dn T (sk T (p))))) (by rw [((F20.1 _ (by omega)).trans hd)]) ?_
        refine j_istore_n 54 (L2 := [(2, .int (i32 (s_lineOf d ((dn T (sk T (p)) : Nat) : Int) (bv (fT T (sk T (p))) (dn T (sk T (p))))))), (0, .ref (m)), (1, .int (i32 (((st : Nat) : Int))))]) dX10_readCall_53 rfl rfl (Nat.le_of_ble_eq_true rfl) rfl ?_
        refine j_aload_n 55 1 dX10_readCall_54 rfl rfl ?_
        refine j_callV 58 (As := []) (kc2 := 0) (ks2 := 0) dX10_readCall_55 rfl mvX10_isGood lk_X10_61 hM.md rfl ⟨Nat.le_of_ble_eq_true rfl, rfl⟩ rfl rfl (Nat.le_of_ble_eq_true rfl) ⟨Nat.le_of_ble_eq_true rfl, Nat.le_of_ble_eq_true rfl⟩ ⟨Nat.le_of_ble_eq_true rfl, Nat.le_of_ble_eq_true rfl⟩ (rp_isGood hM) x_d (k_d1 ?_)
        refine j_top (y := 1) (by rw [decide_eq_true S20.2.2.2.1]; rfl) ?_
        refine j_if_eq 61 76 dX10_readCall_58 rfl rfl (r32 (by decide) (by decide)) (fun c_58 => absurd c_58 (by decide)) (fun c_58 => ?_)
        refine j_iload_n 62 0 dX10_readCall_61 rfl rfl ?_
        refine j_iconst 63 dX10_readCall_62 rfl ?_
        refine j_icmp_ne 66 76 dX10_readCall_63 rfl rfl (fst_r32 _ (by decide)) (r32 (by decide) (by decide)) (fun c_63_22 => ?_) (fun c_63_22 => ?_)
        · skip
          have hli := s_lineOf_r c_63_22
          refine j_aload_n 77 1 dX10_readCall_76 rfl rfl ?_
          refine j_callV 80 (As := []) (kc2 := 0) (ks2 := 0) dX10_readCall_77 rfl mvX10_isGood lk_X10_61 hM.md rfl ⟨Nat.le_of_ble_eq_true rfl, rfl⟩ rfl rfl (Nat.le_of_ble_eq_true rfl) ⟨Nat.le_of_ble_eq_true rfl, Nat.le_of_ble_eq_true rfl⟩ ⟨Nat.le_of_ble_eq_true rfl, Nat.le_of_ble_eq_true rfl⟩ (rp_isGood hM) x_d (k_d1 ?_)
          refine j_top (y := 1) (by rw [decide_eq_true S20.2.2.2.1]; rfl) ?_
          refine j_if_ne 83 84 dX10_readCall_80 rfl rfl (r32 (by decide) (by decide)) (fun c_80 => ?_) (fun c_80 => absurd c_80 (by decide))
          refine j_aload_n 85 1 dX10_readCall_84 rfl rfl ?_
          refine j_bipush 87 dX10_readCall_85 rfl (by decide) ?_
          refine j_callV 90 (As := [.int (i32 (6))]) (kc2 := 0) (ks2 := 0) dX10_readCall_87 rfl mvX10_readDigits lk_X10_112 hM.md rfl ⟨Nat.le_of_ble_eq_true rfl, rfl⟩ rfl rfl (Nat.le_of_ble_eq_true rfl) ⟨Nat.le_of_ble_eq_true rfl, Nat.le_of_ble_eq_true rfl⟩ ⟨Nat.le_of_ble_eq_true rfl, Nat.le_of_ble_eq_true rfl⟩ (rp_digits hM (by decide) (st := (.inl ((sk T (p)) + dn T (sk T (p))))) S20) x_v (k_v fun g_87 h_87 => ?_)
          obtain ⟨Fz23, S23, C23⟩ := h_87
          have F23 := F20.tr Fz23
          obtain ⟨D15_23, D16_23, D17_23⟩ := C23 _ rfl
          have hdl23 : (sk T ((sk T (p)) + dn T (sk T (p)))) + dn T (sk T ((sk T (p)) + dn T (sk T (p)))) ≤ T.2 := rn_le hD (sk_le S20.2.2.1)
          rcases digC T (sk T ((sk T (p)) + dn T (sk T (p)))) 6 with hB | hB | hB
          ·
            rw [digS_1 hB] at S23
            refine j_aload_n 91 1 dX10_readCall_90 rfl rfl ?_
            refine j_geti 94 dX10_readCall_91 rfl fl_X10_97 hM.md rfl rfl (fun r_91 => ?_)
            refine j_top (y := ((dn T (sk T ((sk T (p)) + dn T (sk T (p)))) : Nat) : Int)) (D16_23) ?_
            refine j_istore_n 95 (L2 := [(3, .int (i32 (((dn T (sk T ((sk T (p)) + dn T (sk T (p)))) : Nat) : Int)))), (2, .int (i32 (s_lineOf d ((dn T (sk T (p)) : Nat) : Int) (bv (fT T (sk T (p))) (dn T (sk T (p))))))), (0, .ref (m)), (1, .int (i32 (((st : Nat) : Int))))]) dX10_readCall_94 rfl rfl (Nat.le_of_ble_eq_true rfl) rfl ?_
            refine j_aload_n 96 2 dX10_readCall_95 rfl rfl ?_
            refine j_geti 99 dX10_readCall_96 rfl fl_X10_100 hM.md rfl rfl (fun r_96 => ?_)
            have hbv23 := bv_rng (bd_of (T := T) (q := (sk T ((sk T (p)) + dn T (sk T (p))))) _ (Nat.le_refl _))
            have hpw23 : pw (dn T (sk T ((sk T (p)) + dn T (sk T (p))))) ≤ 1000000 := (pw_le (show dn T (sk T ((sk T (p)) + dn T (sk T (p)))) ≤ 6 by omega) : pw _ ≤ pw 6)
            refine j_top (y := bv (fT T (sk T ((sk T (p)) + dn T (sk T (p))))) (dn T (sk T ((sk T (p)) + dn T (sk T (p)))))) (D17_23.trans (dvF_bv _ (by omega))) ?_
            refine j_istore 101 (L2 := [(4, .int (i32 (bv (fT T (sk T ((sk T (p)) + dn T (sk T (p))))) (dn T (sk T ((sk T (p)) + dn T (sk T (p)))))))), (3, .int (i32 (((dn T (sk T ((sk T (p)) + dn T (sk T (p)))) : Nat) : Int)))), (2, .int (i32 (s_lineOf d ((dn T (sk T (p)) : Nat) : Int) (bv (fT T (sk T (p))) (dn T (sk T (p))))))), (0, .ref (m)), (1, .int (i32 (((st : Nat) : Int))))]) dX10_readCall_99 rfl (Nat.le_of_ble_eq_true rfl) rfl ?_
            refine j_aload_n 102 3 dX10_readCall_101 rfl rfl ?_
            refine j_iconst 103 dX10_readCall_102 rfl ?_
            refine j_bipush 105 dX10_readCall_103 rfl (by decide) ?_
            refine j_callV 108 (As := [.int (i32 (1)), .int (i32 (99))]) (kc2 := 0) (ks2 := 0) dX10_readCall_105 rfl mvX10_number lk_X10_126 hM.md rfl ⟨Nat.le_of_ble_eq_true rfl, rfl⟩ rfl rfl (Nat.le_of_ble_eq_true rfl) ⟨Nat.le_of_ble_eq_true rfl, Nat.le_of_ble_eq_true rfl⟩ ⟨Nat.le_of_ble_eq_true rfl, Nat.le_of_ble_eq_true rfl⟩ (rp_number hM (by first | decide | omega) (by first | decide | omega) (by first | decide | omega) (by first | decide | omega) (st := (.inl ((sk T ((sk T (p)) + dn T (sk T (p)))) + dn T (sk T ((sk T (p)) + dn T (sk T (p))))))) S23) x_i (k_i fun z_105 g_105 h_105 => ?_)
            obtain ⟨Fz24, hz24, S24⟩ := h_105
            have F24 := F23.tr Fz24
            have hdl24 : (sk T ((sk T ((sk T (p)) + dn T (sk T (p)))) + dn T (sk T ((sk T (p)) + dn T (sk T (p)))))) + dn T (sk T ((sk T ((sk T (p)) + dn T (sk T (p)))) + dn T (sk T ((sk T (p)) + dn T (sk T (p)))))) ≤ T.2 := rn_le hD (sk_le S23.2.2.1)
            rcases numC T (sk T ((sk T ((sk T (p)) + dn T (sk T (p)))) + dn T (sk T ((sk T (p)) + dn T (sk T (p)))))) (1) (99) with hC | hC | hC
            ·
              rw [numS_1 hC] at hz24 S24
              refine j_top (y := nv T (sk T ((sk T ((sk T (p)) + dn T (sk T (p)))) + dn T (sk T ((sk T (p)) + dn T (sk T (p))))))) hz24 ?_
              refine j_istore 110 (L2 := [(5, .int (i32 (nv T (sk T ((sk T ((sk T (p)) + dn T (sk T (p)))) + dn T (sk T ((sk T (p)) + dn T (sk T (p))))))))), (4, .int (i32 (bv (fT T (sk T ((sk T (p)) + dn T (sk T (p))))) (dn T (sk T ((sk T (p)) + dn T (sk T (p)))))))), (3, .int (i32 (((dn T (sk T ((sk T (p)) + dn T (sk T (p)))) : Nat) : Int)))), (2, .int (i32 (s_lineOf d ((dn T (sk T (p)) : Nat) : Int) (bv (fT T (sk T (p))) (dn T (sk T (p))))))), (0, .ref (m)), (1, .int (i32 (((st : Nat) : Int))))]) dX10_readCall_108 rfl (Nat.le_of_ble_eq_true rfl) rfl ?_
              refine j_aload_n 111 4 dX10_readCall_110 rfl rfl ?_
              refine j_iconst 112 dX10_readCall_111 rfl ?_
              refine j_sipush 115 dX10_readCall_112 rfl (by decide) ?_
              refine j_callV 118 (As := [.int (i32 (1)), .int (i32 (999))]) (kc2 := 0) (ks2 := 0) dX10_readCall_115 rfl mvX10_number lk_X10_126 hM.md rfl ⟨Nat.le_of_ble_eq_true rfl, rfl⟩ rfl rfl (Nat.le_of_ble_eq_true rfl) ⟨Nat.le_of_ble_eq_true rfl, Nat.le_of_ble_eq_true rfl⟩ ⟨Nat.le_of_ble_eq_true rfl, Nat.le_of_ble_eq_true rfl⟩ (rp_number hM (by first | decide | omega) (by first | decide | omega) (by first | decide | omega) (by first | decide | omega) (st := (.inl ((sk T ((sk T ((sk T (p)) + dn T (sk T (p)))) + dn T (sk T ((sk T (p)) + dn T (sk T (p)))))) + dn T (sk T ((sk T ((sk T (p)) + dn T (sk T (p)))) + dn T (sk T ((sk T (p)) + dn T (sk T (p))))))))) S24) x_i (k_i fun z_115 g_115 h_115 => ?_)
              obtain ⟨Fz25, hz25, S25⟩ := h_115
              have F25 := F24.tr Fz25
              have hdl25 : (sk T ((sk T ((sk T ((sk T (p)) + dn T (sk T (p)))) + dn T (sk T ((sk T (p)) + dn T (sk T (p)))))) + dn T (sk T ((sk T ((sk T (p)) + dn T (sk T (p)))) + dn T (sk T ((sk T (p)) + dn T (sk T (p)))))))) + dn T (sk T ((sk T ((sk T ((sk T (p)) + dn T (sk T (p)))) + dn T (sk T ((sk T (p)) + dn T (sk T (p)))))) + dn T (sk T ((sk T ((sk T (p)) + dn T (sk T (p)))) + dn T (sk T ((sk T (p)) + dn T (sk T (p)))))))) ≤ T.2 := rn_le hD (sk_le S24.2.2.1)
              rcases numC T (sk T ((sk T ((sk T ((sk T (p)) + dn T (sk T (p)))) + dn T (sk T ((sk T (p)) + dn T (sk T (p)))))) + dn T (sk T ((sk T ((sk T (p)) + dn T (sk T (p)))) + dn T (sk T ((sk T (p)) + dn T (sk T (p)))))))) (1) (999) with hD | hD | hD
              ·
                rw [numS_1 hD] at hz25 S25
                refine j_top (y := nv T (sk T ((sk T ((sk T ((sk T (p)) + dn T (sk T (p)))) + dn T (sk T ((sk T (p)) + dn T (sk T (p)))))) + dn T (sk T ((sk T ((sk T (p)) + dn T (sk T (p)))) + dn T (sk T ((sk T (p)) + dn T (sk T (p))))))))) hz25 ?_
                refine j_istore 120 (L2 := [(6, .int (i32 (nv T (sk T ((sk T ((sk T ((sk T (p)) + dn T (sk T (p)))) + dn T (sk T ((sk T (p)) + dn T (sk T (p)))))) + dn T (sk T ((sk T ((sk T (p)) + dn T (sk T (p)))) + dn T (sk T ((sk T (p)) + dn T (sk T (p))))))))))), (5, .int (i32 (nv T (sk T ((sk T ((sk T (p)) + dn T (sk T (p)))) + dn T (sk T ((sk T (p)) + dn T (sk T (p))))))))), (4, .int (i32 (bv (fT T (sk T ((sk T (p)) + dn T (sk T (p))))) (dn T (sk T ((sk T (p)) + dn T (sk T (p)))))))), (3, .int (i32 (((dn T (sk T ((sk T (p)) + dn T (sk T (p)))) : Nat) : Int)))), (2, .int (i32 (s_lineOf d ((dn T (sk T (p)) : Nat) : Int) (bv (fT T (sk T (p))) (dn T (sk T (p))))))), (0, .ref (m)), (1, .int (i32 (((st : Nat) : Int))))]) dX10_readCall_118 rfl (Nat.le_of_ble_eq_true rfl) rfl ?_
                refine j_aload_n 121 5 dX10_readCall_120 rfl rfl ?_
                refine j_callV 124 (As := []) (kc2 := 0) (ks2 := 0) dX10_readCall_121 rfl mvX10_isGood lk_X10_61 hM.md rfl ⟨Nat.le_of_ble_eq_true rfl, rfl⟩ rfl rfl (Nat.le_of_ble_eq_true rfl) ⟨Nat.le_of_ble_eq_true rfl, Nat.le_of_ble_eq_true rfl⟩ ⟨Nat.le_of_ble_eq_true rfl, Nat.le_of_ble_eq_true rfl⟩ (rp_isGood hM) x_d (k_d1 ?_)
                refine j_top (y := 1) (by rw [decide_eq_true S25.2.2.2.1]; rfl) ?_
                refine j_if_eq 127 142 dX10_readCall_124 rfl rfl (r32 (by decide) (by decide)) (fun c_124 => absurd c_124 (by decide)) (fun c_124 => ?_)
                refine j_aload_n 128 5 dX10_readCall_127 rfl rfl ?_
                refine j_getr 131 dX10_readCall_128 rfl fl_X10_20 hM.md rfl (fun _ _ => rfl) rfl ?_
                refine j_iload_n 132 4 dX10_readCall_131 rfl rfl ?_
                refine j_iload_n 133 3 dX10_readCall_132 rfl rfl ?_
                refine j_iload 135 2 dX10_readCall_133 rfl rfl ?_
                refine j_iload 137 1 dX10_readCall_135 rfl rfl ?_
                refine j_iload 139 0 dX10_readCall_137 rfl rfl ?_
                obtain ⟨c, hc⟩ := Int.eq_ofNat_of_zero_le hb5.1
                refine j_mem (upR_id2 ((F25.1 _ (by omega)).trans hd)).symm ?_
                refine j_callS 142 (As := [.ref (m + 3), .int (i32 (s_lineOf d ((dn T (sk T (p)) : Nat) : Int) (bv (fT T (sk T (p))) (dn T (sk T (p)))))), .int (i32 (((dn T (sk T ((sk T (p)) + dn T (sk T (p)))) : Nat) : Int))), .int (i32 (bv (fT T (sk T ((sk T (p)) + dn T (sk T (p))))) (dn T (sk T ((sk T (p)) + dn T (sk T (p))))))), .int (i32 (nv T (sk T ((sk T ((sk T (p)) + dn T (sk T (p)))) + dn T (sk T ((sk T (p)) + dn T (sk T (p)))))))), .int (i32 (nv T (sk T ((sk T ((sk T ((sk T (p)) + dn T (sk T (p)))) + dn T (sk T ((sk T (p)) + dn T (sk T (p)))))) + dn T (sk T ((sk T ((sk T (p)) + dn T (sk T (p)))) + dn T (sk T ((sk T (p)) + dn T (sk T (p))))))))))]) (kc2 := 0) (ks2 := 0) dX10_readCall_139 rfl msX10_layCall lk_X10_132 rfl rfl (Nat.le_of_ble_eq_true rfl) ⟨Nat.le_of_ble_eq_true rfl, Nat.le_of_ble_eq_true rfl⟩ ⟨Nat.le_of_ble_eq_true rfl, Nat.le_of_ble_eq_true rfl⟩ (r_layCall hM.dra hc (by omega) (fst_r32 _ (by decide)) (r32 (by omega) (by omega)) (r32 (by omega) (by omega)) (r32 (by omega) (by omega)) (r32 (by omega) (by omega))) x_d (k_d0 ?_)
                exact j_vret dX10_readCall_142 rfl (⟨rfl, rfl, F25.fd.ur, by
                  rw [show P_call T st d s p = .inl (s_lay d (s_lineOf d ((dn T (sk T (p)) : Nat) : Int) (bv (fT T (sk T (p))) (dn T (sk T (p))))) ((dn T (sk T ((sk T (p)) + dn T (sk T (p)))) : Nat) : Int) (bv (fT T (sk T ((sk T (p)) + dn T (sk T (p))))) (dn T (sk T ((sk T (p)) + dn T (sk T (p)))))) (nv T (sk T ((sk T ((sk T (p)) + dn T (sk T (p)))) + dn T (sk T ((sk T (p)) + dn T (sk T (p))))))) (nv T (sk T ((sk T ((sk T ((sk T (p)) + dn T (sk T (p)))) + dn T (sk T ((sk T (p)) + dn T (sk T (p)))))) + dn T (sk T ((sk T ((sk T (p)) + dn T (sk T (p)))) + dn T (sk T ((sk T (p)) + dn T (sk T (p))))))))), s, (sk T ((sk T ((sk T ((sk T (p)) + dn T (sk T (p)))) + dn T (sk T ((sk T (p)) + dn T (sk T (p)))))) + dn T (sk T ((sk T ((sk T (p)) + dn T (sk T (p)))) + dn T (sk T ((sk T (p)) + dn T (sk T (p)))))))) + dn T (sk T ((sk T ((sk T ((sk T (p)) + dn T (sk T (p)))) + dn T (sk T ((sk T (p)) + dn T (sk T (p)))))) + dn T (sk T ((sk T ((sk T (p)) + dn T (sk T (p)))) + dn T (sk T ((sk T (p)) + dn T (sk T (p))))))))) from by unfold P_call; rw [if_neg (show ¬ 40 ≤ d 5 by omega), if_neg hA.1, if_neg (show ¬ (6 < dn T (sk T (p)) ∨ s_lineOf d ((dn T (sk T (p)) : Nat) : Int) (bv (fT T (sk T (p))) (dn T (sk T (p)))) = -1) by omega), kDig_1 hB, kNum_1 hC, kNum_1 hD]]
                  exact ⟨S25.ur, upR_s, (hS.fm F25).ur⟩⟩)
              ·
                rw [numS_2 hD] at hz25 S25
                refine j_top (y := 0) hz25 ?_
                refine j_istore 120 (L2 := [(6, .int (i32 (0))), (5, .int (i32 (nv T (sk T ((sk T ((sk T (p)) + dn T (sk T (p)))) + dn T (sk T ((sk T (p)) + dn T (sk T (p))))))))), (4, .int (i32 (bv (fT T (sk T ((sk T (p)) + dn T (sk T (p))))) (dn T (sk T ((sk T (p)) + dn T (sk T (p)))))))), (3, .int (i32 (((dn T (sk T ((sk T (p)) + dn T (sk T (p)))) : Nat) : Int)))), (2, .int (i32 (s_lineOf d ((dn T (sk T (p)) : Nat) : Int) (bv (fT T (sk T (p))) (dn T (sk T (p))))))), (0, .ref (m)), (1, .int (i32 (((st : Nat) : Int))))]) dX10_readCall_118 rfl (Nat.le_of_ble_eq_true rfl) rfl ?_
                refine j_aload_n 121 5 dX10_readCall_120 rfl rfl ?_
                refine j_callV 124 (As := []) (kc2 := 0) (ks2 := 0) dX10_readCall_121 rfl mvX10_isGood lk_X10_61 hM.md rfl ⟨Nat.le_of_ble_eq_true rfl, rfl⟩ rfl rfl (Nat.le_of_ble_eq_true rfl) ⟨Nat.le_of_ble_eq_true rfl, Nat.le_of_ble_eq_true rfl⟩ ⟨Nat.le_of_ble_eq_true rfl, Nat.le_of_ble_eq_true rfl⟩ (rp_isGood hM) x_d (k_d1 ?_)
                refine j_top (y := 0) (by rw [decide_eq_false (by have h1 := S25.2.2.1; have h2 := S25.2.2.2.2; dsimp only at h1 h2; omega)]; rfl) ?_
                refine j_if_eq 127 142 dX10_readCall_124 rfl rfl (r32 (by decide) (by decide)) (fun c_124 => ?_) (fun c_124 => absurd c_124 (by decide))
                exact j_vret dX10_readCall_142 rfl (⟨rfl, rfl, F25.fd, by
                  rw [show P_call T st d s p = .inr ((-2), (sk T ((sk T ((sk T ((sk T (p)) + dn T (sk T (p)))) + dn T (sk T ((sk T (p)) + dn T (sk T (p)))))) + dn T (sk T ((sk T ((sk T (p)) + dn T (sk T (p)))) + dn T (sk T ((sk T (p)) + dn T (sk T (p))))))))) from by unfold P_call; rw [if_neg (show ¬ 40 ≤ d 5 by omega), if_neg hA.1, if_neg (show ¬ (6 < dn T (sk T (p)) ∨ s_lineOf d ((dn T (sk T (p)) : Nat) : Int) (bv (fT T (sk T (p))) (dn T (sk T (p)))) = -1) by omega), kDig_1 hB, kNum_1 hC, kNum_2 hD]]
                  exact S25⟩)
              ·
                rw [numS_3 hD] at hz25 S25
                refine j_top (y := 0) hz25 ?_
                refine j_istore 120 (L2 := [(6, .int (i32 (0))), (5, .int (i32 (nv T (sk T ((sk T ((sk T (p)) + dn T (sk T (p)))) + dn T (sk T ((sk T (p)) + dn T (sk T (p))))))))), (4, .int (i32 (bv (fT T (sk T ((sk T (p)) + dn T (sk T (p))))) (dn T (sk T ((sk T (p)) + dn T (sk T (p)))))))), (3, .int (i32 (((dn T (sk T ((sk T (p)) + dn T (sk T (p)))) : Nat) : Int)))), (2, .int (i32 (s_lineOf d ((dn T (sk T (p)) : Nat) : Int) (bv (fT T (sk T (p))) (dn T (sk T (p))))))), (0, .ref (m)), (1, .int (i32 (((st : Nat) : Int))))]) dX10_readCall_118 rfl (Nat.le_of_ble_eq_true rfl) rfl ?_
                refine j_aload_n 121 5 dX10_readCall_120 rfl rfl ?_
                refine j_callV 124 (As := []) (kc2 := 0) (ks2 := 0) dX10_readCall_121 rfl mvX10_isGood lk_X10_61 hM.md rfl ⟨Nat.le_of_ble_eq_true rfl, rfl⟩ rfl rfl (Nat.le_of_ble_eq_true rfl) ⟨Nat.le_of_ble_eq_true rfl, Nat.le_of_ble_eq_true rfl⟩ ⟨Nat.le_of_ble_eq_true rfl, Nat.le_of_ble_eq_true rfl⟩ (rp_isGood hM) x_d (k_d1 ?_)
                refine j_top (y := 0) (by rw [decide_eq_false (by have h1 := S25.2.2.1; have h2 := S25.2.2.2.2; dsimp only at h1 h2; omega)]; rfl) ?_
                refine j_if_eq 127 142 dX10_readCall_124 rfl rfl (r32 (by decide) (by decide)) (fun c_124 => ?_) (fun c_124 => absurd c_124 (by decide))
                exact j_vret dX10_readCall_142 rfl (⟨rfl, rfl, F25.fd, by
                  rw [show P_call T st d s p = .inr ((-3), (sk T ((sk T ((sk T ((sk T (p)) + dn T (sk T (p)))) + dn T (sk T ((sk T (p)) + dn T (sk T (p)))))) + dn T (sk T ((sk T ((sk T (p)) + dn T (sk T (p)))) + dn T (sk T ((sk T (p)) + dn T (sk T (p))))))))) from by unfold P_call; rw [if_neg (show ¬ 40 ≤ d 5 by omega), if_neg hA.1, if_neg (show ¬ (6 < dn T (sk T (p)) ∨ s_lineOf d ((dn T (sk T (p)) : Nat) : Int) (bv (fT T (sk T (p))) (dn T (sk T (p)))) = -1) by omega), kDig_1 hB, kNum_1 hC, kNum_3 hD]]
                  exact S25⟩)
            ·
              rw [numS_2 hC] at hz24 S24
              refine j_top (y := 0) hz24 ?_
              refine j_istore 110 (L2 := [(5, .int (i32 (0))), (4, .int (i32 (bv (fT T (sk T ((sk T (p)) + dn T (sk T (p))))) (dn T (sk T ((sk T (p)) + dn T (sk T (p)))))))), (3, .int (i32 (((dn T (sk T ((sk T (p)) + dn T (sk T (p)))) : Nat) : Int)))), (2, .int (i32 (s_lineOf d ((dn T (sk T (p)) : Nat) : Int) (bv (fT T (sk T (p))) (dn T (sk T (p))))))), (0, .ref (m)), (1, .int (i32 (((st : Nat) : Int))))]) dX10_readCall_108 rfl (Nat.le_of_ble_eq_true rfl) rfl ?_
              refine j_aload_n 111 4 dX10_readCall_110 rfl rfl ?_
              refine j_iconst 112 dX10_readCall_111 rfl ?_
              refine j_sipush 115 dX10_readCall_112 rfl (by decide) ?_
              refine j_callV 118 (As := [.int (i32 (1)), .int (i32 (999))]) (kc2 := 0) (ks2 := 0) dX10_readCall_115 rfl mvX10_number lk_X10_126 hM.md rfl ⟨Nat.le_of_ble_eq_true rfl, rfl⟩ rfl rfl (Nat.le_of_ble_eq_true rfl) ⟨Nat.le_of_ble_eq_true rfl, Nat.le_of_ble_eq_true rfl⟩ ⟨Nat.le_of_ble_eq_true rfl, Nat.le_of_ble_eq_true rfl⟩ (rp_numberX hM (r32 (by decide) (by decide)) (r32 (by decide) (by decide)) S24) x_i (k_i fun z_115 g_115 h_115 => ?_)
              obtain ⟨Fz27, hz27, S27⟩ := h_115
              have F27 := F24.tr Fz27
              refine j_top (y := 0) hz27 ?_
              refine j_istore 120 (L2 := [(6, .int (i32 (0))), (5, .int (i32 (0))), (4, .int (i32 (bv (fT T (sk T ((sk T (p)) + dn T (sk T (p))))) (dn T (sk T ((sk T (p)) + dn T (sk T (p)))))))), (3, .int (i32 (((dn T (sk T ((sk T (p)) + dn T (sk T (p)))) : Nat) : Int)))), (2, .int (i32 (s_lineOf d ((dn T (sk T (p)) : Nat) : Int) (bv (fT T (sk T (p))) (dn T (sk T (p))))))), (0, .ref (m)), (1, .int (i32 (((st : Nat) : Int))))]) dX10_readCall_118 rfl (Nat.le_of_ble_eq_true rfl) rfl ?_
              refine j_aload_n 121 5 dX10_readCall_120 rfl rfl ?_
              refine j_callV 124 (As := []) (kc2 := 0) (ks2 := 0) dX10_readCall_121 rfl mvX10_isGood lk_X10_61 hM.md rfl ⟨Nat.le_of_ble_eq_true rfl, rfl⟩ rfl rfl (Nat.le_of_ble_eq_true rfl) ⟨Nat.le_of_ble_eq_true rfl, Nat.le_of_ble_eq_true rfl⟩ ⟨Nat.le_of_ble_eq_true rfl, Nat.le_of_ble_eq_true rfl⟩ (rp_isGood hM) x_d (k_d1 ?_)
              refine j_top (y := 0) (by rw [decide_eq_false (by have h1 := S27.2.2.1; have h2 := S27.2.2.2.2; dsimp only at h1 h2; omega)]; rfl) ?_
              refine j_if_eq 127 142 dX10_readCall_124 rfl rfl (r32 (by decide) (by decide)) (fun c_124 => ?_) (fun c_124 => absurd c_124 (by decide))
              exact j_vret dX10_readCall_142 rfl (⟨rfl, rfl, F27.fd, by
                rw [show P_call T st d s p = .inr ((-2), (sk T ((sk T ((sk T (p)) + dn T (sk T (p)))) + dn T (sk T ((sk T (p)) + dn T (sk T (p))))))) from by unfold P_call; rw [if_neg (show ¬ 40 ≤ d 5 by omega), if_neg hA.1, if_neg (show ¬ (6 < dn T (sk T (p)) ∨ s_lineOf d ((dn T (sk T (p)) : Nat) : Int) (bv (fT T (sk T (p))) (dn T (sk T (p)))) = -1) by omega), kDig_1 hB, kNum_2 hC]]
                exact S27⟩)
            ·
              rw [numS_3 hC] at hz24 S24
              refine j_top (y := 0) hz24 ?_
              refine j_istore 110 (L2 := [(5, .int (i32 (0))), (4, .int (i32 (bv (fT T (sk T ((sk T (p)) + dn T (sk T (p))))) (dn T (sk T ((sk T (p)) + dn T (sk T (p)))))))), (3, .int (i32 (((dn T (sk T ((sk T (p)) + dn T (sk T (p)))) : Nat) : Int)))), (2, .int (i32 (s_lineOf d ((dn T (sk T (p)) : Nat) : Int) (bv (fT T (sk T (p))) (dn T (sk T (p))))))), (0, .ref (m)), (1, .int (i32 (((st : Nat) : Int))))]) dX10_readCall_108 rfl (Nat.le_of_ble_eq_true rfl) rfl ?_
              refine j_aload_n 111 4 dX10_readCall_110 rfl rfl ?_
              refine j_iconst 112 dX10_readCall_111 rfl ?_
              refine j_sipush 115 dX10_readCall_112 rfl (by decide) ?_
              refine j_callV 118 (As := [.int (i32 (1)), .int (i32 (999))]) (kc2 := 0) (ks2 := 0) dX10_readCall_115 rfl mvX10_number lk_X10_126 hM.md rfl ⟨Nat.le_of_ble_eq_true rfl, rfl⟩ rfl rfl (Nat.le_of_ble_eq_true rfl) ⟨Nat.le_of_ble_eq_true rfl, Nat.le_of_ble_eq_true rfl⟩ ⟨Nat.le_of_ble_eq_true rfl, Nat.le_of_ble_eq_true rfl⟩ (rp_numberX hM (r32 (by decide) (by decide)) (r32 (by decide) (by decide)) S24) x_i (k_i fun z_115 g_115 h_115 => ?_)
              obtain ⟨Fz28, hz28, S28⟩ := h_115
              have F28 := F24.tr Fz28
              refine j_top (y := 0) hz28 ?_
              refine j_istore 120 (L2 := [(6, .int (i32 (0))), (5, .int (i32 (0))), (4, .int (i32 (bv (fT T (sk T ((sk T (p)) + dn T (sk T (p))))) (dn T (sk T ((sk T (p)) + dn T (sk T (p)))))))), (3, .int (i32 (((dn T (sk T ((sk T (p)) + dn T (sk T (p)))) : Nat) : Int)))), (2, .int (i32 (s_lineOf d ((dn T (sk T (p)) : Nat) : Int) (bv (fT T (sk T (p))) (dn T (sk T (p))))))), (0, .ref (m)), (1, .int (i32 (((st : Nat) : Int))))]) dX10_readCall_118 rfl (Nat.le_of_ble_eq_true rfl) rfl ?_
              refine j_aload_n 121 5 dX10_readCall_120 rfl rfl ?_
              refine j_callV 124 (As := []) (kc2 := 0) (ks2 := 0) dX10_readCall_121 rfl mvX10_isGood lk_X10_61 hM.md rfl ⟨Nat.le_of_ble_eq_true rfl, rfl⟩ rfl rfl (Nat.le_of_ble_eq_true rfl) ⟨Nat.le_of_ble_eq_true rfl, Nat.le_of_ble_eq_true rfl⟩ ⟨Nat.le_of_ble_eq_true rfl, Nat.le_of_ble_eq_true rfl⟩ (rp_isGood hM) x_d (k_d1 ?_)
              refine j_top (y := 0) (by rw [decide_eq_false (by have h1 := S28.2.2.1; have h2 := S28.2.2.2.2; dsimp only at h1 h2; omega)]; rfl) ?_
              refine j_if_eq 127 142 dX10_readCall_124 rfl rfl (r32 (by decide) (by decide)) (fun c_124 => ?_) (fun c_124 => absurd c_124 (by decide))
              exact j_vret dX10_readCall_142 rfl (⟨rfl, rfl, F28.fd, by
                rw [show P_call T st d s p = .inr ((-3), (sk T ((sk T ((sk T (p)) + dn T (sk T (p)))) + dn T (sk T ((sk T (p)) + dn T (sk T (p))))))) from by unfold P_call; rw [if_neg (show ¬ 40 ≤ d 5 by omega), if_neg hA.1, if_neg (show ¬ (6 < dn T (sk T (p)) ∨ s_lineOf d ((dn T (sk T (p)) : Nat) : Int) (bv (fT T (sk T (p))) (dn T (sk T (p)))) = -1) by omega), kDig_1 hB, kNum_3 hC]]
                exact S28⟩)
          ·
            rw [digS_2 hB] at S23
            refine j_aload_n 91 1 dX10_readCall_90 rfl rfl ?_
            refine j_geti 94 dX10_readCall_91 rfl fl_X10_97 hM.md rfl rfl (fun r_91 => ?_)
            refine j_istore_n 95 (L2 := [(3, .int (i32 (g_87 (m) 16))), (2, .int (i32 (s_lineOf d ((dn T (sk T (p)) : Nat) : Int) (bv (fT T (sk T (p))) (dn T (sk T (p))))))), (0, .ref (m)), (1, .int (i32 (((st : Nat) : Int))))]) dX10_readCall_94 rfl rfl (Nat.le_of_ble_eq_true rfl) rfl ?_
            refine j_aload_n 96 2 dX10_readCall_95 rfl rfl ?_
            refine j_geti 99 dX10_readCall_96 rfl fl_X10_100 hM.md rfl rfl (fun r_96 => ?_)
            refine j_istore 101 (L2 := [(4, .int (i32 (g_87 (m) 17))), (3, .int (i32 (g_87 (m) 16))), (2, .int (i32 (s_lineOf d ((dn T (sk T (p)) : Nat) : Int) (bv (fT T (sk T (p))) (dn T (sk T (p))))))), (0, .ref (m)), (1, .int (i32 (((st : Nat) : Int))))]) dX10_readCall_99 rfl (Nat.le_of_ble_eq_true rfl) rfl ?_
            refine j_aload_n 102 3 dX10_readCall_101 rfl rfl ?_
            refine j_iconst 103 dX10_readCall_102 rfl ?_
            refine j_bipush 105 dX10_readCall_103 rfl (by decide) ?_
            refine j_callV 108 (As := [.int (i32 (1)), .int (i32 (99))]) (kc2 := 0) (ks2 := 0) dX10_readCall_105 rfl mvX10_number lk_X10_126 hM.md rfl ⟨Nat.le_of_ble_eq_true rfl, rfl⟩ rfl rfl (Nat.le_of_ble_eq_true rfl) ⟨Nat.le_of_ble_eq_true rfl, Nat.le_of_ble_eq_true rfl⟩ ⟨Nat.le_of_ble_eq_true rfl, Nat.le_of_ble_eq_true rfl⟩ (rp_numberX hM (r32 (by decide) (by decide)) (r32 (by decide) (by decide)) S23) x_i (k_i fun z_105 g_105 h_105 => ?_)
            obtain ⟨Fz29, hz29, S29⟩ := h_105
            have F29 := F23.tr Fz29
            refine j_top (y := 0) hz29 ?_
            refine j_istore 110 (L2 := [(5, .int (i32 (0))), (4, .int (i32 (g_87 (m) 17))), (3, .int (i32 (g_87 (m) 16))), (2, .int (i32 (s_lineOf d ((dn T (sk T (p)) : Nat) : Int) (bv (fT T (sk T (p))) (dn T (sk T (p))))))), (0, .ref (m)), (1, .int (i32 (((st : Nat) : Int))))]) dX10_readCall_108 rfl (Nat.le_of_ble_eq_true rfl) rfl ?_
            refine j_aload_n 111 4 dX10_readCall_110 rfl rfl ?_
            refine j_iconst 112 dX10_readCall_111 rfl ?_
            refine j_sipush 115 dX10_readCall_112 rfl (by decide) ?_
            refine j_callV 118 (As := [.int (i32 (1)), .int (i32 (999))]) (kc2 := 0) (ks2 := 0) dX10_readCall_115 rfl mvX10_number lk_X10_126 hM.md rfl ⟨Nat.le_of_ble_eq_true rfl, rfl⟩ rfl rfl (Nat.le_of_ble_eq_true rfl) ⟨Nat.le_of_ble_eq_true rfl, Nat.le_of_ble_eq_true rfl⟩ ⟨Nat.le_of_ble_eq_true rfl, Nat.le_of_ble_eq_true rfl⟩ (rp_numberX hM (r32 (by decide) (by decide)) (r32 (by decide) (by decide)) S29) x_i (k_i fun z_115 g_115 h_115 => ?_)
            obtain ⟨Fz30, hz30, S30⟩ := h_115
            have F30 := F29.tr Fz30
            refine j_top (y := 0) hz30 ?_
            refine j_istore 120 (L2 := [(6, .int (i32 (0))), (5, .int (i32 (0))), (4, .int (i32 (g_87 (m) 17))), (3, .int (i32 (g_87 (m) 16))), (2, .int (i32 (s_lineOf d ((dn T (sk T (p)) : Nat) : Int) (bv (fT T (sk T (p))) (dn T (sk T (p))))))), (0, .ref (m)), (1, .int (i32 (((st : Nat) : Int))))]) dX10_readCall_118 rfl (Nat.le_of_ble_eq_true rfl) rfl ?_
            refine j_aload_n 121 5 dX10_readCall_120 rfl rfl ?_
            refine j_callV 124 (As := []) (kc2 := 0) (ks2 := 0) dX10_readCall_121 rfl mvX10_isGood lk_X10_61 hM.md rfl ⟨Nat.le_of_ble_eq_true rfl, rfl⟩ rfl rfl (Nat.le_of_ble_eq_true rfl) ⟨Nat.le_of_ble_eq_true rfl, Nat.le_of_ble_eq_true rfl⟩ ⟨Nat.le_of_ble_eq_true rfl, Nat.le_of_ble_eq_true rfl⟩ (rp_isGood hM) x_d (k_d1 ?_)
            refine j_top (y := 0) (by rw [decide_eq_false (by have h1 := S30.2.2.1; have h2 := S30.2.2.2.2; dsimp only at h1 h2; omega)]; rfl) ?_
            refine j_if_eq 127 142 dX10_readCall_124 rfl rfl (r32 (by decide) (by decide)) (fun c_124 => ?_) (fun c_124 => absurd c_124 (by decide))
            exact j_vret dX10_readCall_142 rfl (⟨rfl, rfl, F30.fd, by
              rw [show P_call T st d s p = .inr ((-2), (sk T ((sk T (p)) + dn T (sk T (p))))) from by unfold P_call; rw [if_neg (show ¬ 40 ≤ d 5 by omega), if_neg hA.1, if_neg (show ¬ (6 < dn T (sk T (p)) ∨ s_lineOf d ((dn T (sk T (p)) : Nat) : Int) (bv (fT T (sk T (p))) (dn T (sk T (p)))) = -1) by omega), kDig_2 hB]]
              exact S30⟩)
          ·
            rw [digS_3 hB] at S23
            refine j_aload_n 91 1 dX10_readCall_90 rfl rfl ?_
            refine j_geti 94 dX10_readCall_91 rfl fl_X10_97 hM.md rfl rfl (fun r_91 => ?_)
            refine j_istore_n 95 (L2 := [(3, .int (i32 (g_87 (m) 16))), (2, .int (i32 (s_lineOf d ((dn T (sk T (p)) : Nat) : Int) (bv (fT T (sk T (p))) (dn T (sk T (p))))))), (0, .ref (m)), (1, .int (i32 (((st : Nat) : Int))))]) dX10_readCall_94 rfl rfl (Nat.le_of_ble_eq_true rfl) rfl ?_
            refine j_aload_n 96 2 dX10_readCall_95 rfl rfl ?_
            refine j_geti 99 dX10_readCall_96 rfl fl_X10_100 hM.md rfl rfl (fun r_96 => ?_)
            refine j_istore 101 (L2 := [(4, .int (i32 (g_87 (m) 17))), (3, .int (i32 (g_87 (m) 16))), (2, .int (i32 (s_lineOf d ((dn T (sk T (p)) : Nat) : Int) (bv (fT T (sk T (p))) (dn T (sk T (p))))))), (0, .ref (m)), (1, .int (i32 (((st : Nat) : Int))))]) dX10_readCall_99 rfl (Nat.le_of_ble_eq_true rfl) rfl ?_
            refine j_aload_n 102 3 dX10_readCall_101 rfl rfl ?_
            refine j_iconst 103 dX10_readCall_102 rfl ?_
            refine j_bipush 105 dX10_readCall_103 rfl (by decide) ?_
            refine j_callV 108 (As := [.int (i32 (1)), .int (i32 (99))]) (kc2 := 0) (ks2 := 0) dX10_readCall_105 rfl mvX10_number lk_X10_126 hM.md rfl ⟨Nat.le_of_ble_eq_true rfl, rfl⟩ rfl rfl (Nat.le_of_ble_eq_true rfl) ⟨Nat.le_of_ble_eq_true rfl, Nat.le_of_ble_eq_true rfl⟩ ⟨Nat.le_of_ble_eq_true rfl, Nat.le_of_ble_eq_true rfl⟩ (rp_numberX hM (r32 (by decide) (by decide)) (r32 (by decide) (by decide)) S23) x_i (k_i fun z_105 g_105 h_105 => ?_)
            obtain ⟨Fz31, hz31, S31⟩ := h_105
            have F31 := F23.tr Fz31
            refine j_top (y := 0) hz31 ?_
            refine j_istore 110 (L2 := [(5, .int (i32 (0))), (4, .int (i32 (g_87 (m) 17))), (3, .int (i32 (g_87 (m) 16))), (2, .int (i32 (s_lineOf d ((dn T (sk T (p)) : Nat) : Int) (bv (fT T (sk T (p))) (dn T (sk T (p))))))), (0, .ref (m)), (1, .int (i32 (((st : Nat) : Int))))]) dX10_readCall_108 rfl (Nat.le_of_ble_eq_true rfl) rfl ?_
            refine j_aload_n 111 4 dX10_readCall_110 rfl rfl ?_
            refine j_iconst 112 dX10_readCall_111 rfl ?_
            refine j_sipush 115 dX10_readCall_112 rfl (by decide) ?_
            refine j_callV 118 (As := [.int (i32 (1)), .int (i32 (999))]) (kc2 := 0) (ks2 := 0) dX10_readCall_115 rfl mvX10_number lk_X10_126 hM.md rfl ⟨Nat.le_of_ble_eq_true rfl, rfl⟩ rfl rfl (Nat.le_of_ble_eq_true rfl) ⟨Nat.le_of_ble_eq_true rfl, Nat.le_of_ble_eq_true rfl⟩ ⟨Nat.le_of_ble_eq_true rfl, Nat.le_of_ble_eq_true rfl⟩ (rp_numberX hM (r32 (by decide) (by decide)) (r32 (by decide) (by decide)) S31) x_i (k_i fun z_115 g_115 h_115 => ?_)
            obtain ⟨Fz32, hz32, S32⟩ := h_115
            have F32 := F31.tr Fz32
            refine j_top (y := 0) hz32 ?_
            refine j_istore 120 (L2 := [(6, .int (i32 (0))), (5, .int (i32 (0))), (4, .int (i32 (g_87 (m) 17))), (3, .int (i32 (g_87 (m) 16))), (2, .int (i32 (s_lineOf d ((dn T (sk T (p)) : Nat) : Int) (bv (fT T (sk T (p))) (dn T (sk T (p))))))), (0, .ref (m)), (1, .int (i32 (((st : Nat) : Int))))]) dX10_readCall_118 rfl (Nat.le_of_ble_eq_true rfl) rfl ?_
            refine j_aload_n 121 5 dX10_readCall_120 rfl rfl ?_
            refine j_callV 124 (As := []) (kc2 := 0) (ks2 := 0) dX10_readCall_121 rfl mvX10_isGood lk_X10_61 hM.md rfl ⟨Nat.le_of_ble_eq_true rfl, rfl⟩ rfl rfl (Nat.le_of_ble_eq_true rfl) ⟨Nat.le_of_ble_eq_true rfl, Nat.le_of_ble_eq_true rfl⟩ ⟨Nat.le_of_ble_eq_true rfl, Nat.le_of_ble_eq_true rfl⟩ (rp_isGood hM) x_d (k_d1 ?_)
            refine j_top (y := 0) (by rw [decide_eq_false (by have h1 := S32.2.2.1; have h2 := S32.2.2.2.2; dsimp only at h1 h2; omega)]; rfl) ?_
            refine j_if_eq 127 142 dX10_readCall_124 rfl rfl (r32 (by decide) (by decide)) (fun c_124 => ?_) (fun c_124 => absurd c_124 (by decide))
            exact j_vret dX10_readCall_142 rfl (⟨rfl, rfl, F32.fd, by
              rw [show P_call T st d s p = .inr ((-3), (sk T ((sk T (p)) + dn T (sk T (p))))) from by unfold P_call; rw [if_neg (show ¬ 40 ≤ d 5 by omega), if_neg hA.1, if_neg (show ¬ (6 < dn T (sk T (p)) ∨ s_lineOf d ((dn T (sk T (p)) : Nat) : Int) (bv (fT T (sk T (p))) (dn T (sk T (p)))) = -1) by omega), kDig_3 hB]]
              exact S32⟩)
        · skip
          refine j_aload_n 67 1 dX10_readCall_66 rfl rfl ?_
          refine j_bipush 69 dX10_readCall_67 rfl (by decide) ?_
          refine j_aload_n 70 1 dX10_readCall_69 rfl rfl ?_
          refine j_geti 73 dX10_readCall_70 rfl fl_X10_94 hM.md rfl rfl (fun r_70 => ?_)
          refine j_top (y := (((sk T (p)) : Nat) : Int)) (D15_20) ?_
          refine j_callV 76 (As := [.int (i32 (-4)), .int (i32 ((((sk T (p)) : Nat) : Int)))]) (kc2 := 0) (ks2 := 0) dX10_readCall_73 rfl mvX10_report lk_X10_78 hM.md rfl ⟨Nat.le_of_ble_eq_true rfl, rfl⟩ rfl rfl (Nat.le_of_ble_eq_true rfl) ⟨Nat.le_of_ble_eq_true rfl, Nat.le_of_ble_eq_true rfl⟩ ⟨Nat.le_of_ble_eq_true rfl, Nat.le_of_ble_eq_true rfl⟩ (rp_report0 hM S20.2.2.2.1 (r32 (by decide) (by decide)) (r32 (by omega) (by omega))) x_d (k_d0 ?_)
          refine j_mn (fun g33 hg33 => ?_)
          have S33 : RE g33 m T ((-4), (sk T (p))) := by rw [hg33]; exact S20.err (by decide)
          have F33 : FM g g33 m := by rw [hg33]; exact (F20.up (by decide)).up (by decide)
          refine j_aload_n 77 1 dX10_readCall_76 rfl rfl ?_
          refine j_callV 80 (As := []) (kc2 := 0) (ks2 := 0) dX10_readCall_77 rfl mvX10_isGood lk_X10_61 hM.md rfl ⟨Nat.le_of_ble_eq_true rfl, rfl⟩ rfl rfl (Nat.le_of_ble_eq_true rfl) ⟨Nat.le_of_ble_eq_true rfl, Nat.le_of_ble_eq_true rfl⟩ ⟨Nat.le_of_ble_eq_true rfl, Nat.le_of_ble_eq_true rfl⟩ (rp_isGood hM) x_d (k_d1 ?_)
          refine j_top (y := 0) (by rw [decide_eq_false (by have h1 := S33.2.2.1; have h2 := S33.2.2.2.2; dsimp only at h1 h2; omega)]; rfl) ?_
          refine j_if_ne 83 84 dX10_readCall_80 rfl rfl (r32 (by decide) (by decide)) (fun c_80 => absurd c_80 (by decide)) (fun c_80 => ?_)
          exact j_vret dX10_readCall_83 rfl (⟨rfl, rfl, F33.fd, by
            rw [show P_call T st d s p = .inr ((-4), (sk T (p))) from by unfold P_call; rw [if_neg (show ¬ 40 ≤ d 5 by omega), if_neg hA.1, if_pos (Or.inr c_63_22)]]
            exact S33⟩)
      · skip
        refine j_iconst 35 dX10_readCall_34 rfl ?_
        refine j_goto 53 dX10_readCall_35 rfl ?_
        refine j_istore_n 54 (L2 := [(2, .int (i32 (-1))), (0, .ref (m)), (1, .int (i32 (((st : Nat) : Int))))]) dX10_readCall_53 rfl rfl (Nat.le_of_ble_eq_true rfl) rfl ?_
        refine j_aload_n 55 1 dX10_readCall_54 rfl rfl ?_
        refine j_callV 58 (As := []) (kc2 := 0) (ks2 := 0) dX10_readCall_55 rfl mvX10_isGood lk_X10_61 hM.md rfl ⟨Nat.le_of_ble_eq_true rfl, rfl⟩ rfl rfl (Nat.le_of_ble_eq_true rfl) ⟨Nat.le_of_ble_eq_true rfl, Nat.le_of_ble_eq_true rfl⟩ ⟨Nat.le_of_ble_eq_true rfl, Nat.le_of_ble_eq_true rfl⟩ (rp_isGood hM) x_d (k_d1 ?_)
        refine j_top (y := 1) (by rw [decide_eq_true S20.2.2.2.1]; rfl) ?_
        refine j_if_eq 61 76 dX10_readCall_58 rfl rfl (r32 (by decide) (by decide)) (fun c_58 => absurd c_58 (by decide)) (fun c_58 => ?_)
        refine j_iload_n 62 0 dX10_readCall_61 rfl rfl ?_
        refine j_iconst 63 dX10_readCall_62 rfl ?_
        refine j_icmp_ne 66 76 dX10_readCall_63 rfl rfl (r32 (by decide) (by decide)) (r32 (by decide) (by decide)) (fun c_63_34 => ?_) (fun c_63_34 => ?_)
        · skip
          exact absurd rfl c_63_34
        · skip
          refine j_aload_n 67 1 dX10_readCall_66 rfl rfl ?_
          refine j_bipush 69 dX10_readCall_67 rfl (by decide) ?_
          refine j_aload_n 70 1 dX10_readCall_69 rfl rfl ?_
          refine j_geti 73 dX10_readCall_70 rfl fl_X10_94 hM.md rfl rfl (fun r_70 => ?_)
          refine j_top (y := (((sk T (p)) : Nat) : Int)) (D15_20) ?_
          refine j_callV 76 (As := [.int (i32 (-4)), .int (i32 ((((sk T (p)) : Nat) : Int)))]) (kc2 := 0) (ks2 := 0) dX10_readCall_73 rfl mvX10_report lk_X10_78 hM.md rfl ⟨Nat.le_of_ble_eq_true rfl, rfl⟩ rfl rfl (Nat.le_of_ble_eq_true rfl) ⟨Nat.le_of_ble_eq_true rfl, Nat.le_of_ble_eq_true rfl⟩ ⟨Nat.le_of_ble_eq_true rfl, Nat.le_of_ble_eq_true rfl⟩ (rp_report0 hM S20.2.2.2.1 (r32 (by decide) (by decide)) (r32 (by omega) (by omega))) x_d (k_d0 ?_)
          refine j_mn (fun g35 hg35 => ?_)
          have S35 : RE g35 m T ((-4), (sk T (p))) := by rw [hg35]; exact S20.err (by decide)
          have F35 : FM g g35 m := by rw [hg35]; exact (F20.up (by decide)).up (by decide)
          refine j_aload_n 77 1 dX10_readCall_76 rfl rfl ?_
          refine j_callV 80 (As := []) (kc2 := 0) (ks2 := 0) dX10_readCall_77 rfl mvX10_isGood lk_X10_61 hM.md rfl ⟨Nat.le_of_ble_eq_true rfl, rfl⟩ rfl rfl (Nat.le_of_ble_eq_true rfl) ⟨Nat.le_of_ble_eq_true rfl, Nat.le_of_ble_eq_true rfl⟩ ⟨Nat.le_of_ble_eq_true rfl, Nat.le_of_ble_eq_true rfl⟩ (rp_isGood hM) x_d (k_d1 ?_)
          refine j_top (y := 0) (by rw [decide_eq_false (by have h1 := S35.2.2.1; have h2 := S35.2.2.2.2; dsimp only at h1 h2; omega)]; rfl) ?_
          refine j_if_ne 83 84 dX10_readCall_80 rfl rfl (r32 (by decide) (by decide)) (fun c_80 => absurd c_80 (by decide)) (fun c_80 => ?_)
          exact j_vret dX10_readCall_83 rfl (⟨rfl, rfl, F35.fd, by
            rw [show P_call T st d s p = .inr ((-4), (sk T (p))) from by unfold P_call; rw [if_neg (show ¬ 40 ≤ d 5 by omega), if_neg hA.1, if_pos (Or.inl (by omega))]]
            exact S35⟩)
    ·
      rw [digS_2 hA] at S20
      refine j_aload_n 26 0 dX10_readCall_25 rfl rfl ?_
      refine j_geti 29 dX10_readCall_26 rfl fl_X10_97 hM.md rfl rfl (fun r_26 => ?_)
      refine j_bipush 31 dX10_readCall_29 rfl (by decide) ?_
      refine j_icmp_le 34 38 dX10_readCall_31 rfl rfl r_26 (r32 (by decide) (by decide)) (fun c_31_36 => ?_) (fun c_31_36 => ?_)
      · skip
        refine j_aload_n 39 0 dX10_readCall_38 rfl rfl ?_
        refine j_getr 42 dX10_readCall_39 rfl fl_X10_20 hM.md rfl (fun _ _ => rfl) rfl ?_
        refine j_aload_n 43 0 dX10_readCall_42 rfl rfl ?_
        refine j_geti 46 dX10_readCall_43 rfl fl_X10_97 hM.md rfl rfl (fun r_43 => ?_)
        refine j_aload_n 47 0 dX10_readCall_46 rfl rfl ?_
        refine j_geti 50 dX10_readCall_47 rfl fl_X10_100 hM.md rfl rfl (fun r_47 => ?_)
        refine j_callS 53 (As := [.ref (m + 3), .int (i32 (g_22 (m) 16)), .int (i32 (g_22 (m) 17))]) (kc2 := 0) (ks2 := 0) dX10_readCall_50 rfl msX10_lineOf lk_X10_116 rfl rfl (Nat.le_of_ble_eq_true rfl) ⟨Nat.le_of_ble_eq_true rfl, Nat.le_of_ble_eq_true rfl⟩ ⟨Nat.le_of_ble_eq_true rfl, Nat.le_of_ble_eq_true rfl⟩ (r_lineOf hM.dra (show g_22 (m + 3) 2 ≤ 12 by rw [((F20.1 _ (by omega)).trans hd)]; omega) r_43 r_47) x_d (k_d1 ?_)
        refine j_istore_n 54 (L2 := [(2, .int (i32 (s_lineOf (g_22 (m + 3)) (g_22 (m) 16) (g_22 (m) 17)))), (0, .ref (m)), (1, .int (i32 (((st : Nat) : Int))))]) dX10_readCall_53 rfl rfl (Nat.le_of_ble_eq_true rfl) rfl ?_
        refine j_aload_n 55 1 dX10_readCall_54 rfl rfl ?_
        refine j_callV 58 (As := []) (kc2 := 0) (ks2 := 0) dX10_readCall_55 rfl mvX10_isGood lk_X10_61 hM.md rfl ⟨Nat.le_of_ble_eq_true rfl, rfl⟩ rfl rfl (Nat.le_of_ble_eq_true rfl) ⟨Nat.le_of_ble_eq_true rfl, Nat.le_of_ble_eq_true rfl⟩ ⟨Nat.le_of_ble_eq_true rfl, Nat.le_of_ble_eq_true rfl⟩ (rp_isGood hM) x_d (k_d1 ?_)
        refine j_top (y := 0) (by rw [decide_eq_false (by have h1 := S20.2.2.1; have h2 := S20.2.2.2.2; dsimp only at h1 h2; omega)]; rfl) ?_
        refine j_if_eq 61 76 dX10_readCall_58 rfl rfl (r32 (by decide) (by decide)) (fun c_58 => ?_) (fun c_58 => absurd c_58 (by decide))
        refine j_aload_n 77 1 dX10_readCall_76 rfl rfl ?_
        refine j_callV 80 (As := []) (kc2 := 0) (ks2 := 0) dX10_readCall_77 rfl mvX10_isGood lk_X10_61 hM.md rfl ⟨Nat.le_of_ble_eq_true rfl, rfl⟩ rfl rfl (Nat.le_of_ble_eq_true rfl) ⟨Nat.le_of_ble_eq_true rfl, Nat.le_of_ble_eq_true rfl⟩ ⟨Nat.le_of_ble_eq_true rfl, Nat.le_of_ble_eq_true rfl⟩ (rp_isGood hM) x_d (k_d1 ?_)
        refine j_top (y := 0) (by rw [decide_eq_false (by have h1 := S20.2.2.1; have h2 := S20.2.2.2.2; dsimp only at h1 h2; omega)]; rfl) ?_
        refine j_if_ne 83 84 dX10_readCall_80 rfl rfl (r32 (by decide) (by decide)) (fun c_80 => absurd c_80 (by decide)) (fun c_80 => ?_)
        exact j_vret dX10_readCall_83 rfl (⟨rfl, rfl, F20.fd, by
          rw [show P_call T st d s p = .inr ((-2), (sk T (p))) from by unfold P_call; rw [if_neg (show ¬ 40 ≤ d 5 by omega), if_pos hA]]
          exact S20⟩)
      · skip
        refine j_iconst 35 dX10_readCall_34 rfl ?_
        refine j_goto 53 dX10_readCall_35 rfl ?_
        refine j_istore_n 54 (L2 := [(2, .int (i32 (-1))), (0, .ref (m)), (1, .int (i32 (((st : Nat) : Int))))]) dX10_readCall_53 rfl rfl (Nat.le_of_ble_eq_true rfl) rfl ?_
        refine j_aload_n 55 1 dX10_readCall_54 rfl rfl ?_
        refine j_callV 58 (As := []) (kc2 := 0) (ks2 := 0) dX10_readCall_55 rfl mvX10_isGood lk_X10_61 hM.md rfl ⟨Nat.le_of_ble_eq_true rfl, rfl⟩ rfl rfl (Nat.le_of_ble_eq_true rfl) ⟨Nat.le_of_ble_eq_true rfl, Nat.le_of_ble_eq_true rfl⟩ ⟨Nat.le_of_ble_eq_true rfl, Nat.le_of_ble_eq_true rfl⟩ (rp_isGood hM) x_d (k_d1 ?_)
        refine j_top (y := 0) (by rw [decide_eq_false (by have h1 := S20.2.2.1; have h2 := S20.2.2.2.2; dsimp only at h1 h2; omega)]; rfl) ?_
        refine j_if_eq 61 76 dX10_readCall_58 rfl rfl (r32 (by decide) (by decide)) (fun c_58 => ?_) (fun c_58 => absurd c_58 (by decide))
        refine j_aload_n 77 1 dX10_readCall_76 rfl rfl ?_
        refine j_callV 80 (As := []) (kc2 := 0) (ks2 := 0) dX10_readCall_77 rfl mvX10_isGood lk_X10_61 hM.md rfl ⟨Nat.le_of_ble_eq_true rfl, rfl⟩ rfl rfl (Nat.le_of_ble_eq_true rfl) ⟨Nat.le_of_ble_eq_true rfl, Nat.le_of_ble_eq_true rfl⟩ ⟨Nat.le_of_ble_eq_true rfl, Nat.le_of_ble_eq_true rfl⟩ (rp_isGood hM) x_d (k_d1 ?_)
        refine j_top (y := 0) (by rw [decide_eq_false (by have h1 := S20.2.2.1; have h2 := S20.2.2.2.2; dsimp only at h1 h2; omega)]; rfl) ?_
        refine j_if_ne 83 84 dX10_readCall_80 rfl rfl (r32 (by decide) (by decide)) (fun c_80 => absurd c_80 (by decide)) (fun c_80 => ?_)
        exact j_vret dX10_readCall_83 rfl (⟨rfl, rfl, F20.fd, by
          rw [show P_call T st d s p = .inr ((-2), (sk T (p))) from by unfold P_call; rw [if_neg (show ¬ 40 ≤ d 5 by omega), if_pos hA]]
          exact S20⟩)
    · exfalso; omega
  · skip
    refine j_aload_n 12 0 dX10_readCall_11 rfl rfl ?_
    refine j_bipush 14 dX10_readCall_12 rfl (by decide) ?_
    refine j_iload_n 15 1 dX10_readCall_14 rfl rfl ?_
    refine j_callV 18 (As := [.int (i32 (-5)), .int (i32 (((st : Nat) : Int)))]) (kc2 := 0) (ks2 := 0) dX10_readCall_15 rfl mvX10_report lk_X10_78 hM.md rfl ⟨Nat.le_of_ble_eq_true rfl, rfl⟩ rfl rfl (Nat.le_of_ble_eq_true rfl) ⟨Nat.le_of_ble_eq_true rfl, Nat.le_of_ble_eq_true rfl⟩ ⟨Nat.le_of_ble_eq_true rfl, Nat.le_of_ble_eq_true rfl⟩ (rp_report0 hM h0.2.2.2.1 (r32 (by decide) (by decide)) (r32 (by omega) (by omega))) x_d (k_d0 ?_)
    refine j_mn (fun g37 hg37 => ?_)
    have S37 : RE g37 m T ((-5), st) := by rw [hg37]; exact h0.err (by decide)
    have F37 : FM g g37 m := by rw [hg37]; exact (F0.up (by decide)).up (by decide)
    refine j_aload_n 19 0 dX10_readCall_18 rfl rfl ?_
    refine j_sipush 22 dX10_readCall_19 rfl (by decide) ?_
    refine j_callV 25 (As := [.int (i32 (700))]) (kc2 := 0) (ks2 := 0) dX10_readCall_22 rfl mvX10_readDigits lk_X10_112 hM.md rfl ⟨Nat.le_of_ble_eq_true rfl, rfl⟩ rfl rfl (Nat.le_of_ble_eq_true rfl) ⟨Nat.le_of_ble_eq_true rfl, Nat.le_of_ble_eq_true rfl⟩ ⟨Nat.le_of_ble_eq_true rfl, Nat.le_of_ble_eq_true rfl⟩ (rp_digits hM (by decide) (st := (.inr ((-5), st))) S37) x_v (k_v fun g_22 h_22 => ?_)
    obtain ⟨Fz38, S38, C38⟩ := h_22
    have F38 := F37.tr Fz38
    have S38 : RE g_22 m T ((-5), st) := S38
    refine j_aload_n 26 0 dX10_readCall_25 rfl rfl ?_
    refine j_geti 29 dX10_readCall_26 rfl fl_X10_97 hM.md rfl rfl (fun r_26 => ?_)
    refine j_bipush 31 dX10_readCall_29 rfl (by decide) ?_
    refine j_icmp_le 34 38 dX10_readCall_31 rfl rfl r_26 (r32 (by decide) (by decide)) (fun c_31_39 => ?_) (fun c_31_39 => ?_)
    · skip
      refine j_aload_n 39 0 dX10_readCall_38 rfl rfl ?_
      refine j_getr 42 dX10_readCall_39 rfl fl_X10_20 hM.md rfl (fun _ _ => rfl) rfl ?_
      refine j_aload_n 43 0 dX10_readCall_42 rfl rfl ?_
      refine j_geti 46 dX10_readCall_43 rfl fl_X10_97 hM.md rfl rfl (fun r_43 => ?_)
      refine j_aload_n 47 0 dX10_readCall_46 rfl rfl ?_
      refine j_geti 50 dX10_readCall_47 rfl fl_X10_100 hM.md rfl rfl (fun r_47 => ?_)
      refine j_callS 53 (As := [.ref (m + 3), .int (i32 (g_22 (m) 16)), .int (i32 (g_22 (m) 17))]) (kc2 := 0) (ks2 := 0) dX10_readCall_50 rfl msX10_lineOf lk_X10_116 rfl rfl (Nat.le_of_ble_eq_true rfl) ⟨Nat.le_of_ble_eq_true rfl, Nat.le_of_ble_eq_true rfl⟩ ⟨Nat.le_of_ble_eq_true rfl, Nat.le_of_ble_eq_true rfl⟩ (r_lineOf hM.dra (show g_22 (m + 3) 2 ≤ 12 by rw [((F38.1 _ (by omega)).trans hd)]; omega) r_43 r_47) x_d (k_d1 ?_)
      refine j_istore_n 54 (L2 := [(2, .int (i32 (s_lineOf (g_22 (m + 3)) (g_22 (m) 16) (g_22 (m) 17)))), (0, .ref (m)), (1, .int (i32 (((st : Nat) : Int))))]) dX10_readCall_53 rfl rfl (Nat.le_of_ble_eq_true rfl) rfl ?_
      refine j_aload_n 55 1 dX10_readCall_54 rfl rfl ?_
      refine j_callV 58 (As := []) (kc2 := 0) (ks2 := 0) dX10_readCall_55 rfl mvX10_isGood lk_X10_61 hM.md rfl ⟨Nat.le_of_ble_eq_true rfl, rfl⟩ rfl rfl (Nat.le_of_ble_eq_true rfl) ⟨Nat.le_of_ble_eq_true rfl, Nat.le_of_ble_eq_true rfl⟩ ⟨Nat.le_of_ble_eq_true rfl, Nat.le_of_ble_eq_true rfl⟩ (rp_isGood hM) x_d (k_d1 ?_)
      refine j_top (y := 0) (by rw [decide_eq_false (by have h1 := S38.2.2.1; have h2 := S38.2.2.2.2; dsimp only at h1 h2; omega)]; rfl) ?_
      refine j_if_eq 61 76 dX10_readCall_58 rfl rfl (r32 (by decide) (by decide)) (fun c_58 => ?_) (fun c_58 => absurd c_58 (by decide))
      refine j_aload_n 77 1 dX10_readCall_76 rfl rfl ?_
      refine j_callV 80 (As := []) (kc2 := 0) (ks2 := 0) dX10_readCall_77 rfl mvX10_isGood lk_X10_61 hM.md rfl ⟨Nat.le_of_ble_eq_true rfl, rfl⟩ rfl rfl (Nat.le_of_ble_eq_true rfl) ⟨Nat.le_of_ble_eq_true rfl, Nat.le_of_ble_eq_true rfl⟩ ⟨Nat.le_of_ble_eq_true rfl, Nat.le_of_ble_eq_true rfl⟩ (rp_isGood hM) x_d (k_d1 ?_)
      refine j_top (y := 0) (by rw [decide_eq_false (by have h1 := S38.2.2.1; have h2 := S38.2.2.2.2; dsimp only at h1 h2; omega)]; rfl) ?_
      refine j_if_ne 83 84 dX10_readCall_80 rfl rfl (r32 (by decide) (by decide)) (fun c_80 => absurd c_80 (by decide)) (fun c_80 => ?_)
      exact j_vret dX10_readCall_83 rfl (⟨rfl, rfl, F38.fd, by
        rw [show P_call T st d s p = .inr ((-5), st) from by unfold P_call; rw [if_pos (by omega)]]
        exact S38⟩)
    · skip
      refine j_iconst 35 dX10_readCall_34 rfl ?_
      refine j_goto 53 dX10_readCall_35 rfl ?_
      refine j_istore_n 54 (L2 := [(2, .int (i32 (-1))), (0, .ref (m)), (1, .int (i32 (((st : Nat) : Int))))]) dX10_readCall_53 rfl rfl (Nat.le_of_ble_eq_true rfl) rfl ?_
      refine j_aload_n 55 1 dX10_readCall_54 rfl rfl ?_
      refine j_callV 58 (As := []) (kc2 := 0) (ks2 := 0) dX10_readCall_55 rfl mvX10_isGood lk_X10_61 hM.md rfl ⟨Nat.le_of_ble_eq_true rfl, rfl⟩ rfl rfl (Nat.le_of_ble_eq_true rfl) ⟨Nat.le_of_ble_eq_true rfl, Nat.le_of_ble_eq_true rfl⟩ ⟨Nat.le_of_ble_eq_true rfl, Nat.le_of_ble_eq_true rfl⟩ (rp_isGood hM) x_d (k_d1 ?_)
      refine j_top (y := 0) (by rw [decide_eq_false (by have h1 := S38.2.2.1; have h2 := S38.2.2.2.2; dsimp only at h1 h2; omega)]; rfl) ?_
      refine j_if_eq 61 76 dX10_readCall_58 rfl rfl (r32 (by decide) (by decide)) (fun c_58 => ?_) (fun c_58 => absurd c_58 (by decide))
      refine j_aload_n 77 1 dX10_readCall_76 rfl rfl ?_
      refine j_callV 80 (As := []) (kc2 := 0) (ks2 := 0) dX10_readCall_77 rfl mvX10_isGood lk_X10_61 hM.md rfl ⟨Nat.le_of_ble_eq_true rfl, rfl⟩ rfl rfl (Nat.le_of_ble_eq_true rfl) ⟨Nat.le_of_ble_eq_true rfl, Nat.le_of_ble_eq_true rfl⟩ ⟨Nat.le_of_ble_eq_true rfl, Nat.le_of_ble_eq_true rfl⟩ (rp_isGood hM) x_d (k_d1 ?_)
      refine j_top (y := 0) (by rw [decide_eq_false (by have h1 := S38.2.2.1; have h2 := S38.2.2.2.2; dsimp only at h1 h2; omega)]; rfl) ?_
      refine j_if_ne 83 84 dX10_readCall_80 rfl rfl (r32 (by decide) (by decide)) (fun c_80 => absurd c_80 (by decide)) (fun c_80 => ?_)
      exact j_vret dX10_readCall_83 rfl (⟨rfl, rfl, F38.fd, by
        rw [show P_call T st d s p = .inr ((-5), st) from by unfold P_call; rw [if_pos (by omega)]]
        exact S38⟩)
