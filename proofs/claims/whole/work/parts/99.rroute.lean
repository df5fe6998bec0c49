/-! the reference's reader: routes -/
/-- as RP, but spaces may have been passed -/
def RP2 (g : Mem) (m : Nat) (T : Tx) (res : PR) : Mem → Prop := fun g2 => FD g g2 m ∧ match res with
  | .inl r => (∃ p, sk T p = sk T r.2.2 ∧ RG g2 m T p) ∧ g2 (m + 3) = r.1 ∧ SM g2 m r.2.1
  | .inr e => RE g2 m T e
theorem RP.two {g g2 : Mem} {m : Nat} {T : Tx} {res : PR} (h : RP g m T res g2) : RP2 g m T res g2 := by
  obtain ⟨h1, h2⟩ := h
  refine ⟨h1, ?_⟩
  cases res with
  | inl r => exact ⟨⟨_, rfl, h2.1⟩, h2.2⟩
  | inr e => exact h2
section CHS
variable {T : Tx} {s : Nat → Bool} {r : Nat} {fin : (Nat → Int) → Nat → (Nat → Int)} {f n p : Nat} {d : Nat → Int}
theorem ch_u : P_ch T s r fin (f + 1) d n p = if n = 3 then .inr (-2, sk T p) else kNam T p fun h t p2 =>
      if s_groupOf d h t = -1 ∨ chosen d r (s_groupOf d h t) n = true then .inr (-4, sk T p)
      else if isL (byT T (sk T p2)) = true then P_ch T s r fin f (ud d (99 + 7 * r + n) (s_groupOf d h t)) (n + 1) p2
      else .inl (fin (ud d (99 + 7 * r + n) (s_groupOf d h t)) (n + 1), s, p2) := rfl
theorem ch_sk : P_ch T s r fin (f + 1) d n (sk T p) = P_ch T s r fin (f + 1) d n p := by
  rw [ch_u, ch_u]
  unfold kNam
  rw [sk_sk]
end CHS

set_option linter.constructorNameAsVariable false in
set_option maxRecDepth 20000 in
theorem rp_readRoute {w : Wd} {sh : Shp} {g : Mem} {m : Nat} (hM : MdS sh.1 m) {T : Tx} {d : Nat → Int} {s : Nat → Bool} {p st : Nat} (h0 : RG g m T p) (hd : g (m + 3) = d) (hP : PInv d) (hS : SM g m s) (hst : st ≤ 1000)  : CT w mX10_readRoute [.ref (m), .int (i32 (((st : Nat) : Int)))] sh g (vQ sh (RP2 g m T (P_route T st d s p))) := by
  have hX := h0.1
  have h7 := hX.1
  have hTb := hX.2.2.2
  have hsk2 := sk_le h0.2.2.1
  have hp4 := h0.2.1
  have hpT := h0.2.2.1
  have h5 := h0.2.2.2.1
  have F0 : FM g g m := FM.rf
  have hbb := hP.1
  have hb2 := hbb.2.2.1
  have hb3 := hbb.2.2.2.1
  have hb4 := hbb.2.2.2.2.1
  have hb5 := hbb.2.2.2.2.2.1
  refine j_entry (by decide) rfl (Nat.le_of_ble_eq_true rfl) (fun h => by cases h) rfl ?_
  show J w mX10_readRoute 0 [(0, .ref (m)), (1, .int (i32 (((st : Nat) : Int))))] [] sh g 0 0 _
  refine j_aload_n 1 0 dX10_readRoute_0 rfl rfl ?_
  refine j_getr 4 dX10_readRoute_1 rfl fl_X10_20 hM.md rfl (fun _ _ => rfl) rfl ?_
  refine j_iconst 5 dX10_readRoute_4 rfl ?_
  refine j_iald 6 4 dX10_readRoute_5 rfl hM.dra rfl rfl (show 4 < 729 by omega) (fun r_5 => ?_)
  refine j_top (y := d 4) (congrFun hd 4) ?_
  refine j_bipush 8 dX10_readRoute_6 rfl (by decide) ?_
  refine j_icmp_ne 11 18 dX10_readRoute_8 rfl rfl ⟨by omega, by omega⟩ (r32 (by decide) (by decide)) (fun c_8_1 => ?_) (fun c_8_1 => ?_)
  · skip
    refine j_aload_n 19 0 dX10_readRoute_18 rfl rfl ?_
    refine j_iconst 20 dX10_readRoute_19 rfl ?_
    refine j_callV 23 (As := [.int (i32 (5))]) (kc2 := 0) (ks2 := 0) dX10_readRoute_20 rfl mvX10_readDigits lk_X10_112 hM.md rfl ⟨Nat.le_of_ble_eq_true rfl, rfl⟩ rfl rfl (Nat.le_of_ble_eq_true rfl) ⟨Nat.le_of_ble_eq_true rfl, Nat.le_of_ble_eq_true rfl⟩ ⟨Nat.le_of_ble_eq_true rfl, Nat.le_of_ble_eq_true rfl⟩ (rp_digits hM (by decide) (st := (.inl (p))) h0) x_v (k_v fun g_20 h_20 => ?_)
    obtain ⟨Fz2, S2, C2⟩ := h_20
    have F2 := F0.tr Fz2
    obtain ⟨D15_2, D16_2, D17_2⟩ := C2 _ rfl
    have hdl2 : (sk T (p)) + dn T (sk T (p)) ≤ T.2 := rn_le hD (sk_le h0.2.2.1)
    rcases digC T (sk T (p)) 5 with hA | hA | hA
    ·
      rw [digS_1 hA] at S2
      refine j_iconst 24 dX10_readRoute_23 rfl ?_
      refine j_istore_n 25 (L2 := [(2, .int (i32 (0))), (0, .ref (m)), (1, .int (i32 (((st : Nat) : Int))))]) dX10_readRoute_24 rfl rfl (Nat.le_of_ble_eq_true rfl) rfl ?_
      have hd4 : g_20 (m + 3) = d := ((F2.1 _ (by omega)).trans hd)
      have hbvA := bv_rng (bd_of (T := T) (q := (sk T (p))) _ (Nat.le_refl _))
      have hpwA : pw (dn T (sk T (p))) ≤ 1000000 := (pw_le (show dn T (sk T (p)) ≤ 6 by omega) : pw _ ≤ pw 6)
      have hdvA : g_20 m 17 = bv (fT T (sk T (p))) (dn T (sk T (p))) := D17_2.trans (dvF_bv _ (by omega))
      suffices lp_25 : ∀ (n_25 i : Nat), 8 - i < n_25 → i ≤ 8 → (∀ j, j < i → (fun (r : Nat) => decide ((r : Int) < d 4) && (decide (d (95 + 7 * r) = ((dn T (sk T (p)) : Nat) : Int)) && decide (d (96 + 7 * r) = bv (fT T (sk T (p))) (dn T (sk T (p)))))) j = false) → J w mX10_readRoute 25 [(2, .int (i32 ((i : Nat) : Int))), (0, .ref m), (1, .int (i32 ((st : Nat) : Int)))] [] sh g_20 0 0 (vQ sh (RP2 g m T (P_route T st d s p))) by
        refine j_sub [0, 1, 2] rfl ?_
        exact lp_25 _ 0 (Nat.lt_succ_self _) (by omega) (fun j hj => absurd hj (Nat.not_lt_zero j))
      intro n_25
      induction n_25 with
      | zero => intro i h_; exact absurd h_ (Nat.not_lt_zero _)
      | succ n_25 ih_25 =>
        intro i hn_25 hi8 hpr
        refine j_iload_n 26 0 dX10_readRoute_25 rfl rfl ?_
        refine j_aload_n 27 1 dX10_readRoute_26 rfl rfl ?_
        refine j_getr 30 dX10_readRoute_27 rfl fl_X10_20 hM.md rfl (fun _ _ => rfl) rfl ?_
        refine j_iconst 31 dX10_readRoute_30 rfl ?_
        refine j_iald 32 4 dX10_readRoute_31 rfl hM.dra rfl rfl (show 4 < 729 by omega) (fun r_31 => ?_)
        refine j_top (y := d 4) (congrFun ((F2.1 _ (by omega)).trans hd) 4) ?_
        refine j_icmp_ge 35 100 dX10_readRoute_32 rfl rfl (r32 (by omega) (by omega)) ⟨by omega, by omega⟩ (fun c_32_3 => ?_) (fun c_32_3 => ?_)
        · skip
          have hpn : s_prefAt d (dn T (sk T (p))) (bv (fT T (sk T (p))) (dn T (sk T (p)))) = -1 := fst_none (fun j hj => by
            rcases Nat.lt_or_ge j i with z | z
            · exact hpr j z
            · show (decide ((j : Int) < d 4) && _) = false; rw [decide_eq_false (by omega)]; rfl)
          refine j_aload_n 101 1 dX10_readRoute_100 rfl rfl ?_
          refine j_geti 104 dX10_readRoute_101 rfl fl_X10_97 hM.md rfl rfl (fun r_101 => ?_)
          refine j_top (y := ((dn T (sk T (p)) : Nat) : Int)) (D16_2) ?_
          refine j_istore_n 105 (L2 := [(2, .int (i32 (((dn T (sk T (p)) : Nat) : Int)))), (0, .ref (m)), (1, .int (i32 (((st : Nat) : Int))))]) dX10_readRoute_104 rfl rfl (Nat.le_of_ble_eq_true rfl) rfl ?_
          refine j_aload_n 106 1 dX10_readRoute_105 rfl rfl ?_
          refine j_geti 109 dX10_readRoute_106 rfl fl_X10_100 hM.md rfl rfl (fun r_106 => ?_)
          refine j_top (y := bv (fT T (sk T (p))) (dn T (sk T (p)))) (hdvA) ?_
          refine j_istore_n 110 (L2 := [(3, .int (i32 (bv (fT T (sk T (p))) (dn T (sk T (p)))))), (2, .int (i32 (((dn T (sk T (p)) : Nat) : Int)))), (0, .ref (m)), (1, .int (i32 (((st : Nat) : Int))))]) dX10_readRoute_109 rfl rfl (Nat.le_of_ble_eq_true rfl) rfl ?_
          refine j_aload_n 111 2 dX10_readRoute_110 rfl rfl ?_
          refine j_iconst 112 dX10_readRoute_111 rfl ?_
          refine j_iload_n 113 1 dX10_readRoute_112 rfl rfl ?_
          refine j_callS 116 (As := [.int (i32 (1)), .int (i32 (((dn T (sk T (p)) : Nat) : Int)))]) (kc2 := 0) (ks2 := 0) dX10_readRoute_113 rfl msX10_max lk_X10_129 rfl rfl (Nat.le_of_ble_eq_true rfl) ⟨Nat.le_of_ble_eq_true rfl, Nat.le_of_ble_eq_true rfl⟩ ⟨Nat.le_of_ble_eq_true rfl, Nat.le_of_ble_eq_true rfl⟩ (r_max (r32 (by decide) (by decide)) (r32 (by omega) (by omega))) x_d (k_d1 ?_)
          refine j_top (y := ((dn T (sk T (p)) : Nat) : Int)) (if_neg (by omega)) ?_
          refine j_bipush 118 dX10_readRoute_116 rfl (by decide) ?_
          refine j_callV 121 (As := [.int (i32 (((dn T (sk T (p)) : Nat) : Int))), .int (i32 (6))]) (kc2 := 0) (ks2 := 0) dX10_readRoute_118 rfl mvX10_number lk_X10_126 hM.md rfl ⟨Nat.le_of_ble_eq_true rfl, rfl⟩ rfl rfl (Nat.le_of_ble_eq_true rfl) ⟨Nat.le_of_ble_eq_true rfl, Nat.le_of_ble_eq_true rfl⟩ ⟨Nat.le_of_ble_eq_true rfl, Nat.le_of_ble_eq_true rfl⟩ (rp_number hM (by first | decide | omega) (by first | decide | omega) (by first | decide | omega) (by first | decide | omega) (st := (.inl ((sk T (p)) + dn T (sk T (p))))) S2) x_i (k_i fun z_118 g_118 h_118 => ?_)
          obtain ⟨Fz4, hz4, S4⟩ := h_118
          have F4 := F2.tr Fz4
          have hdl4 : (sk T ((sk T (p)) + dn T (sk T (p)))) + dn T (sk T ((sk T (p)) + dn T (sk T (p)))) ≤ T.2 := rn_le hD (sk_le S2.2.2.1)
          rcases numC T (sk T ((sk T (p)) + dn T (sk T (p)))) (((dn T (sk T (p)) : Nat) : Int)) (6) with hB | hB | hB
          ·
            rw [numS_1 hB] at hz4 S4
            refine j_top (y := nv T (sk T ((sk T (p)) + dn T (sk T (p))))) hz4 ?_
            refine j_istore 123 (L2 := [(4, .int (i32 (nv T (sk T ((sk T (p)) + dn T (sk T (p))))))), (3, .int (i32 (bv (fT T (sk T (p))) (dn T (sk T (p)))))), (2, .int (i32 (((dn T (sk T (p)) : Nat) : Int)))), (0, .ref (m)), (1, .int (i32 (((st : Nat) : Int))))]) dX10_readRoute_121 rfl (Nat.le_of_ble_eq_true rfl) rfl ?_
            refine j_iconst 124 dX10_readRoute_123 rfl ?_
            refine j_istore 126 (L2 := [(5, .int (i32 (0))), (4, .int (i32 (nv T (sk T ((sk T (p)) + dn T (sk T (p))))))), (3, .int (i32 (bv (fT T (sk T (p))) (dn T (sk T (p)))))), (2, .int (i32 (((dn T (sk T (p)) : Nat) : Int)))), (0, .ref (m)), (1, .int (i32 (((st : Nat) : Int))))]) dX10_readRoute_124 rfl (Nat.le_of_ble_eq_true rfl) rfl ?_
            refine j_aload_n 127 4 dX10_readRoute_126 rfl rfl ?_
            refine j_callV 130 (As := []) (kc2 := 0) (ks2 := 0) dX10_readRoute_127 rfl mvX10_isGood lk_X10_61 hM.md rfl ⟨Nat.le_of_ble_eq_true rfl, rfl⟩ rfl rfl (Nat.le_of_ble_eq_true rfl) ⟨Nat.le_of_ble_eq_true rfl, Nat.le_of_ble_eq_true rfl⟩ ⟨Nat.le_of_ble_eq_true rfl, Nat.le_of_ble_eq_true rfl⟩ (rp_isGood hM) x_d (k_d1 ?_)
            refine j_top (y := 1) (by rw [decide_eq_true S4.2.2.2.1]; rfl) ?_
            refine j_if_ne 133 134 dX10_readRoute_130 rfl rfl (r32 (by decide) (by decide)) (fun c_130 => ?_) (fun c_130 => absurd c_130 (by decide))
            obtain ⟨c, hc⟩ := Int.eq_ofNat_of_zero_le hb4.1
            have hc8 : c < 8 := by omega
            have hres0 : P_route T st d s p = P_ch T s c (fun e k => a_route e (dn T (sk T (p))) (bv (fT T (sk T (p))) (dn T (sk T (p)))) (nv T (sk T ((sk T (p)) + dn T (sk T (p))))) k) 4 d 0 ((sk T ((sk T (p)) + dn T (sk T (p)))) + dn T (sk T ((sk T (p)) + dn T (sk T (p))))) := by unfold P_route; rw [if_neg (show ¬ 8 ≤ d 4 by omega), kDig_1 hA, if_pos hpn, kNum_1 hB, hc, Int.toNat_natCast]
            generalize hFI : (fun (e : Nat → Int) (k : Nat) => a_route e (dn T (sk T (p))) (bv (fT T (sk T (p))) (dn T (sk T (p)))) (nv T (sk T ((sk T (p)) + dn T (sk T (p))))) k) = fin at hres0
            generalize hRS : P_route T st d s p = res at hres0 ⊢
            refine j_bipush 136 dX10_readRoute_134 rfl (by decide) ?_
            refine j_bipush 138 dX10_readRoute_136 rfl (by decide) ?_
            refine j_aload_n 139 4 dX10_readRoute_138 rfl rfl ?_
            refine j_getr 142 dX10_readRoute_139 rfl fl_X10_20 hM.md rfl (fun _ _ => rfl) rfl ?_
            refine j_iconst 143 dX10_readRoute_142 rfl ?_
            refine j_iald 144 4 dX10_readRoute_143 rfl hM.dra rfl rfl (show 4 < 729 by omega) (fun r_143 => ?_)
            refine j_top (y := (c : Int)) ((congrFun ((F4.1 _ (by omega)).trans hd) 4).trans hc) ?_
            refine j_imul 145 dX10_readRoute_144 rfl ?_
            refine j_iadd 146 dX10_readRoute_145 rfl ?_
            refine j_top (y := ((95 + 7 * c : Nat) : Int)) (by omega) ?_
            refine j_istore 148 (L2 := [(6, .int (i32 (((95 + 7 * c : Nat) : Int)))), (5, .int (i32 (0))), (4, .int (i32 (nv T (sk T ((sk T (p)) + dn T (sk T (p))))))), (3, .int (i32 (bv (fT T (sk T (p))) (dn T (sk T (p)))))), (2, .int (i32 (((dn T (sk T (p)) : Nat) : Int)))), (0, .ref (m)), (1, .int (i32 (((st : Nat) : Int))))]) dX10_readRoute_146 rfl (Nat.le_of_ble_eq_true rfl) rfl ?_
            have hSM0 : SM g_118 m s := hS.fm F4
            suffices lp_148 : ∀ (n_148 n : Nat) (e2 : Nat → Int) (p2 : Nat) (gk : Mem), 4 - n < n_148 → n ≤ 3 → RG gk m T p2 → gk (m + 3) = e2 → FD g gk m → SM gk m s → (∀ j, (j < 99 + 7 * c ∨ 102 + 7 * c ≤ j) → e2 j = d j) → res = P_ch T s c fin (4 - n) e2 n p2 → J w mX10_readRoute 148 [(5, .int (i32 ((n : Nat) : Int))), (6, .int (i32 (((95 + 7 * c : Nat) : Int)))), (4, .int (i32 (nv T (sk T ((sk T (p)) + dn T (sk T (p))))))), (3, .int (i32 (bv (fT T (sk T (p))) (dn T (sk T (p)))))), (2, .int (i32 (((dn T (sk T (p)) : Nat) : Int)))), (0, .ref (m)), (1, .int (i32 (((st : Nat) : Int))))] [] sh gk 0 0 (vQ sh (RP2 g m T res)) by
              refine j_sub [1, 0, 2, 3, 4, 5, 6] rfl ?_
              exact lp_148 _ 0 d _ _ (Nat.lt_succ_self _) (by omega) S4 ((F4.1 _ (by omega)).trans hd) F4.fd hSM0 (fun _ _ => rfl) hres0
            intro n_148
            induction n_148 with
            | zero => intro n e2 p2 gk h_; exact absurd h_ (Nat.not_lt_zero _)
            | succ n_148 ih_148 =>
              intro n e2 p2 gk hn_148 hn3 HG hgk FK HS he2 hres
              obtain ⟨f9, hf9⟩ : ∃ f9, 4 - n = f9 + 1 := ⟨3 - n, by omega⟩
              rw [hf9, ← ch_sk] at hres
              have hskp := sk_le HG.2.2.1
              have hskp2 := sk_le hskp
              have h43 : e2 3 = d 3 := he2 3 (by omega)
              have h44 : e2 4 = d 4 := he2 4 (by omega)
              refine j_aload_n 149 5 dX10_readRoute_148 rfl rfl ?_
              refine j_callV 152 (As := []) (kc2 := 0) (ks2 := 0) dX10_readRoute_149 rfl mvX10_ahead lk_X10_65 hM.md rfl ⟨Nat.le_of_ble_eq_true rfl, rfl⟩ rfl rfl (Nat.le_of_ble_eq_true rfl) ⟨Nat.le_of_ble_eq_true rfl, Nat.le_of_ble_eq_true rfl⟩ ⟨Nat.le_of_ble_eq_true rfl, Nat.le_of_ble_eq_true rfl⟩ (rp_ahead hM HG.1 HG.2.1 HG.2.2.1) x_d (k_d1 ?_)
              refine j_mn (fun g5 hg5 => ?_)
              have S5 : RG g5 m T (sk T p2) := by rw [hg5]; exact HG.mv hskp
              have F5 : FM gk g5 m := by rw [hg5]; exact FM.rf.up (by decide)
              refine j_istore 154 (L2 := [(7, .int (i32 (byT T (sk T p2)))), (5, .int (i32 (((n : Nat) : Int)))), (6, .int (i32 (((95 + 7 * c : Nat) : Int)))), (4, .int (i32 (nv T (sk T ((sk T (p)) + dn T (sk T (p))))))), (3, .int (i32 (bv (fT T (sk T (p))) (dn T (sk T (p)))))), (2, .int (i32 (((dn T (sk T (p)) : Nat) : Int)))), (0, .ref (m)), (1, .int (i32 (((st : Nat) : Int))))]) dX10_readRoute_152 rfl (Nat.le_of_ble_eq_true rfl) rfl ?_
              refine j_iload 156 1 dX10_readRoute_154 rfl rfl ?_
              refine j_iconst 157 dX10_readRoute_156 rfl ?_
              refine j_icmp_ne 160 170 dX10_readRoute_157 rfl rfl (r32 (by omega) (by omega)) (r32 (by decide) (by decide)) (fun c_157_6 => ?_) (fun c_157_6 => ?_)
              · skip
                refine j_aload_n 171 6 dX10_readRoute_170 rfl rfl ?_
                refine j_callV 174 (As := []) (kc2 := 0) (ks2 := 0) dX10_readRoute_171 rfl mvX10_readName lk_X10_120 hM.md rfl ⟨Nat.le_of_ble_eq_true rfl, rfl⟩ rfl rfl (Nat.le_of_ble_eq_true rfl) ⟨Nat.le_of_ble_eq_true rfl, Nat.le_of_ble_eq_true rfl⟩ ⟨Nat.le_of_ble_eq_true rfl, Nat.le_of_ble_eq_true rfl⟩ (rp_name hM (st := (.inl (sk T p2))) S5) x_v (k_v fun g_171 h_171 => ?_)
                obtain ⟨Fz7, S7, C7⟩ := h_171
                have F7 := F5.tr Fz7
                have hdl7 : (sk T (sk T p2)) + ln T (sk T (sk T p2)) ≤ T.2 := rn_le hL (sk_le S5.2.2.1)
                rcases namC T (sk T (sk T p2)) with hD | hD | hD
                ·
                  rw [namS_1 hD] at S7
                  obtain ⟨D18_7, D19_7, D20_7⟩ := C7 _ rfl hD.2
                  have hvn7 := (nm_parts hD.2 hD.1).1
                  refine j_aload_n 175 6 dX10_readRoute_174 rfl rfl ?_
                  refine j_getr 178 dX10_readRoute_175 rfl fl_X10_20 hM.md rfl (fun _ _ => rfl) rfl ?_
                  refine j_aload_n 179 6 dX10_readRoute_178 rfl rfl ?_
                  refine j_geti 182 dX10_readRoute_179 rfl fl_X10_106 hM.md rfl rfl (fun r_179 => ?_)
                  refine j_top (y := nmH T (sk T (sk T p2))) (D19_7) ?_
                  refine j_aload_n 183 6 dX10_readRoute_182 rfl rfl ?_
                  refine j_geti 186 dX10_readRoute_183 rfl fl_X10_109 hM.md rfl rfl (fun r_183 => ?_)
                  refine j_top (y := nmT T (sk T (sk T p2))) (D20_7) ?_
                  refine j_callS 189 (As := [.ref (m + 3), .int (i32 (nmH T (sk T (sk T p2)))), .int (i32 (nmT T (sk T (sk T p2))))]) (kc2 := 0) (ks2 := 0) dX10_readRoute_186 rfl msX10_groupOf lk_X10_123 rfl rfl (Nat.le_of_ble_eq_true rfl) ⟨Nat.le_of_ble_eq_true rfl, Nat.le_of_ble_eq_true rfl⟩ ⟨Nat.le_of_ble_eq_true rfl, Nat.le_of_ble_eq_true rfl⟩ (r_groupOf hM.dra (show g_171 (m + 3) 3 ≤ 5 by rw [((F7.1 _ (by omega)).trans hgk)]; omega) (by rw [← D19_7]; exact r_179) (by rw [← D20_7]; exact r_183)) x_d (k_d1 ?_)
                  refine j_top (y := s_groupOf e2 (nmH T (sk T (sk T p2))) (nmT T (sk T (sk T p2)))) (by rw [((F7.1 _ (by omega)).trans hgk)]) ?_
                  have hD9 : g_171 (m + 3) = e2 := ((F7.1 _ (by omega)).trans hgk)
                  refine j_istore 191 (L2 := [(8, .int (i32 (s_groupOf e2 (nmH T (sk T (sk T p2))) (nmT T (sk T (sk T p2)))))), (7, .int (i32 (byT T (sk T p2)))), (5, .int (i32 (((n : Nat) : Int)))), (6, .int (i32 (((95 + 7 * c : Nat) : Int)))), (4, .int (i32 (nv T (sk T ((sk T (p)) + dn T (sk T (p))))))), (3, .int (i32 (bv (fT T (sk T (p))) (dn T (sk T (p)))))), (2, .int (i32 (((dn T (sk T (p)) : Nat) : Int)))), (0, .ref (m)), (1, .int (i32 (((st : Nat) : Int))))]) dX10_readRoute_189 rfl (Nat.le_of_ble_eq_true rfl) rfl ?_
                  refine j_iload 193 0 dX10_readRoute_191 rfl rfl ?_
                  refine j_iconst 194 dX10_readRoute_193 rfl ?_
                  refine j_icmp_eq 197 201 dX10_readRoute_194 rfl rfl (fst_r32 _ (by decide)) (r32 (by decide) (by decide)) (fun c_194_8 => ?_) (fun c_194_8 => ?_)
                  · skip
                    refine j_iconst 202 dX10_readRoute_201 rfl ?_
                    refine j_istore 204 (L2 := [(9, .int (i32 (0))), (8, .int (i32 (s_groupOf e2 (nmH T (sk T (sk T p2))) (nmT T (sk T (sk T p2)))))), (7, .int (i32 (byT T (sk T p2)))), (5, .int (i32 (((n : Nat) : Int)))), (6, .int (i32 (((95 + 7 * c : Nat) : Int)))), (4, .int (i32 (nv T (sk T ((sk T (p)) + dn T (sk T (p))))))), (3, .int (i32 (bv (fT T (sk T (p))) (dn T (sk T (p)))))), (2, .int (i32 (((dn T (sk T (p)) : Nat) : Int)))), (0, .ref (m)), (1, .int (i32 (((st : Nat) : Int))))]) dX10_readRoute_202 rfl (Nat.le_of_ble_eq_true rfl) rfl ?_
                    refine j_iconst 205 dX10_readRoute_204 rfl ?_
                    refine j_istore 207 (L2 := [(10, .int (i32 (0))), (9, .int (i32 (0))), (8, .int (i32 (s_groupOf e2 (nmH T (sk T (sk T p2))) (nmT T (sk T (sk T p2)))))), (7, .int (i32 (byT T (sk T p2)))), (5, .int (i32 (((n : Nat) : Int)))), (6, .int (i32 (((95 + 7 * c : Nat) : Int)))), (4, .int (i32 (nv T (sk T ((sk T (p)) + dn T (sk T (p))))))), (3, .int (i32 (bv (fT T (sk T (p))) (dn T (sk T (p)))))), (2, .int (i32 (((dn T (sk T (p)) : Nat) : Int)))), (0, .ref (m)), (1, .int (i32 (((st : Nat) : Int))))]) dX10_readRoute_205 rfl (Nat.le_of_ble_eq_true rfl) rfl ?_
                    suffices lp_207 : ∀ (n_207 j : Nat), n - j < n_207 → j ≤ n → J w mX10_readRoute 207 [(10, .int (i32 ((j : Nat) : Int))), (9, .int (i32 (0))), (8, .int (i32 (s_groupOf e2 (nmH T (sk T (sk T p2))) (nmT T (sk T (sk T p2)))))), (7, .int (i32 (byT T (sk T p2)))), (5, .int (i32 (((n : Nat) : Int)))), (6, .int (i32 (((95 + 7 * c : Nat) : Int)))), (4, .int (i32 (nv T (sk T ((sk T (p)) + dn T (sk T (p))))))), (3, .int (i32 (bv (fT T (sk T (p))) (dn T (sk T (p)))))), (2, .int (i32 (((dn T (sk T (p)) : Nat) : Int)))), (0, .ref (m)), (1, .int (i32 (((st : Nat) : Int))))] [] sh g_171 0 0 (vQ sh (RP2 g m T res)) by
                      refine j_sub [0, 1, 2, 3, 4, 5, 6, 7, 8, 9, 10] rfl ?_
                      exact lp_207 _ 0 (Nat.lt_succ_self _) (by omega)
                    intro n_207
                    induction n_207 with
                    | zero => intro j h_; exact absurd h_ (Nat.not_lt_zero _)
                    | succ n_207 ih_207 =>
                      intro j hn_207 hjn
                      refine j_iload 209 0 dX10_readRoute_207 rfl rfl ?_
                      refine j_iload 211 4 dX10_readRoute_209 rfl rfl ?_
                      refine j_icmp_ge 214 249 dX10_readRoute_211 rfl rfl (r32 (by omega) (by omega)) (r32 (by omega) (by omega)) (fun c_211_10 => ?_) (fun c_211_10 => ?_)
                      · skip
                        have hjn2 : j = n := by omega
                        rw [hjn2]
                        refine j_aload_n 250 9 dX10_readRoute_249 rfl rfl ?_
                        refine j_callV 253 (As := []) (kc2 := 0) (ks2 := 0) dX10_readRoute_250 rfl mvX10_isGood lk_X10_61 hM.md rfl ⟨Nat.le_of_ble_eq_true rfl, rfl⟩ rfl rfl (Nat.le_of_ble_eq_true rfl) ⟨Nat.le_of_ble_eq_true rfl, Nat.le_of_ble_eq_true rfl⟩ ⟨Nat.le_of_ble_eq_true rfl, Nat.le_of_ble_eq_true rfl⟩ (rp_isGood hM) x_d (k_d1 ?_)
                        refine j_top (y := 1) (by rw [decide_eq_true S7.2.2.2.1]; rfl) ?_
                        refine j_if_eq 256 271 dX10_readRoute_253 rfl rfl (r32 (by decide) (by decide)) (fun c_253 => absurd c_253 (by decide)) (fun c_253 => ?_)
                        refine j_iload 258 1 dX10_readRoute_256 rfl rfl ?_
                        refine j_if_ne 261 271 dX10_readRoute_258 rfl rfl (r32 (by decide) (by decide)) (fun c_258 => absurd rfl c_258) (fun c_258 => ?_)
                        refine j_aload_n 262 9 dX10_readRoute_261 rfl rfl ?_
                        refine j_bipush 264 dX10_readRoute_262 rfl (by decide) ?_
                        refine j_aload_n 265 9 dX10_readRoute_264 rfl rfl ?_
                        refine j_geti 268 dX10_readRoute_265 rfl fl_X10_103 hM.md rfl rfl (fun r_265 => ?_)
                        refine j_top (y := (((sk T (sk T p2)) : Nat) : Int)) (D18_7) ?_
                        refine j_callV 271 (As := [.int (i32 (-4)), .int (i32 ((((sk T (sk T p2)) : Nat) : Int)))]) (kc2 := 0) (ks2 := 0) dX10_readRoute_268 rfl mvX10_report lk_X10_78 hM.md rfl ⟨Nat.le_of_ble_eq_true rfl, rfl⟩ rfl rfl (Nat.le_of_ble_eq_true rfl) ⟨Nat.le_of_ble_eq_true rfl, Nat.le_of_ble_eq_true rfl⟩ ⟨Nat.le_of_ble_eq_true rfl, Nat.le_of_ble_eq_true rfl⟩ (rp_report0 hM S7.2.2.2.1 (r32 (by decide) (by decide)) (r32 (by omega) (by omega))) x_d (k_d0 ?_)
                        refine j_mn (fun g11 hg11 => ?_)
                        have S11 : RE g11 m T ((-4), (sk T (sk T p2))) := by rw [hg11]; exact S7.err (by decide)
                        have F11 : FM gk g11 m := by rw [hg11]; exact (F7.up (by decide)).up (by decide)
                        refine j_aload_n 272 9 dX10_readRoute_271 rfl rfl ?_
                        refine j_callV 275 (As := []) (kc2 := 0) (ks2 := 0) dX10_readRoute_272 rfl mvX10_isGood lk_X10_61 hM.md rfl ⟨Nat.le_of_ble_eq_true rfl, rfl⟩ rfl rfl (Nat.le_of_ble_eq_true rfl) ⟨Nat.le_of_ble_eq_true rfl, Nat.le_of_ble_eq_true rfl⟩ ⟨Nat.le_of_ble_eq_true rfl, Nat.le_of_ble_eq_true rfl⟩ (rp_isGood hM) x_d (k_d1 ?_)
                        refine j_top (y := 0) (by rw [decide_eq_false (by have h1 := S11.2.2.1; have h2 := S11.2.2.2.2; dsimp only at h1 h2; omega)]; rfl) ?_
                        refine j_if_ne 278 279 dX10_readRoute_275 rfl rfl (r32 (by decide) (by decide)) (fun c_275 => absurd c_275 (by decide)) (fun c_275 => ?_)
                        exact j_vret dX10_readRoute_278 rfl (⟨rfl, rfl, FK.tr F11.fd, by
                          rw [show res = .inr ((-4), (sk T (sk T p2))) from hres.trans (by rw [ch_u, if_neg (show ¬ n = 3 by omega), kNam_1 hD, if_pos (Or.inl c_194_8)])]
                          exact S11⟩)
                      · skip
                        refine j_iload 216 1 dX10_readRoute_214 rfl rfl ?_
                        refine j_if_eq 219 240 dX10_readRoute_216 rfl rfl (r32 (by decide) (by decide)) (fun c_216 => ?_) (fun c_216 => absurd rfl c_216)
                        refine j_iconst 241 dX10_readRoute_240 rfl ?_
                        refine j_istore 243 (L2 := [(9, .int (i32 (0))), (10, .int (i32 (((j : Nat) : Int)))), (8, .int (i32 (s_groupOf e2 (nmH T (sk T (sk T p2))) (nmT T (sk T (sk T p2)))))), (7, .int (i32 (byT T (sk T p2)))), (5, .int (i32 (((n : Nat) : Int)))), (6, .int (i32 (((95 + 7 * c : Nat) : Int)))), (4, .int (i32 (nv T (sk T ((sk T (p)) + dn T (sk T (p))))))), (3, .int (i32 (bv (fT T (sk T (p))) (dn T (sk T (p)))))), (2, .int (i32 (((dn T (sk T (p)) : Nat) : Int)))), (0, .ref (m)), (1, .int (i32 (((st : Nat) : Int))))]) dX10_readRoute_241 rfl (Nat.le_of_ble_eq_true rfl) rfl ?_
                        refine j_iinc 246 1 (y := ((j + 1 : Nat) : Int)) (L2 := [(10, .int (i32 (((j + 1 : Nat) : Int)))), (9, .int (i32 (0))), (8, .int (i32 (s_groupOf e2 (nmH T (sk T (sk T p2))) (nmT T (sk T (sk T p2)))))), (7, .int (i32 (byT T (sk T p2)))), (5, .int (i32 (((n : Nat) : Int)))), (6, .int (i32 (((95 + 7 * c : Nat) : Int)))), (4, .int (i32 (nv T (sk T ((sk T (p)) + dn T (sk T (p))))))), (3, .int (i32 (bv (fT T (sk T (p))) (dn T (sk T (p)))))), (2, .int (i32 (((dn T (sk T (p)) : Nat) : Int)))), (0, .ref (m)), (1, .int (i32 (((st : Nat) : Int))))]) dX10_readRoute_243 rfl rfl (by omega) (Nat.le_of_ble_eq_true rfl) rfl ?_
                        refine j_goto 207 dX10_readRoute_246 rfl ?_
                        refine j_sub [0, 1, 2, 3, 4, 5, 6, 7, 8, 9, 10] rfl ?_
                        exact ih_207 (j + 1) (by omega) (by omega)
                  · skip
                    refine j_iconst 198 dX10_readRoute_197 rfl ?_
                    refine j_goto 202 dX10_readRoute_198 rfl ?_
                    refine j_istore 204 (L2 := [(9, .int (i32 (1))), (8, .int (i32 (s_groupOf e2 (nmH T (sk T (sk T p2))) (nmT T (sk T (sk T p2)))))), (7, .int (i32 (byT T (sk T p2)))), (5, .int (i32 (((n : Nat) : Int)))), (6, .int (i32 (((95 + 7 * c : Nat) : Int)))), (4, .int (i32 (nv T (sk T ((sk T (p)) + dn T (sk T (p))))))), (3, .int (i32 (bv (fT T (sk T (p))) (dn T (sk T (p)))))), (2, .int (i32 (((dn T (sk T (p)) : Nat) : Int)))), (0, .ref (m)), (1, .int (i32 (((st : Nat) : Int))))]) dX10_readRoute_202 rfl (Nat.le_of_ble_eq_true rfl) rfl ?_
                    refine j_iconst 205 dX10_readRoute_204 rfl ?_
                    refine j_istore 207 (L2 := [(10, .int (i32 (0))), (9, .int (i32 (1))), (8, .int (i32 (s_groupOf e2 (nmH T (sk T (sk T p2))) (nmT T (sk T (sk T p2)))))), (7, .int (i32 (byT T (sk T p2)))), (5, .int (i32 (((n : Nat) : Int)))), (6, .int (i32 (((95 + 7 * c : Nat) : Int)))), (4, .int (i32 (nv T (sk T ((sk T (p)) + dn T (sk T (p))))))), (3, .int (i32 (bv (fT T (sk T (p))) (dn T (sk T (p)))))), (2, .int (i32 (((dn T (sk T (p)) : Nat) : Int)))), (0, .ref (m)), (1, .int (i32 (((st : Nat) : Int))))]) dX10_readRoute_205 rfl (Nat.le_of_ble_eq_true rfl) rfl ?_
                    suffices lp_207 : ∀ (n_207 j : Nat), n - j < n_207 → j ≤ n → J w mX10_readRoute 207 [(10, .int (i32 ((j : Nat) : Int))), (9, .int (i32 (b01 (!chosen e2 c (s_groupOf e2 (nmH T (sk T (sk T p2))) (nmT T (sk T (sk T p2)))) j)))), (8, .int (i32 (s_groupOf e2 (nmH T (sk T (sk T p2))) (nmT T (sk T (sk T p2)))))), (7, .int (i32 (byT T (sk T p2)))), (5, .int (i32 (((n : Nat) : Int)))), (6, .int (i32 (((95 + 7 * c : Nat) : Int)))), (4, .int (i32 (nv T (sk T ((sk T (p)) + dn T (sk T (p))))))), (3, .int (i32 (bv (fT T (sk T (p))) (dn T (sk T (p)))))), (2, .int (i32 (((dn T (sk T (p)) : Nat) : Int)))), (0, .ref (m)), (1, .int (i32 (((st : Nat) : Int))))] [] sh g_171 0 0 (vQ sh (RP2 g m T res)) by
                      refine j_sub [0, 1, 2, 3, 4, 5, 6, 7, 8, 9, 10] rfl ?_
                      exact lp_207 _ 0 (Nat.lt_succ_self _) (by omega)
                    intro n_207
                    induction n_207 with
                    | zero => intro j h_; exact absurd h_ (Nat.not_lt_zero _)
                    | succ n_207 ih_207 =>
                      intro j hn_207 hjn
                      refine j_iload 209 0 dX10_readRoute_207 rfl rfl ?_
                      refine j_iload 211 4 dX10_readRoute_209 rfl rfl ?_
                      refine j_icmp_ge 214 249 dX10_readRoute_211 rfl rfl (r32 (by omega) (by omega)) (r32 (by omega) (by omega)) (fun c_211_13 => ?_) (fun c_211_13 => ?_)
                      · skip
                        have hjn2 : j = n := by omega
                        rw [hjn2]
                        refine j_aload_n 250 9 dX10_readRoute_249 rfl rfl ?_
                        refine j_callV 253 (As := []) (kc2 := 0) (ks2 := 0) dX10_readRoute_250 rfl mvX10_isGood lk_X10_61 hM.md rfl ⟨Nat.le_of_ble_eq_true rfl, rfl⟩ rfl rfl (Nat.le_of_ble_eq_true rfl) ⟨Nat.le_of_ble_eq_true rfl, Nat.le_of_ble_eq_true rfl⟩ ⟨Nat.le_of_ble_eq_true rfl, Nat.le_of_ble_eq_true rfl⟩ (rp_isGood hM) x_d (k_d1 ?_)
                        refine j_top (y := 1) (by rw [decide_eq_true S7.2.2.2.1]; rfl) ?_
                        refine j_if_eq 256 271 dX10_readRoute_253 rfl rfl (r32 (by decide) (by decide)) (fun c_253 => absurd c_253 (by decide)) (fun c_253 => ?_)
                        refine j_iload 258 1 dX10_readRoute_256 rfl rfl ?_
                        rcases (Bool.eq_false_or_eq_true (chosen e2 c (s_groupOf e2 (nmH T (sk T (sk T p2))) (nmT T (sk T (sk T p2)))) n)).symm with hch | hch
                        ·
                          refine j_top (y := 1) (by rw [hch]; rfl) ?_
                          refine j_if_ne 261 271 dX10_readRoute_258 rfl rfl (r32 (by decide) (by decide)) (fun c_258 => ?_) (fun c_258 => absurd c_258 (by decide))
                          have hnb : ¬ (s_groupOf e2 (nmH T (sk T (sk T p2))) (nmT T (sk T (sk T p2))) = -1 ∨ chosen e2 c (s_groupOf e2 (nmH T (sk T (sk T p2))) (nmT T (sk T (sk T p2)))) n = true) := fun z => by rcases z with z | z; exact c_194_8 z; rw [hch] at z; cases z
                          have hXr := s_groupOf_r c_194_8
                          refine j_aload_n 272 9 dX10_readRoute_271 rfl rfl ?_
                          refine j_callV 275 (As := []) (kc2 := 0) (ks2 := 0) dX10_readRoute_272 rfl mvX10_isGood lk_X10_61 hM.md rfl ⟨Nat.le_of_ble_eq_true rfl, rfl⟩ rfl rfl (Nat.le_of_ble_eq_true rfl) ⟨Nat.le_of_ble_eq_true rfl, Nat.le_of_ble_eq_true rfl⟩ ⟨Nat.le_of_ble_eq_true rfl, Nat.le_of_ble_eq_true rfl⟩ (rp_isGood hM) x_d (k_d1 ?_)
                          refine j_top (y := 1) (by rw [decide_eq_true S7.2.2.2.1]; rfl) ?_
                          refine j_if_ne 278 279 dX10_readRoute_275 rfl rfl (r32 (by decide) (by decide)) (fun c_275 => ?_) (fun c_275 => absurd c_275 (by decide))
                          refine j_aload_n 280 9 dX10_readRoute_279 rfl rfl ?_
                          refine j_getr 283 dX10_readRoute_280 rfl fl_X10_20 hM.md rfl (fun _ _ => rfl) rfl ?_
                          refine j_iload 285 5 dX10_readRoute_283 rfl rfl ?_
                          refine j_iconst 286 dX10_readRoute_285 rfl ?_
                          refine j_iadd 287 dX10_readRoute_286 rfl ?_
                          refine j_iload 289 4 dX10_readRoute_287 rfl rfl ?_
                          refine j_iadd 290 dX10_readRoute_289 rfl ?_
                          refine j_iload 292 2 dX10_readRoute_290 rfl rfl ?_
                          refine j_iast 293 (99 + 7 * c + n) dX10_readRoute_292 rfl hM.dra rfl (by omega) (show 99 + 7 * c + n < 729 by omega) (fst_r32 _ (by decide)) ?_
                          refine j_mn (fun g_292 hg_292 => ?_)
                          refine j_iinc 296 4 (y := ((n + 1 : Nat) : Int)) (L2 := [(5, .int (i32 (((n + 1 : Nat) : Int)))), (10, .int (i32 (((n : Nat) : Int)))), (9, .int (i32 (b01 (!chosen e2 c (s_groupOf e2 (nmH T (sk T (sk T p2))) (nmT T (sk T (sk T p2)))) n)))), (8, .int (i32 (s_groupOf e2 (nmH T (sk T (sk T p2))) (nmT T (sk T (sk T p2)))))), (7, .int (i32 (byT T (sk T p2)))), (6, .int (i32 (((95 + 7 * c : Nat) : Int)))), (4, .int (i32 (nv T (sk T ((sk T (p)) + dn T (sk T (p))))))), (3, .int (i32 (bv (fT T (sk T (p))) (dn T (sk T (p)))))), (2, .int (i32 (((dn T (sk T (p)) : Nat) : Int)))), (0, .ref (m)), (1, .int (i32 (((st : Nat) : Int))))]) dX10_readRoute_293 rfl rfl (by omega) (Nat.le_of_ble_eq_true rfl) rfl ?_
                          have S292 := S7.dr (k := 99 + 7 * c + n) (x := s_groupOf e2 (nmH T (sk T (sk T p2))) (nmT T (sk T (sk T p2))))
                          rw [← hg_292] at S292
                          have F292 : FD g g_292 m := by rw [hg_292]; exact (FK.tr F7.fd).dr
                          have M292 : SM g_292 m s := by rw [hg_292]; exact (HS.fm F7).dr
                          have D292 : g_292 (m + 3) = (ud e2 (99 + 7 * c + n) (s_groupOf e2 (nmH T (sk T (sk T p2))) (nmT T (sk T (sk T p2))))) := by rw [hg_292, up2_ud, ((F7.1 _ (by omega)).trans hgk)]
                          have hskq := sk_le S292.2.2.1
                          have hresN : res = (if isL (byT T (sk T ((sk T (sk T p2)) + ln T (sk T (sk T p2))))) = true then P_ch T s c fin f9 (ud e2 (99 + 7 * c + n) (s_groupOf e2 (nmH T (sk T (sk T p2))) (nmT T (sk T (sk T p2))))) (n + 1) ((sk T (sk T p2)) + ln T (sk T (sk T p2))) else .inl (fin (ud e2 (99 + 7 * c + n) (s_groupOf e2 (nmH T (sk T (sk T p2))) (nmT T (sk T (sk T p2))))) (n + 1), s, (sk T (sk T p2)) + ln T (sk T (sk T p2)))) := hres.trans (by rw [ch_u, if_neg (show ¬ n = 3 by omega), kNam_1 hD, if_neg hnb])
                          have he3 : ∀ j, (j < 99 + 7 * c ∨ 102 + 7 * c ≤ j) → (ud e2 (99 + 7 * c + n) (s_groupOf e2 (nmH T (sk T (sk T p2))) (nmT T (sk T (sk T p2))))) j = d j := fun j hj => by rw [ud_n (by omega)]; exact he2 j hj
                          refine j_aload_n 297 9 dX10_readRoute_296 rfl rfl ?_
                          refine j_callV 300 (As := []) (kc2 := 0) (ks2 := 0) dX10_readRoute_297 rfl mvX10_ahead lk_X10_65 hM.md rfl ⟨Nat.le_of_ble_eq_true rfl, rfl⟩ rfl rfl (Nat.le_of_ble_eq_true rfl) ⟨Nat.le_of_ble_eq_true rfl, Nat.le_of_ble_eq_true rfl⟩ ⟨Nat.le_of_ble_eq_true rfl, Nat.le_of_ble_eq_true rfl⟩ (rp_ahead hM S292.1 S292.2.1 S292.2.2.1) x_d (k_d1 ?_)
                          refine j_mn (fun g300 hg300 => ?_)
                          have S300 : RG g300 m T (sk T ((sk T (sk T p2)) + ln T (sk T (sk T p2)))) := by rw [hg300]; exact S292.mv hskq
                          have FZ300 : FM g_292 g300 m := by rw [hg300]; exact FM.rf.up (by decide)
                          have F300 : FD g g300 m := F292.tr FZ300.fd
                          have M300 : SM g300 m s := M292.fm FZ300
                          have D300 : g300 (m + 3) = (ud e2 (99 + 7 * c + n) (s_groupOf e2 (nmH T (sk T (sk T p2))) (nmT T (sk T (sk T p2))))) := (FZ300.1 _ (by omega)).trans D292
                          refine j_bipush 302 dX10_readRoute_300 rfl (by decide) ?_
                          refine j_bipush 304 dX10_readRoute_302 rfl (by decide) ?_
                          refine j_callS 307 (As := [.int (i32 (byT T (sk T ((sk T (sk T p2)) + ln T (sk T (sk T p2)))))), .int (i32 (97)), .int (i32 (122))]) (kc2 := 0) (ks2 := 0) dX10_readRoute_304 rfl msX10_in lk_X10_57 rfl rfl (Nat.le_of_ble_eq_true rfl) ⟨Nat.le_of_ble_eq_true rfl, Nat.le_of_ble_eq_true rfl⟩ ⟨Nat.le_of_ble_eq_true rfl, Nat.le_of_ble_eq_true rfl⟩ (r_in (by have := byT_r HG.1.2.2.2 (sk T ((sk T (sk T p2)) + ln T (sk T (sk T p2)))); exact ⟨by omega, by omega⟩) (r32 (by decide) (by decide)) (r32 (by decide) (by decide))) x_d (k_d1 ?_)
                          refine j_top (y := b01 (isL (byT T (sk T ((sk T (sk T p2)) + ln T (sk T (sk T p2))))))) rfl ?_
                          rcases (Bool.eq_false_or_eq_true (isL (byT T (sk T ((sk T (sk T p2)) + ln T (sk T (sk T p2))))))).symm with hiL | hiL
                          ·
                            refine j_top (y := 0) (by rw [hiL]; rfl) ?_
                            refine j_if_ne 310 148 dX10_readRoute_307 rfl rfl (r32 (by decide) (by decide)) (fun c_307 => absurd rfl c_307) (fun c_307 => ?_)
                            rw [if_neg (by rw [hiL]; decide)] at hresN
                            refine j_aload_n 311 9 dX10_readRoute_310 rfl rfl ?_
                            refine j_getr 314 dX10_readRoute_311 rfl fl_X10_20 hM.md rfl (fun _ _ => rfl) rfl ?_
                            refine j_iload 316 5 dX10_readRoute_314 rfl rfl ?_
                            refine j_iconst 317 dX10_readRoute_316 rfl ?_
                            refine j_iadd 318 dX10_readRoute_317 rfl ?_
                            refine j_iload_n 319 8 dX10_readRoute_318 rfl rfl ?_
                            refine j_iast 320 (95 + 7 * c) dX10_readRoute_319 rfl hM.dra rfl (by omega) (show 95 + 7 * c < 729 by omega) (r32 (by omega) (by omega)) ?_
                            refine j_mn (fun g_319 hg_319 => ?_)
                            refine j_aload_n 321 9 dX10_readRoute_320 rfl rfl ?_
                            refine j_getr 324 dX10_readRoute_321 rfl fl_X10_20 hM.md rfl (fun _ _ => rfl) rfl ?_
                            refine j_iload 326 5 dX10_readRoute_324 rfl rfl ?_
                            refine j_iconst 327 dX10_readRoute_326 rfl ?_
                            refine j_iadd 328 dX10_readRoute_327 rfl ?_
                            refine j_iload_n 329 7 dX10_readRoute_328 rfl rfl ?_
                            refine j_iast 330 (96 + 7 * c) dX10_readRoute_329 rfl hM.dra rfl (by omega) (show 96 + 7 * c < 729 by omega) (r32 (by omega) (by omega)) ?_
                            refine j_mn (fun g_329 hg_329 => ?_)
                            refine j_aload_n 331 9 dX10_readRoute_330 rfl rfl ?_
                            refine j_getr 334 dX10_readRoute_331 rfl fl_X10_20 hM.md rfl (fun _ _ => rfl) rfl ?_
                            refine j_iload 336 5 dX10_readRoute_334 rfl rfl ?_
                            refine j_iconst 337 dX10_readRoute_336 rfl ?_
                            refine j_iadd 338 dX10_readRoute_337 rfl ?_
                            refine j_iload 340 6 dX10_readRoute_338 rfl rfl ?_
                            refine j_iast 341 (97 + 7 * c) dX10_readRoute_340 rfl hM.dra rfl (by omega) (show 97 + 7 * c < 729 by omega) (r32 (by omega) (by omega)) ?_
                            refine j_mn (fun g_340 hg_340 => ?_)
                            refine j_aload_n 342 9 dX10_readRoute_341 rfl rfl ?_
                            refine j_getr 345 dX10_readRoute_342 rfl fl_X10_20 hM.md rfl (fun _ _ => rfl) rfl ?_
                            refine j_iload 347 5 dX10_readRoute_345 rfl rfl ?_
                            refine j_iconst 348 dX10_readRoute_347 rfl ?_
                            refine j_iadd 349 dX10_readRoute_348 rfl ?_
                            refine j_iload 351 0 dX10_readRoute_349 rfl rfl ?_
                            refine j_iast 352 (98 + 7 * c) dX10_readRoute_351 rfl hM.dra rfl (by omega) (show 98 + 7 * c < 729 by omega) (r32 (by omega) (by omega)) ?_
                            refine j_mn (fun g_351 hg_351 => ?_)
                            refine j_aload_n 353 9 dX10_readRoute_352 rfl rfl ?_
                            refine j_getr 356 dX10_readRoute_353 rfl fl_X10_20 hM.md rfl (fun _ _ => rfl) rfl ?_
                            refine j_iconst 357 dX10_readRoute_356 rfl ?_
                            refine j_dup2 358 dX10_readRoute_357 rfl rfl rfl ?_
                            refine j_iald 359 4 dX10_readRoute_358 rfl hM.dra rfl rfl (show 4 < 729 by omega) (fun r_358 => ?_)
                            refine j_top (y := (c : Int)) ((by rw [hg_351, up2_k (by omega), hg_340, up2_k (by omega), hg_329, up2_k (by omega), hg_319, up2_k (by omega), D300]; exact (he3 4 (by omega)).trans hc)) ?_
                            refine j_iconst 360 dX10_readRoute_359 rfl ?_
                            refine j_iadd 361 dX10_readRoute_360 rfl ?_
                            refine j_iast 362 (4) dX10_readRoute_361 rfl hM.dra rfl (by omega) (show 4 < 729 by omega) (r32 (by omega) (by omega)) ?_
                            refine j_mn (fun g_361 hg_361 => ?_)
                            exact j_vret dX10_readRoute_362 rfl (⟨rfl, rfl, by rw [hg_361, hg_351, hg_340, hg_329, hg_319]; exact F300.dr.dr.dr.dr.dr, by
                              rw [hresN]
                              rw [hg_361, hg_351, hg_340, hg_329, hg_319]
                              refine ⟨⟨_, sk_sk _, S300.dr.dr.dr.dr.dr⟩, ?_, M300.dr.dr.dr.dr.dr⟩
                              rw [up2_ud, up2_ud, up2_ud, up2_ud, up2_ud, D300, ← hFI]
                              show _ = a_route _ _ _ _ _
                              unfold a_route
                              rw [show (ud e2 (99 + 7 * c + n) (s_groupOf e2 (nmH T (sk T (sk T p2))) (nmT T (sk T (sk T p2))))) 4 = (c : Int) from (he3 4 (by omega)).trans hc, Int.toNat_natCast]⟩)
                          ·
                            refine j_top (y := 1) (by rw [hiL]; rfl) ?_
                            refine j_if_ne 310 148 dX10_readRoute_307 rfl rfl (r32 (by decide) (by decide)) (fun c_307 => ?_) (fun c_307 => absurd c_307 (by decide))
                            rw [if_pos hiL] at hresN
                            refine j_sub [0, 5, 6, 7, 8, 9, 10] rfl ?_
                            exact ih_148 (n + 1) (ud e2 (99 + 7 * c + n) (s_groupOf e2 (nmH T (sk T (sk T p2))) (nmT T (sk T (sk T p2))))) (sk T ((sk T (sk T p2)) + ln T (sk T (sk T p2)))) g300 (by omega) (by omega) S300 D300 F300 M300 he3 (by rw [hresN, show 4 - (n + 1) = f9 by omega]; obtain ⟨f8, hf8⟩ : ∃ f8, f9 = f8 + 1 := ⟨f9 - 1, by omega⟩; rw [hf8, ch_sk])
                        ·
                          refine j_top (y := 0) (by rw [hch]; rfl) ?_
                          refine j_if_ne 261 271 dX10_readRoute_258 rfl rfl (r32 (by decide) (by decide)) (fun c_258 => absurd rfl c_258) (fun c_258 => ?_)
                          refine j_aload_n 262 9 dX10_readRoute_261 rfl rfl ?_
                          refine j_bipush 264 dX10_readRoute_262 rfl (by decide) ?_
                          refine j_aload_n 265 9 dX10_readRoute_264 rfl rfl ?_
                          refine j_geti 268 dX10_readRoute_265 rfl fl_X10_103 hM.md rfl rfl (fun r_265 => ?_)
                          refine j_top (y := (((sk T (sk T p2)) : Nat) : Int)) (D18_7) ?_
                          refine j_callV 271 (As := [.int (i32 (-4)), .int (i32 ((((sk T (sk T p2)) : Nat) : Int)))]) (kc2 := 0) (ks2 := 0) dX10_readRoute_268 rfl mvX10_report lk_X10_78 hM.md rfl ⟨Nat.le_of_ble_eq_true rfl, rfl⟩ rfl rfl (Nat.le_of_ble_eq_true rfl) ⟨Nat.le_of_ble_eq_true rfl, Nat.le_of_ble_eq_true rfl⟩ ⟨Nat.le_of_ble_eq_true rfl, Nat.le_of_ble_eq_true rfl⟩ (rp_report0 hM S7.2.2.2.1 (r32 (by decide) (by decide)) (r32 (by omega) (by omega))) x_d (k_d0 ?_)
                          refine j_mn (fun g14 hg14 => ?_)
                          have S14 : RE g14 m T ((-4), (sk T (sk T p2))) := by rw [hg14]; exact S7.err (by decide)
                          have F14 : FM gk g14 m := by rw [hg14]; exact (F7.up (by decide)).up (by decide)
                          refine j_aload_n 272 9 dX10_readRoute_271 rfl rfl ?_
                          refine j_callV 275 (As := []) (kc2 := 0) (ks2 := 0) dX10_readRoute_272 rfl mvX10_isGood lk_X10_61 hM.md rfl ⟨Nat.le_of_ble_eq_true rfl, rfl⟩ rfl rfl (Nat.le_of_ble_eq_true rfl) ⟨Nat.le_of_ble_eq_true rfl, Nat.le_of_ble_eq_true rfl⟩ ⟨Nat.le_of_ble_eq_true rfl, Nat.le_of_ble_eq_true rfl⟩ (rp_isGood hM) x_d (k_d1 ?_)
                          refine j_top (y := 0) (by rw [decide_eq_false (by have h1 := S14.2.2.1; have h2 := S14.2.2.2.2; dsimp only at h1 h2; omega)]; rfl) ?_
                          refine j_if_ne 278 279 dX10_readRoute_275 rfl rfl (r32 (by decide) (by decide)) (fun c_275 => absurd c_275 (by decide)) (fun c_275 => ?_)
                          exact j_vret dX10_readRoute_278 rfl (⟨rfl, rfl, FK.tr F14.fd, by
                            rw [show res = .inr ((-4), (sk T (sk T p2))) from hres.trans (by rw [ch_u, if_neg (show ¬ n = 3 by omega), kNam_1 hD, if_pos (Or.inr hch)])]
                            exact S14⟩)
                      · skip
                        refine j_iload 216 1 dX10_readRoute_214 rfl rfl ?_
                        refine j_if_eq 219 240 dX10_readRoute_216 rfl rfl (r01 (b01_r _)) (fun c_216 => ?_) (fun c_216 => ?_)
                        · skip
                          have hcj : chosen e2 c (s_groupOf e2 (nmH T (sk T (sk T p2))) (nmT T (sk T (sk T p2)))) (j + 1) = true := by
                            show (chosen e2 c _ j || _) = true
                            cases hz : chosen e2 c (s_groupOf e2 (nmH T (sk T (sk T p2))) (nmT T (sk T (sk T p2)))) j
                            · rw [hz] at c_216; cases c_216
                            · rfl
                          refine j_iconst 241 dX10_readRoute_240 rfl ?_
                          refine j_top (y := b01 (!chosen e2 c (s_groupOf e2 (nmH T (sk T (sk T p2))) (nmT T (sk T (sk T p2)))) (j + 1))) (by rw [hcj]; rfl) ?_
                          refine j_istore 243 (L2 := [(9, .int (i32 (b01 (!chosen e2 c (s_groupOf e2 (nmH T (sk T (sk T p2))) (nmT T (sk T (sk T p2)))) (j + 1))))), (10, .int (i32 (((j : Nat) : Int)))), (8, .int (i32 (s_groupOf e2 (nmH T (sk T (sk T p2))) (nmT T (sk T (sk T p2)))))), (7, .int (i32 (byT T (sk T p2)))), (5, .int (i32 (((n : Nat) : Int)))), (6, .int (i32 (((95 + 7 * c : Nat) : Int)))), (4, .int (i32 (nv T (sk T ((sk T (p)) + dn T (sk T (p))))))), (3, .int (i32 (bv (fT T (sk T (p))) (dn T (sk T (p)))))), (2, .int (i32 (((dn T (sk T (p)) : Nat) : Int)))), (0, .ref (m)), (1, .int (i32 (((st : Nat) : Int))))]) dX10_readRoute_241 rfl (Nat.le_of_ble_eq_true rfl) rfl ?_
                          refine j_iinc 246 1 (y := ((j + 1 : Nat) : Int)) (L2 := [(10, .int (i32 (((j + 1 : Nat) : Int)))), (9, .int (i32 (b01 (!chosen e2 c (s_groupOf e2 (nmH T (sk T (sk T p2))) (nmT T (sk T (sk T p2)))) (j + 1))))), (8, .int (i32 (s_groupOf e2 (nmH T (sk T (sk T p2))) (nmT T (sk T (sk T p2)))))), (7, .int (i32 (byT T (sk T p2)))), (5, .int (i32 (((n : Nat) : Int)))), (6, .int (i32 (((95 + 7 * c : Nat) : Int)))), (4, .int (i32 (nv T (sk T ((sk T (p)) + dn T (sk T (p))))))), (3, .int (i32 (bv (fT T (sk T (p))) (dn T (sk T (p)))))), (2, .int (i32 (((dn T (sk T (p)) : Nat) : Int)))), (0, .ref (m)), (1, .int (i32 (((st : Nat) : Int))))]) dX10_readRoute_243 rfl rfl (by omega) (Nat.le_of_ble_eq_true rfl) rfl ?_
                          refine j_goto 207 dX10_readRoute_246 rfl ?_
                          refine j_sub [0, 1, 2, 3, 4, 5, 6, 7, 8, 9, 10] rfl ?_
                          exact ih_207 (j + 1) (by omega) (by omega)
                        · skip
                          have hcf : chosen e2 c (s_groupOf e2 (nmH T (sk T (sk T p2))) (nmT T (sk T (sk T p2)))) j = false := by
                            cases hz : chosen e2 c (s_groupOf e2 (nmH T (sk T (sk T p2))) (nmT T (sk T (sk T p2)))) j
                            · rfl
                            · rw [hz] at c_216; exact absurd rfl c_216
                          refine j_aload_n 220 9 dX10_readRoute_219 rfl rfl ?_
                          refine j_getr 223 dX10_readRoute_220 rfl fl_X10_20 hM.md rfl (fun _ _ => rfl) rfl ?_
                          refine j_iload 225 5 dX10_readRoute_223 rfl rfl ?_
                          refine j_iconst 226 dX10_readRoute_225 rfl ?_
                          refine j_iadd 227 dX10_readRoute_226 rfl ?_
                          refine j_iload 229 0 dX10_readRoute_227 rfl rfl ?_
                          refine j_iadd 230 dX10_readRoute_229 rfl ?_
                          refine j_iald 231 (99 + 7 * c + j) dX10_readRoute_230 rfl hM.dra rfl (by omega) (show 99 + 7 * c + j < 729 by omega) (fun r_230 => ?_)
                          refine j_top (y := e2 (99 + 7 * c + j)) (congrFun hD9 _) ?_
                          refine j_iload 233 2 dX10_readRoute_231 rfl rfl ?_
                          refine j_icmp_eq 236 240 dX10_readRoute_233 rfl rfl (by have h := r_230; rw [hD9] at h; exact h) (fst_r32 _ (by decide)) (fun c_233_15 => ?_) (fun c_233_15 => ?_)
                          · skip
                            have hcj : chosen e2 c (s_groupOf e2 (nmH T (sk T (sk T p2))) (nmT T (sk T (sk T p2)))) (j + 1) = true := by
                              show (chosen e2 c _ j || decide _) = true
                              rw [decide_eq_true c_233_15, Bool.or_true]
                            refine j_iconst 241 dX10_readRoute_240 rfl ?_
                            refine j_top (y := b01 (!chosen e2 c (s_groupOf e2 (nmH T (sk T (sk T p2))) (nmT T (sk T (sk T p2)))) (j + 1))) (by rw [hcj]; rfl) ?_
                            refine j_istore 243 (L2 := [(9, .int (i32 (b01 (!chosen e2 c (s_groupOf e2 (nmH T (sk T (sk T p2))) (nmT T (sk T (sk T p2)))) (j + 1))))), (10, .int (i32 (((j : Nat) : Int)))), (8, .int (i32 (s_groupOf e2 (nmH T (sk T (sk T p2))) (nmT T (sk T (sk T p2)))))), (7, .int (i32 (byT T (sk T p2)))), (5, .int (i32 (((n : Nat) : Int)))), (6, .int (i32 (((95 + 7 * c : Nat) : Int)))), (4, .int (i32 (nv T (sk T ((sk T (p)) + dn T (sk T (p))))))), (3, .int (i32 (bv (fT T (sk T (p))) (dn T (sk T (p)))))), (2, .int (i32 (((dn T (sk T (p)) : Nat) : Int)))), (0, .ref (m)), (1, .int (i32 (((st : Nat) : Int))))]) dX10_readRoute_241 rfl (Nat.le_of_ble_eq_true rfl) rfl ?_
                            refine j_iinc 246 1 (y := ((j + 1 : Nat) : Int)) (L2 := [(10, .int (i32 (((j + 1 : Nat) : Int)))), (9, .int (i32 (b01 (!chosen e2 c (s_groupOf e2 (nmH T (sk T (sk T p2))) (nmT T (sk T (sk T p2)))) (j + 1))))), (8, .int (i32 (s_groupOf e2 (nmH T (sk T (sk T p2))) (nmT T (sk T (sk T p2)))))), (7, .int (i32 (byT T (sk T p2)))), (5, .int (i32 (((n : Nat) : Int)))), (6, .int (i32 (((95 + 7 * c : Nat) : Int)))), (4, .int (i32 (nv T (sk T ((sk T (p)) + dn T (sk T (p))))))), (3, .int (i32 (bv (fT T (sk T (p))) (dn T (sk T (p)))))), (2, .int (i32 (((dn T (sk T (p)) : Nat) : Int)))), (0, .ref (m)), (1, .int (i32 (((st : Nat) : Int))))]) dX10_readRoute_243 rfl rfl (by omega) (Nat.le_of_ble_eq_true rfl) rfl ?_
                            refine j_goto 207 dX10_readRoute_246 rfl ?_
                            refine j_sub [0, 1, 2, 3, 4, 5, 6, 7, 8, 9, 10] rfl ?_
                            exact ih_207 (j + 1) (by omega) (by omega)
                          · skip
                            have hcj : chosen e2 c (s_groupOf e2 (nmH T (sk T (sk T p2))) (nmT T (sk T (sk T p2)))) (j + 1) = false := by
                              show (chosen e2 c _ j || decide _) = false
                              rw [hcf, decide_eq_false c_233_15]; rfl
                            refine j_iconst 237 dX10_readRoute_236 rfl ?_
                            refine j_goto 241 dX10_readRoute_237 rfl ?_
                            refine j_top (y := b01 (!chosen e2 c (s_groupOf e2 (nmH T (sk T (sk T p2))) (nmT T (sk T (sk T p2)))) (j + 1))) (by rw [hcj]; rfl) ?_
                            refine j_istore 243 (L2 := [(9, .int (i32 (b01 (!chosen e2 c (s_groupOf e2 (nmH T (sk T (sk T p2))) (nmT T (sk T (sk T p2)))) (j + 1))))), (10, .int (i32 (((j : Nat) : Int)))), (8, .int (i32 (s_groupOf e2 (nmH T (sk T (sk T p2))) (nmT T (sk T (sk T p2)))))), (7, .int (i32 (byT T (sk T p2)))), (5, .int (i32 (((n : Nat) : Int)))), (6, .int (i32 (((95 + 7 * c : Nat) : Int)))), (4, .int (i32 (nv T (sk T ((sk T (p)) + dn T (sk T (p))))))), (3, .int (i32 (bv (fT T (sk T (p))) (dn T (sk T (p)))))), (2, .int (i32 (((dn T (sk T (p)) : Nat) : Int)))), (0, .ref (m)), (1, .int (i32 (((st : Nat) : Int))))]) dX10_readRoute_241 rfl (Nat.le_of_ble_eq_true rfl) rfl ?_
                            refine j_iinc 246 1 (y := ((j + 1 : Nat) : Int)) (L2 := [(10, .int (i32 (((j + 1 : Nat) : Int)))), (9, .int (i32 (b01 (!chosen e2 c (s_groupOf e2 (nmH T (sk T (sk T p2))) (nmT T (sk T (sk T p2)))) (j + 1))))), (8, .int (i32 (s_groupOf e2 (nmH T (sk T (sk T p2))) (nmT T (sk T (sk T p2)))))), (7, .int (i32 (byT T (sk T p2)))), (5, .int (i32 (((n : Nat) : Int)))), (6, .int (i32 (((95 + 7 * c : Nat) : Int)))), (4, .int (i32 (nv T (sk T ((sk T (p)) + dn T (sk T (p))))))), (3, .int (i32 (bv (fT T (sk T (p))) (dn T (sk T (p)))))), (2, .int (i32 (((dn T (sk T (p)) : Nat) : Int)))), (0, .ref (m)), (1, .int (i32 (((st : Nat) : Int))))]) dX10_readRoute_243 rfl rfl (by omega) (Nat.le_of_ble_eq_true rfl) rfl ?_
                            refine j_goto 207 dX10_readRoute_246 rfl ?_
                            refine j_sub [0, 1, 2, 3, 4, 5, 6, 7, 8, 9, 10] rfl ?_
                            exact ih_207 (j + 1) (by omega) (by omega)
                ·
                  rw [namS_2 hD] at S7
                  refine j_aload_n 175 6 dX10_readRoute_174 rfl rfl ?_
                  refine j_getr 178 dX10_readRoute_175 rfl fl_X10_20 hM.md rfl (fun _ _ => rfl) rfl ?_
                  refine j_aload_n 179 6 dX10_readRoute_178 rfl rfl ?_
                  refine j_geti 182 dX10_readRoute_179 rfl fl_X10_106 hM.md rfl rfl (fun r_179 => ?_)
                  refine j_aload_n 183 6 dX10_readRoute_182 rfl rfl ?_
                  refine j_geti 186 dX10_readRoute_183 rfl fl_X10_109 hM.md rfl rfl (fun r_183 => ?_)
                  refine j_callS 189 (As := [.ref (m + 3), .int (i32 (g_171 (m) 19)), .int (i32 (g_171 (m) 20))]) (kc2 := 0) (ks2 := 0) dX10_readRoute_186 rfl msX10_groupOf lk_X10_123 rfl rfl (Nat.le_of_ble_eq_true rfl) ⟨Nat.le_of_ble_eq_true rfl, Nat.le_of_ble_eq_true rfl⟩ ⟨Nat.le_of_ble_eq_true rfl, Nat.le_of_ble_eq_true rfl⟩ (r_groupOf hM.dra (show g_171 (m + 3) 3 ≤ 5 by rw [((F7.1 _ (by omega)).trans hgk)]; omega) r_179 r_183) x_d (k_d1 ?_)
                  refine j_top (y := s_groupOf e2 (g_171 (m) 19) (g_171 (m) 20)) (by rw [((F7.1 _ (by omega)).trans hgk)]) ?_
                  have hD9 : g_171 (m + 3) = e2 := ((F7.1 _ (by omega)).trans hgk)
                  refine j_istore 191 (L2 := [(8, .int (i32 (s_groupOf e2 (g_171 (m) 19) (g_171 (m) 20)))), (7, .int (i32 (byT T (sk T p2)))), (5, .int (i32 (((n : Nat) : Int)))), (6, .int (i32 (((95 + 7 * c : Nat) : Int)))), (4, .int (i32 (nv T (sk T ((sk T (p)) + dn T (sk T (p))))))), (3, .int (i32 (bv (fT T (sk T (p))) (dn T (sk T (p)))))), (2, .int (i32 (((dn T (sk T (p)) : Nat) : Int)))), (0, .ref (m)), (1, .int (i32 (((st : Nat) : Int))))]) dX10_readRoute_189 rfl (Nat.le_of_ble_eq_true rfl) rfl ?_
                  refine j_iload 193 0 dX10_readRoute_191 rfl rfl ?_
                  refine j_iconst 194 dX10_readRoute_193 rfl ?_
                  refine j_icmp_eq 197 201 dX10_readRoute_194 rfl rfl (fst_r32 _ (by decide)) (r32 (by decide) (by decide)) (fun c_194_16 => ?_) (fun c_194_16 => ?_)
                  · skip
                    refine j_iconst 202 dX10_readRoute_201 rfl ?_
                    refine j_istore 204 (L2 := [(9, .int (i32 (0))), (8, .int (i32 (s_groupOf e2 (g_171 (m) 19) (g_171 (m) 20)))), (7, .int (i32 (byT T (sk T p2)))), (5, .int (i32 (((n : Nat) : Int)))), (6, .int (i32 (((95 + 7 * c : Nat) : Int)))), (4, .int (i32 (nv T (sk T ((sk T (p)) + dn T (sk T (p))))))), (3, .int (i32 (bv (fT T (sk T (p))) (dn T (sk T (p)))))), (2, .int (i32 (((dn T (sk T (p)) : Nat) : Int)))), (0, .ref (m)), (1, .int (i32 (((st : Nat) : Int))))]) dX10_readRoute_202 rfl (Nat.le_of_ble_eq_true rfl) rfl ?_
                    refine j_iconst 205 dX10_readRoute_204 rfl ?_
                    refine j_istore 207 (L2 := [(10, .int (i32 (0))), (9, .int (i32 (0))), (8, .int (i32 (s_groupOf e2 (g_171 (m) 19) (g_171 (m) 20)))), (7, .int (i32 (byT T (sk T p2)))), (5, .int (i32 (((n : Nat) : Int)))), (6, .int (i32 (((95 + 7 * c : Nat) : Int)))), (4, .int (i32 (nv T (sk T ((sk T (p)) + dn T (sk T (p))))))), (3, .int (i32 (bv (fT T (sk T (p))) (dn T (sk T (p)))))), (2, .int (i32 (((dn T (sk T (p)) : Nat) : Int)))), (0, .ref (m)), (1, .int (i32 (((st : Nat) : Int))))]) dX10_readRoute_205 rfl (Nat.le_of_ble_eq_true rfl) rfl ?_
                    suffices lp_207 : ∀ (n_207 j : Nat), n - j < n_207 → j ≤ n → J w mX10_readRoute 207 [(10, .int (i32 ((j : Nat) : Int))), (9, .int (i32 (0))), (8, .int (i32 (s_groupOf e2 (g_171 (m) 19) (g_171 (m) 20)))), (7, .int (i32 (byT T (sk T p2)))), (5, .int (i32 (((n : Nat) : Int)))), (6, .int (i32 (((95 + 7 * c : Nat) : Int)))), (4, .int (i32 (nv T (sk T ((sk T (p)) + dn T (sk T (p))))))), (3, .int (i32 (bv (fT T (sk T (p))) (dn T (sk T (p)))))), (2, .int (i32 (((dn T (sk T (p)) : Nat) : Int)))), (0, .ref (m)), (1, .int (i32 (((st : Nat) : Int))))] [] sh g_171 0 0 (vQ sh (RP2 g m T res)) by
                      refine j_sub [0, 1, 2, 3, 4, 5, 6, 7, 8, 9, 10] rfl ?_
                      exact lp_207 _ 0 (Nat.lt_succ_self _) (by omega)
                    intro n_207
                    induction n_207 with
                    | zero => intro j h_; exact absurd h_ (Nat.not_lt_zero _)
                    | succ n_207 ih_207 =>
                      intro j hn_207 hjn
                      refine j_iload 209 0 dX10_readRoute_207 rfl rfl ?_
                      refine j_iload 211 4 dX10_readRoute_209 rfl rfl ?_
                      refine j_icmp_ge 214 249 dX10_readRoute_211 rfl rfl (r32 (by omega) (by omega)) (r32 (by omega) (by omega)) (fun c_211_18 => ?_) (fun c_211_18 => ?_)
                      · skip
                        have hjn2 : j = n := by omega
                        rw [hjn2]
                        refine j_aload_n 250 9 dX10_readRoute_249 rfl rfl ?_
                        refine j_callV 253 (As := []) (kc2 := 0) (ks2 := 0) dX10_readRoute_250 rfl mvX10_isGood lk_X10_61 hM.md rfl ⟨Nat.le_of_ble_eq_true rfl, rfl⟩ rfl rfl (Nat.le_of_ble_eq_true rfl) ⟨Nat.le_of_ble_eq_true rfl, Nat.le_of_ble_eq_true rfl⟩ ⟨Nat.le_of_ble_eq_true rfl, Nat.le_of_ble_eq_true rfl⟩ (rp_isGood hM) x_d (k_d1 ?_)
                        refine j_top (y := 0) (by rw [decide_eq_false (by have h1 := S7.2.2.1; have h2 := S7.2.2.2.2; dsimp only at h1 h2; omega)]; rfl) ?_
                        refine j_if_eq 256 271 dX10_readRoute_253 rfl rfl (r32 (by decide) (by decide)) (fun c_253 => ?_) (fun c_253 => absurd c_253 (by decide))
                        refine j_aload_n 272 9 dX10_readRoute_271 rfl rfl ?_
                        refine j_callV 275 (As := []) (kc2 := 0) (ks2 := 0) dX10_readRoute_272 rfl mvX10_isGood lk_X10_61 hM.md rfl ⟨Nat.le_of_ble_eq_true rfl, rfl⟩ rfl rfl (Nat.le_of_ble_eq_true rfl) ⟨Nat.le_of_ble_eq_true rfl, Nat.le_of_ble_eq_true rfl⟩ ⟨Nat.le_of_ble_eq_true rfl, Nat.le_of_ble_eq_true rfl⟩ (rp_isGood hM) x_d (k_d1 ?_)
                        refine j_top (y := 0) (by rw [decide_eq_false (by have h1 := S7.2.2.1; have h2 := S7.2.2.2.2; dsimp only at h1 h2; omega)]; rfl) ?_
                        refine j_if_ne 278 279 dX10_readRoute_275 rfl rfl (r32 (by decide) (by decide)) (fun c_275 => absurd c_275 (by decide)) (fun c_275 => ?_)
                        exact j_vret dX10_readRoute_278 rfl (⟨rfl, rfl, FK.tr F7.fd, by
                          rw [show res = .inr ((-2), (sk T (sk T p2))) from hres.trans (by rw [ch_u, if_neg (show ¬ n = 3 by omega), kNam_2 hD])]
                          exact S7⟩)
                      · skip
                        refine j_iload 216 1 dX10_readRoute_214 rfl rfl ?_
                        refine j_if_eq 219 240 dX10_readRoute_216 rfl rfl (r32 (by decide) (by decide)) (fun c_216 => ?_) (fun c_216 => absurd rfl c_216)
                        refine j_iconst 241 dX10_readRoute_240 rfl ?_
                        refine j_istore 243 (L2 := [(9, .int (i32 (0))), (10, .int (i32 (((j : Nat) : Int)))), (8, .int (i32 (s_groupOf e2 (g_171 (m) 19) (g_171 (m) 20)))), (7, .int (i32 (byT T (sk T p2)))), (5, .int (i32 (((n : Nat) : Int)))), (6, .int (i32 (((95 + 7 * c : Nat) : Int)))), (4, .int (i32 (nv T (sk T ((sk T (p)) + dn T (sk T (p))))))), (3, .int (i32 (bv (fT T (sk T (p))) (dn T (sk T (p)))))), (2, .int (i32 (((dn T (sk T (p)) : Nat) : Int)))), (0, .ref (m)), (1, .int (i32 (((st : Nat) : Int))))]) dX10_readRoute_241 rfl (Nat.le_of_ble_eq_true rfl) rfl ?_
                        refine j_iinc 246 1 (y := ((j + 1 : Nat) : Int)) (L2 := [(10, .int (i32 (((j + 1 : Nat) : Int)))), (9, .int (i32 (0))), (8, .int (i32 (s_groupOf e2 (g_171 (m) 19) (g_171 (m) 20)))), (7, .int (i32 (byT T (sk T p2)))), (5, .int (i32 (((n : Nat) : Int)))), (6, .int (i32 (((95 + 7 * c : Nat) : Int)))), (4, .int (i32 (nv T (sk T ((sk T (p)) + dn T (sk T (p))))))), (3, .int (i32 (bv (fT T (sk T (p))) (dn T (sk T (p)))))), (2, .int (i32 (((dn T (sk T (p)) : Nat) : Int)))), (0, .ref (m)), (1, .int (i32 (((st : Nat) : Int))))]) dX10_readRoute_243 rfl rfl (by omega) (Nat.le_of_ble_eq_true rfl) rfl ?_
                        refine j_goto 207 dX10_readRoute_246 rfl ?_
                        refine j_sub [0, 1, 2, 3, 4, 5, 6, 7, 8, 9, 10] rfl ?_
                        exact ih_207 (j + 1) (by omega) (by omega)
                  · skip
                    refine j_iconst 198 dX10_readRoute_197 rfl ?_
                    refine j_goto 202 dX10_readRoute_198 rfl ?_
                    refine j_istore 204 (L2 := [(9, .int (i32 (1))), (8, .int (i32 (s_groupOf e2 (g_171 (m) 19) (g_171 (m) 20)))), (7, .int (i32 (byT T (sk T p2)))), (5, .int (i32 (((n : Nat) : Int)))), (6, .int (i32 (((95 + 7 * c : Nat) : Int)))), (4, .int (i32 (nv T (sk T ((sk T (p)) + dn T (sk T (p))))))), (3, .int (i32 (bv (fT T (sk T (p))) (dn T (sk T (p)))))), (2, .int (i32 (((dn T (sk T (p)) : Nat) : Int)))), (0, .ref (m)), (1, .int (i32 (((st : Nat) : Int))))]) dX10_readRoute_202 rfl (Nat.le_of_ble_eq_true rfl) rfl ?_
                    refine j_iconst 205 dX10_readRoute_204 rfl ?_
                    refine j_istore 207 (L2 := [(10, .int (i32 (0))), (9, .int (i32 (1))), (8, .int (i32 (s_groupOf e2 (g_171 (m) 19) (g_171 (m) 20)))), (7, .int (i32 (byT T (sk T p2)))), (5, .int (i32 (((n : Nat) : Int)))), (6, .int (i32 (((95 + 7 * c : Nat) : Int)))), (4, .int (i32 (nv T (sk T ((sk T (p)) + dn T (sk T (p))))))), (3, .int (i32 (bv (fT T (sk T (p))) (dn T (sk T (p)))))), (2, .int (i32 (((dn T (sk T (p)) : Nat) : Int)))), (0, .ref (m)), (1, .int (i32 (((st : Nat) : Int))))]) dX10_readRoute_205 rfl (Nat.le_of_ble_eq_true rfl) rfl ?_
                    suffices lp_207 : ∀ (n_207 j : Nat), n - j < n_207 → j ≤ n → J w mX10_readRoute 207 [(10, .int (i32 ((j : Nat) : Int))), (9, .int (i32 (b01 (!chosen e2 c (s_groupOf e2 (g_171 (m) 19) (g_171 (m) 20)) j)))), (8, .int (i32 (s_groupOf e2 (g_171 (m) 19) (g_171 (m) 20)))), (7, .int (i32 (byT T (sk T p2)))), (5, .int (i32 (((n : Nat) : Int)))), (6, .int (i32 (((95 + 7 * c : Nat) : Int)))), (4, .int (i32 (nv T (sk T ((sk T (p)) + dn T (sk T (p))))))), (3, .int (i32 (bv (fT T (sk T (p))) (dn T (sk T (p)))))), (2, .int (i32 (((dn T (sk T (p)) : Nat) : Int)))), (0, .ref (m)), (1, .int (i32 (((st : Nat) : Int))))] [] sh g_171 0 0 (vQ sh (RP2 g m T res)) by
                      refine j_sub [0, 1, 2, 3, 4, 5, 6, 7, 8, 9, 10] rfl ?_
                      exact lp_207 _ 0 (Nat.lt_succ_self _) (by omega)
                    intro n_207
                    induction n_207 with
                    | zero => intro j h_; exact absurd h_ (Nat.not_lt_zero _)
                    | succ n_207 ih_207 =>
                      intro j hn_207 hjn
                      refine j_iload 209 0 dX10_readRoute_207 rfl rfl ?_
                      refine j_iload 211 4 dX10_readRoute_209 rfl rfl ?_
                      refine j_icmp_ge 214 249 dX10_readRoute_211 rfl rfl (r32 (by omega) (by omega)) (r32 (by omega) (by omega)) (fun c_211_20 => ?_) (fun c_211_20 => ?_)
                      · skip
                        have hjn2 : j = n := by omega
                        rw [hjn2]
                        refine j_aload_n 250 9 dX10_readRoute_249 rfl rfl ?_
                        refine j_callV 253 (As := []) (kc2 := 0) (ks2 := 0) dX10_readRoute_250 rfl mvX10_isGood lk_X10_61 hM.md rfl ⟨Nat.le_of_ble_eq_true rfl, rfl⟩ rfl rfl (Nat.le_of_ble_eq_true rfl) ⟨Nat.le_of_ble_eq_true rfl, Nat.le_of_ble_eq_true rfl⟩ ⟨Nat.le_of_ble_eq_true rfl, Nat.le_of_ble_eq_true rfl⟩ (rp_isGood hM) x_d (k_d1 ?_)
                        refine j_top (y := 0) (by rw [decide_eq_false (by have h1 := S7.2.2.1; have h2 := S7.2.2.2.2; dsimp only at h1 h2; omega)]; rfl) ?_
                        refine j_if_eq 256 271 dX10_readRoute_253 rfl rfl (r32 (by decide) (by decide)) (fun c_253 => ?_) (fun c_253 => absurd c_253 (by decide))
                        refine j_aload_n 272 9 dX10_readRoute_271 rfl rfl ?_
                        refine j_callV 275 (As := []) (kc2 := 0) (ks2 := 0) dX10_readRoute_272 rfl mvX10_isGood lk_X10_61 hM.md rfl ⟨Nat.le_of_ble_eq_true rfl, rfl⟩ rfl rfl (Nat.le_of_ble_eq_true rfl) ⟨Nat.le_of_ble_eq_true rfl, Nat.le_of_ble_eq_true rfl⟩ ⟨Nat.le_of_ble_eq_true rfl, Nat.le_of_ble_eq_true rfl⟩ (rp_isGood hM) x_d (k_d1 ?_)
                        refine j_top (y := 0) (by rw [decide_eq_false (by have h1 := S7.2.2.1; have h2 := S7.2.2.2.2; dsimp only at h1 h2; omega)]; rfl) ?_
                        refine j_if_ne 278 279 dX10_readRoute_275 rfl rfl (r32 (by decide) (by decide)) (fun c_275 => absurd c_275 (by decide)) (fun c_275 => ?_)
                        exact j_vret dX10_readRoute_278 rfl (⟨rfl, rfl, FK.tr F7.fd, by
                          rw [show res = .inr ((-2), (sk T (sk T p2))) from hres.trans (by rw [ch_u, if_neg (show ¬ n = 3 by omega), kNam_2 hD])]
                          exact S7⟩)
                      · skip
                        refine j_iload 216 1 dX10_readRoute_214 rfl rfl ?_
                        refine j_if_eq 219 240 dX10_readRoute_216 rfl rfl (r01 (b01_r _)) (fun c_216 => ?_) (fun c_216 => ?_)
                        · skip
                          have hcj : chosen e2 c (s_groupOf e2 (g_171 (m) 19) (g_171 (m) 20)) (j + 1) = true := by
                            show (chosen e2 c _ j || _) = true
                            cases hz : chosen e2 c (s_groupOf e2 (g_171 (m) 19) (g_171 (m) 20)) j
                            · rw [hz] at c_216; cases c_216
                            · rfl
                          refine j_iconst 241 dX10_readRoute_240 rfl ?_
                          refine j_top (y := b01 (!chosen e2 c (s_groupOf e2 (g_171 (m) 19) (g_171 (m) 20)) (j + 1))) (by rw [hcj]; rfl) ?_
                          refine j_istore 243 (L2 := [(9, .int (i32 (b01 (!chosen e2 c (s_groupOf e2 (g_171 (m) 19) (g_171 (m) 20)) (j + 1))))), (10, .int (i32 (((j : Nat) : Int)))), (8, .int (i32 (s_groupOf e2 (g_171 (m) 19) (g_171 (m) 20)))), (7, .int (i32 (byT T (sk T p2)))), (5, .int (i32 (((n : Nat) : Int)))), (6, .int (i32 (((95 + 7 * c : Nat) : Int)))), (4, .int (i32 (nv T (sk T ((sk T (p)) + dn T (sk T (p))))))), (3, .int (i32 (bv (fT T (sk T (p))) (dn T (sk T (p)))))), (2, .int (i32 (((dn T (sk T (p)) : Nat) : Int)))), (0, .ref (m)), (1, .int (i32 (((st : Nat) : Int))))]) dX10_readRoute_241 rfl (Nat.le_of_ble_eq_true rfl) rfl ?_
                          refine j_iinc 246 1 (y := ((j + 1 : Nat) : Int)) (L2 := [(10, .int (i32 (((j + 1 : Nat) : Int)))), (9, .int (i32 (b01 (!chosen e2 c (s_groupOf e2 (g_171 (m) 19) (g_171 (m) 20)) (j + 1))))), (8, .int (i32 (s_groupOf e2 (g_171 (m) 19) (g_171 (m) 20)))), (7, .int (i32 (byT T (sk T p2)))), (5, .int (i32 (((n : Nat) : Int)))), (6, .int (i32 (((95 + 7 * c : Nat) : Int)))), (4, .int (i32 (nv T (sk T ((sk T (p)) + dn T (sk T (p))))))), (3, .int (i32 (bv (fT T (sk T (p))) (dn T (sk T (p)))))), (2, .int (i32 (((dn T (sk T (p)) : Nat) : Int)))), (0, .ref (m)), (1, .int (i32 (((st : Nat) : Int))))]) dX10_readRoute_243 rfl rfl (by omega) (Nat.le_of_ble_eq_true rfl) rfl ?_
                          refine j_goto 207 dX10_readRoute_246 rfl ?_
                          refine j_sub [0, 1, 2, 3, 4, 5, 6, 7, 8, 9, 10] rfl ?_
                          exact ih_207 (j + 1) (by omega) (by omega)
                        · skip
                          have hcf : chosen e2 c (s_groupOf e2 (g_171 (m) 19) (g_171 (m) 20)) j = false := by
                            cases hz : chosen e2 c (s_groupOf e2 (g_171 (m) 19) (g_171 (m) 20)) j
                            · rfl
                            · rw [hz] at c_216; exact absurd rfl c_216
                          refine j_aload_n 220 9 dX10_readRoute_219 rfl rfl ?_
                          refine j_getr 223 dX10_readRoute_220 rfl fl_X10_20 hM.md rfl (fun _ _ => rfl) rfl ?_
                          refine j_iload 225 5 dX10_readRoute_223 rfl rfl ?_
                          refine j_iconst 226 dX10_readRoute_225 rfl ?_
                          refine j_iadd 227 dX10_readRoute_226 rfl ?_
                          refine j_iload 229 0 dX10_readRoute_227 rfl rfl ?_
                          refine j_iadd 230 dX10_readRoute_229 rfl ?_
                          refine j_iald 231 (99 + 7 * c + j) dX10_readRoute_230 rfl hM.dra rfl (by omega) (show 99 + 7 * c + j < 729 by omega) (fun r_230 => ?_)
                          refine j_top (y := e2 (99 + 7 * c + j)) (congrFun hD9 _) ?_
                          refine j_iload 233 2 dX10_readRoute_231 rfl rfl ?_
                          refine j_icmp_eq 236 240 dX10_readRoute_233 rfl rfl (by have h := r_230; rw [hD9] at h; exact h) (fst_r32 _ (by decide)) (fun c_233_21 => ?_) (fun c_233_21 => ?_)
                          · skip
                            have hcj : chosen e2 c (s_groupOf e2 (g_171 (m) 19) (g_171 (m) 20)) (j + 1) = true := by
                              show (chosen e2 c _ j || decide _) = true
                              rw [decide_eq_true c_233_21, Bool.or_true]
                            refine j_iconst 241 dX10_readRoute_240 rfl ?_
                            refine j_top (y := b01 (!chosen e2 c (s_groupOf e2 (g_171 (m) 19) (g_171 (m) 20)) (j + 1))) (by rw [hcj]; rfl) ?_
                            refine j_istore 243 (L2 := [(9, .int (i32 (b01 (!chosen e2 c (s_groupOf e2 (g_171 (m) 19) (g_171 (m) 20)) (j + 1))))), (10, .int (i32 (((j : Nat) : Int)))), (8, .int (i32 (s_groupOf e2 (g_171 (m) 19) (g_171 (m) 20)))), (7, .int (i32 (byT T (sk T p2)))), (5, .int (i32 (((n : Nat) : Int)))), (6, .int (i32 (((95 + 7 * c : Nat) : Int)))), (4, .int (i32 (nv T (sk T ((sk T (p)) + dn T (sk T (p))))))), (3, .int (i32 (bv (fT T (sk T (p))) (dn T (sk T (p)))))), (2, .int (i32 (((dn T (sk T (p)) : Nat) : Int)))), (0, .ref (m)), (1, .int (i32 (((st : Nat) : Int))))]) dX10_readRoute_241 rfl (Nat.le_of_ble_eq_true rfl) rfl ?_
                            refine j_iinc 246 1 (y := ((j + 1 : Nat) : Int)) (L2 := [(10, .int (i32 (((j + 1 : Nat) : Int)))), (9, .int (i32 (b01 (!chosen e2 c (s_groupOf e2 (g_171 (m) 19) (g_171 (m) 20)) (j + 1))))), (8, .int (i32 (s_groupOf e2 (g_171 (m) 19) (g_171 (m) 20)))), (7, .int (i32 (byT T (sk T p2)))), (5, .int (i32 (((n : Nat) : Int)))), (6, .int (i32 (((95 + 7 * c : Nat) : Int)))), (4, .int (i32 (nv T (sk T ((sk T (p)) + dn T (sk T (p))))))), (3, .int (i32 (bv (fT T (sk T (p))) (dn T (sk T (p)))))), (2, .int (i32 (((dn T (sk T (p)) : Nat) : Int)))), (0, .ref (m)), (1, .int (i32 (((st : Nat) : Int))))]) dX10_readRoute_243 rfl rfl (by omega) (Nat.le_of_ble_eq_true rfl) rfl ?_
                            refine j_goto 207 dX10_readRoute_246 rfl ?_
                            refine j_sub [0, 1, 2, 3, 4, 5, 6, 7, 8, 9, 10] rfl ?_
                            exact ih_207 (j + 1) (by omega) (by omega)
                          · skip
                            have hcj : chosen e2 c (s_groupOf e2 (g_171 (m) 19) (g_171 (m) 20)) (j + 1) = false := by
                              show (chosen e2 c _ j || decide _) = false
                              rw [hcf, decide_eq_false c_233_21]; rfl
                            refine j_iconst 237 dX10_readRoute_236 rfl ?_
                            refine j_goto 241 dX10_readRoute_237 rfl ?_
                            refine j_top (y := b01 (!chosen e2 c (s_groupOf e2 (g_171 (m) 19) (g_171 (m) 20)) (j + 1))) (by rw [hcj]; rfl) ?_
                            refine j_istore 243 (L2 := [(9, .int (i32 (b01 (!chosen e2 c (s_groupOf e2 (g_171 (m) 19) (g_171 (m) 20)) (j + 1))))), (10, .int (i32 (((j : Nat) : Int)))), (8, .int (i32 (s_groupOf e2 (g_171 (m) 19) (g_171 (m) 20)))), (7, .int (i32 (byT T (sk T p2)))), (5, .int (i32 (((n : Nat) : Int)))), (6, .int (i32 (((95 + 7 * c : Nat) : Int)))), (4, .int (i32 (nv T (sk T ((sk T (p)) + dn T (sk T (p))))))), (3, .int (i32 (bv (fT T (sk T (p))) (dn T (sk T (p)))))), (2, .int (i32 (((dn T (sk T (p)) : Nat) : Int)))), (0, .ref (m)), (1, .int (i32 (((st : Nat) : Int))))]) dX10_readRoute_241 rfl (Nat.le_of_ble_eq_true rfl) rfl ?_
                            refine j_iinc 246 1 (y := ((j + 1 : Nat) : Int)) (L2 := [(10, .int (i32 (((j + 1 : Nat) : Int)))), (9, .int (i32 (b01 (!chosen e2 c (s_groupOf e2 (g_171 (m) 19) (g_171 (m) 20)) (j + 1))))), (8, .int (i32 (s_groupOf e2 (g_171 (m) 19) (g_171 (m) 20)))), (7, .int (i32 (byT T (sk T p2)))), (5, .int (i32 (((n : Nat) : Int)))), (6, .int (i32 (((95 + 7 * c : Nat) : Int)))), (4, .int (i32 (nv T (sk T ((sk T (p)) + dn T (sk T (p))))))), (3, .int (i32 (bv (fT T (sk T (p))) (dn T (sk T (p)))))), (2, .int (i32 (((dn T (sk T (p)) : Nat) : Int)))), (0, .ref (m)), (1, .int (i32 (((st : Nat) : Int))))]) dX10_readRoute_243 rfl rfl (by omega) (Nat.le_of_ble_eq_true rfl) rfl ?_
                            refine j_goto 207 dX10_readRoute_246 rfl ?_
                            refine j_sub [0, 1, 2, 3, 4, 5, 6, 7, 8, 9, 10] rfl ?_
                            exact ih_207 (j + 1) (by omega) (by omega)
                ·
                  rw [namS_3 hD] at S7
                  refine j_aload_n 175 6 dX10_readRoute_174 rfl rfl ?_
                  refine j_getr 178 dX10_readRoute_175 rfl fl_X10_20 hM.md rfl (fun _ _ => rfl) rfl ?_
                  refine j_aload_n 179 6 dX10_readRoute_178 rfl rfl ?_
                  refine j_geti 182 dX10_readRoute_179 rfl fl_X10_106 hM.md rfl rfl (fun r_179 => ?_)
                  refine j_aload_n 183 6 dX10_readRoute_182 rfl rfl ?_
                  refine j_geti 186 dX10_readRoute_183 rfl fl_X10_109 hM.md rfl rfl (fun r_183 => ?_)
                  refine j_callS 189 (As := [.ref (m + 3), .int (i32 (g_171 (m) 19)), .int (i32 (g_171 (m) 20))]) (kc2 := 0) (ks2 := 0) dX10_readRoute_186 rfl msX10_groupOf lk_X10_123 rfl rfl (Nat.le_of_ble_eq_true rfl) ⟨Nat.le_of_ble_eq_true rfl, Nat.le_of_ble_eq_true rfl⟩ ⟨Nat.le_of_ble_eq_true rfl, Nat.le_of_ble_eq_true rfl⟩ (r_groupOf hM.dra (show g_171 (m + 3) 3 ≤ 5 by rw [((F7.1 _ (by omega)).trans hgk)]; omega) r_179 r_183) x_d (k_d1 ?_)
                  refine j_top (y := s_groupOf e2 (g_171 (m) 19) (g_171 (m) 20)) (by rw [((F7.1 _ (by omega)).trans hgk)]) ?_
                  have hD9 : g_171 (m + 3) = e2 := ((F7.1 _ (by omega)).trans hgk)
                  refine j_istore 191 (L2 := [(8, .int (i32 (s_groupOf e2 (g_171 (m) 19) (g_171 (m) 20)))), (7, .int (i32 (byT T (sk T p2)))), (5, .int (i32 (((n : Nat) : Int)))), (6, .int (i32 (((95 + 7 * c : Nat) : Int)))), (4, .int (i32 (nv T (sk T ((sk T (p)) + dn T (sk T (p))))))), (3, .int (i32 (bv (fT T (sk T (p))) (dn T (sk T (p)))))), (2, .int (i32 (((dn T (sk T (p)) : Nat) : Int)))), (0, .ref (m)), (1, .int (i32 (((st : Nat) : Int))))]) dX10_readRoute_189 rfl (Nat.le_of_ble_eq_true rfl) rfl ?_
                  refine j_iload 193 0 dX10_readRoute_191 rfl rfl ?_
                  refine j_iconst 194 dX10_readRoute_193 rfl ?_
                  refine j_icmp_eq 197 201 dX10_readRoute_194 rfl rfl (fst_r32 _ (by decide)) (r32 (by decide) (by decide)) (fun c_194_22 => ?_) (fun c_194_22 => ?_)
                  · skip
                    refine j_iconst 202 dX10_readRoute_201 rfl ?_
                    refine j_istore 204 (L2 := [(9, .int (i32 (0))), (8, .int (i32 (s_groupOf e2 (g_171 (m) 19) (g_171 (m) 20)))), (7, .int (i32 (byT T (sk T p2)))), (5, .int (i32 (((n : Nat) : Int)))), (6, .int (i32 (((95 + 7 * c : Nat) : Int)))), (4, .int (i32 (nv T (sk T ((sk T (p)) + dn T (sk T (p))))))), (3, .int (i32 (bv (fT T (sk T (p))) (dn T (sk T (p)))))), (2, .int (i32 (((dn T (sk T (p)) : Nat) : Int)))), (0, .ref (m)), (1, .int (i32 (((st : Nat) : Int))))]) dX10_readRoute_202 rfl (Nat.le_of_ble_eq_true rfl) rfl ?_
                    refine j_iconst 205 dX10_readRoute_204 rfl ?_
                    refine j_istore 207 (L2 := [(10, .int (i32 (0))), (9, .int (i32 (0))), (8, .int (i32 (s_groupOf e2 (g_171 (m) 19) (g_171 (m) 20)))), (7, .int (i32 (byT T (sk T p2)))), (5, .int (i32 (((n : Nat) : Int)))), (6, .int (i32 (((95 + 7 * c : Nat) : Int)))), (4, .int (i32 (nv T (sk T ((sk T (p)) + dn T (sk T (p))))))), (3, .int (i32 (bv (fT T (sk T (p))) (dn T (sk T (p)))))), (2, .int (i32 (((dn T (sk T (p)) : Nat) : Int)))), (0, .ref (m)), (1, .int (i32 (((st : Nat) : Int))))]) dX10_readRoute_205 rfl (Nat.le_of_ble_eq_true rfl) rfl ?_
                    suffices lp_207 : ∀ (n_207 j : Nat), n - j < n_207 → j ≤ n → J w mX10_readRoute 207 [(10, .int (i32 ((j : Nat) : Int))), (9, .int (i32 (0))), (8, .int (i32 (s_groupOf e2 (g_171 (m) 19) (g_171 (m) 20)))), (7, .int (i32 (byT T (sk T p2)))), (5, .int (i32 (((n : Nat) : Int)))), (6, .int (i32 (((95 + 7 * c : Nat) : Int)))), (4, .int (i32 (nv T (sk T ((sk T (p)) + dn T (sk T (p))))))), (3, .int (i32 (bv (fT T (sk T (p))) (dn T (sk T (p)))))), (2, .int (i32 (((dn T (sk T (p)) : Nat) : Int)))), (0, .ref (m)), (1, .int (i32 (((st : Nat) : Int))))] [] sh g_171 0 0 (vQ sh (RP2 g m T res)) by
                      refine j_sub [0, 1, 2, 3, 4, 5, 6, 7, 8, 9, 10] rfl ?_
                      exact lp_207 _ 0 (Nat.lt_succ_self _) (by omega)
                    intro n_207
                    induction n_207 with
                    | zero => intro j h_; exact absurd h_ (Nat.not_lt_zero _)
                    | succ n_207 ih_207 =>
                      intro j hn_207 hjn
                      refine j_iload 209 0 dX10_readRoute_207 rfl rfl ?_
                      refine j_iload 211 4 dX10_readRoute_209 rfl rfl ?_
                      refine j_icmp_ge 214 249 dX10_readRoute_211 rfl rfl (r32 (by omega) (by omega)) (r32 (by omega) (by omega)) (fun c_211_24 => ?_) (fun c_211_24 => ?_)
                      · skip
                        have hjn2 : j = n := by omega
                        rw [hjn2]
                        refine j_aload_n 250 9 dX10_readRoute_249 rfl rfl ?_
                        refine j_callV 253 (As := []) (kc2 := 0) (ks2 := 0) dX10_readRoute_250 rfl mvX10_isGood lk_X10_61 hM.md rfl ⟨Nat.le_of_ble_eq_true rfl, rfl⟩ rfl rfl (Nat.le_of_ble_eq_true rfl) ⟨Nat.le_of_ble_eq_true rfl, Nat.le_of_ble_eq_true rfl⟩ ⟨Nat.le_of_ble_eq_true rfl, Nat.le_of_ble_eq_true rfl⟩ (rp_isGood hM) x_d (k_d1 ?_)
                        refine j_top (y := 0) (by rw [decide_eq_false (by have h1 := S7.2.2.1; have h2 := S7.2.2.2.2; dsimp only at h1 h2; omega)]; rfl) ?_
                        refine j_if_eq 256 271 dX10_readRoute_253 rfl rfl (r32 (by decide) (by decide)) (fun c_253 => ?_) (fun c_253 => absurd c_253 (by decide))
                        refine j_aload_n 272 9 dX10_readRoute_271 rfl rfl ?_
                        refine j_callV 275 (As := []) (kc2 := 0) (ks2 := 0) dX10_readRoute_272 rfl mvX10_isGood lk_X10_61 hM.md rfl ⟨Nat.le_of_ble_eq_true rfl, rfl⟩ rfl rfl (Nat.le_of_ble_eq_true rfl) ⟨Nat.le_of_ble_eq_true rfl, Nat.le_of_ble_eq_true rfl⟩ ⟨Nat.le_of_ble_eq_true rfl, Nat.le_of_ble_eq_true rfl⟩ (rp_isGood hM) x_d (k_d1 ?_)
                        refine j_top (y := 0) (by rw [decide_eq_false (by have h1 := S7.2.2.1; have h2 := S7.2.2.2.2; dsimp only at h1 h2; omega)]; rfl) ?_
                        refine j_if_ne 278 279 dX10_readRoute_275 rfl rfl (r32 (by decide) (by decide)) (fun c_275 => absurd c_275 (by decide)) (fun c_275 => ?_)
                        exact j_vret dX10_readRoute_278 rfl (⟨rfl, rfl, FK.tr F7.fd, by
                          rw [show res = .inr ((-3), (sk T (sk T p2))) from hres.trans (by rw [ch_u, if_neg (show ¬ n = 3 by omega), kNam_3 hD])]
                          exact S7⟩)
                      · skip
                        refine j_iload 216 1 dX10_readRoute_214 rfl rfl ?_
                        refine j_if_eq 219 240 dX10_readRoute_216 rfl rfl (r32 (by decide) (by decide)) (fun c_216 => ?_) (fun c_216 => absurd rfl c_216)
                        refine j_iconst 241 dX10_readRoute_240 rfl ?_
                        refine j_istore 243 (L2 := [(9, .int (i32 (0))), (10, .int (i32 (((j : Nat) : Int)))), (8, .int (i32 (s_groupOf e2 (g_171 (m) 19) (g_171 (m) 20)))), (7, .int (i32 (byT T (sk T p2)))), (5, .int (i32 (((n : Nat) : Int)))), (6, .int (i32 (((95 + 7 * c : Nat) : Int)))), (4, .int (i32 (nv T (sk T ((sk T (p)) + dn T (sk T (p))))))), (3, .int (i32 (bv (fT T (sk T (p))) (dn T (sk T (p)))))), (2, .int (i32 (((dn T (sk T (p)) : Nat) : Int)))), (0, .ref (m)), (1, .int (i32 (((st : Nat) : Int))))]) dX10_readRoute_241 rfl (Nat.le_of_ble_eq_true rfl) rfl ?_
                        refine j_iinc 246 1 (y := ((j + 1 : Nat) : Int)) (L2 := [(10, .int (i32 (((j + 1 : Nat) : Int)))), (9, .int (i32 (0))), (8, .int (i32 (s_groupOf e2 (g_171 (m) 19) (g_171 (m) 20)))), (7, .int (i32 (byT T (sk T p2)))), (5, .int (i32 (((n : Nat) : Int)))), (6, .int (i32 (((95 + 7 * c : Nat) : Int)))), (4, .int (i32 (nv T (sk T ((sk T (p)) + dn T (sk T (p))))))), (3, .int (i32 (bv (fT T (sk T (p))) (dn T (sk T (p)))))), (2, .int (i32 (((dn T (sk T (p)) : Nat) : Int)))), (0, .ref (m)), (1, .int (i32 (((st : Nat) : Int))))]) dX10_readRoute_243 rfl rfl (by omega) (Nat.le_of_ble_eq_true rfl) rfl ?_
                        refine j_goto 207 dX10_readRoute_246 rfl ?_
                        refine j_sub [0, 1, 2, 3, 4, 5, 6, 7, 8, 9, 10] rfl ?_
                        exact ih_207 (j + 1) (by omega) (by omega)
                  · skip
                    refine j_iconst 198 dX10_readRoute_197 rfl ?_
                    refine j_goto 202 dX10_readRoute_198 rfl ?_
                    refine j_istore 204 (L2 := [(9, .int (i32 (1))), (8, .int (i32 (s_groupOf e2 (g_171 (m) 19) (g_171 (m) 20)))), (7, .int (i32 (byT T (sk T p2)))), (5, .int (i32 (((n : Nat) : Int)))), (6, .int (i32 (((95 + 7 * c : Nat) : Int)))), (4, .int (i32 (nv T (sk T ((sk T (p)) + dn T (sk T (p))))))), (3, .int (i32 (bv (fT T (sk T (p))) (dn T (sk T (p)))))), (2, .int (i32 (((dn T (sk T (p)) : Nat) : Int)))), (0, .ref (m)), (1, .int (i32 (((st : Nat) : Int))))]) dX10_readRoute_202 rfl (Nat.le_of_ble_eq_true rfl) rfl ?_
                    refine j_iconst 205 dX10_readRoute_204 rfl ?_
                    refine j_istore 207 (L2 := [(10, .int (i32 (0))), (9, .int (i32 (1))), (8, .int (i32 (s_groupOf e2 (g_171 (m) 19) (g_171 (m) 20)))), (7, .int (i32 (byT T (sk T p2)))), (5, .int (i32 (((n : Nat) : Int)))), (6, .int (i32 (((95 + 7 * c : Nat) : Int)))), (4, .int (i32 (nv T (sk T ((sk T (p)) + dn T (sk T (p))))))), (3, .int (i32 (bv (fT T (sk T (p))) (dn T (sk T (p)))))), (2, .int (i32 (((dn T (sk T (p)) : Nat) : Int)))), (0, .ref (m)), (1, .int (i32 (((st : Nat) : Int))))]) dX10_readRoute_205 rfl (Nat.le_of_ble_eq_true rfl) rfl ?_
                    suffices lp_207 : ∀ (n_207 j : Nat), n - j < n_207 → j ≤ n → J w mX10_readRoute 207 [(10, .int (i32 ((j : Nat) : Int))), (9, .int (i32 (b01 (!chosen e2 c (s_groupOf e2 (g_171 (m) 19) (g_171 (m) 20)) j)))), (8, .int (i32 (s_groupOf e2 (g_171 (m) 19) (g_171 (m) 20)))), (7, .int (i32 (byT T (sk T p2)))), (5, .int (i32 (((n : Nat) : Int)))), (6, .int (i32 (((95 + 7 * c : Nat) : Int)))), (4, .int (i32 (nv T (sk T ((sk T (p)) + dn T (sk T (p))))))), (3, .int (i32 (bv (fT T (sk T (p))) (dn T (sk T (p)))))), (2, .int (i32 (((dn T (sk T (p)) : Nat) : Int)))), (0, .ref (m)), (1, .int (i32 (((st : Nat) : Int))))] [] sh g_171 0 0 (vQ sh (RP2 g m T res)) by
                      refine j_sub [0, 1, 2, 3, 4, 5, 6, 7, 8, 9, 10] rfl ?_
                      exact lp_207 _ 0 (Nat.lt_succ_self _) (by omega)
                    intro n_207
                    induction n_207 with
                    | zero => intro j h_; exact absurd h_ (Nat.not_lt_zero _)
                    | succ n_207 ih_207 =>
                      intro j hn_207 hjn
                      refine j_iload 209 0 dX10_readRoute_207 rfl rfl ?_
                      refine j_iload 211 4 dX10_readRoute_209 rfl rfl ?_
                      refine j_icmp_ge 214 249 dX10_readRoute_211 rfl rfl (r32 (by omega) (by omega)) (r32 (by omega) (by omega)) (fun c_211_26 => ?_) (fun c_211_26 => ?_)
                      · skip
                        have hjn2 : j = n := by omega
                        rw [hjn2]
                        refine j_aload_n 250 9 dX10_readRoute_249 rfl rfl ?_
                        refine j_callV 253 (As := []) (kc2 := 0) (ks2 := 0) dX10_readRoute_250 rfl mvX10_isGood lk_X10_61 hM.md rfl ⟨Nat.le_of_ble_eq_true rfl, rfl⟩ rfl rfl (Nat.le_of_ble_eq_true rfl) ⟨Nat.le_of_ble_eq_true rfl, Nat.le_of_ble_eq_true rfl⟩ ⟨Nat.le_of_ble_eq_true rfl, Nat.le_of_ble_eq_true rfl⟩ (rp_isGood hM) x_d (k_d1 ?_)
                        refine j_top (y := 0) (by rw [decide_eq_false (by have h1 := S7.2.2.1; have h2 := S7.2.2.2.2; dsimp only at h1 h2; omega)]; rfl) ?_
                        refine j_if_eq 256 271 dX10_readRoute_253 rfl rfl (r32 (by decide) (by decide)) (fun c_253 => ?_) (fun c_253 => absurd c_253 (by decide))
                        refine j_aload_n 272 9 dX10_readRoute_271 rfl rfl ?_
                        refine j_callV 275 (As := []) (kc2 := 0) (ks2 := 0) dX10_readRoute_272 rfl mvX10_isGood lk_X10_61 hM.md rfl ⟨Nat.le_of_ble_eq_true rfl, rfl⟩ rfl rfl (Nat.le_of_ble_eq_true rfl) ⟨Nat.le_of_ble_eq_true rfl, Nat.le_of_ble_eq_true rfl⟩ ⟨Nat.le_of_ble_eq_true rfl, Nat.le_of_ble_eq_true rfl⟩ (rp_isGood hM) x_d (k_d1 ?_)
                        refine j_top (y := 0) (by rw [decide_eq_false (by have h1 := S7.2.2.1; have h2 := S7.2.2.2.2; dsimp only at h1 h2; omega)]; rfl) ?_
                        refine j_if_ne 278 279 dX10_readRoute_275 rfl rfl (r32 (by decide) (by decide)) (fun c_275 => absurd c_275 (by decide)) (fun c_275 => ?_)
                        exact j_vret dX10_readRoute_278 rfl (⟨rfl, rfl, FK.tr F7.fd, by
                          rw [show res = .inr ((-3), (sk T (sk T p2))) from hres.trans (by rw [ch_u, if_neg (show ¬ n = 3 by omega), kNam_3 hD])]
                          exact S7⟩)
                      · skip
                        refine j_iload 216 1 dX10_readRoute_214 rfl rfl ?_
                        refine j_if_eq 219 240 dX10_readRoute_216 rfl rfl (r01 (b01_r _)) (fun c_216 => ?_) (fun c_216 => ?_)
                        · skip
                          have hcj : chosen e2 c (s_groupOf e2 (g_171 (m) 19) (g_171 (m) 20)) (j + 1) = true := by
                            show (chosen e2 c _ j || _) = true
                            cases hz : chosen e2 c (s_groupOf e2 (g_171 (m) 19) (g_171 (m) 20)) j
                            · rw [hz] at c_216; cases c_216
                            · rfl
                          refine j_iconst 241 dX10_readRoute_240 rfl ?_
                          refine j_top (y := b01 (!chosen e2 c (s_groupOf e2 (g_171 (m) 19) (g_171 (m) 20)) (j + 1))) (by rw [hcj]; rfl) ?_
                          refine j_istore 243 (L2 := [(9, .int (i32 (b01 (!chosen e2 c (s_groupOf e2 (g_171 (m) 19) (g_171 (m) 20)) (j + 1))))), (10, .int (i32 (((j : Nat) : Int)))), (8, .int (i32 (s_groupOf e2 (g_171 (m) 19) (g_171 (m) 20)))), (7, .int (i32 (byT T (sk T p2)))), (5, .int (i32 (((n : Nat) : Int)))), (6, .int (i32 (((95 + 7 * c : Nat) : Int)))), (4, .int (i32 (nv T (sk T ((sk T (p)) + dn T (sk T (p))))))), (3, .int (i32 (bv (fT T (sk T (p))) (dn T (sk T (p)))))), (2, .int (i32 (((dn T (sk T (p)) : Nat) : Int)))), (0, .ref (m)), (1, .int (i32 (((st : Nat) : Int))))]) dX10_readRoute_241 rfl (Nat.le_of_ble_eq_true rfl) rfl ?_
                          refine j_iinc 246 1 (y := ((j + 1 : Nat) : Int)) (L2 := [(10, .int (i32 (((j + 1 : Nat) : Int)))), (9, .int (i32 (b01 (!chosen e2 c (s_groupOf e2 (g_171 (m) 19) (g_171 (m) 20)) (j + 1))))), (8, .int (i32 (s_groupOf e2 (g_171 (m) 19) (g_171 (m) 20)))), (7, .int (i32 (byT T (sk T p2)))), (5, .int (i32 (((n : Nat) : Int)))), (6, .int (i32 (((95 + 7 * c : Nat) : Int)))), (4, .int (i32 (nv T (sk T ((sk T (p)) + dn T (sk T (p))))))), (3, .int (i32 (bv (fT T (sk T (p))) (dn T (sk T (p)))))), (2, .int (i32 (((dn T (sk T (p)) : Nat) : Int)))), (0, .ref (m)), (1, .int (i32 (((st : Nat) : Int))))]) dX10_readRoute_243 rfl rfl (by omega) (Nat.le_of_ble_eq_true rfl) rfl ?_
                          refine j_goto 207 dX10_readRoute_246 rfl ?_
                          refine j_sub [0, 1, 2, 3, 4, 5, 6, 7, 8, 9, 10] rfl ?_
                          exact ih_207 (j + 1) (by omega) (by omega)
                        · skip
                          have hcf : chosen e2 c (s_groupOf e2 (g_171 (m) 19) (g_171 (m) 20)) j = false := by
                            cases hz : chosen e2 c (s_groupOf e2 (g_171 (m) 19) (g_171 (m) 20)) j
                            · rfl
                            · rw [hz] at c_216; exact absurd rfl c_216
                          refine j_aload_n 220 9 dX10_readRoute_219 rfl rfl ?_
                          refine j_getr 223 dX10_readRoute_220 rfl fl_X10_20 hM.md rfl (fun _ _ => rfl) rfl ?_
                          refine j_iload 225 5 dX10_readRoute_223 rfl rfl ?_
                          refine j_iconst 226 dX10_readRoute_225 rfl ?_
                          refine j_iadd 227 dX10_readRoute_226 rfl ?_
                          refine j_iload 229 0 dX10_readRoute_227 rfl rfl ?_
                          refine j_iadd 230 dX10_readRoute_229 rfl ?_
                          refine j_iald 231 (99 + 7 * c + j) dX10_readRoute_230 rfl hM.dra rfl (by omega) (show 99 + 7 * c + j < 729 by omega) (fun r_230 => ?_)
                          refine j_top (y := e2 (99 + 7 * c + j)) (congrFun hD9 _) ?_
                          refine j_iload 233 2 dX10_readRoute_231 rfl rfl ?_
                          refine j_icmp_eq 236 240 dX10_readRoute_233 rfl rfl (by have h := r_230; rw [hD9] at h; exact h) (fst_r32 _ (by decide)) (fun c_233_27 => ?_) (fun c_233_27 => ?_)
                          · skip
                            have hcj : chosen e2 c (s_groupOf e2 (g_171 (m) 19) (g_171 (m) 20)) (j + 1) = true := by
                              show (chosen e2 c _ j || decide _) = true
                              rw [decide_eq_true c_233_27, Bool.or_true]
                            refine j_iconst 241 dX10_readRoute_240 rfl ?_
                            refine j_top (y := b01 (!chosen e2 c (s_groupOf e2 (g_171 (m) 19) (g_171 (m) 20)) (j + 1))) (by rw [hcj]; rfl) ?_
                            refine j_istore 243 (L2 := [(9, .int (i32 (b01 (!chosen e2 c (s_groupOf e2 (g_171 (m) 19) (g_171 (m) 20)) (j + 1))))), (10, .int (i32 (((j : Nat) : Int)))), (8, .int (i32 (s_groupOf e2 (g_171 (m) 19) (g_171 (m) 20)))), (7, .int (i32 (byT T (sk T p2)))), (5, .int (i32 (((n : Nat) : Int)))), (6, .int (i32 (((95 + 7 * c : Nat) : Int)))), (4, .int (i32 (nv T (sk T ((sk T (p)) + dn T (sk T (p))))))), (3, .int (i32 (bv (fT T (sk T (p))) (dn T (sk T (p)))))), (2, .int (i32 (((dn T (sk T (p)) : Nat) : Int)))), (0, .ref (m)), (1, .int (i32 (((st : Nat) : Int))))]) dX10_readRoute_241 rfl (Nat.le_of_ble_eq_true rfl) rfl ?_
                            refine j_iinc 246 1 (y := ((j + 1 : Nat) : Int)) (L2 := [(10, .int (i32 (((j + 1 : Nat) : Int)))), (9, .int (i32 (b01 (!chosen e2 c (s_groupOf e2 (g_171 (m) 19) (g_171 (m) 20)) (j + 1))))), (8, .int (i32 (s_groupOf e2 (g_171 (m) 19) (g_171 (m) 20)))), (7, .int (i32 (byT T (sk T p2)))), (5, .int (i32 (((n : Nat) : Int)))), (6, .int (i32 (((95 + 7 * c : Nat) : Int)))), (4, .int (i32 (nv T (sk T ((sk T (p)) + dn T (sk T (p))))))), (3, .int (i32 (bv (fT T (sk T (p))) (dn T (sk T (p)))))), (2, .int (i32 (((dn T (sk T (p)) : Nat) : Int)))), (0, .ref (m)), (1, .int (i32 (((st : Nat) : Int))))]) dX10_readRoute_243 rfl rfl (by omega) (Nat.le_of_ble_eq_true rfl) rfl ?_
                            refine j_goto 207 dX10_readRoute_246 rfl ?_
                            refine j_sub [0, 1, 2, 3, 4, 5, 6, 7, 8, 9, 10] rfl ?_
                            exact ih_207 (j + 1) (by omega) (by omega)
                          · skip
                            have hcj : chosen e2 c (s_groupOf e2 (g_171 (m) 19) (g_171 (m) 20)) (j + 1) = false := by
                              show (chosen e2 c _ j || decide _) = false
                              rw [hcf, decide_eq_false c_233_27]; rfl
                            refine j_iconst 237 dX10_readRoute_236 rfl ?_
                            refine j_goto 241 dX10_readRoute_237 rfl ?_
                            refine j_top (y := b01 (!chosen e2 c (s_groupOf e2 (g_171 (m) 19) (g_171 (m) 20)) (j + 1))) (by rw [hcj]; rfl) ?_
                            refine j_istore 243 (L2 := [(9, .int (i32 (b01 (!chosen e2 c (s_groupOf e2 (g_171 (m) 19) (g_171 (m) 20)) (j + 1))))), (10, .int (i32 (((j : Nat) : Int)))), (8, .int (i32 (s_groupOf e2 (g_171 (m) 19) (g_171 (m) 20)))), (7, .int (i32 (byT T (sk T p2)))), (5, .int (i32 (((n : Nat) : Int)))), (6, .int (i32 (((95 + 7 * c : Nat) : Int)))), (4, .int (i32 (nv T (sk T ((sk T (p)) + dn T (sk T (p))))))), (3, .int (i32 (bv (fT T (sk T (p))) (dn T (sk T (p)))))), (2, .int (i32 (((dn T (sk T (p)) : Nat) : Int)))), (0, .ref (m)), (1, .int (i32 (((st : Nat) : Int))))]) dX10_readRoute_241 rfl (Nat.le_of_ble_eq_true rfl) rfl ?_
                            refine j_iinc 246 1 (y := ((j + 1 : Nat) : Int)) (L2 := [(10, .int (i32 (((j + 1 : Nat) : Int)))), (9, .int (i32 (b01 (!chosen e2 c (s_groupOf e2 (g_171 (m) 19) (g_171 (m) 20)) (j + 1))))), (8, .int (i32 (s_groupOf e2 (g_171 (m) 19) (g_171 (m) 20)))), (7, .int (i32 (byT T (sk T p2)))), (5, .int (i32 (((n : Nat) : Int)))), (6, .int (i32 (((95 + 7 * c : Nat) : Int)))), (4, .int (i32 (nv T (sk T ((sk T (p)) + dn T (sk T (p))))))), (3, .int (i32 (bv (fT T (sk T (p))) (dn T (sk T (p)))))), (2, .int (i32 (((dn T (sk T (p)) : Nat) : Int)))), (0, .ref (m)), (1, .int (i32 (((st : Nat) : Int))))]) dX10_readRoute_243 rfl rfl (by omega) (Nat.le_of_ble_eq_true rfl) rfl ?_
                            refine j_goto 207 dX10_readRoute_246 rfl ?_
                            refine j_sub [0, 1, 2, 3, 4, 5, 6, 7, 8, 9, 10] rfl ?_
                            exact ih_207 (j + 1) (by omega) (by omega)
              · skip
                refine j_aload_n 161 6 dX10_readRoute_160 rfl rfl ?_
                refine j_bipush 163 dX10_readRoute_161 rfl (by decide) ?_
                refine j_aload_n 164 6 dX10_readRoute_163 rfl rfl ?_
                refine j_geti 167 dX10_readRoute_164 rfl fl_X10_44 hM.md rfl rfl (fun r_164 => ?_)
                refine j_top (y := ((sk T (sk T p2) : Nat) : Int)) (S5.2.1.trans (by rw [sk_sk])) ?_
                refine j_callV 170 (As := [.int (i32 (-2)), .int (i32 (((sk T (sk T p2) : Nat) : Int)))]) (kc2 := 0) (ks2 := 0) dX10_readRoute_167 rfl mvX10_report lk_X10_78 hM.md rfl ⟨Nat.le_of_ble_eq_true rfl, rfl⟩ rfl rfl (Nat.le_of_ble_eq_true rfl) ⟨Nat.le_of_ble_eq_true rfl, Nat.le_of_ble_eq_true rfl⟩ ⟨Nat.le_of_ble_eq_true rfl, Nat.le_of_ble_eq_true rfl⟩ (rp_report0 hM S5.2.2.2.1 (r32 (by decide) (by decide)) (r32 (by omega) (by omega))) x_d (k_d0 ?_)
                refine j_mn (fun g28 hg28 => ?_)
                have S28 : RE g28 m T ((-2), sk T (sk T p2)) := by rw [hg28]; exact S5.err (by decide)
                have F28 : FM gk g28 m := by rw [hg28]; exact (F5.up (by decide)).up (by decide)
                refine j_aload_n 171 6 dX10_readRoute_170 rfl rfl ?_
                refine j_callV 174 (As := []) (kc2 := 0) (ks2 := 0) dX10_readRoute_171 rfl mvX10_readName lk_X10_120 hM.md rfl ⟨Nat.le_of_ble_eq_true rfl, rfl⟩ rfl rfl (Nat.le_of_ble_eq_true rfl) ⟨Nat.le_of_ble_eq_true rfl, Nat.le_of_ble_eq_true rfl⟩ ⟨Nat.le_of_ble_eq_true rfl, Nat.le_of_ble_eq_true rfl⟩ (rp_name hM (st := (.inr ((-2), sk T (sk T p2)))) S28) x_v (k_v fun g_171 h_171 => ?_)
                obtain ⟨Fz29, S29, C29⟩ := h_171
                have F29 := F28.tr Fz29
                have S29 : RE g_171 m T ((-2), sk T (sk T p2)) := S29
                refine j_aload_n 175 6 dX10_readRoute_174 rfl rfl ?_
                refine j_getr 178 dX10_readRoute_175 rfl fl_X10_20 hM.md rfl (fun _ _ => rfl) rfl ?_
                refine j_aload_n 179 6 dX10_readRoute_178 rfl rfl ?_
                refine j_geti 182 dX10_readRoute_179 rfl fl_X10_106 hM.md rfl rfl (fun r_179 => ?_)
                refine j_aload_n 183 6 dX10_readRoute_182 rfl rfl ?_
                refine j_geti 186 dX10_readRoute_183 rfl fl_X10_109 hM.md rfl rfl (fun r_183 => ?_)
                refine j_callS 189 (As := [.ref (m + 3), .int (i32 (g_171 (m) 19)), .int (i32 (g_171 (m) 20))]) (kc2 := 0) (ks2 := 0) dX10_readRoute_186 rfl msX10_groupOf lk_X10_123 rfl rfl (Nat.le_of_ble_eq_true rfl) ⟨Nat.le_of_ble_eq_true rfl, Nat.le_of_ble_eq_true rfl⟩ ⟨Nat.le_of_ble_eq_true rfl, Nat.le_of_ble_eq_true rfl⟩ (r_groupOf hM.dra (show g_171 (m + 3) 3 ≤ 5 by rw [((F29.1 _ (by omega)).trans hgk)]; omega) r_179 r_183) x_d (k_d1 ?_)
                refine j_top (y := s_groupOf e2 (g_171 (m) 19) (g_171 (m) 20)) (by rw [((F29.1 _ (by omega)).trans hgk)]) ?_
                have hD9 : g_171 (m + 3) = e2 := ((F29.1 _ (by omega)).trans hgk)
                refine j_istore 191 (L2 := [(8, .int (i32 (s_groupOf e2 (g_171 (m) 19) (g_171 (m) 20)))), (7, .int (i32 (byT T (sk T p2)))), (5, .int (i32 (((n : Nat) : Int)))), (6, .int (i32 (((95 + 7 * c : Nat) : Int)))), (4, .int (i32 (nv T (sk T ((sk T (p)) + dn T (sk T (p))))))), (3, .int (i32 (bv (fT T (sk T (p))) (dn T (sk T (p)))))), (2, .int (i32 (((dn T (sk T (p)) : Nat) : Int)))), (0, .ref (m)), (1, .int (i32 (((st : Nat) : Int))))]) dX10_readRoute_189 rfl (Nat.le_of_ble_eq_true rfl) rfl ?_
                refine j_iload 193 0 dX10_readRoute_191 rfl rfl ?_
                refine j_iconst 194 dX10_readRoute_193 rfl ?_
                refine j_icmp_eq 197 201 dX10_readRoute_194 rfl rfl (fst_r32 _ (by decide)) (r32 (by decide) (by decide)) (fun c_194_30 => ?_) (fun c_194_30 => ?_)
                · skip
                  refine j_iconst 202 dX10_readRoute_201 rfl ?_
                  refine j_istore 204 (L2 := [(9, .int (i32 (0))), (8, .int (i32 (s_groupOf e2 (g_171 (m) 19) (g_171 (m) 20)))), (7, .int (i32 (byT T (sk T p2)))), (5, .int (i32 (((n : Nat) : Int)))), (6, .int (i32 (((95 + 7 * c : Nat) : Int)))), (4, .int (i32 (nv T (sk T ((sk T (p)) + dn T (sk T (p))))))), (3, .int (i32 (bv (fT T (sk T (p))) (dn T (sk T (p)))))), (2, .int (i32 (((dn T (sk T (p)) : Nat) : Int)))), (0, .ref (m)), (1, .int (i32 (((st : Nat) : Int))))]) dX10_readRoute_202 rfl (Nat.le_of_ble_eq_true rfl) rfl ?_
                  refine j_iconst 205 dX10_readRoute_204 rfl ?_
                  refine j_istore 207 (L2 := [(10, .int (i32 (0))), (9, .int (i32 (0))), (8, .int (i32 (s_groupOf e2 (g_171 (m) 19) (g_171 (m) 20)))), (7, .int (i32 (byT T (sk T p2)))), (5, .int (i32 (((n : Nat) : Int)))), (6, .int (i32 (((95 + 7 * c : Nat) : Int)))), (4, .int (i32 (nv T (sk T ((sk T (p)) + dn T (sk T (p))))))), (3, .int (i32 (bv (fT T (sk T (p))) (dn T (sk T (p)))))), (2, .int (i32 (((dn T (sk T (p)) : Nat) : Int)))), (0, .ref (m)), (1, .int (i32 (((st : Nat) : Int))))]) dX10_readRoute_205 rfl (Nat.le_of_ble_eq_true rfl) rfl ?_
                  suffices lp_207 : ∀ (n_207 j : Nat), n - j < n_207 → j ≤ n → J w mX10_readRoute 207 [(10, .int (i32 ((j : Nat) : Int))), (9, .int (i32 (0))), (8, .int (i32 (s_groupOf e2 (g_171 (m) 19) (g_171 (m) 20)))), (7, .int (i32 (byT T (sk T p2)))), (5, .int (i32 (((n : Nat) : Int)))), (6, .int (i32 (((95 + 7 * c : Nat) : Int)))), (4, .int (i32 (nv T (sk T ((sk T (p)) + dn T (sk T (p))))))), (3, .int (i32 (bv (fT T (sk T (p))) (dn T (sk T (p)))))), (2, .int (i32 (((dn T (sk T (p)) : Nat) : Int)))), (0, .ref (m)), (1, .int (i32 (((st : Nat) : Int))))] [] sh g_171 0 0 (vQ sh (RP2 g m T res)) by
                    refine j_sub [0, 1, 2, 3, 4, 5, 6, 7, 8, 9, 10] rfl ?_
                    exact lp_207 _ 0 (Nat.lt_succ_self _) (by omega)
                  intro n_207
                  induction n_207 with
                  | zero => intro j h_; exact absurd h_ (Nat.not_lt_zero _)
                  | succ n_207 ih_207 =>
                    intro j hn_207 hjn
                    refine j_iload 209 0 dX10_readRoute_207 rfl rfl ?_
                    refine j_iload 211 4 dX10_readRoute_209 rfl rfl ?_
                    refine j_icmp_ge 214 249 dX10_readRoute_211 rfl rfl (r32 (by omega) (by omega)) (r32 (by omega) (by omega)) (fun c_211_32 => ?_) (fun c_211_32 => ?_)
                    · skip
                      have hjn2 : j = n := by omega
                      rw [hjn2]
                      refine j_aload_n 250 9 dX10_readRoute_249 rfl rfl ?_
                      refine j_callV 253 (As := []) (kc2 := 0) (ks2 := 0) dX10_readRoute_250 rfl mvX10_isGood lk_X10_61 hM.md rfl ⟨Nat.le_of_ble_eq_true rfl, rfl⟩ rfl rfl (Nat.le_of_ble_eq_true rfl) ⟨Nat.le_of_ble_eq_true rfl, Nat.le_of_ble_eq_true rfl⟩ ⟨Nat.le_of_ble_eq_true rfl, Nat.le_of_ble_eq_true rfl⟩ (rp_isGood hM) x_d (k_d1 ?_)
                      refine j_top (y := 0) (by rw [decide_eq_false (by have h1 := S29.2.2.1; have h2 := S29.2.2.2.2; dsimp only at h1 h2; omega)]; rfl) ?_
                      refine j_if_eq 256 271 dX10_readRoute_253 rfl rfl (r32 (by decide) (by decide)) (fun c_253 => ?_) (fun c_253 => absurd c_253 (by decide))
                      refine j_aload_n 272 9 dX10_readRoute_271 rfl rfl ?_
                      refine j_callV 275 (As := []) (kc2 := 0) (ks2 := 0) dX10_readRoute_272 rfl mvX10_isGood lk_X10_61 hM.md rfl ⟨Nat.le_of_ble_eq_true rfl, rfl⟩ rfl rfl (Nat.le_of_ble_eq_true rfl) ⟨Nat.le_of_ble_eq_true rfl, Nat.le_of_ble_eq_true rfl⟩ ⟨Nat.le_of_ble_eq_true rfl, Nat.le_of_ble_eq_true rfl⟩ (rp_isGood hM) x_d (k_d1 ?_)
                      refine j_top (y := 0) (by rw [decide_eq_false (by have h1 := S29.2.2.1; have h2 := S29.2.2.2.2; dsimp only at h1 h2; omega)]; rfl) ?_
                      refine j_if_ne 278 279 dX10_readRoute_275 rfl rfl (r32 (by decide) (by decide)) (fun c_275 => absurd c_275 (by decide)) (fun c_275 => ?_)
                      exact j_vret dX10_readRoute_278 rfl (⟨rfl, rfl, FK.tr F29.fd, by
                        rw [show res = .inr ((-2), sk T (sk T p2)) from hres.trans (by rw [ch_u, if_pos (show n = 3 by omega)])]
                        exact S29⟩)
                    · skip
                      refine j_iload 216 1 dX10_readRoute_214 rfl rfl ?_
                      refine j_if_eq 219 240 dX10_readRoute_216 rfl rfl (r32 (by decide) (by decide)) (fun c_216 => ?_) (fun c_216 => absurd rfl c_216)
                      refine j_iconst 241 dX10_readRoute_240 rfl ?_
                      refine j_istore 243 (L2 := [(9, .int (i32 (0))), (10, .int (i32 (((j : Nat) : Int)))), (8, .int (i32 (s_groupOf e2 (g_171 (m) 19) (g_171 (m) 20)))), (7, .int (i32 (byT T (sk T p2)))), (5, .int (i32 (((n : Nat) : Int)))), (6, .int (i32 (((95 + 7 * c : Nat) : Int)))), (4, .int (i32 (nv T (sk T ((sk T (p)) + dn T (sk T (p))))))), (3, .int (i32 (bv (fT T (sk T (p))) (dn T (sk T (p)))))), (2, .int (i32 (((dn T (sk T (p)) : Nat) : Int)))), (0, .ref (m)), (1, .int (i32 (((st : Nat) : Int))))]) dX10_readRoute_241 rfl (Nat.le_of_ble_eq_true rfl) rfl ?_
                      refine j_iinc 246 1 (y := ((j + 1 : Nat) : Int)) (L2 := [(10, .int (i32 (((j + 1 : Nat) : Int)))), (9, .int (i32 (0))), (8, .int (i32 (s_groupOf e2 (g_171 (m) 19) (g_171 (m) 20)))), (7, .int (i32 (byT T (sk T p2)))), (5, .int (i32 (((n : Nat) : Int)))), (6, .int (i32 (((95 + 7 * c : Nat) : Int)))), (4, .int (i32 (nv T (sk T ((sk T (p)) + dn T (sk T (p))))))), (3, .int (i32 (bv (fT T (sk T (p))) (dn T (sk T (p)))))), (2, .int (i32 (((dn T (sk T (p)) : Nat) : Int)))), (0, .ref (m)), (1, .int (i32 (((st : Nat) : Int))))]) dX10_readRoute_243 rfl rfl (by omega) (Nat.le_of_ble_eq_true rfl) rfl ?_
                      refine j_goto 207 dX10_readRoute_246 rfl ?_
                      refine j_sub [0, 1, 2, 3, 4, 5, 6, 7, 8, 9, 10] rfl ?_
                      exact ih_207 (j + 1) (by omega) (by omega)
                · skip
                  refine j_iconst 198 dX10_readRoute_197 rfl ?_
                  refine j_goto 202 dX10_readRoute_198 rfl ?_
                  refine j_istore 204 (L2 := [(9, .int (i32 (1))), (8, .int (i32 (s_groupOf e2 (g_171 (m) 19) (g_171 (m) 20)))), (7, .int (i32 (byT T (sk T p2)))), (5, .int (i32 (((n : Nat) : Int)))), (6, .int (i32 (((95 + 7 * c : Nat) : Int)))), (4, .int (i32 (nv T (sk T ((sk T (p)) + dn T (sk T (p))))))), (3, .int (i32 (bv (fT T (sk T (p))) (dn T (sk T (p)))))), (2, .int (i32 (((dn T (sk T (p)) : Nat) : Int)))), (0, .ref (m)), (1, .int (i32 (((st : Nat) : Int))))]) dX10_readRoute_202 rfl (Nat.le_of_ble_eq_true rfl) rfl ?_
                  refine j_iconst 205 dX10_readRoute_204 rfl ?_
                  refine j_istore 207 (L2 := [(10, .int (i32 (0))), (9, .int (i32 (1))), (8, .int (i32 (s_groupOf e2 (g_171 (m) 19) (g_171 (m) 20)))), (7, .int (i32 (byT T (sk T p2)))), (5, .int (i32 (((n : Nat) : Int)))), (6, .int (i32 (((95 + 7 * c : Nat) : Int)))), (4, .int (i32 (nv T (sk T ((sk T (p)) + dn T (sk T (p))))))), (3, .int (i32 (bv (fT T (sk T (p))) (dn T (sk T (p)))))), (2, .int (i32 (((dn T (sk T (p)) : Nat) : Int)))), (0, .ref (m)), (1, .int (i32 (((st : Nat) : Int))))]) dX10_readRoute_205 rfl (Nat.le_of_ble_eq_true rfl) rfl ?_
                  suffices lp_207 : ∀ (n_207 j : Nat), n - j < n_207 → j ≤ n → J w mX10_readRoute 207 [(10, .int (i32 ((j : Nat) : Int))), (9, .int (i32 (b01 (!chosen e2 c (s_groupOf e2 (g_171 (m) 19) (g_171 (m) 20)) j)))), (8, .int (i32 (s_groupOf e2 (g_171 (m) 19) (g_171 (m) 20)))), (7, .int (i32 (byT T (sk T p2)))), (5, .int (i32 (((n : Nat) : Int)))), (6, .int (i32 (((95 + 7 * c : Nat) : Int)))), (4, .int (i32 (nv T (sk T ((sk T (p)) + dn T (sk T (p))))))), (3, .int (i32 (bv (fT T (sk T (p))) (dn T (sk T (p)))))), (2, .int (i32 (((dn T (sk T (p)) : Nat) : Int)))), (0, .ref (m)), (1, .int (i32 (((st : Nat) : Int))))] [] sh g_171 0 0 (vQ sh (RP2 g m T res)) by
                    refine j_sub [0, 1, 2, 3, 4, 5, 6, 7, 8, 9, 10] rfl ?_
                    exact lp_207 _ 0 (Nat.lt_succ_self _) (by omega)
                  intro n_207
                  induction n_207 with
                  | zero => intro j h_; exact absurd h_ (Nat.not_lt_zero _)
                  | succ n_207 ih_207 =>
                    intro j hn_207 hjn
                    refine j_iload 209 0 dX10_readRoute_207 rfl rfl ?_
                    refine j_iload 211 4 dX10_readRoute_209 rfl rfl ?_
                    refine j_icmp_ge 214 249 dX10_readRoute_211 rfl rfl (r32 (by omega) (by omega)) (r32 (by omega) (by omega)) (fun c_211_34 => ?_) (fun c_211_34 => ?_)
                    · skip
                      have hjn2 : j = n := by omega
                      rw [hjn2]
                      refine j_aload_n 250 9 dX10_readRoute_249 rfl rfl ?_
                      refine j_callV 253 (As := []) (kc2 := 0) (ks2 := 0) dX10_readRoute_250 rfl mvX10_isGood lk_X10_61 hM.md rfl ⟨Nat.le_of_ble_eq_true rfl, rfl⟩ rfl rfl (Nat.le_of_ble_eq_true rfl) ⟨Nat.le_of_ble_eq_true rfl, Nat.le_of_ble_eq_true rfl⟩ ⟨Nat.le_of_ble_eq_true rfl, Nat.le_of_ble_eq_true rfl⟩ (rp_isGood hM) x_d (k_d1 ?_)
                      refine j_top (y := 0) (by rw [decide_eq_false (by have h1 := S29.2.2.1; have h2 := S29.2.2.2.2; dsimp only at h1 h2; omega)]; rfl) ?_
                      refine j_if_eq 256 271 dX10_readRoute_253 rfl rfl (r32 (by decide) (by decide)) (fun c_253 => ?_) (fun c_253 => absurd c_253 (by decide))
                      refine j_aload_n 272 9 dX10_readRoute_271 rfl rfl ?_
                      refine j_callV 275 (As := []) (kc2 := 0) (ks2 := 0) dX10_readRoute_272 rfl mvX10_isGood lk_X10_61 hM.md rfl ⟨Nat.le_of_ble_eq_true rfl, rfl⟩ rfl rfl (Nat.le_of_ble_eq_true rfl) ⟨Nat.le_of_ble_eq_true rfl, Nat.le_of_ble_eq_true rfl⟩ ⟨Nat.le_of_ble_eq_true rfl, Nat.le_of_ble_eq_true rfl⟩ (rp_isGood hM) x_d (k_d1 ?_)
                      refine j_top (y := 0) (by rw [decide_eq_false (by have h1 := S29.2.2.1; have h2 := S29.2.2.2.2; dsimp only at h1 h2; omega)]; rfl) ?_
                      refine j_if_ne 278 279 dX10_readRoute_275 rfl rfl (r32 (by decide) (by decide)) (fun c_275 => absurd c_275 (by decide)) (fun c_275 => ?_)
                      exact j_vret dX10_readRoute_278 rfl (⟨rfl, rfl, FK.tr F29.fd, by
                        rw [show res = .inr ((-2), sk T (sk T p2)) from hres.trans (by rw [ch_u, if_pos (show n = 3 by omega)])]
                        exact S29⟩)
                    · skip
                      refine j_iload 216 1 dX10_readRoute_214 rfl rfl ?_
                      refine j_if_eq 219 240 dX10_readRoute_216 rfl rfl (r01 (b01_r _)) (fun c_216 => ?_) (fun c_216 => ?_)
                      · skip
                        have hcj : chosen e2 c (s_groupOf e2 (g_171 (m) 19) (g_171 (m) 20)) (j + 1) = true := by
                          show (chosen e2 c _ j || _) = true
                          cases hz : chosen e2 c (s_groupOf e2 (g_171 (m) 19) (g_171 (m) 20)) j
                          · rw [hz] at c_216; cases c_216
                          · rfl
                        refine j_iconst 241 dX10_readRoute_240 rfl ?_
                        refine j_top (y := b01 (!chosen e2 c (s_groupOf e2 (g_171 (m) 19) (g_171 (m) 20)) (j + 1))) (by rw [hcj]; rfl) ?_
                        refine j_istore 243 (L2 := [(9, .int (i32 (b01 (!chosen e2 c (s_groupOf e2 (g_171 (m) 19) (g_171 (m) 20)) (j + 1))))), (10, .int (i32 (((j : Nat) : Int)))), (8, .int (i32 (s_groupOf e2 (g_171 (m) 19) (g_171 (m) 20)))), (7, .int (i32 (byT T (sk T p2)))), (5, .int (i32 (((n : Nat) : Int)))), (6, .int (i32 (((95 + 7 * c : Nat) : Int)))), (4, .int (i32 (nv T (sk T ((sk T (p)) + dn T (sk T (p))))))), (3, .int (i32 (bv (fT T (sk T (p))) (dn T (sk T (p)))))), (2, .int (i32 (((dn T (sk T (p)) : Nat) : Int)))), (0, .ref (m)), (1, .int (i32 (((st : Nat) : Int))))]) dX10_readRoute_241 rfl (Nat.le_of_ble_eq_true rfl) rfl ?_
                        refine j_iinc 246 1 (y := ((j + 1 : Nat) : Int)) (L2 := [(10, .int (i32 (((j + 1 : Nat) : Int)))), (9, .int (i32 (b01 (!chosen e2 c (s_groupOf e2 (g_171 (m) 19) (g_171 (m) 20)) (j + 1))))), (8, .int (i32 (s_groupOf e2 (g_171 (m) 19) (g_171 (m) 20)))), (7, .int (i32 (byT T (sk T p2)))), (5, .int (i32 (((n : Nat) : Int)))), (6, .int (i32 (((95 + 7 * c : Nat) : Int)))), (4, .int (i32 (nv T (sk T ((sk T (p)) + dn T (sk T (p))))))), (3, .int (i32 (bv (fT T (sk T (p))) (dn T (sk T (p)))))), (2, .int (i32 (((dn T (sk T (p)) : Nat) : Int)))), (0, .ref (m)), (1, .int (i32 (((st : Nat) : Int))))]) dX10_readRoute_243 rfl rfl (by omega) (Nat.le_of_ble_eq_true rfl) rfl ?_
                        refine j_goto 207 dX10_readRoute_246 rfl ?_
                        refine j_sub [0, 1, 2, 3, 4, 5, 6, 7, 8, 9, 10] rfl ?_
                        exact ih_207 (j + 1) (by omega) (by omega)
                      · skip
                        have hcf : chosen e2 c (s_groupOf e2 (g_171 (m) 19) (g_171 (m) 20)) j = false := by
                          cases hz : chosen e2 c (s_groupOf e2 (g_171 (m) 19) (g_171 (m) 20)) j
                          · rfl
                          · rw [hz] at c_216; exact absurd rfl c_216
                        refine j_aload_n 220 9 dX10_readRoute_219 rfl rfl ?_
                        refine j_getr 223 dX10_readRoute_220 rfl fl_X10_20 hM.md rfl (fun _ _ => rfl) rfl ?_
                        refine j_iload 225 5 dX10_readRoute_223 rfl rfl ?_
                        refine j_iconst 226 dX10_readRoute_225 rfl ?_
                        refine j_iadd 227 dX10_readRoute_226 rfl ?_
                        refine j_iload 229 0 dX10_readRoute_227 rfl rfl ?_
                        refine j_iadd 230 dX10_readRoute_229 rfl ?_
                        refine j_iald 231 (99 + 7 * c + j) dX10_readRoute_230 rfl hM.dra rfl (by omega) (show 99 + 7 * c + j < 729 by omega) (fun r_230 => ?_)
                        refine j_top (y := e2 (99 + 7 * c + j)) (congrFun hD9 _) ?_
                        refine j_iload 233 2 dX10_readRoute_231 rfl rfl ?_
                        refine j_icmp_eq 236 240 dX10_readRoute_233 rfl rfl (by have h := r_230; rw [hD9] at h; exact h) (fst_r32 _ (by decide)) (fun c_233_35 => ?_) (fun c_233_35 => ?_)
                        · skip
                          have hcj : chosen e2 c (s_groupOf e2 (g_171 (m) 19) (g_171 (m) 20)) (j + 1) = true := by
                            show (chosen e2 c _ j || decide _) = true
                            rw [decide_eq_true c_233_35, Bool.or_true]
                          refine j_iconst 241 dX10_readRoute_240 rfl ?_
                          refine j_top (y := b01 (!chosen e2 c (s_groupOf e2 (g_171 (m) 19) (g_171 (m) 20)) (j + 1))) (by rw [hcj]; rfl) ?_
                          refine j_istore 243 (L2 := [(9, .int (i32 (b01 (!chosen e2 c (s_groupOf e2 (g_171 (m) 19) (g_171 (m) 20)) (j + 1))))), (10, .int (i32 (((j : Nat) : Int)))), (8, .int (i32 (s_groupOf e2 (g_171 (m) 19) (g_171 (m) 20)))), (7, .int (i32 (byT T (sk T p2)))), (5, .int (i32 (((n : Nat) : Int)))), (6, .int (i32 (((95 + 7 * c : Nat) : Int)))), (4, .int (i32 (nv T (sk T ((sk T (p)) + dn T (sk T (p))))))), (3, .int (i32 (bv (fT T (sk T (p))) (dn T (sk T (p)))))), (2, .int (i32 (((dn T (sk T (p)) : Nat) : Int)))), (0, .ref (m)), (1, .int (i32 (((st : Nat) : Int))))]) dX10_readRoute_241 rfl (Nat.le_of_ble_eq_true rfl) rfl ?_
                          refine j_iinc 246 1 (y := ((j + 1 : Nat) : Int)) (L2 := [(10, .int (i32 (((j + 1 : Nat) : Int)))), (9, .int (i32 (b01 (!chosen e2 c (s_groupOf e2 (g_171 (m) 19) (g_171 (m) 20)) (j + 1))))), (8, .int (i32 (s_groupOf e2 (g_171 (m) 19) (g_171 (m) 20)))), (7, .int (i32 (byT T (sk T p2)))), (5, .int (i32 (((n : Nat) : Int)))), (6, .int (i32 (((95 + 7 * c : Nat) : Int)))), (4, .int (i32 (nv T (sk T ((sk T (p)) + dn T (sk T (p))))))), (3, .int (i32 (bv (fT T (sk T (p))) (dn T (sk T (p)))))), (2, .int (i32 (((dn T (sk T (p)) : Nat) : Int)))), (0, .ref (m)), (1, .int (i32 (((st : Nat) : Int))))]) dX10_readRoute_243 rfl rfl (by omega) (Nat.le_of_ble_eq_true rfl) rfl ?_
                          refine j_goto 207 dX10_readRoute_246 rfl ?_
                          refine j_sub [0, 1, 2, 3, 4, 5, 6, 7, 8, 9, 10] rfl ?_
                          exact ih_207 (j + 1) (by omega) (by omega)
                        · skip
                          have hcj : chosen e2 c (s_groupOf e2 (g_171 (m) 19) (g_171 (m) 20)) (j + 1) = false := by
                            show (chosen e2 c _ j || decide _) = false
                            rw [hcf, decide_eq_false c_233_35]; rfl
                          refine j_iconst 237 dX10_readRoute_236 rfl ?_
                          refine j_goto 241 dX10_readRoute_237 rfl ?_
                          refine j_top (y := b01 (!chosen e2 c (s_groupOf e2 (g_171 (m) 19) (g_171 (m) 20)) (j + 1))) (by rw [hcj]; rfl) ?_
                          refine j_istore 243 (L2 := [(9, .int (i32 (b01 (!chosen e2 c (s_groupOf e2 (g_171 (m) 19) (g_171 (m) 20)) (j + 1))))), (10, .int (i32 (((j : Nat) : Int)))), (8, .int (i32 (s_groupOf e2 (g_171 (m) 19) (g_171 (m) 20)))), (7, .int (i32 (byT T (sk T p2)))), (5, .int (i32 (((n : Nat) : Int)))), (6, .int (i32 (((95 + 7 * c : Nat) : Int)))), (4, .int (i32 (nv T (sk T ((sk T (p)) + dn T (sk T (p))))))), (3, .int (i32 (bv (fT T (sk T (p))) (dn T (sk T (p)))))), (2, .int (i32 (((dn T (sk T (p)) : Nat) : Int)))), (0, .ref (m)), (1, .int (i32 (((st : Nat) : Int))))]) dX10_readRoute_241 rfl (Nat.le_of_ble_eq_true rfl) rfl ?_
                          refine j_iinc 246 1 (y := ((j + 1 : Nat) : Int)) (L2 := [(10, .int (i32 (((j + 1 : Nat) : Int)))), (9, .int (i32 (b01 (!chosen e2 c (s_groupOf e2 (g_171 (m) 19) (g_171 (m) 20)) (j + 1))))), (8, .int (i32 (s_groupOf e2 (g_171 (m) 19) (g_171 (m) 20)))), (7, .int (i32 (byT T (sk T p2)))), (5, .int (i32 (((n : Nat) : Int)))), (6, .int (i32 (((95 + 7 * c : Nat) : Int)))), (4, .int (i32 (nv T (sk T ((sk T (p)) + dn T (sk T (p))))))), (3, .int (i32 (bv (fT T (sk T (p))) (dn T (sk T (p)))))), (2, .int (i32 (((dn T (sk T (p)) : Nat) : Int)))), (0, .ref (m)), (1, .int (i32 (((st : Nat) : Int))))]) dX10_readRoute_243 rfl rfl (by omega) (Nat.le_of_ble_eq_true rfl) rfl ?_
                          refine j_goto 207 dX10_readRoute_246 rfl ?_
                          refine j_sub [0, 1, 2, 3, 4, 5, 6, 7, 8, 9, 10] rfl ?_
                          exact ih_207 (j + 1) (by omega) (by omega)
          ·
            rw [numS_2 hB] at hz4 S4
            refine j_top (y := 0) hz4 ?_
            refine j_istore 123 (L2 := [(4, .int (i32 (0))), (3, .int (i32 (bv (fT T (sk T (p))) (dn T (sk T (p)))))), (2, .int (i32 (((dn T (sk T (p)) : Nat) : Int)))), (0, .ref (m)), (1, .int (i32 (((st : Nat) : Int))))]) dX10_readRoute_121 rfl (Nat.le_of_ble_eq_true rfl) rfl ?_
            refine j_iconst 124 dX10_readRoute_123 rfl ?_
            refine j_istore 126 (L2 := [(5, .int (i32 (0))), (4, .int (i32 (0))), (3, .int (i32 (bv (fT T (sk T (p))) (dn T (sk T (p)))))), (2, .int (i32 (((dn T (sk T (p)) : Nat) : Int)))), (0, .ref (m)), (1, .int (i32 (((st : Nat) : Int))))]) dX10_readRoute_124 rfl (Nat.le_of_ble_eq_true rfl) rfl ?_
            refine j_aload_n 127 4 dX10_readRoute_126 rfl rfl ?_
            refine j_callV 130 (As := []) (kc2 := 0) (ks2 := 0) dX10_readRoute_127 rfl mvX10_isGood lk_X10_61 hM.md rfl ⟨Nat.le_of_ble_eq_true rfl, rfl⟩ rfl rfl (Nat.le_of_ble_eq_true rfl) ⟨Nat.le_of_ble_eq_true rfl, Nat.le_of_ble_eq_true rfl⟩ ⟨Nat.le_of_ble_eq_true rfl, Nat.le_of_ble_eq_true rfl⟩ (rp_isGood hM) x_d (k_d1 ?_)
            refine j_top (y := 0) (by rw [decide_eq_false (by have h1 := S4.2.2.1; have h2 := S4.2.2.2.2; dsimp only at h1 h2; omega)]; rfl) ?_
            refine j_if_ne 133 134 dX10_readRoute_130 rfl rfl (r32 (by decide) (by decide)) (fun c_130 => absurd c_130 (by decide)) (fun c_130 => ?_)
            exact j_vret dX10_readRoute_133 rfl (⟨rfl, rfl, F4.fd, by
              rw [show P_route T st d s p = .inr ((-2), (sk T ((sk T (p)) + dn T (sk T (p))))) from by unfold P_route; rw [if_neg (show ¬ 8 ≤ d 4 by omega), kDig_1 hA, if_pos hpn, kNum_2 hB]]
              exact S4⟩)
          ·
            rw [numS_3 hB] at hz4 S4
            refine j_top (y := 0) hz4 ?_
            refine j_istore 123 (L2 := [(4, .int (i32 (0))), (3, .int (i32 (bv (fT T (sk T (p))) (dn T (sk T (p)))))), (2, .int (i32 (((dn T (sk T (p)) : Nat) : Int)))), (0, .ref (m)), (1, .int (i32 (((st : Nat) : Int))))]) dX10_readRoute_121 rfl (Nat.le_of_ble_eq_true rfl) rfl ?_
            refine j_iconst 124 dX10_readRoute_123 rfl ?_
            refine j_istore 126 (L2 := [(5, .int (i32 (0))), (4, .int (i32 (0))), (3, .int (i32 (bv (fT T (sk T (p))) (dn T (sk T (p)))))), (2, .int (i32 (((dn T (sk T (p)) : Nat) : Int)))), (0, .ref (m)), (1, .int (i32 (((st : Nat) : Int))))]) dX10_readRoute_124 rfl (Nat.le_of_ble_eq_true rfl) rfl ?_
            refine j_aload_n 127 4 dX10_readRoute_126 rfl rfl ?_
            refine j_callV 130 (As := []) (kc2 := 0) (ks2 := 0) dX10_readRoute_127 rfl mvX10_isGood lk_X10_61 hM.md rfl ⟨Nat.le_of_ble_eq_true rfl, rfl⟩ rfl rfl (Nat.le_of_ble_eq_true rfl) ⟨Nat.le_of_ble_eq_true rfl, Nat.le_of_ble_eq_true rfl⟩ ⟨Nat.le_of_ble_eq_true rfl, Nat.le_of_ble_eq_true rfl⟩ (rp_isGood hM) x_d (k_d1 ?_)
            refine j_top (y := 0) (by rw [decide_eq_false (by have h1 := S4.2.2.1; have h2 := S4.2.2.2.2; dsimp only at h1 h2; omega)]; rfl) ?_
            refine j_if_ne 133 134 dX10_readRoute_130 rfl rfl (r32 (by decide) (by decide)) (fun c_130 => absurd c_130 (by decide)) (fun c_130 => ?_)
            exact j_vret dX10_readRoute_133 rfl (⟨rfl, rfl, F4.fd, by
              rw [show P_route T st d s p = .inr ((-3), (sk T ((sk T (p)) + dn T (sk T (p))))) from by unfold P_route; rw [if_neg (show ¬ 8 ≤ d 4 by omega), kDig_1 hA, if_pos hpn, kNum_3 hB]]
              exact S4⟩)
        · skip
          refine j_aload_n 36 1 dX10_readRoute_35 rfl rfl ?_
          refine j_callV 39 (As := []) (kc2 := 0) (ks2 := 0) dX10_readRoute_36 rfl mvX10_isGood lk_X10_61 hM.md rfl ⟨Nat.le_of_ble_eq_true rfl, rfl⟩ rfl rfl (Nat.le_of_ble_eq_true rfl) ⟨Nat.le_of_ble_eq_true rfl, Nat.le_of_ble_eq_true rfl⟩ ⟨Nat.le_of_ble_eq_true rfl, Nat.le_of_ble_eq_true rfl⟩ (rp_isGood hM) x_d (k_d1 ?_)
          refine j_top (y := 1) (by rw [decide_eq_true S2.2.2.2.1]; rfl) ?_
          refine j_if_eq 42 100 dX10_readRoute_39 rfl rfl (r32 (by decide) (by decide)) (fun c_39 => absurd c_39 (by decide)) (fun c_39 => ?_)
          refine j_aload_n 43 1 dX10_readRoute_42 rfl rfl ?_
          refine j_getr 46 dX10_readRoute_43 rfl fl_X10_20 hM.md rfl (fun _ _ => rfl) rfl ?_
          refine j_bipush 48 dX10_readRoute_46 rfl (by decide) ?_
          refine j_bipush 50 dX10_readRoute_48 rfl (by decide) ?_
          refine j_iload_n 51 0 dX10_readRoute_50 rfl rfl ?_
          refine j_imul 52 dX10_readRoute_51 rfl ?_
          refine j_iadd 53 dX10_readRoute_52 rfl ?_
          refine j_iconst 54 dX10_readRoute_53 rfl ?_
          refine j_iadd 55 dX10_readRoute_54 rfl ?_
          refine j_iald 56 (95 + 7 * i) dX10_readRoute_55 rfl hM.dra rfl (by omega) (show 95 + 7 * i < 729 by omega) (fun r_55 => ?_)
          refine j_top (y := d (95 + 7 * i)) (congrFun hd4 _) ?_
          refine j_aload_n 57 1 dX10_readRoute_56 rfl rfl ?_
          refine j_geti 60 dX10_readRoute_57 rfl fl_X10_97 hM.md rfl rfl (fun r_57 => ?_)
          refine j_top (y := ((dn T (sk T (p)) : Nat) : Int)) (D16_2) ?_
          refine j_icmp_ne 63 94 dX10_readRoute_60 rfl rfl (by have h := r_55; rw [hd4] at h; exact h) (r32 (by omega) (by omega)) (fun c_60_36 => ?_) (fun c_60_36 => ?_)
          · skip
            have hpi : (fun (r : Nat) => decide ((r : Int) < d 4) && (decide (d (95 + 7 * r) = ((dn T (sk T (p)) : Nat) : Int)) && decide (d (96 + 7 * r) = bv (fT T (sk T (p))) (dn T (sk T (p)))))) i = false := by show (_ && (decide _ && _)) = false; rw [decide_eq_false (p := d (95 + 7 * i) = _) c_60_36, Bool.false_and, Bool.and_false]
            refine j_iinc 97 0 (y := ((i + 1 : Nat) : Int)) (L2 := [(2, .int (i32 (((i + 1 : Nat) : Int)))), (0, .ref (m)), (1, .int (i32 (((st : Nat) : Int))))]) dX10_readRoute_94 rfl rfl (by omega) (Nat.le_of_ble_eq_true rfl) rfl ?_
            refine j_goto 25 dX10_readRoute_97 rfl ?_
            refine j_sub [0, 1, 2] rfl ?_
            exact ih_25 (i + 1) (by omega) (by omega) (lt_step hpr hpi)
          · skip
            refine j_aload_n 64 1 dX10_readRoute_63 rfl rfl ?_
            refine j_getr 67 dX10_readRoute_64 rfl fl_X10_20 hM.md rfl (fun _ _ => rfl) rfl ?_
            refine j_bipush 69 dX10_readRoute_67 rfl (by decide) ?_
            refine j_bipush 71 dX10_readRoute_69 rfl (by decide) ?_
            refine j_iload_n 72 0 dX10_readRoute_71 rfl rfl ?_
            refine j_imul 73 dX10_readRoute_72 rfl ?_
            refine j_iadd 74 dX10_readRoute_73 rfl ?_
            refine j_iconst 75 dX10_readRoute_74 rfl ?_
            refine j_iadd 76 dX10_readRoute_75 rfl ?_
            refine j_iald 77 (96 + 7 * i) dX10_readRoute_76 rfl hM.dra rfl (by omega) (show 96 + 7 * i < 729 by omega) (fun r_76 => ?_)
            refine j_top (y := d (96 + 7 * i)) (congrFun hd4 _) ?_
            refine j_aload_n 78 1 dX10_readRoute_77 rfl rfl ?_
            refine j_geti 81 dX10_readRoute_78 rfl fl_X10_100 hM.md rfl rfl (fun r_78 => ?_)
            refine j_top (y := bv (fT T (sk T (p))) (dn T (sk T (p)))) (hdvA) ?_
            refine j_icmp_ne 84 94 dX10_readRoute_81 rfl rfl (by have h := r_76; rw [hd4] at h; exact h) (r32 (by omega) (by omega)) (fun c_81_37 => ?_) (fun c_81_37 => ?_)
            · skip
              have hpi : (fun (r : Nat) => decide ((r : Int) < d 4) && (decide (d (95 + 7 * r) = ((dn T (sk T (p)) : Nat) : Int)) && decide (d (96 + 7 * r) = bv (fT T (sk T (p))) (dn T (sk T (p)))))) i = false := by show (_ && (_ && decide _)) = false; rw [decide_eq_false (p := d (96 + 7 * i) = _) c_81_37, Bool.and_false, Bool.and_false]
              refine j_iinc 97 0 (y := ((i + 1 : Nat) : Int)) (L2 := [(2, .int (i32 (((i + 1 : Nat) : Int)))), (0, .ref (m)), (1, .int (i32 (((st : Nat) : Int))))]) dX10_readRoute_94 rfl rfl (by omega) (Nat.le_of_ble_eq_true rfl) rfl ?_
              refine j_goto 25 dX10_readRoute_97 rfl ?_
              refine j_sub [0, 1, 2] rfl ?_
              exact ih_25 (i + 1) (by omega) (by omega) (lt_step hpr hpi)
            · skip
              have hpy : ¬ s_prefAt d (dn T (sk T (p))) (bv (fT T (sk T (p))) (dn T (sk T (p)))) = -1 := by
                rw [show s_prefAt d (dn T (sk T (p))) (bv (fT T (sk T (p))) (dn T (sk T (p)))) = ((i : Nat) : Int) from fst_hit (p := (fun (r : Nat) => decide ((r : Int) < d 4) && (decide (d (95 + 7 * r) = ((dn T (sk T (p)) : Nat) : Int)) && decide (d (96 + 7 * r) = bv (fT T (sk T (p))) (dn T (sk T (p))))))) (by omega) hpr (by show (decide _ && (decide _ && decide _)) = true; rw [decide_eq_true (p := ((i : Nat) : Int) < d 4) (by omega), decide_eq_true c_60_36, decide_eq_true c_81_37]; rfl)]
                omega
              refine j_aload_n 85 1 dX10_readRoute_84 rfl rfl ?_
              refine j_bipush 87 dX10_readRoute_85 rfl (by decide) ?_
              refine j_aload_n 88 1 dX10_readRoute_87 rfl rfl ?_
              refine j_geti 91 dX10_readRoute_88 rfl fl_X10_94 hM.md rfl rfl (fun r_88 => ?_)
              refine j_top (y := (((sk T (p)) : Nat) : Int)) (D15_2) ?_
              refine j_callV 94 (As := [.int (i32 (-4)), .int (i32 ((((sk T (p)) : Nat) : Int)))]) (kc2 := 0) (ks2 := 0) dX10_readRoute_91 rfl mvX10_report lk_X10_78 hM.md rfl ⟨Nat.le_of_ble_eq_true rfl, rfl⟩ rfl rfl (Nat.le_of_ble_eq_true rfl) ⟨Nat.le_of_ble_eq_true rfl, Nat.le_of_ble_eq_true rfl⟩ ⟨Nat.le_of_ble_eq_true rfl, Nat.le_of_ble_eq_true rfl⟩ (rp_report0 hM S2.2.2.2.1 (r32 (by decide) (by decide)) (r32 (by omega) (by omega))) x_d (k_d0 ?_)
              refine j_mn (fun g38 hg38 => ?_)
              have S38 : RE g38 m T ((-4), (sk T (p))) := by rw [hg38]; exact S2.err (by decide)
              have F38 : FM g g38 m := by rw [hg38]; exact (F2.up (by decide)).up (by decide)
              refine j_iinc 97 0 (y := ((i + 1 : Nat) : Int)) (L2 := [(2, .int (i32 (((i + 1 : Nat) : Int)))), (0, .ref (m)), (1, .int (i32 (((st : Nat) : Int))))]) dX10_readRoute_94 rfl rfl (by omega) (Nat.le_of_ble_eq_true rfl) rfl ?_
              refine j_goto 25 dX10_readRoute_97 rfl ?_
              refine j_iload_n 26 0 dX10_readRoute_25 rfl rfl ?_
              refine j_aload_n 27 1 dX10_readRoute_26 rfl rfl ?_
              refine j_getr 30 dX10_readRoute_27 rfl fl_X10_20 hM.md rfl (fun _ _ => rfl) rfl ?_
              refine j_iconst 31 dX10_readRoute_30 rfl ?_
              refine j_iald 32 4 dX10_readRoute_31 rfl hM.dra rfl rfl (show 4 < 729 by omega) (fun r_31 => ?_)
              refine j_top (y := d 4) (congrFun ((F38.1 _ (by omega)).trans hd) 4) ?_
              refine j_icmp_ge 35 100 dX10_readRoute_32 rfl rfl (r32 (by omega) (by omega)) ⟨by omega, by omega⟩ (fun c_32_39 => ?_) (fun c_32_39 => ?_)
              · skip
                refine j_aload_n 101 1 dX10_readRoute_100 rfl rfl ?_
                refine j_geti 104 dX10_readRoute_101 rfl fl_X10_97 hM.md rfl rfl (fun r_101 => ?_)
                refine j_istore_n 105 (L2 := [(2, .int (i32 (g38 (m) 16))), (0, .ref (m)), (1, .int (i32 (((st : Nat) : Int))))]) dX10_readRoute_104 rfl rfl (Nat.le_of_ble_eq_true rfl) rfl ?_
                refine j_aload_n 106 1 dX10_readRoute_105 rfl rfl ?_
                refine j_geti 109 dX10_readRoute_106 rfl fl_X10_100 hM.md rfl rfl (fun r_106 => ?_)
                refine j_istore_n 110 (L2 := [(3, .int (i32 (g38 (m) 17))), (2, .int (i32 (g38 (m) 16))), (0, .ref (m)), (1, .int (i32 (((st : Nat) : Int))))]) dX10_readRoute_109 rfl rfl (Nat.le_of_ble_eq_true rfl) rfl ?_
                refine j_aload_n 111 2 dX10_readRoute_110 rfl rfl ?_
                refine j_iconst 112 dX10_readRoute_111 rfl ?_
                refine j_iload_n 113 1 dX10_readRoute_112 rfl rfl ?_
                refine j_callS 116 (As := [.int (i32 (1)), .int (i32 (g38 (m) 16))]) (kc2 := 0) (ks2 := 0) dX10_readRoute_113 rfl msX10_max lk_X10_129 rfl rfl (Nat.le_of_ble_eq_true rfl) ⟨Nat.le_of_ble_eq_true rfl, Nat.le_of_ble_eq_true rfl⟩ ⟨Nat.le_of_ble_eq_true rfl, Nat.le_of_ble_eq_true rfl⟩ (r_max (r32 (by decide) (by decide)) r_101) x_d (k_d1 ?_)
                refine j_bipush 118 dX10_readRoute_116 rfl (by decide) ?_
                refine j_callV 121 (As := [.int (i32 ((if g38 (m) 16 < 1 then 1 else g38 (m) 16))), .int (i32 (6))]) (kc2 := 0) (ks2 := 0) dX10_readRoute_118 rfl mvX10_number lk_X10_126 hM.md rfl ⟨Nat.le_of_ble_eq_true rfl, rfl⟩ rfl rfl (Nat.le_of_ble_eq_true rfl) ⟨Nat.le_of_ble_eq_true rfl, Nat.le_of_ble_eq_true rfl⟩ ⟨Nat.le_of_ble_eq_true rfl, Nat.le_of_ble_eq_true rfl⟩ (rp_numberX hM (by split; exact ⟨by decide, by decide⟩; exact r_101) (r32 (by decide) (by decide)) S38) x_i (k_i fun z_118 g_118 h_118 => ?_)
                obtain ⟨Fz40, hz40, S40⟩ := h_118
                have F40 := F38.tr Fz40
                refine j_top (y := 0) hz40 ?_
                refine j_istore 123 (L2 := [(4, .int (i32 (0))), (3, .int (i32 (g38 (m) 17))), (2, .int (i32 (g38 (m) 16))), (0, .ref (m)), (1, .int (i32 (((st : Nat) : Int))))]) dX10_readRoute_121 rfl (Nat.le_of_ble_eq_true rfl) rfl ?_
                refine j_iconst 124 dX10_readRoute_123 rfl ?_
                refine j_istore 126 (L2 := [(5, .int (i32 (0))), (4, .int (i32 (0))), (3, .int (i32 (g38 (m) 17))), (2, .int (i32 (g38 (m) 16))), (0, .ref (m)), (1, .int (i32 (((st : Nat) : Int))))]) dX10_readRoute_124 rfl (Nat.le_of_ble_eq_true rfl) rfl ?_
                refine j_aload_n 127 4 dX10_readRoute_126 rfl rfl ?_
                refine j_callV 130 (As := []) (kc2 := 0) (ks2 := 0) dX10_readRoute_127 rfl mvX10_isGood lk_X10_61 hM.md rfl ⟨Nat.le_of_ble_eq_true rfl, rfl⟩ rfl rfl (Nat.le_of_ble_eq_true rfl) ⟨Nat.le_of_ble_eq_true rfl, Nat.le_of_ble_eq_true rfl⟩ ⟨Nat.le_of_ble_eq_true rfl, Nat.le_of_ble_eq_true rfl⟩ (rp_isGood hM) x_d (k_d1 ?_)
                refine j_top (y := 0) (by rw [decide_eq_false (by have h1 := S40.2.2.1; have h2 := S40.2.2.2.2; dsimp only at h1 h2; omega)]; rfl) ?_
                refine j_if_ne 133 134 dX10_readRoute_130 rfl rfl (r32 (by decide) (by decide)) (fun c_130 => absurd c_130 (by decide)) (fun c_130 => ?_)
                exact j_vret dX10_readRoute_133 rfl (⟨rfl, rfl, F40.fd, by
                  rw [show P_route T st d s p = .inr ((-4), (sk T (p))) from by unfold P_route; rw [if_neg (show ¬ 8 ≤ d 4 by omega), kDig_1 hA, if_neg hpy]]
                  exact S40⟩)
              · skip
                refine j_aload_n 36 1 dX10_readRoute_35 rfl rfl ?_
                refine j_callV 39 (As := []) (kc2 := 0) (ks2 := 0) dX10_readRoute_36 rfl mvX10_isGood lk_X10_61 hM.md rfl ⟨Nat.le_of_ble_eq_true rfl, rfl⟩ rfl rfl (Nat.le_of_ble_eq_true rfl) ⟨Nat.le_of_ble_eq_true rfl, Nat.le_of_ble_eq_true rfl⟩ ⟨Nat.le_of_ble_eq_true rfl, Nat.le_of_ble_eq_true rfl⟩ (rp_isGood hM) x_d (k_d1 ?_)
                refine j_top (y := 0) (by rw [decide_eq_false (by have h1 := S38.2.2.1; have h2 := S38.2.2.2.2; dsimp only at h1 h2; omega)]; rfl) ?_
                refine j_if_eq 42 100 dX10_readRoute_39 rfl rfl (r32 (by decide) (by decide)) (fun c_39 => ?_) (fun c_39 => absurd c_39 (by decide))
                refine j_aload_n 101 1 dX10_readRoute_100 rfl rfl ?_
                refine j_geti 104 dX10_readRoute_101 rfl fl_X10_97 hM.md rfl rfl (fun r_101 => ?_)
                refine j_istore_n 105 (L2 := [(2, .int (i32 (g38 (m) 16))), (0, .ref (m)), (1, .int (i32 (((st : Nat) : Int))))]) dX10_readRoute_104 rfl rfl (Nat.le_of_ble_eq_true rfl) rfl ?_
                refine j_aload_n 106 1 dX10_readRoute_105 rfl rfl ?_
                refine j_geti 109 dX10_readRoute_106 rfl fl_X10_100 hM.md rfl rfl (fun r_106 => ?_)
                refine j_istore_n 110 (L2 := [(3, .int (i32 (g38 (m) 17))), (2, .int (i32 (g38 (m) 16))), (0, .ref (m)), (1, .int (i32 (((st : Nat) : Int))))]) dX10_readRoute_109 rfl rfl (Nat.le_of_ble_eq_true rfl) rfl ?_
                refine j_aload_n 111 2 dX10_readRoute_110 rfl rfl ?_
                refine j_iconst 112 dX10_readRoute_111 rfl ?_
                refine j_iload_n 113 1 dX10_readRoute_112 rfl rfl ?_
                refine j_callS 116 (As := [.int (i32 (1)), .int (i32 (g38 (m) 16))]) (kc2 := 0) (ks2 := 0) dX10_readRoute_113 rfl msX10_max lk_X10_129 rfl rfl (Nat.le_of_ble_eq_true rfl) ⟨Nat.le_of_ble_eq_true rfl, Nat.le_of_ble_eq_true rfl⟩ ⟨Nat.le_of_ble_eq_true rfl, Nat.le_of_ble_eq_true rfl⟩ (r_max (r32 (by decide) (by decide)) r_101) x_d (k_d1 ?_)
                refine j_bipush 118 dX10_readRoute_116 rfl (by decide) ?_
                refine j_callV 121 (As := [.int (i32 ((if g38 (m) 16 < 1 then 1 else g38 (m) 16))), .int (i32 (6))]) (kc2 := 0) (ks2 := 0) dX10_readRoute_118 rfl mvX10_number lk_X10_126 hM.md rfl ⟨Nat.le_of_ble_eq_true rfl, rfl⟩ rfl rfl (Nat.le_of_ble_eq_true rfl) ⟨Nat.le_of_ble_eq_true rfl, Nat.le_of_ble_eq_true rfl⟩ ⟨Nat.le_of_ble_eq_true rfl, Nat.le_of_ble_eq_true rfl⟩ (rp_numberX hM (by split; exact ⟨by decide, by decide⟩; exact r_101) (r32 (by decide) (by decide)) S38) x_i (k_i fun z_118 g_118 h_118 => ?_)
                obtain ⟨Fz41, hz41, S41⟩ := h_118
                have F41 := F38.tr Fz41
                refine j_top (y := 0) hz41 ?_
                refine j_istore 123 (L2 := [(4, .int (i32 (0))), (3, .int (i32 (g38 (m) 17))), (2, .int (i32 (g38 (m) 16))), (0, .ref (m)), (1, .int (i32 (((st : Nat) : Int))))]) dX10_readRoute_121 rfl (Nat.le_of_ble_eq_true rfl) rfl ?_
                refine j_iconst 124 dX10_readRoute_123 rfl ?_
                refine j_istore 126 (L2 := [(5, .int (i32 (0))), (4, .int (i32 (0))), (3, .int (i32 (g38 (m) 17))), (2, .int (i32 (g38 (m) 16))), (0, .ref (m)), (1, .int (i32 (((st : Nat) : Int))))]) dX10_readRoute_124 rfl (Nat.le_of_ble_eq_true rfl) rfl ?_
                refine j_aload_n 127 4 dX10_readRoute_126 rfl rfl ?_
                refine j_callV 130 (As := []) (kc2 := 0) (ks2 := 0) dX10_readRoute_127 rfl mvX10_isGood lk_X10_61 hM.md rfl ⟨Nat.le_of_ble_eq_true rfl, rfl⟩ rfl rfl (Nat.le_of_ble_eq_true rfl) ⟨Nat.le_of_ble_eq_true rfl, Nat.le_of_ble_eq_true rfl⟩ ⟨Nat.le_of_ble_eq_true rfl, Nat.le_of_ble_eq_true rfl⟩ (rp_isGood hM) x_d (k_d1 ?_)
                refine j_top (y := 0) (by rw [decide_eq_false (by have h1 := S41.2.2.1; have h2 := S41.2.2.2.2; dsimp only at h1 h2; omega)]; rfl) ?_
                refine j_if_ne 133 134 dX10_readRoute_130 rfl rfl (r32 (by decide) (by decide)) (fun c_130 => absurd c_130 (by decide)) (fun c_130 => ?_)
                exact j_vret dX10_readRoute_133 rfl (⟨rfl, rfl, F41.fd, by
                  rw [show P_route T st d s p = .inr ((-4), (sk T (p))) from by unfold P_route; rw [if_neg (show ¬ 8 ≤ d 4 by omega), kDig_1 hA, if_neg hpy]]
                  exact S41⟩)
    ·
      rw [digS_2 hA] at S2
      refine j_iconst 24 dX10_readRoute_23 rfl ?_
      refine j_istore_n 25 (L2 := [(2, .int (i32 (0))), (0, .ref (m)), (1, .int (i32 (((st : Nat) : Int))))]) dX10_readRoute_24 rfl rfl (Nat.le_of_ble_eq_true rfl) rfl ?_
      refine j_iload_n 26 0 dX10_readRoute_25 rfl rfl ?_
      refine j_aload_n 27 1 dX10_readRoute_26 rfl rfl ?_
      refine j_getr 30 dX10_readRoute_27 rfl fl_X10_20 hM.md rfl (fun _ _ => rfl) rfl ?_
      refine j_iconst 31 dX10_readRoute_30 rfl ?_
      refine j_iald 32 4 dX10_readRoute_31 rfl hM.dra rfl rfl (show 4 < 729 by omega) (fun r_31 => ?_)
      refine j_top (y := d 4) (congrFun ((F2.1 _ (by omega)).trans hd) 4) ?_
      refine j_icmp_ge 35 100 dX10_readRoute_32 rfl rfl (r32 (by decide) (by decide)) ⟨by omega, by omega⟩ (fun c_32_42 => ?_) (fun c_32_42 => ?_)
      · skip
        refine j_aload_n 101 1 dX10_readRoute_100 rfl rfl ?_
        refine j_geti 104 dX10_readRoute_101 rfl fl_X10_97 hM.md rfl rfl (fun r_101 => ?_)
        refine j_istore_n 105 (L2 := [(2, .int (i32 (g_20 (m) 16))), (0, .ref (m)), (1, .int (i32 (((st : Nat) : Int))))]) dX10_readRoute_104 rfl rfl (Nat.le_of_ble_eq_true rfl) rfl ?_
        refine j_aload_n 106 1 dX10_readRoute_105 rfl rfl ?_
        refine j_geti 109 dX10_readRoute_106 rfl fl_X10_100 hM.md rfl rfl (fun r_106 => ?_)
        refine j_istore_n 110 (L2 := [(3, .int (i32 (g_20 (m) 17))), (2, .int (i32 (g_20 (m) 16))), (0, .ref (m)), (1, .int (i32 (((st : Nat) : Int))))]) dX10_readRoute_109 rfl rfl (Nat.le_of_ble_eq_true rfl) rfl ?_
        refine j_aload_n 111 2 dX10_readRoute_110 rfl rfl ?_
        refine j_iconst 112 dX10_readRoute_111 rfl ?_
        refine j_iload_n 113 1 dX10_readRoute_112 rfl rfl ?_
        refine j_callS 116 (As := [.int (i32 (1)), .int (i32 (g_20 (m) 16))]) (kc2 := 0) (ks2 := 0) dX10_readRoute_113 rfl msX10_max lk_X10_129 rfl rfl (Nat.le_of_ble_eq_true rfl) ⟨Nat.le_of_ble_eq_true rfl, Nat.le_of_ble_eq_true rfl⟩ ⟨Nat.le_of_ble_eq_true rfl, Nat.le_of_ble_eq_true rfl⟩ (r_max (r32 (by decide) (by decide)) r_101) x_d (k_d1 ?_)
        refine j_bipush 118 dX10_readRoute_116 rfl (by decide) ?_
        refine j_callV 121 (As := [.int (i32 ((if g_20 (m) 16 < 1 then 1 else g_20 (m) 16))), .int (i32 (6))]) (kc2 := 0) (ks2 := 0) dX10_readRoute_118 rfl mvX10_number lk_X10_126 hM.md rfl ⟨Nat.le_of_ble_eq_true rfl, rfl⟩ rfl rfl (Nat.le_of_ble_eq_true rfl) ⟨Nat.le_of_ble_eq_true rfl, Nat.le_of_ble_eq_true rfl⟩ ⟨Nat.le_of_ble_eq_true rfl, Nat.le_of_ble_eq_true rfl⟩ (rp_numberX hM (by split; exact ⟨by decide, by decide⟩; exact r_101) (r32 (by decide) (by decide)) S2) x_i (k_i fun z_118 g_118 h_118 => ?_)
        obtain ⟨Fz43, hz43, S43⟩ := h_118
        have F43 := F2.tr Fz43
        refine j_top (y := 0) hz43 ?_
        refine j_istore 123 (L2 := [(4, .int (i32 (0))), (3, .int (i32 (g_20 (m) 17))), (2, .int (i32 (g_20 (m) 16))), (0, .ref (m)), (1, .int (i32 (((st : Nat) : Int))))]) dX10_readRoute_121 rfl (Nat.le_of_ble_eq_true rfl) rfl ?_
        refine j_iconst 124 dX10_readRoute_123 rfl ?_
        refine j_istore 126 (L2 := [(5, .int (i32 (0))), (4, .int (i32 (0))), (3, .int (i32 (g_20 (m) 17))), (2, .int (i32 (g_20 (m) 16))), (0, .ref (m)), (1, .int (i32 (((st : Nat) : Int))))]) dX10_readRoute_124 rfl (Nat.le_of_ble_eq_true rfl) rfl ?_
        refine j_aload_n 127 4 dX10_readRoute_126 rfl rfl ?_
        refine j_callV 130 (As := []) (kc2 := 0) (ks2 := 0) dX10_readRoute_127 rfl mvX10_isGood lk_X10_61 hM.md rfl ⟨Nat.le_of_ble_eq_true rfl, rfl⟩ rfl rfl (Nat.le_of_ble_eq_true rfl) ⟨Nat.le_of_ble_eq_true rfl, Nat.le_of_ble_eq_true rfl⟩ ⟨Nat.le_of_ble_eq_true rfl, Nat.le_of_ble_eq_true rfl⟩ (rp_isGood hM) x_d (k_d1 ?_)
        refine j_top (y := 0) (by rw [decide_eq_false (by have h1 := S43.2.2.1; have h2 := S43.2.2.2.2; dsimp only at h1 h2; omega)]; rfl) ?_
        refine j_if_ne 133 134 dX10_readRoute_130 rfl rfl (r32 (by decide) (by decide)) (fun c_130 => absurd c_130 (by decide)) (fun c_130 => ?_)
        exact j_vret dX10_readRoute_133 rfl (⟨rfl, rfl, F43.fd, by
          rw [show P_route T st d s p = .inr ((-2), (sk T (p))) from by unfold P_route; rw [if_neg (show ¬ 8 ≤ d 4 by omega), kDig_2 hA]]
          exact S43⟩)
      · skip
        refine j_aload_n 36 1 dX10_readRoute_35 rfl rfl ?_
        refine j_callV 39 (As := []) (kc2 := 0) (ks2 := 0) dX10_readRoute_36 rfl mvX10_isGood lk_X10_61 hM.md rfl ⟨Nat.le_of_ble_eq_true rfl, rfl⟩ rfl rfl (Nat.le_of_ble_eq_true rfl) ⟨Nat.le_of_ble_eq_true rfl, Nat.le_of_ble_eq_true rfl⟩ ⟨Nat.le_of_ble_eq_true rfl, Nat.le_of_ble_eq_true rfl⟩ (rp_isGood hM) x_d (k_d1 ?_)
        refine j_top (y := 0) (by rw [decide_eq_false (by have h1 := S2.2.2.1; have h2 := S2.2.2.2.2; dsimp only at h1 h2; omega)]; rfl) ?_
        refine j_if_eq 42 100 dX10_readRoute_39 rfl rfl (r32 (by decide) (by decide)) (fun c_39 => ?_) (fun c_39 => absurd c_39 (by decide))
        refine j_aload_n 101 1 dX10_readRoute_100 rfl rfl ?_
        refine j_geti 104 dX10_readRoute_101 rfl fl_X10_97 hM.md rfl rfl (fun r_101 => ?_)
        refine j_istore_n 105 (L2 := [(2, .int (i32 (g_20 (m) 16))), (0, .ref (m)), (1, .int (i32 (((st : Nat) : Int))))]) dX10_readRoute_104 rfl rfl (Nat.le_of_ble_eq_true rfl) rfl ?_
        refine j_aload_n 106 1 dX10_readRoute_105 rfl rfl ?_
        refine j_geti 109 dX10_readRoute_106 rfl fl_X10_100 hM.md rfl rfl (fun r_106 => ?_)
        refine j_istore_n 110 (L2 := [(3, .int (i32 (g_20 (m) 17))), (2, .int (i32 (g_20 (m) 16))), (0, .ref (m)), (1, .int (i32 (((st : Nat) : Int))))]) dX10_readRoute_109 rfl rfl (Nat.le_of_ble_eq_true rfl) rfl ?_
        refine j_aload_n 111 2 dX10_readRoute_110 rfl rfl ?_
        refine j_iconst 112 dX10_readRoute_111 rfl ?_
        refine j_iload_n 113 1 dX10_readRoute_112 rfl rfl ?_
        refine j_callS 116 (As := [.int (i32 (1)), .int (i32 (g_20 (m) 16))]) (kc2 := 0) (ks2 := 0) dX10_readRoute_113 rfl msX10_max lk_X10_129 rfl rfl (Nat.le_of_ble_eq_true rfl) ⟨Nat.le_of_ble_eq_true rfl, Nat.le_of_ble_eq_true rfl⟩ ⟨Nat.le_of_ble_eq_true rfl, Nat.le_of_ble_eq_true rfl⟩ (r_max (r32 (by decide) (by decide)) r_101) x_d (k_d1 ?_)
        refine j_bipush 118 dX10_readRoute_116 rfl (by decide) ?_
        refine j_callV 121 (As := [.int (i32 ((if g_20 (m) 16 < 1 then 1 else g_20 (m) 16))), .int (i32 (6))]) (kc2 := 0) (ks2 := 0) dX10_readRoute_118 rfl mvX10_number lk_X10_126 hM.md rfl ⟨Nat.le_of_ble_eq_true rfl, rfl⟩ rfl rfl (Nat.le_of_ble_eq_true rfl) ⟨Nat.le_of_ble_eq_true rfl, Nat.le_of_ble_eq_true rfl⟩ ⟨Nat.le_of_ble_eq_true rfl, Nat.le_of_ble_eq_true rfl⟩ (rp_numberX hM (by split; exact ⟨by decide, by decide⟩; exact r_101) (r32 (by decide) (by decide)) S2) x_i (k_i fun z_118 g_118 h_118 => ?_)
        obtain ⟨Fz44, hz44, S44⟩ := h_118
        have F44 := F2.tr Fz44
        refine j_top (y := 0) hz44 ?_
        refine j_istore 123 (L2 := [(4, .int (i32 (0))), (3, .int (i32 (g_20 (m) 17))), (2, .int (i32 (g_20 (m) 16))), (0, .ref (m)), (1, .int (i32 (((st : Nat) : Int))))]) dX10_readRoute_121 rfl (Nat.le_of_ble_eq_true rfl) rfl ?_
        refine j_iconst 124 dX10_readRoute_123 rfl ?_
        refine j_istore 126 (L2 := [(5, .int (i32 (0))), (4, .int (i32 (0))), (3, .int (i32 (g_20 (m) 17))), (2, .int (i32 (g_20 (m) 16))), (0, .ref (m)), (1, .int (i32 (((st : Nat) : Int))))]) dX10_readRoute_124 rfl (Nat.le_of_ble_eq_true rfl) rfl ?_
        refine j_aload_n 127 4 dX10_readRoute_126 rfl rfl ?_
        refine j_callV 130 (As := []) (kc2 := 0) (ks2 := 0) dX10_readRoute_127 rfl mvX10_isGood lk_X10_61 hM.md rfl ⟨Nat.le_of_ble_eq_true rfl, rfl⟩ rfl rfl (Nat.le_of_ble_eq_true rfl) ⟨Nat.le_of_ble_eq_true rfl, Nat.le_of_ble_eq_true rfl⟩ ⟨Nat.le_of_ble_eq_true rfl, Nat.le_of_ble_eq_true rfl⟩ (rp_isGood hM) x_d (k_d1 ?_)
        refine j_top (y := 0) (by rw [decide_eq_false (by have h1 := S44.2.2.1; have h2 := S44.2.2.2.2; dsimp only at h1 h2; omega)]; rfl) ?_
        refine j_if_ne 133 134 dX10_readRoute_130 rfl rfl (r32 (by decide) (by decide)) (fun c_130 => absurd c_130 (by decide)) (fun c_130 => ?_)
        exact j_vret dX10_readRoute_133 rfl (⟨rfl, rfl, F44.fd, by
          rw [show P_route T st d s p = .inr ((-2), (sk T (p))) from by unfold P_route; rw [if_neg (show ¬ 8 ≤ d 4 by omega), kDig_2 hA]]
          exact S44⟩)
    ·
      rw [digS_3 hA] at S2
      refine j_iconst 24 dX10_readRoute_23 rfl ?_
      refine j_istore_n 25 (L2 := [(2, .int (i32 (0))), (0, .ref (m)), (1, .int (i32 (((st : Nat) : Int))))]) dX10_readRoute_24 rfl rfl (Nat.le_of_ble_eq_true rfl) rfl ?_
      refine j_iload_n 26 0 dX10_readRoute_25 rfl rfl ?_
      refine j_aload_n 27 1 dX10_readRoute_26 rfl rfl ?_
      refine j_getr 30 dX10_readRoute_27 rfl fl_X10_20 hM.md rfl (fun _ _ => rfl) rfl ?_
      refine j_iconst 31 dX10_readRoute_30 rfl ?_
      refine j_iald 32 4 dX10_readRoute_31 rfl hM.dra rfl rfl (show 4 < 729 by omega) (fun r_31 => ?_)
      refine j_top (y := d 4) (congrFun ((F2.1 _ (by omega)).trans hd) 4) ?_
      refine j_icmp_ge 35 100 dX10_readRoute_32 rfl rfl (r32 (by decide) (by decide)) ⟨by omega, by omega⟩ (fun c_32_45 => ?_) (fun c_32_45 => ?_)
      · skip
        refine j_aload_n 101 1 dX10_readRoute_100 rfl rfl ?_
        refine j_geti 104 dX10_readRoute_101 rfl fl_X10_97 hM.md rfl rfl (fun r_101 => ?_)
        refine j_istore_n 105 (L2 := [(2, .int (i32 (g_20 (m) 16))), (0, .ref (m)), (1, .int (i32 (((st : Nat) : Int))))]) dX10_readRoute_104 rfl rfl (Nat.le_of_ble_eq_true rfl) rfl ?_
        refine j_aload_n 106 1 dX10_readRoute_105 rfl rfl ?_
        refine j_geti 109 dX10_readRoute_106 rfl fl_X10_100 hM.md rfl rfl (fun r_106 => ?_)
        refine j_istore_n 110 (L2 := [(3, .int (i32 (g_20 (m) 17))), (2, .int (i32 (g_20 (m) 16))), (0, .ref (m)), (1, .int (i32 (((st : Nat) : Int))))]) dX10_readRoute_109 rfl rfl (Nat.le_of_ble_eq_true rfl) rfl ?_
        refine j_aload_n 111 2 dX10_readRoute_110 rfl rfl ?_
        refine j_iconst 112 dX10_readRoute_111 rfl ?_
        refine j_iload_n 113 1 dX10_readRoute_112 rfl rfl ?_
        refine j_callS 116 (As := [.int (i32 (1)), .int (i32 (g_20 (m) 16))]) (kc2 := 0) (ks2 := 0) dX10_readRoute_113 rfl msX10_max lk_X10_129 rfl rfl (Nat.le_of_ble_eq_true rfl) ⟨Nat.le_of_ble_eq_true rfl, Nat.le_of_ble_eq_true rfl⟩ ⟨Nat.le_of_ble_eq_true rfl, Nat.le_of_ble_eq_true rfl⟩ (r_max (r32 (by decide) (by decide)) r_101) x_d (k_d1 ?_)
        refine j_bipush 118 dX10_readRoute_116 rfl (by decide) ?_
        refine j_callV 121 (As := [.int (i32 ((if g_20 (m) 16 < 1 then 1 else g_20 (m) 16))), .int (i32 (6))]) (kc2 := 0) (ks2 := 0) dX10_readRoute_118 rfl mvX10_number lk_X10_126 hM.md rfl ⟨Nat.le_of_ble_eq_true rfl, rfl⟩ rfl rfl (Nat.le_of_ble_eq_true rfl) ⟨Nat.le_of_ble_eq_true rfl, Nat.le_of_ble_eq_true rfl⟩ ⟨Nat.le_of_ble_eq_true rfl, Nat.le_of_ble_eq_true rfl⟩ (rp_numberX hM (by split; exact ⟨by decide, by decide⟩; exact r_101) (r32 (by decide) (by decide)) S2) x_i (k_i fun z_118 g_118 h_118 => ?_)
        obtain ⟨Fz46, hz46, S46⟩ := h_118
        have F46 := F2.tr Fz46
        refine j_top (y := 0) hz46 ?_
        refine j_istore 123 (L2 := [(4, .int (i32 (0))), (3, .int (i32 (g_20 (m) 17))), (2, .int (i32 (g_20 (m) 16))), (0, .ref (m)), (1, .int (i32 (((st : Nat) : Int))))]) dX10_readRoute_121 rfl (Nat.le_of_ble_eq_true rfl) rfl ?_
        refine j_iconst 124 dX10_readRoute_123 rfl ?_
        refine j_istore 126 (L2 := [(5, .int (i32 (0))), (4, .int (i32 (0))), (3, .int (i32 (g_20 (m) 17))), (2, .int (i32 (g_20 (m) 16))), (0, .ref (m)), (1, .int (i32 (((st : Nat) : Int))))]) dX10_readRoute_124 rfl (Nat.le_of_ble_eq_true rfl) rfl ?_
        refine j_aload_n 127 4 dX10_readRoute_126 rfl rfl ?_
        refine j_callV 130 (As := []) (kc2 := 0) (ks2 := 0) dX10_readRoute_127 rfl mvX10_isGood lk_X10_61 hM.md rfl ⟨Nat.le_of_ble_eq_true rfl, rfl⟩ rfl rfl (Nat.le_of_ble_eq_true rfl) ⟨Nat.le_of_ble_eq_true rfl, Nat.le_of_ble_eq_true rfl⟩ ⟨Nat.le_of_ble_eq_true rfl, Nat.le_of_ble_eq_true rfl⟩ (rp_isGood hM) x_d (k_d1 ?_)
        refine j_top (y := 0) (by rw [decide_eq_false (by have h1 := S46.2.2.1; have h2 := S46.2.2.2.2; dsimp only at h1 h2; omega)]; rfl) ?_
        refine j_if_ne 133 134 dX10_readRoute_130 rfl rfl (r32 (by decide) (by decide)) (fun c_130 => absurd c_130 (by decide)) (fun c_130 => ?_)
        exact j_vret dX10_readRoute_133 rfl (⟨rfl, rfl, F46.fd, by
          rw [show P_route T st d s p = .inr ((-3), (sk T (p))) from by unfold P_route; rw [if_neg (show ¬ 8 ≤ d 4 by omega), kDig_3 hA]]
          exact S46⟩)
      · skip
        refine j_aload_n 36 1 dX10_readRoute_35 rfl rfl ?_
        refine j_callV 39 (As := []) (kc2 := 0) (ks2 := 0) dX10_readRoute_36 rfl mvX10_isGood lk_X10_61 hM.md rfl ⟨Nat.le_of_ble_eq_true rfl, rfl⟩ rfl rfl (Nat.le_of_ble_eq_true rfl) ⟨Nat.le_of_ble_eq_true rfl, Nat.le_of_ble_eq_true rfl⟩ ⟨Nat.le_of_ble_eq_true rfl, Nat.le_of_ble_eq_true rfl⟩ (rp_isGood hM) x_d (k_d1 ?_)
        refine j_top (y := 0) (by rw [decide_eq_false (by have h1 := S2.2.2.1; have h2 := S2.2.2.2.2; dsimp only at h1 h2; omega)]; rfl) ?_
        refine j_if_eq 42 100 dX10_readRoute_39 rfl rfl (r32 (by decide) (by decide)) (fun c_39 => ?_) (fun c_39 => absurd c_39 (by decide))
        refine j_aload_n 101 1 dX10_readRoute_100 rfl rfl ?_
        refine j_geti 104 dX10_readRoute_101 rfl fl_X10_97 hM.md rfl rfl (fun r_101 => ?_)
        refine j_istore_n 105 (L2 := [(2, .int (i32 (g_20 (m) 16))), (0, .ref (m)), (1, .int (i32 (((st : Nat) : Int))))]) dX10_readRoute_104 rfl rfl (Nat.le_of_ble_eq_true rfl) rfl ?_
        refine j_aload_n 106 1 dX10_readRoute_105 rfl rfl ?_
        refine j_geti 109 dX10_readRoute_106 rfl fl_X10_100 hM.md rfl rfl (fun r_106 => ?_)
        refine j_istore_n 110 (L2 := [(3, .int (i32 (g_20 (m) 17))), (2, .int (i32 (g_20 (m) 16))), (0, .ref (m)), (1, .int (i32 (((st : Nat) : Int))))]) dX10_readRoute_109 rfl rfl (Nat.le_of_ble_eq_true rfl) rfl ?_
        refine j_aload_n 111 2 dX10_readRoute_110 rfl rfl ?_
        refine j_iconst 112 dX10_readRoute_111 rfl ?_
        refine j_iload_n 113 1 dX10_readRoute_112 rfl rfl ?_
        refine j_callS 116 (As := [.int (i32 (1)), .int (i32 (g_20 (m) 16))]) (kc2 := 0) (ks2 := 0) dX10_readRoute_113 rfl msX10_max lk_X10_129 rfl rfl (Nat.le_of_ble_eq_true rfl) ⟨Nat.le_of_ble_eq_true rfl, Nat.le_of_ble_eq_true rfl⟩ ⟨Nat.le_of_ble_eq_true rfl, Nat.le_of_ble_eq_true rfl⟩ (r_max (r32 (by decide) (by decide)) r_101) x_d (k_d1 ?_)
        refine j_bipush 118 dX10_readRoute_116 rfl (by decide) ?_
        refine j_callV 121 (As := [.int (i32 ((if g_20 (m) 16 < 1 then 1 else g_20 (m) 16))), .int (i32 (6))]) (kc2 := 0) (ks2 := 0) dX10_readRoute_118 rfl mvX10_number lk_X10_126 hM.md rfl ⟨Nat.le_of_ble_eq_true rfl, rfl⟩ rfl rfl (Nat.le_of_ble_eq_true rfl) ⟨Nat.le_of_ble_eq_true rfl, Nat.le_of_ble_eq_true rfl⟩ ⟨Nat.le_of_ble_eq_true rfl, Nat.le_of_ble_eq_true rfl⟩ (rp_numberX hM (by split; exact ⟨by decide, by decide⟩; exact r_101) (r32 (by decide) (by decide)) S2) x_i (k_i fun z_118 g_118 h_118 => ?_)
        obtain ⟨Fz47, hz47, S47⟩ := h_118
        have F47 := F2.tr Fz47
        refine j_top (y := 0) hz47 ?_
        refine j_istore 123 (L2 := [(4, .int (i32 (0))), (3, .int (i32 (g_20 (m) 17))), (2, .int (i32 (g_20 (m) 16))), (0, .ref (m)), (1, .int (i32 (((st : Nat) : Int))))]) dX10_readRoute_121 rfl (Nat.le_of_ble_eq_true rfl) rfl ?_
        refine j_iconst 124 dX10_readRoute_123 rfl ?_
        refine j_istore 126 (L2 := [(5, .int (i32 (0))), (4, .int (i32 (0))), (3, .int (i32 (g_20 (m) 17))), (2, .int (i32 (g_20 (m) 16))), (0, .ref (m)), (1, .int (i32 (((st : Nat) : Int))))]) dX10_readRoute_124 rfl (Nat.le_of_ble_eq_true rfl) rfl ?_
        refine j_aload_n 127 4 dX10_readRoute_126 rfl rfl ?_
        refine j_callV 130 (As := []) (kc2 := 0) (ks2 := 0) dX10_readRoute_127 rfl mvX10_isGood lk_X10_61 hM.md rfl ⟨Nat.le_of_ble_eq_true rfl, rfl⟩ rfl rfl (Nat.le_of_ble_eq_true rfl) ⟨Nat.le_of_ble_eq_true rfl, Nat.le_of_ble_eq_true rfl⟩ ⟨Nat.le_of_ble_eq_true rfl, Nat.le_of_ble_eq_true rfl⟩ (rp_isGood hM) x_d (k_d1 ?_)
        refine j_top (y := 0) (by rw [decide_eq_false (by have h1 := S47.2.2.1; have h2 := S47.2.2.2.2; dsimp only at h1 h2; omega)]; rfl) ?_
        refine j_if_ne 133 134 dX10_readRoute_130 rfl rfl (r32 (by decide) (by decide)) (fun c_130 => absurd c_130 (by decide)) (fun c_130 => ?_)
        exact j_vret dX10_readRoute_133 rfl (⟨rfl, rfl, F47.fd, by
          rw [show P_route T st d s p = .inr ((-3), (sk T (p))) from by unfold P_route; rw [if_neg (show ¬ 8 ≤ d 4 by omega), kDig_3 hA]]
          exact S47⟩)
  · skip
    refine j_aload_n 12 0 dX10_readRoute_11 rfl rfl ?_
    refine j_bipush 14 dX10_readRoute_12 rfl (by decide) ?_
    refine j_iload_n 15 1 dX10_readRoute_14 rfl rfl ?_
    refine j_callV 18 (As := [.int (i32 (-5)), .int (i32 (((st : Nat) : Int)))]) (kc2 := 0) (ks2 := 0) dX10_readRoute_15 rfl mvX10_report lk_X10_78 hM.md rfl ⟨Nat.le_of_ble_eq_true rfl, rfl⟩ rfl rfl (Nat.le_of_ble_eq_true rfl) ⟨Nat.le_of_ble_eq_true rfl, Nat.le_of_ble_eq_true rfl⟩ ⟨Nat.le_of_ble_eq_true rfl, Nat.le_of_ble_eq_true rfl⟩ (rp_report0 hM h0.2.2.2.1 (r32 (by decide) (by decide)) (r32 (by omega) (by omega))) x_d (k_d0 ?_)
    refine j_mn (fun g48 hg48 => ?_)
    have S48 : RE g48 m T ((-5), st) := by rw [hg48]; exact h0.err (by decide)
    have F48 : FM g g48 m := by rw [hg48]; exact (F0.up (by decide)).up (by decide)
    refine j_aload_n 19 0 dX10_readRoute_18 rfl rfl ?_
    refine j_iconst 20 dX10_readRoute_19 rfl ?_
    refine j_callV 23 (As := [.int (i32 (5))]) (kc2 := 0) (ks2 := 0) dX10_readRoute_20 rfl mvX10_readDigits lk_X10_112 hM.md rfl ⟨Nat.le_of_ble_eq_true rfl, rfl⟩ rfl rfl (Nat.le_of_ble_eq_true rfl) ⟨Nat.le_of_ble_eq_true rfl, Nat.le_of_ble_eq_true rfl⟩ ⟨Nat.le_of_ble_eq_true rfl, Nat.le_of_ble_eq_true rfl⟩ (rp_digits hM (by decide) (st := (.inr ((-5), st))) S48) x_v (k_v fun g_20 h_20 => ?_)
    obtain ⟨Fz49, S49, C49⟩ := h_20
    have F49 := F48.tr Fz49
    have S49 : RE g_20 m T ((-5), st) := S49
    refine j_iconst 24 dX10_readRoute_23 rfl ?_
    refine j_istore_n 25 (L2 := [(2, .int (i32 (0))), (0, .ref (m)), (1, .int (i32 (((st : Nat) : Int))))]) dX10_readRoute_24 rfl rfl (Nat.le_of_ble_eq_true rfl) rfl ?_
    refine j_iload_n 26 0 dX10_readRoute_25 rfl rfl ?_
    refine j_aload_n 27 1 dX10_readRoute_26 rfl rfl ?_
    refine j_getr 30 dX10_readRoute_27 rfl fl_X10_20 hM.md rfl (fun _ _ => rfl) rfl ?_
    refine j_iconst 31 dX10_readRoute_30 rfl ?_
    refine j_iald 32 4 dX10_readRoute_31 rfl hM.dra rfl rfl (show 4 < 729 by omega) (fun r_31 => ?_)
    refine j_top (y := d 4) (congrFun ((F49.1 _ (by omega)).trans hd) 4) ?_
    refine j_icmp_ge 35 100 dX10_readRoute_32 rfl rfl (r32 (by decide) (by decide)) ⟨by omega, by omega⟩ (fun c_32_50 => ?_) (fun c_32_50 => ?_)
    · skip
      refine j_aload_n 101 1 dX10_readRoute_100 rfl rfl ?_
      refine j_geti 104 dX10_readRoute_101 rfl fl_X10_97 hM.md rfl rfl (fun r_101 => ?_)
      refine j_istore_n 105 (L2 := [(2, .int (i32 (g_20 (m) 16))), (0, .ref (m)), (1, .int (i32 (((st : Nat) : Int))))]) dX10_readRoute_104 rfl rfl (Nat.le_of_ble_eq_true rfl) rfl ?_
      refine j_aload_n 106 1 dX10_readRoute_105 rfl rfl ?_
      refine j_geti 109 dX10_readRoute_106 rfl fl_X10_100 hM.md rfl rfl (fun r_106 => ?_)
      refine j_istore_n 110 (L2 := [(3, .int (i32 (g_20 (m) 17))), (2, .int (i32 (g_20 (m) 16))), (0, .ref (m)), (1, .int (i32 (((st : Nat) : Int))))]) dX10_readRoute_109 rfl rfl (Nat.le_of_ble_eq_true rfl) rfl ?_
      refine j_aload_n 111 2 dX10_readRoute_110 rfl rfl ?_
      refine j_iconst 112 dX10_readRoute_111 rfl ?_
      refine j_iload_n 113 1 dX10_readRoute_112 rfl rfl ?_
      refine j_callS 116 (As := [.int (i32 (1)), .int (i32 (g_20 (m) 16))]) (kc2 := 0) (ks2 := 0) dX10_readRoute_113 rfl msX10_max lk_X10_129 rfl rfl (Nat.le_of_ble_eq_true rfl) ⟨Nat.le_of_ble_eq_true rfl, Nat.le_of_ble_eq_true rfl⟩ ⟨Nat.le_of_ble_eq_true rfl, Nat.le_of_ble_eq_true rfl⟩ (r_max (r32 (by decide) (by decide)) r_101) x_d (k_d1 ?_)
      refine j_bipush 118 dX10_readRoute_116 rfl (by decide) ?_
      refine j_callV 121 (As := [.int (i32 ((if g_20 (m) 16 < 1 then 1 else g_20 (m) 16))), .int (i32 (6))]) (kc2 := 0) (ks2 := 0) dX10_readRoute_118 rfl mvX10_number lk_X10_126 hM.md rfl ⟨Nat.le_of_ble_eq_true rfl, rfl⟩ rfl rfl (Nat.le_of_ble_eq_true rfl) ⟨Nat.le_of_ble_eq_true rfl, Nat.le_of_ble_eq_true rfl⟩ ⟨Nat.le_of_ble_eq_true rfl, Nat.le_of_ble_eq_true rfl⟩ (rp_numberX hM (by split; exact ⟨by decide, by decide⟩; exact r_101) (r32 (by decide) (by decide)) S49) x_i (k_i fun z_118 g_118 h_118 => ?_)
      obtain ⟨Fz51, hz51, S51⟩ := h_118
      have F51 := F49.tr Fz51
      refine j_top (y := 0) hz51 ?_
      refine j_istore 123 (L2 := [(4, .int (i32 (0))), (3, .int (i32 (g_20 (m) 17))), (2, .int (i32 (g_20 (m) 16))), (0, .ref (m)), (1, .int (i32 (((st : Nat) : Int))))]) dX10_readRoute_121 rfl (Nat.le_of_ble_eq_true rfl) rfl ?_
      refine j_iconst 124 dX10_readRoute_123 rfl ?_
      refine j_istore 126 (L2 := [(5, .int (i32 (0))), (4, .int (i32 (0))), (3, .int (i32 (g_20 (m) 17))), (2, .int (i32 (g_20 (m) 16))), (0, .ref (m)), (1, .int (i32 (((st : Nat) : Int))))]) dX10_readRoute_124 rfl (Nat.le_of_ble_eq_true rfl) rfl ?_
      refine j_aload_n 127 4 dX10_readRoute_126 rfl rfl ?_
      refine j_callV 130 (As := []) (kc2 := 0) (ks2 := 0) dX10_readRoute_127 rfl mvX10_isGood lk_X10_61 hM.md rfl ⟨Nat.le_of_ble_eq_true rfl, rfl⟩ rfl rfl (Nat.le_of_ble_eq_true rfl) ⟨Nat.le_of_ble_eq_true rfl, Nat.le_of_ble_eq_true rfl⟩ ⟨Nat.le_of_ble_eq_true rfl, Nat.le_of_ble_eq_true rfl⟩ (rp_isGood hM) x_d (k_d1 ?_)
      refine j_top (y := 0) (by rw [decide_eq_false (by have h1 := S51.2.2.1; have h2 := S51.2.2.2.2; dsimp only at h1 h2; omega)]; rfl) ?_
      refine j_if_ne 133 134 dX10_readRoute_130 rfl rfl (r32 (by decide) (by decide)) (fun c_130 => absurd c_130 (by decide)) (fun c_130 => ?_)
      exact j_vret dX10_readRoute_133 rfl (⟨rfl, rfl, F51.fd, by
        rw [show P_route T st d s p = .inr ((-5), st) from by unfold P_route; rw [if_pos (by omega)]]
        exact S51⟩)
    · skip
      refine j_aload_n 36 1 dX10_readRoute_35 rfl rfl ?_
      refine j_callV 39 (As := []) (kc2 := 0) (ks2 := 0) dX10_readRoute_36 rfl mvX10_isGood lk_X10_61 hM.md rfl ⟨Nat.le_of_ble_eq_true rfl, rfl⟩ rfl rfl (Nat.le_of_ble_eq_true rfl) ⟨Nat.le_of_ble_eq_true rfl, Nat.le_of_ble_eq_true rfl⟩ ⟨Nat.le_of_ble_eq_true rfl, Nat.le_of_ble_eq_true rfl⟩ (rp_isGood hM) x_d (k_d1 ?_)
      refine j_top (y := 0) (by rw [decide_eq_false (by have h1 := S49.2.2.1; have h2 := S49.2.2.2.2; dsimp only at h1 h2; omega)]; rfl) ?_
      refine j_if_eq 42 100 dX10_readRoute_39 rfl rfl (r32 (by decide) (by decide)) (fun c_39 => ?_) (fun c_39 => absurd c_39 (by decide))
      refine j_aload_n 101 1 dX10_readRoute_100 rfl rfl ?_
      refine j_geti 104 dX10_readRoute_101 rfl fl_X10_97 hM.md rfl rfl (fun r_101 => ?_)
      refine j_istore_n 105 (L2 := [(2, .int (i32 (g_20 (m) 16))), (0, .ref (m)), (1, .int (i32 (((st : Nat) : Int))))]) dX10_readRoute_104 rfl rfl (Nat.le_of_ble_eq_true rfl) rfl ?_
      refine j_aload_n 106 1 dX10_readRoute_105 rfl rfl ?_
      refine j_geti 109 dX10_readRoute_106 rfl fl_X10_100 hM.md rfl rfl (fun r_106 => ?_)
      refine j_istore_n 110 (L2 := [(3, .int (i32 (g_20 (m) 17))), (2, .int (i32 (g_20 (m) 16))), (0, .ref (m)), (1, .int (i32 (((st : Nat) : Int))))]) dX10_readRoute_109 rfl rfl (Nat.le_of_ble_eq_true rfl) rfl ?_
      refine j_aload_n 111 2 dX10_readRoute_110 rfl rfl ?_
      refine j_iconst 112 dX10_readRoute_111 rfl ?_
      refine j_iload_n 113 1 dX10_readRoute_112 rfl rfl ?_
      refine j_callS 116 (As := [.int (i32 (1)), .int (i32 (g_20 (m) 16))]) (kc2 := 0) (ks2 := 0) dX10_readRoute_113 rfl msX10_max lk_X10_129 rfl rfl (Nat.le_of_ble_eq_true rfl) ⟨Nat.le_of_ble_eq_true rfl, Nat.le_of_ble_eq_true rfl⟩ ⟨Nat.le_of_ble_eq_true rfl, Nat.le_of_ble_eq_true rfl⟩ (r_max (r32 (by decide) (by decide)) r_101) x_d (k_d1 ?_)
      refine j_bipush 118 dX10_readRoute_116 rfl (by decide) ?_
      refine j_callV 121 (As := [.int (i32 ((if g_20 (m) 16 < 1 then 1 else g_20 (m) 16))), .int (i32 (6))]) (kc2 := 0) (ks2 := 0) dX10_readRoute_118 rfl mvX10_number lk_X10_126 hM.md rfl ⟨Nat.le_of_ble_eq_true rfl, rfl⟩ rfl rfl (Nat.le_of_ble_eq_true rfl) ⟨Nat.le_of_ble_eq_true rfl, Nat.le_of_ble_eq_true rfl⟩ ⟨Nat.le_of_ble_eq_true rfl, Nat.le_of_ble_eq_true rfl⟩ (rp_numberX hM (by split; exact ⟨by decide, by decide⟩; exact r_101) (r32 (by decide) (by decide)) S49) x_i (k_i fun z_118 g_118 h_118 => ?_)
      obtain ⟨Fz52, hz52, S52⟩ := h_118
      have F52 := F49.tr Fz52
      refine j_top (y := 0) hz52 ?_
      refine j_istore 123 (L2 := [(4, .int (i32 (0))), (3, .int (i32 (g_20 (m) 17))), (2, .int (i32 (g_20 (m) 16))), (0, .ref (m)), (1, .int (i32 (((st : Nat) : Int))))]) dX10_readRoute_121 rfl (Nat.le_of_ble_eq_true rfl) rfl ?_
      refine j_iconst 124 dX10_readRoute_123 rfl ?_
      refine j_istore 126 (L2 := [(5, .int (i32 (0))), (4, .int (i32 (0))), (3, .int (i32 (g_20 (m) 17))), (2, .int (i32 (g_20 (m) 16))), (0, .ref (m)), (1, .int (i32 (((st : Nat) : Int))))]) dX10_readRoute_124 rfl (Nat.le_of_ble_eq_true rfl) rfl ?_
      refine j_aload_n 127 4 dX10_readRoute_126 rfl rfl ?_
      refine j_callV 130 (As := []) (kc2 := 0) (ks2 := 0) dX10_readRoute_127 rfl mvX10_isGood lk_X10_61 hM.md rfl ⟨Nat.le_of_ble_eq_true rfl, rfl⟩ rfl rfl (Nat.le_of_ble_eq_true rfl) ⟨Nat.le_of_ble_eq_true rfl, Nat.le_of_ble_eq_true rfl⟩ ⟨Nat.le_of_ble_eq_true rfl, Nat.le_of_ble_eq_true rfl⟩ (rp_isGood hM) x_d (k_d1 ?_)
      refine j_top (y := 0) (by rw [decide_eq_false (by have h1 := S52.2.2.1; have h2 := S52.2.2.2.2; dsimp only at h1 h2; omega)]; rfl) ?_
      refine j_if_ne 133 134 dX10_readRoute_130 rfl rfl (r32 (by decide) (by decide)) (fun c_130 => absurd c_130 (by decide)) (fun c_130 => ?_)
      exact j_vret dX10_readRoute_133 rfl (⟨rfl, rfl, F52.fd, by
        rw [show P_route T st d s p = .inr ((-5), st) from by unfold P_route; rw [if_pos (by omega)]]
        exact S52⟩)
