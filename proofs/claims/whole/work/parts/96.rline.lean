/-! the reference's reader: line, group -/
def FD (g g2 : Mem) (m : Nat) : Prop := (∀ a, a ≠ m → a ≠ m + 3 → g2 a = g a) ∧ ∀ j, (j < 4 ∨ (7 ≤ j ∧ j ≤ 12)) → g2 m j = g m j
def SM (g : Mem) (m : Nat) (s : Nat → Bool) : Prop := g m 14 = b01 (s 0) + 2 * b01 (s 1) + 4 * b01 (s 2)
def RP (g : Mem) (m : Nat) (T : Tx) (res : PR) : Mem → Prop := fun g2 => FD g g2 m ∧ match res with
  | .inl r => RG g2 m T r.2.2 ∧ g2 (m + 3) = r.1 ∧ SM g2 m r.2.1
  | .inr e => RE g2 m T e
section RPS
variable {g g1 g2 : Mem} {m k : Nat} {x : Int} {d : Nat → Int} {T : Tx} {p : Nat} {s : Nat → Bool} {res : PR}
theorem FM.fd (h : FM g g2 m) : FD g g2 m := ⟨fun a h1 _ => h.1 a h1, fun j hj => h.2 j (by omega)⟩
theorem FD.tr (h : FD g g1 m) (h2 : FD g1 g2 m) : FD g g2 m := ⟨fun a h1 h3 => (h2.1 a h1 h3).trans (h.1 a h1 h3), fun j hj => (h2.2 j hj).trans (h.2 j hj)⟩
theorem FD.dr (h : FD g g1 m) : FD g (up2 g1 (m + 3) k x) m := ⟨fun a h1 h3 => by rw [up2_row h3]; exact h.1 a h1 h3, fun j hj => by rw [up2_a (by omega)]; exact h.2 j hj⟩
theorem up2_ud {a : Nat} : up2 g a k x a = ud (g a) k x := funext fun j => by
  by_cases h : j = k
  · subst h; rw [up2_s, ud_s]
  · rw [up2_k h, ud_n h]
theorem RG.dr (h : RG g m T p) : RG (up2 g (m + 3) k x) m T p := ⟨⟨h.1.1, by rw [up2_a (by omega)]; exact h.1.2.1, fun k hk => by rw [up2_a (by omega)]; exact h.1.2.2.1 k hk, h.1.2.2.2⟩, by rw [up2_a (by omega)]; exact h.2.1, h.2.2.1, by rw [up2_a (by omega)]; exact h.2.2.2.1, by rw [up2_a (by omega)]; exact h.2.2.2.2⟩
theorem SM.fm (h : SM g m s) (hF : FM g g2 m) : SM g2 m s := by unfold SM; rw [hF.2 14 (by decide)]; exact h
theorem SM.dr (h : SM g m s) : SM (up2 g (m + 3) k x) m s := by unfold SM; rw [up2_a (by omega)]; exact h
end RPS

set_option maxRecDepth 20000 in
theorem rp_numberX {w : Wd} {sh : Shp} {g : Mem} {m : Nat} (hM : MdS sh.1 m) {T : Tx} {lo hi : Int} (hlo : R32 lo) (hhi : R32 hi) {e : PE} (h0 : RE g m T e) : CT w mX10_number [.ref (m), .int (i32 (lo)), .int (i32 (hi))] sh g (iQ sh (fun z g2 => FM g g2 m ∧ z = 0 ∧ RE g2 m T e)) := by
  have h5 := h0.2.2.1
  have h51 := h0.2.2.2.2
  refine j_entry (by decide) rfl (Nat.le_of_ble_eq_true rfl) (fun h => by cases h) rfl ?_
  show J w mX10_number 0 [(0, .ref (m)), (1, .int (i32 (lo))), (2, .int (i32 (hi)))] [] sh g 0 0 _
  refine j_aload_n 1 0 dX10_number_0 rfl rfl ?_
  refine j_callV 4 (As := []) (kc2 := 0) (ks2 := 0) dX10_number_1 rfl mvX10_isGood lk_X10_61 hM.md rfl ⟨Nat.le_of_ble_eq_true rfl, rfl⟩ rfl rfl (Nat.le_of_ble_eq_true rfl) ⟨Nat.le_of_ble_eq_true rfl, Nat.le_of_ble_eq_true rfl⟩ ⟨Nat.le_of_ble_eq_true rfl, Nat.le_of_ble_eq_true rfl⟩ (rp_isGood hM) x_d (k_d1 ?_)
  refine j_top (y := 0) (by rw [decide_eq_false (show ¬ _ = (0 : Int) by omega)]; rfl) ?_
  refine j_if_ne 7 9 dX10_number_4 rfl rfl (r32 (by decide) (by decide)) (fun c_4 => absurd c_4 (by decide)) (fun c_4 => ?_)
  refine j_iconst 8 dX10_number_7 rfl ?_
  exact j_iret dX10_number_8 rfl (⟨_, rfl, rfl, FM.rf, rfl, h0⟩)

set_option maxRecDepth 20000 in
theorem rp_readLine {w : Wd} {sh : Shp} {g : Mem} {m : Nat} (hM : MdS sh.1 m) {T : Tx} {d : Nat → Int} {s : Nat → Bool} {p st : Nat} (h0 : RG g m T p) (hd : g (m + 3) = d) (hP : PInv d) (hS : SM g m s) (hst : st ≤ 1000)  : CT w mX10_readLine [.ref (m), .int (i32 (((st : Nat) : Int)))] sh g (vQ sh (RP g m T (P_line T st d s p))) := by
  have hX := h0.1
  have h7 := hX.1
  have hTb := hX.2.2.2
  have hsk2 := sk_le h0.2.2.1
  have hp4 := h0.2.1
  have hpT := h0.2.2.1
  have h5 := h0.2.2.2.1
  have F0 : FM g g m := FM.rf
  have hbb := hP.1
  have hb2 := hbb.2.2.1
  have hb3 := hbb.2.2.2.1
  have hb4 := hbb.2.2.2.2.1
  have hb5 := hbb.2.2.2.2.2.1
  refine j_entry (by decide) rfl (Nat.le_of_ble_eq_true rfl) (fun h => by cases h) rfl ?_
  show J w mX10_readLine 0 [(0, .ref (m)), (1, .int (i32 (((st : Nat) : Int))))] [] sh g 0 0 _
  refine j_aload_n 1 0 dX10_readLine_0 rfl rfl ?_
  refine j_getr 4 dX10_readLine_1 rfl fl_X10_20 hM.md rfl (fun _ _ => rfl) rfl ?_
  refine j_iconst 5 dX10_readLine_4 rfl ?_
  refine j_iald 6 2 dX10_readLine_5 rfl hM.dra rfl rfl (show 2 < 729 by omega) (fun r_5 => ?_)
  refine j_top (y := d 2) (congrFun hd 2) ?_
  refine j_bipush 8 dX10_readLine_6 rfl (by decide) ?_
  refine j_icmp_ne 11 18 dX10_readLine_8 rfl rfl ⟨by omega, by omega⟩ (r32 (by decide) (by decide)) (fun c_8_1 => ?_) (fun c_8_1 => ?_)
  · skip
    refine j_aload_n 19 0 dX10_readLine_18 rfl rfl ?_
    refine j_bipush 21 dX10_readLine_19 rfl (by decide) ?_
    refine j_callV 24 (As := [.int (i32 (6))]) (kc2 := 0) (ks2 := 0) dX10_readLine_21 rfl mvX10_readDigits lk_X10_112 hM.md rfl ⟨Nat.le_of_ble_eq_true rfl, rfl⟩ rfl rfl (Nat.le_of_ble_eq_true rfl) ⟨Nat.le_of_ble_eq_true rfl, Nat.le_of_ble_eq_true rfl⟩ ⟨Nat.le_of_ble_eq_true rfl, Nat.le_of_ble_eq_true rfl⟩ (rp_digits hM (by decide) (st := (.inl (p))) h0) x_v (k_v fun g_21 h_21 => ?_)
    obtain ⟨Fz2, S2, C2⟩ := h_21
    have F2 := F0.tr Fz2
    obtain ⟨D15_2, D16_2, D17_2⟩ := C2 _ rfl
    have hdl2 : (sk T (p)) + dn T (sk T (p)) ≤ T.2 := rn_le hD (sk_le h0.2.2.1)
    rcases digC T (sk T (p)) 6 with hA | hA | hA
    ·
      rw [digS_1 hA] at S2
      refine j_aload_n 25 0 dX10_readLine_24 rfl rfl ?_
      refine j_callV 28 (As := []) (kc2 := 0) (ks2 := 0) dX10_readLine_25 rfl mvX10_isGood lk_X10_61 hM.md rfl ⟨Nat.le_of_ble_eq_true rfl, rfl⟩ rfl rfl (Nat.le_of_ble_eq_true rfl) ⟨Nat.le_of_ble_eq_true rfl, Nat.le_of_ble_eq_true rfl⟩ ⟨Nat.le_of_ble_eq_true rfl, Nat.le_of_ble_eq_true rfl⟩ (rp_isGood hM) x_d (k_d1 ?_)
      refine j_top (y := 1) (by rw [decide_eq_true S2.2.2.2.1]; rfl) ?_
      refine j_if_eq 31 60 dX10_readLine_28 rfl rfl (r32 (by decide) (by decide)) (fun c_28 => absurd c_28 (by decide)) (fun c_28 => ?_)
      refine j_aload_n 32 0 dX10_readLine_31 rfl rfl ?_
      refine j_getr 35 dX10_readLine_32 rfl fl_X10_20 hM.md rfl (fun _ _ => rfl) rfl ?_
      refine j_aload_n 36 0 dX10_readLine_35 rfl rfl ?_
      refine j_geti 39 dX10_readLine_36 rfl fl_X10_97 hM.md rfl rfl (fun r_36 => ?_)
      refine j_top (y := ((dn T (sk T (p)) : Nat) : Int)) (D16_2) ?_
      refine j_aload_n 40 0 dX10_readLine_39 rfl rfl ?_
      refine j_geti 43 dX10_readLine_40 rfl fl_X10_100 hM.md rfl rfl (fun r_40 => ?_)
      have hbv2 := bv_rng (bd_of (T := T) (q := (sk T (p))) _ (Nat.le_refl _))
      have hpw2 : pw (dn T (sk T (p))) ≤ 1000000 := (pw_le (show dn T (sk T (p)) ≤ 6 by omega) : pw _ ≤ pw 6)
      refine j_top (y := bv (fT T (sk T (p))) (dn T (sk T (p)))) (D17_2.trans (dvF_bv _ (by omega))) ?_
      refine j_callS 46 (As := [.ref (m + 3), .int (i32 (((dn T (sk T (p)) : Nat) : Int))), .int (i32 (bv (fT T (sk T (p))) (dn T (sk T (p)))))]) (kc2 := 0) (ks2 := 0) dX10_readLine_43 rfl msX10_lineOf lk_X10_116 rfl rfl (Nat.le_of_ble_eq_true rfl) ⟨Nat.le_of_ble_eq_true rfl, Nat.le_of_ble_eq_true rfl⟩ ⟨Nat.le_of_ble_eq_true rfl, Nat.le_of_ble_eq_true rfl⟩ (r_lineOf hM.dra (show g_21 (m + 3) 2 ≤ 12 by rw [((F2.1 _ (by omega)).trans hd)]; omega) (r32 (by omega) (by omega)) (r32 (by omega) (by omega))) x_d (k_d1 ?_)
      refine j_top (y := s_lineOf d ((dn T (sk T (p)) : Nat) : Int) (bv (fT T (sk T (p))) (dn T (sk T (p))))) (by rw [((F2.1 _ (by omega)).trans hd)]) ?_
      refine j_iconst 47 dX10_readLine_46 rfl ?_
      refine j_icmp_eq 50 60 dX10_readLine_47 rfl rfl (fst_r32 _ (by decide)) (r32 (by decide) (by decide)) (fun c_47_3 => ?_) (fun c_47_3 => ?_)
      · skip
        refine j_aload_n 61 0 dX10_readLine_60 rfl rfl ?_
        refine j_callV 64 (As := []) (kc2 := 0) (ks2 := 0) dX10_readLine_61 rfl mvX10_isGood lk_X10_61 hM.md rfl ⟨Nat.le_of_ble_eq_true rfl, rfl⟩ rfl rfl (Nat.le_of_ble_eq_true rfl) ⟨Nat.le_of_ble_eq_true rfl, Nat.le_of_ble_eq_true rfl⟩ ⟨Nat.le_of_ble_eq_true rfl, Nat.le_of_ble_eq_true rfl⟩ (rp_isGood hM) x_d (k_d1 ?_)
        refine j_top (y := 1) (by rw [decide_eq_true S2.2.2.2.1]; rfl) ?_
        refine j_if_ne 67 68 dX10_readLine_64 rfl rfl (r32 (by decide) (by decide)) (fun c_64 => ?_) (fun c_64 => absurd c_64 (by decide))
        refine j_aload_n 69 0 dX10_readLine_68 rfl rfl ?_
        refine j_getr 72 dX10_readLine_69 rfl fl_X10_20 hM.md rfl (fun _ _ => rfl) rfl ?_
        refine j_bipush 74 dX10_readLine_72 rfl (by decide) ?_
        refine j_iconst 75 dX10_readLine_74 rfl ?_
        refine j_aload_n 76 0 dX10_readLine_75 rfl rfl ?_
        refine j_getr 79 dX10_readLine_76 rfl fl_X10_20 hM.md rfl (fun _ _ => rfl) rfl ?_
        refine j_iconst 80 dX10_readLine_79 rfl ?_
        refine j_iald 81 2 dX10_readLine_80 rfl hM.dra rfl rfl (show 2 < 729 by omega) (fun r_80 => ?_)
        refine j_top (y := d 2) (congrFun ((F2.1 _ (by omega)).trans hd) 2) ?_
        refine j_imul 82 dX10_readLine_81 rfl ?_
        refine j_iadd 83 dX10_readLine_82 rfl ?_
        refine j_iconst 84 dX10_readLine_83 rfl ?_
        refine j_iadd 85 dX10_readLine_84 rfl ?_
        refine j_aload_n 86 0 dX10_readLine_85 rfl rfl ?_
        refine j_geti 89 dX10_readLine_86 rfl fl_X10_97 hM.md rfl rfl (fun r_86 => ?_)
        refine j_top (y := ((dn T (sk T (p)) : Nat) : Int)) (D16_2) ?_
        refine j_iast 90 (26 + 2 * (d 2).toNat) dX10_readLine_89 rfl hM.dra rfl (by omega) (show 26 + 2 * (d 2).toNat < 729 by omega) (r32 (by omega) (by omega)) ?_
        refine j_mn (fun g_89 hg_89 => ?_)
        refine j_aload_n 91 0 dX10_readLine_90 rfl rfl ?_
        refine j_getr 94 dX10_readLine_91 rfl fl_X10_20 hM.md rfl (fun _ _ => rfl) rfl ?_
        refine j_bipush 96 dX10_readLine_94 rfl (by decide) ?_
        refine j_iconst 97 dX10_readLine_96 rfl ?_
        refine j_aload_n 98 0 dX10_readLine_97 rfl rfl ?_
        refine j_getr 101 dX10_readLine_98 rfl fl_X10_20 hM.md rfl (fun _ _ => rfl) rfl ?_
        refine j_iconst 102 dX10_readLine_101 rfl ?_
        refine j_iald 103 2 dX10_readLine_102 rfl hM.dra rfl rfl (show 2 < 729 by omega) (fun r_102 => ?_)
        refine j_top (y := d 2) ((by rw [hg_89, up2_k (by omega)]; exact congrFun ((F2.1 _ (by omega)).trans hd) 2)) ?_
        refine j_imul 104 dX10_readLine_103 rfl ?_
        refine j_iadd 105 dX10_readLine_104 rfl ?_
        refine j_iconst 106 dX10_readLine_105 rfl ?_
        refine j_iadd 107 dX10_readLine_106 rfl ?_
        refine j_aload_n 108 0 dX10_readLine_107 rfl rfl ?_
        refine j_geti 111 dX10_readLine_108 rfl fl_X10_100 hM.md rfl rfl (fun r_108 => ?_)
        refine j_top (y := bv (fT T (sk T (p))) (dn T (sk T (p)))) ((by rw [hg_89, up2_a (by omega)]; exact D17_2.trans (dvF_bv _ (by omega)))) ?_
        refine j_iast 112 (27 + 2 * (d 2).toNat) dX10_readLine_111 rfl hM.dra rfl (by omega) (show 27 + 2 * (d 2).toNat < 729 by omega) (r32 (by omega) (by omega)) ?_
        refine j_mn (fun g_111 hg_111 => ?_)
        refine j_aload_n 113 0 dX10_readLine_112 rfl rfl ?_
        refine j_getr 116 dX10_readLine_113 rfl fl_X10_20 hM.md rfl (fun _ _ => rfl) rfl ?_
        refine j_iconst 117 dX10_readLine_116 rfl ?_
        refine j_dup2 118 dX10_readLine_117 rfl rfl rfl ?_
        refine j_iald 119 2 dX10_readLine_118 rfl hM.dra rfl rfl (show 2 < 729 by omega) (fun r_118 => ?_)
        refine j_top (y := d 2) ((by rw [hg_111, up2_k (by omega), hg_89, up2_k (by omega)]; exact congrFun ((F2.1 _ (by omega)).trans hd) 2)) ?_
        refine j_iconst 120 dX10_readLine_119 rfl ?_
        refine j_iadd 121 dX10_readLine_120 rfl ?_
        refine j_iast 122 (2) dX10_readLine_121 rfl hM.dra rfl (by omega) (show 2 < 729 by omega) (r32 (by omega) (by omega)) ?_
        refine j_mn (fun g_121 hg_121 => ?_)
        exact j_vret dX10_readLine_122 rfl (⟨rfl, rfl, by rw [hg_121, hg_111, hg_89]; exact F2.fd.dr.dr.dr, by
          rw [show P_line T st d s p = .inl (a_line d (dn T (sk T (p))) (bv (fT T (sk T (p))) (dn T (sk T (p)))), s, (sk T (p)) + dn T (sk T (p))) from by unfold P_line; rw [if_neg (show ¬ 12 ≤ d 2 by omega), kDig_1 hA, if_pos c_47_3]]
          rw [hg_121, hg_111, hg_89]
          exact ⟨S2.dr.dr.dr, by rw [up2_ud, up2_ud, up2_ud, ((F2.1 _ (by omega)).trans hd)]; rfl, ((hS.fm F2).dr.dr.dr)⟩⟩)
      · skip
        refine j_aload_n 51 0 dX10_readLine_50 rfl rfl ?_
        refine j_bipush 53 dX10_readLine_51 rfl (by decide) ?_
        refine j_aload_n 54 0 dX10_readLine_53 rfl rfl ?_
        refine j_geti 57 dX10_readLine_54 rfl fl_X10_94 hM.md rfl rfl (fun r_54 => ?_)
        refine j_top (y := (((sk T (p)) : Nat) : Int)) (D15_2) ?_
        refine j_callV 60 (As := [.int (i32 (-4)), .int (i32 ((((sk T (p)) : Nat) : Int)))]) (kc2 := 0) (ks2 := 0) dX10_readLine_57 rfl mvX10_report lk_X10_78 hM.md rfl ⟨Nat.le_of_ble_eq_true rfl, rfl⟩ rfl rfl (Nat.le_of_ble_eq_true rfl) ⟨Nat.le_of_ble_eq_true rfl, Nat.le_of_ble_eq_true rfl⟩ ⟨Nat.le_of_ble_eq_true rfl, Nat.le_of_ble_eq_true rfl⟩ (rp_report0 hM S2.2.2.2.1 (r32 (by decide) (by decide)) (r32 (by omega) (by omega))) x_d (k_d0 ?_)
        refine j_mn (fun g4 hg4 => ?_)
        have S4 : RE g4 m T ((-4), (sk T (p))) := by rw [hg4]; exact S2.err (by decide)
        have F4 : FM g g4 m := by rw [hg4]; exact (F2.up (by decide)).up (by decide)
        refine j_aload_n 61 0 dX10_readLine_60 rfl rfl ?_
        refine j_callV 64 (As := []) (kc2 := 0) (ks2 := 0) dX10_readLine_61 rfl mvX10_isGood lk_X10_61 hM.md rfl ⟨Nat.le_of_ble_eq_true rfl, rfl⟩ rfl rfl (Nat.le_of_ble_eq_true rfl) ⟨Nat.le_of_ble_eq_true rfl, Nat.le_of_ble_eq_true rfl⟩ ⟨Nat.le_of_ble_eq_true rfl, Nat.le_of_ble_eq_true rfl⟩ (rp_isGood hM) x_d (k_d1 ?_)
        refine j_top (y := 0) (by rw [decide_eq_false (by have h1 := S4.2.2.1; have h2 := S4.2.2.2.2; dsimp only at h1 h2; omega)]; rfl) ?_
        refine j_if_ne 67 68 dX10_readLine_64 rfl rfl (r32 (by decide) (by decide)) (fun c_64 => absurd c_64 (by decide)) (fun c_64 => ?_)
        exact j_vret dX10_readLine_67 rfl (⟨rfl, rfl, F4.fd, by
          rw [show P_line T st d s p = .inr ((-4), (sk T (p))) from by unfold P_line; rw [if_neg (show ¬ 12 ≤ d 2 by omega), kDig_1 hA, if_neg c_47_3]]
          exact S4⟩)
    ·
      rw [digS_2 hA] at S2
      refine j_aload_n 25 0 dX10_readLine_24 rfl rfl ?_
      refine j_callV 28 (As := []) (kc2 := 0) (ks2 := 0) dX10_readLine_25 rfl mvX10_isGood lk_X10_61 hM.md rfl ⟨Nat.le_of_ble_eq_true rfl, rfl⟩ rfl rfl (Nat.le_of_ble_eq_true rfl) ⟨Nat.le_of_ble_eq_true rfl, Nat.le_of_ble_eq_true rfl⟩ ⟨Nat.le_of_ble_eq_true rfl, Nat.le_of_ble_eq_true rfl⟩ (rp_isGood hM) x_d (k_d1 ?_)
      refine j_top (y := 0) (by rw [decide_eq_false (by have h1 := S2.2.2.1; have h2 := S2.2.2.2.2; dsimp only at h1 h2; omega)]; rfl) ?_
      refine j_if_eq 31 60 dX10_readLine_28 rfl rfl (r32 (by decide) (by decide)) (fun c_28 => ?_) (fun c_28 => absurd c_28 (by decide))
      refine j_aload_n 61 0 dX10_readLine_60 rfl rfl ?_
      refine j_callV 64 (As := []) (kc2 := 0) (ks2 := 0) dX10_readLine_61 rfl mvX10_isGood lk_X10_61 hM.md rfl ⟨Nat.le_of_ble_eq_true rfl, rfl⟩ rfl rfl (Nat.le_of_ble_eq_true rfl) ⟨Nat.le_of_ble_eq_true rfl, Nat.le_of_ble_eq_true rfl⟩ ⟨Nat.le_of_ble_eq_true rfl, Nat.le_of_ble_eq_true rfl⟩ (rp_isGood hM) x_d (k_d1 ?_)
      refine j_top (y := 0) (by rw [decide_eq_false (by have h1 := S2.2.2.1; have h2 := S2.2.2.2.2; dsimp only at h1 h2; omega)]; rfl) ?_
      refine j_if_ne 67 68 dX10_readLine_64 rfl rfl (r32 (by decide) (by decide)) (fun c_64 => absurd c_64 (by decide)) (fun c_64 => ?_)
      exact j_vret dX10_readLine_67 rfl (⟨rfl, rfl, F2.fd, by
        rw [show P_line T st d s p = .inr ((-2), (sk T (p))) from by unfold P_line; rw [if_neg (show ¬ 12 ≤ d 2 by omega), kDig_2 hA]]
        exact S2⟩)
    ·
      rw [digS_3 hA] at S2
      refine j_aload_n 25 0 dX10_readLine_24 rfl rfl ?_
      refine j_callV 28 (As := []) (kc2 := 0) (ks2 := 0) dX10_readLine_25 rfl mvX10_isGood lk_X10_61 hM.md rfl ⟨Nat.le_of_ble_eq_true rfl, rfl⟩ rfl rfl (Nat.le_of_ble_eq_true rfl) ⟨Nat.le_of_ble_eq_true rfl, Nat.le_of_ble_eq_true rfl⟩ ⟨Nat.le_of_ble_eq_true rfl, Nat.le_of_ble_eq_true rfl⟩ (rp_isGood hM) x_d (k_d1 ?_)
      refine j_top (y := 0) (by rw [decide_eq_false (by have h1 := S2.2.2.1; have h2 := S2.2.2.2.2; dsimp only at h1 h2; omega)]; rfl) ?_
      refine j_if_eq 31 60 dX10_readLine_28 rfl rfl (r32 (by decide) (by decide)) (fun c_28 => ?_) (fun c_28 => absurd c_28 (by decide))
      refine j_aload_n 61 0 dX10_readLine_60 rfl rfl ?_
      refine j_callV 64 (As := []) (kc2 := 0) (ks2 := 0) dX10_readLine_61 rfl mvX10_isGood lk_X10_61 hM.md rfl ⟨Nat.le_of_ble_eq_true rfl, rfl⟩ rfl rfl (Nat.le_of_ble_eq_true rfl) ⟨Nat.le_of_ble_eq_true rfl, Nat.le_of_ble_eq_true rfl⟩ ⟨Nat.le_of_ble_eq_true rfl, Nat.le_of_ble_eq_true rfl⟩ (rp_isGood hM) x_d (k_d1 ?_)
      refine j_top (y := 0) (by rw [decide_eq_false (by have h1 := S2.2.2.1; have h2 := S2.2.2.2.2; dsimp only at h1 h2; omega)]; rfl) ?_
      refine j_if_ne 67 68 dX10_readLine_64 rfl rfl (r32 (by decide) (by decide)) (fun c_64 => absurd c_64 (by decide)) (fun c_64 => ?_)
      exact j_vret dX10_readLine_67 rfl (⟨rfl, rfl, F2.fd, by
        rw [show P_line T st d s p = .inr ((-3), (sk T (p))) from by unfold P_line; rw [if_neg (show ¬ 12 ≤ d 2 by omega), kDig_3 hA]]
        exact S2⟩)
  · skip
    refine j_aload_n 12 0 dX10_readLine_11 rfl rfl ?_
    refine j_bipush 14 dX10_readLine_12 rfl (by decide) ?_
    refine j_iload_n 15 1 dX10_readLine_14 rfl rfl ?_
    refine j_callV 18 (As := [.int (i32 (-5)), .int (i32 (((st : Nat) : Int)))]) (kc2 := 0) (ks2 := 0) dX10_readLine_15 rfl mvX10_report lk_X10_78 hM.md rfl ⟨Nat.le_of_ble_eq_true rfl, rfl⟩ rfl rfl (Nat.le_of_ble_eq_true rfl) ⟨Nat.le_of_ble_eq_true rfl, Nat.le_of_ble_eq_true rfl⟩ ⟨Nat.le_of_ble_eq_true rfl, Nat.le_of_ble_eq_true rfl⟩ (rp_report0 hM h0.2.2.2.1 (r32 (by decide) (by decide)) (r32 (by omega) (by omega))) x_d (k_d0 ?_)
    refine j_mn (fun g5 hg5 => ?_)
    have S5 : RE g5 m T ((-5), st) := by rw [hg5]; exact h0.err (by decide)
    have F5 : FM g g5 m := by rw [hg5]; exact (F0.up (by decide)).up (by decide)
    refine j_aload_n 19 0 dX10_readLine_18 rfl rfl ?_
    refine j_bipush 21 dX10_readLine_19 rfl (by decide) ?_
    refine j_callV 24 (As := [.int (i32 (6))]) (kc2 := 0) (ks2 := 0) dX10_readLine_21 rfl mvX10_readDigits lk_X10_112 hM.md rfl ⟨Nat.le_of_ble_eq_true rfl, rfl⟩ rfl rfl (Nat.le_of_ble_eq_true rfl) ⟨Nat.le_of_ble_eq_true rfl, Nat.le_of_ble_eq_true rfl⟩ ⟨Nat.le_of_ble_eq_true rfl, Nat.le_of_ble_eq_true rfl⟩ (rp_digits hM (by decide) (st := (.inr ((-5), st))) S5) x_v (k_v fun g_21 h_21 => ?_)
    obtain ⟨Fz6, S6, C6⟩ := h_21
    have F6 := F5.tr Fz6
    have S6 : RE g_21 m T ((-5), st) := S6
    refine j_aload_n 25 0 dX10_readLine_24 rfl rfl ?_
    refine j_callV 28 (As := []) (kc2 := 0) (ks2 := 0) dX10_readLine_25 rfl mvX10_isGood lk_X10_61 hM.md rfl ⟨Nat.le_of_ble_eq_true rfl, rfl⟩ rfl rfl (Nat.le_of_ble_eq_true rfl) ⟨Nat.le_of_ble_eq_true rfl, Nat.le_of_ble_eq_true rfl⟩ ⟨Nat.le_of_ble_eq_true rfl, Nat.le_of_ble_eq_true rfl⟩ (rp_isGood hM) x_d (k_d1 ?_)
    refine j_top (y := 0) (by rw [decide_eq_false (by have h1 := S6.2.2.1; have h2 := S6.2.2.2.2; dsimp only at h1 h2; omega)]; rfl) ?_
    refine j_if_eq 31 60 dX10_readLine_28 rfl rfl (r32 (by decide) (by decide)) (fun c_28 => ?_) (fun c_28 => absurd c_28 (by decide))
    refine j_aload_n 61 0 dX10_readLine_60 rfl rfl ?_
    refine j_callV 64 (As := []) (kc2 := 0) (ks2 := 0) dX10_readLine_61 rfl mvX10_isGood lk_X10_61 hM.md rfl ⟨Nat.le_of_ble_eq_true rfl, rfl⟩ rfl rfl (Nat.le_of_ble_eq_true rfl) ⟨Nat.le_of_ble_eq_true rfl, Nat.le_of_ble_eq_true rfl⟩ ⟨Nat.le_of_ble_eq_true rfl, Nat.le_of_ble_eq_true rfl⟩ (rp_isGood hM) x_d (k_d1 ?_)
    refine j_top (y := 0) (by rw [decide_eq_false (by have h1 := S6.2.2.1; have h2 := S6.2.2.2.2; dsimp only at h1 h2; omega)]; rfl) ?_
    refine j_if_ne 67 68 dX10_readLine_64 rfl rfl (r32 (by decide) (by decide)) (fun c_64 => absurd c_64 (by decide)) (fun c_64 => ?_)
    exact j_vret dX10_readLine_67 rfl (⟨rfl, rfl, F6.fd, by
      rw [show P_line T st d s p = .inr ((-5), st) from by unfold P_line; rw [if_pos (by omega)]]
      exact S6⟩)
