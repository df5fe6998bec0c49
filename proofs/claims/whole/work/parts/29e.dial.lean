theorem pw_add (a : Nat) : ∀ b, pw (a + b) = pw a * pw b
  | 0 => by rw [Nat.add_zero, show pw 0 = 1 from rfl, Int.mul_one]
  | b + 1 => by rw [show a + (b + 1) = (a + b) + 1 by omega, pw_s, pw_s, pw_add a b, Int.mul_assoc]
theorem enc_dig {m len : Nat} {v : Int} (hm : m < len) : (pw m + v / pw (len - m)) * 10 + (pw len + v) / pw (len - 1 - m) % 10 = pw (m + 1) + v / pw (len - (m + 1)) := by
  obtain ⟨q, rfl⟩ : ∃ q, len = q + (m + 1) := ⟨len - (m + 1), by omega⟩
  rw [show q + (m + 1) - 1 - m = q by omega, show q + (m + 1) - m = q + 1 by omega, show q + (m + 1) - (m + 1) = q by omega, pw_add q (m + 1), Int.add_comm (pw q * pw (m + 1)) v, Int.add_mul_ediv_left _ _ (by have := pw_pos q; omega), pw_s q, ← Int.ediv_ediv_of_nonneg (Int.le_of_lt (pw_pos q)), pw_s m]
  omega
theorem dv_lt {d : Nat → Int} {c many : Nat} (h0 : 0 ≤ d (180 + 14 * c)) (h : d (180 + 14 * c) < pw (d (170 + 14 * c)).toNat) (hm : many ≤ (d (170 + 14 * c)).toNat) : 0 ≤ s_dv d c many ∧ s_dv d c many < pw many := by
  unfold s_dv
  obtain ⟨q, hq⟩ : ∃ q, (d (170 + 14 * c)).toNat = many + q := ⟨(d (170 + 14 * c)).toNat - many, by omega⟩
  rw [hq] at h ⊢
  rw [show many + q - many = q by omega]
  rw [pw_add] at h
  refine ⟨Int.ediv_nonneg h0 (Int.le_of_lt (pw_pos q)), Int.ediv_lt_of_lt_mul (pw_pos q) h⟩
section DL
variable {g : Mem} {e r c : Nat} {d : Nat → Int}
theorem rel_dig (h : RelX g e d) (hb : RB d) (hr : r < 4) (hc : d (151 + 3 * r) = (c : Int)) {v : Int} (hv : v = enc (d (152 + 3 * r) + 1) (s_dv d c (d (152 + 3 * r) + 1).toNat)) : RelX (up2 g (e + 26 + r) 2 v) e (ud d (152 + 3 * r) (d (152 + 3 * r) + 1)) := by
  have hS : Sta d (ud d (152 + 3 * r) (d (152 + 3 * r) + 1)) := Sta.rf.ud (kp_reg (by omega) (by omega))
  obtain ⟨R1, R2, R3⟩ := h.2.2.2.2.2.1 r hr
  refine h.reg hb hS hr (fun a ha => funext fun j => up2_a ha) (up2_k (by decide)) (fun i hi _ => ud_n (by omega)) ⟨?_, ?_, ?_⟩
  · rw [up2_k (by decide), ud_n (by omega)]; exact R1
  · rw [up2_k (by decide), ud_n (by omega)]; exact R2
  · rw [up2_s, ud_n (show 151 + 3 * r ≠ 152 + 3 * r by omega), ud_s, hc, if_neg (by omega), Int.toNat_natCast, dv_sta hS]
    exact hv
theorem rel_wtd (h : RelX g e d) (hb : RB d) (hr : r < 4) {v : Int} : RelX (up2 g (e + 26 + r) 3 v) e (ud d (153 + 3 * r) v) := by
  have hS : Sta d (ud d (153 + 3 * r) v) := Sta.rf.ud (kp_reg (by omega) (by omega))
  obtain ⟨R1, R2, R3⟩ := h.2.2.2.2.2.1 r hr
  refine h.reg hb hS hr (fun a ha => funext fun j => up2_a ha) (up2_k (by decide)) (fun i hi _ => ud_n (by omega)) ⟨?_, ?_, ?_⟩
  · rw [up2_k (by decide), ud_n (by omega)]; exact R1
  · rw [up2_s, ud_s]
  · rw [up2_k (by decide), ud_n (show 151 + 3 * r ≠ 153 + 3 * r by omega), ud_n (show 152 + 3 * r ≠ 153 + 3 * r by omega), dv_sta hS]; exact R3
theorem rel_free (h : RelX g e d) (hb : RB d) (hr : r < 4) (h9 : d (179 + 14 * c) = (r : Int)) : RelX (up2 (up2 (up2 g (e + 26 + r) 1 (-1)) (e + 26 + r) 2 1) (e + 26 + r) 3 0) e (s_freeReg d c) := by
  have hS : Sta d (s_freeReg d c) := sta_freeReg Sta.rf (by rw [h9, Int.toNat_natCast]; exact hr)
  have hf : s_freeReg d c = ud (ud (ud (ud d (151 + 3 * r) (-1)) (152 + 3 * r) 0) (153 + 3 * r) 0) (179 + 14 * c) (-1) := by
    unfold s_freeReg
    rw [if_neg (by omega), h9]
    rfl
  rw [hf] at hS ⊢
  exact rel_serveR h hb hr (by rw [ud_n (by omega), ud_n (by omega), ud_n (by omega), ud_s]) (by rw [ud_n (by omega), ud_n (by omega), ud_s]) (by rw [ud_n (by omega), ud_s]) hS (fun i hi hfr => by
    rw [ud_n (fun q => hfr (Or.inr (by omega))), ud_n (by omega), ud_n (by omega), ud_n (by omega)]) (fun q => absurd rfl q)
theorem po_free (h : PO d) (hr : (d (179 + 14 * c)).toNat < 4) : PO (s_freeReg d c) := by
  unfold s_freeReg
  split
  · exact h
  · exact po_ud (po_ud (po_ud (po_ud h (by omega) (by omega) (by omega)) (by omega) (by omega) (by omega)) (by omega) (by omega) (by omega)) (by omega) (by omega) (by omega)
theorem dial1_c (hr : r < 4) : (s_dial1 d r c) 5 = d 5 ∧ (s_dial1 d r c) (173 + 14 * c) = d (173 + 14 * c) ∧ (Sta d (s_dial1 d r c) ∧ (s_dial1 d r c) (179 + 14 * c) = d (179 + 14 * c) ∧ (s_dial1 d r c) (170 + 14 * c) = d (170 + 14 * c) ∧ (s_dial1 d r c) (151 + 3 * r) = d (151 + 3 * r) ∧ (s_dial1 d r c) (153 + 3 * r) = d (153 + 3 * r) ∧ (s_dial1 d r c) 20 = d 20) := by
  unfold s_dial1
  split
  · exact ⟨ud_n (by omega), ud_n (by omega), ⟨Sta.rf.ud (kp_reg (by omega) (by omega)), ud_n (by omega), ud_n (by omega), ud_n (by omega), ud_n (by omega), ud_n (by omega)⟩⟩
  · exact ⟨rfl, rfl, ⟨Sta.rf, rfl, rfl, rfl, rfl, rfl⟩⟩
end DL

theorem po_dial1 {d : Nat → Int} {r c : Nat} (h : PO d) (hr : r < 4) : PO (s_dial1 d r c) := by
  unfold s_dial1
  split
  · exact po_ud h (by omega) (by omega) (by omega)
  · exact h
theorem po_dials {d : Nat → Int} {r : Nat} (h : PO d) (hr : r < 4) (hc : ¬ d (151 + 3 * r) = -1 → ((d (151 + 3 * r)).toNat : Int) < d 5 ∧ (d (179 + 14 * (d (151 + 3 * r)).toNat)).toNat < 4) : PO (s_dials d r) := by
  unfold s_dials
  split
  · exact h
  · next h1 =>
    split
    · next h2 =>
      obtain ⟨c5, c9⟩ := hc h1
      obtain ⟨e5, e3, -, e9, -⟩ := dial1_c (d := d) (c := (d (151 + 3 * r)).toNat) hr
      have hp := po_dial1 (c := (d (151 + 3 * r)).toNat) h hr
      unfold s_dial2
      split
      · exact po_waits hp (by rw [e5]; exact c5) (by rw [e3, h2]; decide)
      · split
        · exact hp
        · split
          · exact po_ud hp (by omega) (by omega) (by omega)
          · exact po_over (po_free (po_ud hp (by omega) (by omega) (by omega)) (by rw [ud_n (by omega), e9]; exact c9)) (by decide)
    · exact h

theorem Fr.end26 {g0 g : Mem} {e r : Nat} (h : Fr g0 g e) (hr : r < 4) {x y z : Int} {j1 j2 j3 : Nat} : Fr g0 (up2 (up2 (up2 g (e + 26 + r) j1 x) (e + 26 + r) j2 y) (e + 26 + r) j3 z) e := ((h.up (by omega) (by omega)).up (by omega) (by omega)).up (by omega) (by omega)

set_option maxRecDepth 20000 in
theorem c_dialOn {w : Wd} {sh : Shp} {g : Mem} {e r c : Nat} {d : Nat → Int} (hE : ExS sh.1 e) (hK0 : KX g e d) (hr : r < 4) (hits : d (151 + 3 * r) = (c : Int)) (hc40 : c < 40) (hs2 : d (173 + 14 * c) = 2) : CT w mX1_dialOn [.ref (e), .ref (e + 26 + r), .ref (e + 35 + c)] sh g (vQ sh (fun g2 => KX g2 e (s_dials d r) ∧ Fr g g2 e ∧ g2 e 12 = g e 12)) := by
  obtain ⟨hX, hI, hP⟩ := hK0
  have hIR := (hI.2.2.1 r hr).resolve_left (fun q => by have := q.1; omega)
  obtain ⟨c2, i1, i2⟩ := hIR
  have ec : c2 = c := by omega
  rw [ec] at i1 i2; clear ec
  obtain ⟨k5, k0, k9, k2, k4, km0, kml, kw0, kw1, kcm, -⟩ := i2
  have hb := hI.1
  have hb2 := hI.2.1
  have hc40 : c < 40 := by have := hb.2.2.2.2.2.1; omega
  have hcb := hb.2.2.2.2.2.2.2.2.2 c hc40
  have hcb2 := hb2.2.2.2.2.1 c k5
  have T := hX.tl hc40 k5
  obtain ⟨R1, R2, R3⟩ := hX.2.2.2.2.2.1 r hr
  have hdv := dv_lt (many := (d (152 + 3 * r)).toNat) hcb.2.2 hcb2.2.2.2.2.2 (by omega)
  rw [i1, if_neg (by omega), Int.toNat_natCast] at R3
  have hrow : pw (d (152 + 3 * r)).toNat + s_dv d c (d (152 + 3 * r)).toNat < 2000000 := enc_lt hdv.2 (by omega)
  have hrowp := pw_pos (d (152 + 3 * r)).toNat
  have hcrow : pw (d (170 + 14 * c)).toNat + d (180 + 14 * c) < 2000000 := enc_lt hcb2.2.2.2.2.2 (by omega)
  have hcrowp := pw_pos (d (170 + 14 * c)).toNat
  obtain ⟨e5, e3, eS, e9, e7, e1, e15, e20⟩ := dial1_c (d := d) (c := c) hr
  have hsd : s_dials d r = s_dial2 (s_dial1 d r c) r c := by unfold s_dials; rw [i1, if_neg (by omega), Int.toNat_natCast, if_pos hs2]
  have hID := inv_dials hI hr
  have hPD := po_dials hP hr (fun _ => by rw [i1, Int.toNat_natCast, k9, Int.toNat_natCast]; exact ⟨k5, hr⟩)
  have hbD : RB (s_dial1 d r c) := hb.sta eS
  have hbD2 : RB2 (s_dial1 d r c) := hb2.sta hb eS
  refine j_entry (by decide) rfl (Nat.le_of_ble_eq_true rfl) (fun h => by cases h) rfl ?_
  show J w mX1_dialOn 0 [(0, .ref (e)), (1, .ref (e + 26 + r)), (2, .ref (e + 35 + c))] [] sh g 0 0 _
  refine j_aload_n 1 2 dX1_dialOn_0 rfl rfl ?_
  refine j_geti 4 dX1_dialOn_1 rfl fl_X1_303 (hE.cl c hc40) rfl rfl (fun r_1 => ?_)
  refine j_top (y := enc (d (170 + 14 * c)) (d (180 + 14 * c))) (T.2.2.1) ?_
  refine j_callS 7 (As := [.int (i32 (enc (d (170 + 14 * c)) (d (180 + 14 * c))))]) (kc2 := 0) (ks2 := 0) dX1_dialOn_4 rfl msX7_lengthOf lk_X1_153 rfl rfl (Nat.le_of_ble_eq_true rfl) ⟨Nat.le_of_ble_eq_true rfl, Nat.le_of_ble_eq_true rfl⟩ ⟨Nat.le_of_ble_eq_true rfl, Nat.le_of_ble_eq_true rfl⟩ (c_lengthOf (by unfold enc; exact ⟨by omega, by omega⟩)) x_d (k_d1 ?_)
  refine j_top (y := d (170 + 14 * c)) (by unfold enc; rw [r_len_enc 10 _ _ (by omega) hcb.2.2 hcb2.2.2.2.2.2]; omega) ?_
  refine j_istore_n 8 (L2 := [(3, .int (i32 (d (170 + 14 * c)))), (0, .ref (e)), (1, .ref (e + 26 + r)), (2, .ref (e + 35 + c))]) dX1_dialOn_7 rfl rfl (Nat.le_of_ble_eq_true rfl) rfl ?_
  refine j_aload_n 9 2 dX1_dialOn_8 rfl rfl ?_
  refine j_geti 12 dX1_dialOn_9 rfl fl_X1_274 (hE.rg r hr) rfl rfl (fun r_9 => ?_)
  refine j_top (y := enc (d (152 + 3 * r)) (s_dv d c (d (152 + 3 * r)).toNat)) (R3) ?_
  refine j_callS 15 (As := [.int (i32 (enc (d (152 + 3 * r)) (s_dv d c (d (152 + 3 * r)).toNat)))]) (kc2 := 0) (ks2 := 0) dX1_dialOn_12 rfl msX7_lengthOf lk_X1_153 rfl rfl (Nat.le_of_ble_eq_true rfl) ⟨Nat.le_of_ble_eq_true rfl, Nat.le_of_ble_eq_true rfl⟩ ⟨Nat.le_of_ble_eq_true rfl, Nat.le_of_ble_eq_true rfl⟩ (c_lengthOf (by unfold enc; exact ⟨by omega, by omega⟩)) x_d (k_d1 ?_)
  refine j_top (y := d (152 + 3 * r)) (by unfold enc; rw [r_len_enc 10 _ _ (by omega) hdv.1 hdv.2]; omega) ?_
  refine j_istore 17 (L2 := [(4, .int (i32 (d (152 + 3 * r)))), (3, .int (i32 (d (170 + 14 * c)))), (0, .ref (e)), (1, .ref (e + 26 + r)), (2, .ref (e + 35 + c))]) dX1_dialOn_15 rfl (Nat.le_of_ble_eq_true rfl) rfl ?_
  refine j_iload 19 0 dX1_dialOn_17 rfl rfl ?_
  refine j_iload_n 20 1 dX1_dialOn_19 rfl rfl ?_
  refine j_icmp_ge 23 57 dX1_dialOn_20 rfl rfl (r32 (by omega) (by omega)) (r32 (by omega) (by omega)) (fun c_20 => ?_) (fun c_20 => ?_)
  · have hR : RelX g e (s_dial1 d r c) := by unfold s_dial1; rw [if_neg (by omega)]; exact hX
    have hL : d (152 + 3 * r) = (s_dial1 d r c) (152 + 3 * r) := by unfold s_dial1; rw [if_neg (by omega)]
    have hmB : 0 ≤ (s_dial1 d r c) (152 + 3 * r) ∧ (s_dial1 d r c) (152 + 3 * r) ≤ d (170 + 14 * c) := by omega
    have hdvB := dv_lt (d := (s_dial1 d r c)) (c := c) (many := ((s_dial1 d r c) (152 + 3 * r)).toNat) (hbD.2.2.2.2.2.2.2.2.2 c hc40).2.2 (hbD2.2.2.2.2.1 c (by rw [e5]; exact k5)).2.2.2.2.2 (by rw [e7]; omega)
    have hrowB : pw ((s_dial1 d r c) (152 + 3 * r)).toNat + s_dv (s_dial1 d r c) c ((s_dial1 d r c) (152 + 3 * r)).toNat < 2000000 := enc_lt hdvB.2 (by omega)
    have hrowBp := pw_pos ((s_dial1 d r c) (152 + 3 * r)).toNat
    refine j_mn (fun gb hgb => ?_)
    rw [← hgb] at hR
    have hFr : Fr g gb e := by rw [hgb]; exact Fr.rf
    have h12 : gb e 12 = g e 12 := by rw [hgb]
    obtain ⟨Q1, Q2, Q3⟩ := hR.2.2.2.2.2.1 r hr
    rw [e1, i1, if_neg (by omega), Int.toNat_natCast] at Q3
    refine j_aload_n 58 2 dX1_dialOn_57 rfl rfl ?_
    refine j_aload_n 59 3 dX1_dialOn_58 rfl rfl ?_
    refine j_geti 62 dX1_dialOn_59 rfl fl_X1_274 (hE.rg r hr) rfl rfl (fun r_59 => ?_)
    refine j_top (y := enc ((s_dial1 d r c) (152 + 3 * r)) (s_dv (s_dial1 d r c) c ((s_dial1 d r c) (152 + 3 * r)).toNat)) (Q3) ?_
    refine j_callV 65 (As := [.int (i32 (enc ((s_dial1 d r c) (152 + 3 * r)) (s_dv (s_dial1 d r c) c ((s_dial1 d r c) (152 + 3 * r)).toNat)))]) (kc2 := 0) (ks2 := 0) dX1_dialOn_62 rfl mvX1_isComplete lk_X1_158 hE.ex rfl ⟨Nat.le_of_ble_eq_true rfl, rfl⟩ rfl rfl (Nat.le_of_ble_eq_true rfl) ⟨Nat.le_of_ble_eq_true rfl, Nat.le_of_ble_eq_true rfl⟩ ⟨Nat.le_of_ble_eq_true rfl, Nat.le_of_ble_eq_true rfl⟩ (c_isComplete hE hR.1 (by rw [hR.2.1.2.2.1]; exact hbD.2.2.1.2) (by unfold enc; exact ⟨by omega, by omega⟩) (by unfold enc; omega)) x_d (k_d1 ?_)
    refine j_if_eq 68 77 dX1_dialOn_65 rfl rfl (r01 (b01_r _)) (fun c_65 => ?_) (fun c_65 => ?_)
    · have hcp : s_isComplete (s_dial1 d r c) ((s_dial1 d r c) (152 + 3 * r)).toNat (s_dv (s_dial1 d r c) c ((s_dial1 d r c) (152 + 3 * r)).toNat) = false := by rw [← rel_isComplete hR hbD hbD2 (by omega) hdvB.1 hdvB.2]; exact b01_0 c_65
      refine j_iload 79 0 dX1_dialOn_77 rfl rfl ?_
      refine j_iload_n 80 1 dX1_dialOn_79 rfl rfl ?_
      refine j_icmp_lt 83 119 dX1_dialOn_80 rfl rfl (r32 (by omega) (by omega)) (r32 (by omega) (by omega)) (fun c_80 => ?_) (fun c_80 => ?_)
      · have hfin : s_dial2 (s_dial1 d r c) r c = (s_dial1 d r c) := by unfold s_dial2; rw [hcp, if_neg (by decide), if_pos (by rw [e7]; omega)]
        have hRF := hR
        rw [← hfin] at hRF
        have hFF := hFr
        have hF12 := h12
        exact j_vret dX1_dialOn_119 rfl (⟨rfl, rfl, ⟨by rw [hsd]; exact hRF, hID, hPD⟩, hFF, hF12⟩)
      · refine j_aload_n 84 3 dX1_dialOn_83 rfl rfl ?_
        refine j_dup 85 dX1_dialOn_84 rfl rfl ?_
        refine j_geti 88 dX1_dialOn_85 rfl fl_X1_311 (hE.rg r hr) rfl rfl (fun r_85 => ?_)
        refine j_top (y := (s_dial1 d r c) (153 + 3 * r)) (Q2) ?_
        refine j_iconst 89 dX1_dialOn_88 rfl ?_
        refine j_iadd 90 dX1_dialOn_89 rfl ?_
        refine j_puti 93 dX1_dialOn_90 rfl fl_X1_311 (hE.rg r hr) rfl rfl rfl (r32 (by omega) (by omega)) ?_
        refine j_mn (fun g_90 hg_90 => ?_)
        refine j_aload_n 94 3 dX1_dialOn_93 rfl rfl ?_
        refine j_geti 97 dX1_dialOn_94 rfl fl_X1_311 (hE.rg r hr) rfl rfl (fun r_94 => ?_)
        refine j_top (y := (s_dial1 d r c) (153 + 3 * r) + 1) (by rw [hg_90]; exact up2_s) ?_
        refine j_aload_n 98 2 dX1_dialOn_97 rfl rfl ?_
        refine j_geti 101 dX1_dialOn_98 rfl fl_X1_80 hE.ex rfl rfl (fun r_98 => ?_)
        refine j_top (y := d 20) (by rw [hg_90, up2_a (by omega), hR.2.1.2.2.2.2.2.2.2.2.1]; exact e20) ?_
        refine j_icmp_lt 104 119 dX1_dialOn_101 rfl rfl (r32 (by omega) (by omega)) (r32 (by have := hb2.1; omega) (by have := hb2.1; omega)) (fun c_101 => ?_) (fun c_101 => ?_)
        · have hfin : s_dial2 (s_dial1 d r c) r c = (ud (s_dial1 d r c) (153 + 3 * r) ((s_dial1 d r c) (153 + 3 * r) + 1)) := by unfold s_dial2; rw [hcp, if_neg (by decide), if_neg (by rw [e7]; omega), if_pos (by rw [e20]; omega)]
          have hRF : RelX g_90 e (s_dial2 (s_dial1 d r c) r c) := by rw [hfin, hg_90]; exact rel_wtd hR hbD hr
          have hFF : Fr g g_90 e := by rw [hg_90]; exact hFr.up (by omega) (by omega)
          have hF12 : g_90 e 12 = g e 12 := by rw [hg_90, up2_a (by omega)]; exact h12
          exact j_vret dX1_dialOn_119 rfl (⟨rfl, rfl, ⟨by rw [hsd]; exact hRF, hID, hPD⟩, hFF, hF12⟩)
        · have hfin : s_dial2 (s_dial1 d r c) r c = s_isOver (s_freeReg (ud (s_dial1 d r c) (153 + 3 * r) ((s_dial1 d r c) (153 + 3 * r) + 1)) c) c 9 := by unfold s_dial2; rw [hcp, if_neg (by decide), if_neg (by rw [e7]; omega), if_neg (by rw [e20]; omega)]
          have hS3 : Sta (s_dial1 d r c) (ud (s_dial1 d r c) (153 + 3 * r) ((s_dial1 d r c) (153 + 3 * r) + 1)) := Sta.rf.ud (kp_reg (by omega) (by omega))
          have h93 : (ud (s_dial1 d r c) (153 + 3 * r) ((s_dial1 d r c) (153 + 3 * r) + 1)) (179 + 14 * c) = (r : Int) := by rw [ud_n (by omega), e9]; exact k9
          have hRF : RelX (up2 (up2 (up2 (up2 (up2 (up2 g_90 (e + 26 + r) 1 (-1)) (e + 26 + r) 2 1) (e + 26 + r) 3 0) (e + 35 + c) 1 9) (e + 35 + c) 11 ((up2 (up2 (up2 g_90 (e + 26 + r) 1 (-1)) (e + 26 + r) 2 1) (e + 26 + r) 3 0) e 6)) (e + 35 + c) 12 0) e (s_dial2 (s_dial1 d r c) r c) := by rw [hfin]; exact rel_over (by rw [hg_90]; exact rel_free (rel_wtd hR hbD hr) (hbD.sta hS3) hr h93) ((hbD.sta hS3).sta (sta_freeReg Sta.rf (by rw [h93, Int.toNat_natCast]; exact hr))) (by rw [sta_freeReg (Sta.rf) (by rw [h93, Int.toNat_natCast]; exact hr) 5 (Or.inl (by decide)), hS3 5 (Or.inl (by decide)), e5]; exact k5) (by rw [up2_a (by omega), up2_a (by omega), up2_a (by omega), hg_90, up2_a (by omega), hR.2.1.2.2.2.2.2.2.1, s_freeReg, if_neg (by omega), ud_n (by omega), ud_n (by omega), ud_n (by omega), ud_n (by omega), ud_n (by omega)])
          refine j_aload_n 105 3 dX1_dialOn_104 rfl rfl ?_
          refine j_iconst 106 dX1_dialOn_105 rfl ?_
          refine j_callV 109 (As := [.int (i32 (-1))]) (kc2 := 0) (ks2 := 0) dX1_dialOn_106 rfl mvX5_serve lk_X1_96 (hE.rg r hr) rfl ⟨Nat.le_of_ble_eq_true rfl, rfl⟩ rfl rfl (Nat.le_of_ble_eq_true rfl) ⟨Nat.le_of_ble_eq_true rfl, Nat.le_of_ble_eq_true rfl⟩ ⟨Nat.le_of_ble_eq_true rfl, Nat.le_of_ble_eq_true rfl⟩ (c_serveR (hE.rg r hr) (r32 (by decide) (by decide))) x_d (k_d0 ?_)
          refine j_aload_n 110 4 dX1_dialOn_109 rfl rfl ?_
          refine j_bipush 112 dX1_dialOn_110 rfl (by decide) ?_
          refine j_aload_n 113 2 dX1_dialOn_112 rfl rfl ?_
          refine j_geti 116 dX1_dialOn_113 rfl fl_X1_74 hE.ex rfl rfl (fun r_113 => ?_)
          refine j_callV 119 (As := [.int (i32 (9)), .int (i32 ((up2 (up2 (up2 g_90 (e + 26 + r) 1 (-1)) (e + 26 + r) 2 1) (e + 26 + r) 3 0) (e) 6))]) (kc2 := 0) (ks2 := 0) dX1_dialOn_116 rfl mvX0_end lk_X1_204 (hE.cl c hc40) rfl ⟨Nat.le_of_ble_eq_true rfl, rfl⟩ rfl rfl (Nat.le_of_ble_eq_true rfl) ⟨Nat.le_of_ble_eq_true rfl, Nat.le_of_ble_eq_true rfl⟩ ⟨Nat.le_of_ble_eq_true rfl, Nat.le_of_ble_eq_true rfl⟩ (c_end (hE.cl c hc40) (r32 (by decide) (by decide)) r_113) x_d (k_d0 ?_)
          have hFF : Fr g (up2 (up2 (up2 (up2 (up2 (up2 g_90 (e + 26 + r) 1 (-1)) (e + 26 + r) 2 1) (e + 26 + r) 3 0) (e + 35 + c) 1 9) (e + 35 + c) 11 ((up2 (up2 (up2 g_90 (e + 26 + r) 1 (-1)) (e + 26 + r) 2 1) (e + 26 + r) 3 0) e 6)) (e + 35 + c) 12 0) e := by rw [hg_90]; exact (((hFr.up (by omega) (by omega)).end26 hr)).end hc40
          have hF12 : (up2 (up2 (up2 (up2 (up2 (up2 g_90 (e + 26 + r) 1 (-1)) (e + 26 + r) 2 1) (e + 26 + r) 3 0) (e + 35 + c) 1 9) (e + 35 + c) 11 ((up2 (up2 (up2 g_90 (e + 26 + r) 1 (-1)) (e + 26 + r) 2 1) (e + 26 + r) 3 0) e 6)) (e + 35 + c) 12 0) e 12 = g e 12 := by rw [up2_a (by omega), up2_a (by omega), up2_a (by omega), up2_a (by omega), up2_a (by omega), up2_a (by omega), hg_90, up2_a (by omega)]; exact h12
          exact j_vret dX1_dialOn_119 rfl (⟨rfl, rfl, ⟨by rw [hsd]; exact hRF, hID, hPD⟩, hFF, hF12⟩)
    · have hcp : s_isComplete (s_dial1 d r c) ((s_dial1 d r c) (152 + 3 * r)).toNat (s_dv (s_dial1 d r c) c ((s_dial1 d r c) (152 + 3 * r)).toNat) = true := by rw [← rel_isComplete hR hbD hbD2 (by omega) hdvB.1 hdvB.2]; exact b01_1 c_65
      refine j_aload_n 69 2 dX1_dialOn_68 rfl rfl ?_
      refine j_aload_n 70 4 dX1_dialOn_69 rfl rfl ?_
      refine j_iconst 71 dX1_dialOn_70 rfl ?_
      refine j_callV 74 (As := [.ref (e + 35 + c), .int (i32 (3))]) (kc2 := 0) (ks2 := 0) dX1_dialOn_71 rfl mvX1_queueUp lk_X1_241 hE.ex rfl ⟨Nat.le_of_ble_eq_true rfl, rfl⟩ rfl rfl (Nat.le_of_ble_eq_true rfl) ⟨Nat.le_of_ble_eq_true rfl, Nat.le_of_ble_eq_true rfl⟩ ⟨Nat.le_of_ble_eq_true rfl, Nat.le_of_ble_eq_true rfl⟩ (c_queueUp hE (hE.cl c hc40) (r32 (by decide) (by decide))) x_d (k_d0 ?_)
      refine j_goto 119 dX1_dialOn_74 rfl ?_
      have hfin : s_dial2 (s_dial1 d r c) r c = s_waits (s_dial1 d r c) c 3 := by unfold s_dial2; rw [if_pos hcp]
      have hRF : RelX (up2 (up2 (up2 gb e 11 (bm (gb e 11 + 1))) (e + 35 + c) 7 (bm (gb e 11 + 1))) (e + 35 + c) 1 3) e (s_dial2 (s_dial1 d r c) r c) := by rw [hfin]; exact rel_waits hR hbD (by rw [e5]; exact k5) (by rw [hR.2.1.2.2.2.2.2.2.2.2.2.2.2])
      have hFF : Fr g (up2 (up2 (up2 gb e 11 (bm (gb e 11 + 1))) (e + 35 + c) 7 (bm (gb e 11 + 1))) (e + 35 + c) 1 3) e := ((hFr.up (by omega) (by omega)).up (by omega) (by omega)).up (by omega) (by omega)
      have hF12 : (up2 (up2 (up2 gb e 11 (bm (gb e 11 + 1))) (e + 35 + c) 7 (bm (gb e 11 + 1))) (e + 35 + c) 1 3) e 12 = g e 12 := by rw [up2_a (by omega), up2_a (by omega), up2_k (by decide)]; exact h12
      exact j_vret dX1_dialOn_119 rfl (⟨rfl, rfl, ⟨by rw [hsd]; exact hRF, hID, hPD⟩, hFF, hF12⟩)
  · refine j_aload_n 24 2 dX1_dialOn_23 rfl rfl ?_
    refine j_aload_n 25 3 dX1_dialOn_24 rfl rfl ?_
    refine j_geti 28 dX1_dialOn_25 rfl fl_X1_274 (hE.rg r hr) rfl rfl (fun r_25 => ?_)
    refine j_top (y := enc (d (152 + 3 * r)) (s_dv d c (d (152 + 3 * r)).toNat)) (R3) ?_
    refine j_callV 31 (As := [.int (i32 (enc (d (152 + 3 * r)) (s_dv d c (d (152 + 3 * r)).toNat)))]) (kc2 := 0) (ks2 := 0) dX1_dialOn_28 rfl mvX1_isComplete lk_X1_158 hE.ex rfl ⟨Nat.le_of_ble_eq_true rfl, rfl⟩ rfl rfl (Nat.le_of_ble_eq_true rfl) ⟨Nat.le_of_ble_eq_true rfl, Nat.le_of_ble_eq_true rfl⟩ ⟨Nat.le_of_ble_eq_true rfl, Nat.le_of_ble_eq_true rfl⟩ (c_isComplete hE hX.1 (by rw [hX.2.1.2.2.1]; exact hb.2.2.1.2) (by unfold enc; exact ⟨by omega, by omega⟩) (by unfold enc; omega)) x_d (k_d1 ?_)
    refine j_if_ne 34 57 dX1_dialOn_31 rfl rfl (r01 (b01_r _)) (fun c_31 => absurd c_31 ((fun q => q (by show b01 (x_isComplete g e (pw (d (152 + 3 * r)).toNat + _)) = 0; rw [rel_isComplete hX hb hb2 (by omega) hdv.1 hdv.2]; exact congrArg b01 (kcm hs2))))) (fun c_31 => ?_)
    refine j_aload_n 35 3 dX1_dialOn_34 rfl rfl ?_
    refine j_aload_n 36 3 dX1_dialOn_35 rfl rfl ?_
    refine j_geti 39 dX1_dialOn_36 rfl fl_X1_274 (hE.rg r hr) rfl rfl (fun r_36 => ?_)
    refine j_top (y := enc (d (152 + 3 * r)) (s_dv d c (d (152 + 3 * r)).toNat)) (R3) ?_
    refine j_aload_n 40 4 dX1_dialOn_39 rfl rfl ?_
    refine j_geti 43 dX1_dialOn_40 rfl fl_X1_303 (hE.cl c hc40) rfl rfl (fun r_40 => ?_)
    refine j_top (y := enc (d (170 + 14 * c)) (d (180 + 14 * c))) (T.2.2.1) ?_
    refine j_iload 45 0 dX1_dialOn_43 rfl rfl ?_
    refine j_callS 48 (As := [.int (i32 (enc (d (170 + 14 * c)) (d (180 + 14 * c)))), .int (i32 (d (152 + 3 * r)))]) (kc2 := 0) (ks2 := 0) dX1_dialOn_45 rfl msX7_digitAt lk_X1_304 rfl rfl (Nat.le_of_ble_eq_true rfl) ⟨Nat.le_of_ble_eq_true rfl, Nat.le_of_ble_eq_true rfl⟩ ⟨Nat.le_of_ble_eq_true rfl, Nat.le_of_ble_eq_true rfl⟩ ((by have h := c_digitAt (w := w) (sh := sh) (g := g) (x := enc (d (170 + 14 * c)) (d (180 + 14 * c))) (j := (d (152 + 3 * r)).toNat) (by unfold enc; omega) (by unfold enc; exact ⟨by omega, by omega⟩) (by unfold enc; rw [r_len_enc 10 _ _ (by omega) hcb.2.2 hcb2.2.2.2.2.2]; omega); rw [show (((d (152 + 3 * r)).toNat : Nat) : Int) = d (152 + 3 * r) by omega] at h; exact h)) x_d (k_d1 ?_)
    refine j_callS 51 (As := [.int (i32 (enc (d (152 + 3 * r)) (s_dv d c (d (152 + 3 * r)).toNat))), .int (i32 (enc (d (170 + 14 * c)) (d (180 + 14 * c)) / pw (r_len 10 (enc (d (170 + 14 * c)) (d (180 + 14 * c))) - 1 - (d (152 + 3 * r)).toNat) % 10))]) (kc2 := 0) (ks2 := 0) dX1_dialOn_48 rfl msX7_with lk_X1_308 rfl rfl (Nat.le_of_ble_eq_true rfl) ⟨Nat.le_of_ble_eq_true rfl, Nat.le_of_ble_eq_true rfl⟩ ⟨Nat.le_of_ble_eq_true rfl, Nat.le_of_ble_eq_true rfl⟩ (c_with (by unfold enc; exact ⟨by omega, by omega⟩) (r32 (by omega) (by omega))) x_d (k_d1 ?_)
    have hdg : enc (d (152 + 3 * r)) (s_dv d c (d (152 + 3 * r)).toNat) * 10 + enc (d (170 + 14 * c)) (d (180 + 14 * c)) / pw (r_len 10 (enc (d (170 + 14 * c)) (d (180 + 14 * c))) - 1 - (d (152 + 3 * r)).toNat) % 10 = enc (d (152 + 3 * r) + 1) (s_dv d c (d (152 + 3 * r) + 1).toNat) := by unfold enc; rw [r_len_enc 10 _ _ (by omega) hcb.2.2 hcb2.2.2.2.2.2, show (d (152 + 3 * r) + 1).toNat = (d (152 + 3 * r)).toNat + 1 by omega]; exact enc_dig (by omega)
    have hdv2 := dv_lt (d := d) (c := c) (many := (d (152 + 3 * r) + 1).toNat) hcb.2.2 hcb2.2.2.2.2.2 (by omega)
    have hnr : pw (d (152 + 3 * r) + 1).toNat + s_dv d c (d (152 + 3 * r) + 1).toNat < 2000000 := enc_lt hdv2.2 (by omega)
    have hnp := pw_pos (d (152 + 3 * r) + 1).toNat
    have hnew : enc (d (152 + 3 * r) + 1) (s_dv d c (d (152 + 3 * r) + 1).toNat) = enc (d (152 + 3 * r) + 1) (s_dv d c (d (152 + 3 * r) + 1).toNat) := rfl
    refine j_top (y := enc (d (152 + 3 * r) + 1) (s_dv d c (d (152 + 3 * r) + 1).toNat)) hdg ?_
    refine j_puti 54 dX1_dialOn_51 rfl fl_X1_274 (hE.rg r hr) rfl rfl rfl (by unfold enc; exact ⟨by omega, by omega⟩) ?_
    refine j_mn (fun g_51 hg_51 => ?_)
    refine j_iinc 57 0 (y := d (152 + 3 * r) + 1) (L2 := [(4, .int (i32 (d (152 + 3 * r) + 1))), (3, .int (i32 (d (170 + 14 * c)))), (0, .ref (e)), (1, .ref (e + 26 + r)), (2, .ref (e + 35 + c))]) dX1_dialOn_54 rfl rfl (by omega) (Nat.le_of_ble_eq_true rfl) rfl ?_
    have hR : RelX g_51 e (s_dial1 d r c) := by unfold s_dial1; rw [if_pos (by omega), hg_51]; exact rel_dig hX hb hr i1 hnew
    have hL : d (152 + 3 * r) + 1 = (s_dial1 d r c) (152 + 3 * r) := by unfold s_dial1; rw [if_pos (by omega), ud_s]
    have hmB : 0 ≤ (s_dial1 d r c) (152 + 3 * r) ∧ (s_dial1 d r c) (152 + 3 * r) ≤ d (170 + 14 * c) := by omega
    have hdvB := dv_lt (d := (s_dial1 d r c)) (c := c) (many := ((s_dial1 d r c) (152 + 3 * r)).toNat) (hbD.2.2.2.2.2.2.2.2.2 c hc40).2.2 (hbD2.2.2.2.2.1 c (by rw [e5]; exact k5)).2.2.2.2.2 (by rw [e7]; omega)
    have hrowB : pw ((s_dial1 d r c) (152 + 3 * r)).toNat + s_dv (s_dial1 d r c) c ((s_dial1 d r c) (152 + 3 * r)).toNat < 2000000 := enc_lt hdvB.2 (by omega)
    have hrowBp := pw_pos ((s_dial1 d r c) (152 + 3 * r)).toNat
    refine j_mn (fun gb hgb => ?_)
    rw [← hgb] at hR
    have hFr : Fr g gb e := by rw [hgb, hg_51]; exact Fr.rf.up (by omega) (by omega)
    have h12 : gb e 12 = g e 12 := by rw [hgb, hg_51, up2_a (by omega)]
    obtain ⟨Q1, Q2, Q3⟩ := hR.2.2.2.2.2.1 r hr
    rw [e1, i1, if_neg (by omega), Int.toNat_natCast] at Q3
    refine j_aload_n 58 2 dX1_dialOn_57 rfl rfl ?_
    refine j_aload_n 59 3 dX1_dialOn_58 rfl rfl ?_
    refine j_geti 62 dX1_dialOn_59 rfl fl_X1_274 (hE.rg r hr) rfl rfl (fun r_59 => ?_)
    refine j_top (y := enc ((s_dial1 d r c) (152 + 3 * r)) (s_dv (s_dial1 d r c) c ((s_dial1 d r c) (152 + 3 * r)).toNat)) (Q3) ?_
    refine j_callV 65 (As := [.int (i32 (enc ((s_dial1 d r c) (152 + 3 * r)) (s_dv (s_dial1 d r c) c ((s_dial1 d r c) (152 + 3 * r)).toNat)))]) (kc2 := 0) (ks2 := 0) dX1_dialOn_62 rfl mvX1_isComplete lk_X1_158 hE.ex rfl ⟨Nat.le_of_ble_eq_true rfl, rfl⟩ rfl rfl (Nat.le_of_ble_eq_true rfl) ⟨Nat.le_of_ble_eq_true rfl, Nat.le_of_ble_eq_true rfl⟩ ⟨Nat.le_of_ble_eq_true rfl, Nat.le_of_ble_eq_true rfl⟩ (c_isComplete hE hR.1 (by rw [hR.2.1.2.2.1]; exact hbD.2.2.1.2) (by unfold enc; exact ⟨by omega, by omega⟩) (by unfold enc; omega)) x_d (k_d1 ?_)
    refine j_if_eq 68 77 dX1_dialOn_65 rfl rfl (r01 (b01_r _)) (fun c_65 => ?_) (fun c_65 => ?_)
    · have hcp : s_isComplete (s_dial1 d r c) ((s_dial1 d r c) (152 + 3 * r)).toNat (s_dv (s_dial1 d r c) c ((s_dial1 d r c) (152 + 3 * r)).toNat) = false := by rw [← rel_isComplete hR hbD hbD2 (by omega) hdvB.1 hdvB.2]; exact b01_0 c_65
      refine j_iload 79 0 dX1_dialOn_77 rfl rfl ?_
      refine j_iload_n 80 1 dX1_dialOn_79 rfl rfl ?_
      refine j_icmp_lt 83 119 dX1_dialOn_80 rfl rfl (r32 (by omega) (by omega)) (r32 (by omega) (by omega)) (fun c_80 => ?_) (fun c_80 => ?_)
      · have hfin : s_dial2 (s_dial1 d r c) r c = (s_dial1 d r c) := by unfold s_dial2; rw [hcp, if_neg (by decide), if_pos (by rw [e7]; omega)]
        have hRF := hR
        rw [← hfin] at hRF
        have hFF := hFr
        have hF12 := h12
        exact j_vret dX1_dialOn_119 rfl (⟨rfl, rfl, ⟨by rw [hsd]; exact hRF, hID, hPD⟩, hFF, hF12⟩)
      · refine j_aload_n 84 3 dX1_dialOn_83 rfl rfl ?_
        refine j_dup 85 dX1_dialOn_84 rfl rfl ?_
        refine j_geti 88 dX1_dialOn_85 rfl fl_X1_311 (hE.rg r hr) rfl rfl (fun r_85 => ?_)
        refine j_top (y := (s_dial1 d r c) (153 + 3 * r)) (Q2) ?_
        refine j_iconst 89 dX1_dialOn_88 rfl ?_
        refine j_iadd 90 dX1_dialOn_89 rfl ?_
        refine j_puti 93 dX1_dialOn_90 rfl fl_X1_311 (hE.rg r hr) rfl rfl rfl (r32 (by omega) (by omega)) ?_
        refine j_mn (fun g_90 hg_90 => ?_)
        refine j_aload_n 94 3 dX1_dialOn_93 rfl rfl ?_
        refine j_geti 97 dX1_dialOn_94 rfl fl_X1_311 (hE.rg r hr) rfl rfl (fun r_94 => ?_)
        refine j_top (y := (s_dial1 d r c) (153 + 3 * r) + 1) (by rw [hg_90]; exact up2_s) ?_
        refine j_aload_n 98 2 dX1_dialOn_97 rfl rfl ?_
        refine j_geti 101 dX1_dialOn_98 rfl fl_X1_80 hE.ex rfl rfl (fun r_98 => ?_)
        refine j_top (y := d 20) (by rw [hg_90, up2_a (by omega), hR.2.1.2.2.2.2.2.2.2.2.1]; exact e20) ?_
        refine j_icmp_lt 104 119 dX1_dialOn_101 rfl rfl (r32 (by omega) (by omega)) (r32 (by have := hb2.1; omega) (by have := hb2.1; omega)) (fun c_101 => ?_) (fun c_101 => ?_)
        · have hfin : s_dial2 (s_dial1 d r c) r c = (ud (s_dial1 d r c) (153 + 3 * r) ((s_dial1 d r c) (153 + 3 * r) + 1)) := by unfold s_dial2; rw [hcp, if_neg (by decide), if_neg (by rw [e7]; omega), if_pos (by rw [e20]; omega)]
          have hRF : RelX g_90 e (s_dial2 (s_dial1 d r c) r c) := by rw [hfin, hg_90]; exact rel_wtd hR hbD hr
          have hFF : Fr g g_90 e := by rw [hg_90]; exact hFr.up (by omega) (by omega)
          have hF12 : g_90 e 12 = g e 12 := by rw [hg_90, up2_a (by omega)]; exact h12
          exact j_vret dX1_dialOn_119 rfl (⟨rfl, rfl, ⟨by rw [hsd]; exact hRF, hID, hPD⟩, hFF, hF12⟩)
        · have hfin : s_dial2 (s_dial1 d r c) r c = s_isOver (s_freeReg (ud (s_dial1 d r c) (153 + 3 * r) ((s_dial1 d r c) (153 + 3 * r) + 1)) c) c 9 := by unfold s_dial2; rw [hcp, if_neg (by decide), if_neg (by rw [e7]; omega), if_neg (by rw [e20]; omega)]
          have hS3 : Sta (s_dial1 d r c) (ud (s_dial1 d r c) (153 + 3 * r) ((s_dial1 d r c) (153 + 3 * r) + 1)) := Sta.rf.ud (kp_reg (by omega) (by omega))
          have h93 : (ud (s_dial1 d r c) (153 + 3 * r) ((s_dial1 d r c) (153 + 3 * r) + 1)) (179 + 14 * c) = (r : Int) := by rw [ud_n (by omega), e9]; exact k9
          have hRF : RelX (up2 (up2 (up2 (up2 (up2 (up2 g_90 (e + 26 + r) 1 (-1)) (e + 26 + r) 2 1) (e + 26 + r) 3 0) (e + 35 + c) 1 9) (e + 35 + c) 11 ((up2 (up2 (up2 g_90 (e + 26 + r) 1 (-1)) (e + 26 + r) 2 1) (e + 26 + r) 3 0) e 6)) (e + 35 + c) 12 0) e (s_dial2 (s_dial1 d r c) r c) := by rw [hfin]; exact rel_over (by rw [hg_90]; exact rel_free (rel_wtd hR hbD hr) (hbD.sta hS3) hr h93) ((hbD.sta hS3).sta (sta_freeReg Sta.rf (by rw [h93, Int.toNat_natCast]; exact hr))) (by rw [sta_freeReg (Sta.rf) (by rw [h93, Int.toNat_natCast]; exact hr) 5 (Or.inl (by decide)), hS3 5 (Or.inl (by decide)), e5]; exact k5) (by rw [up2_a (by omega), up2_a (by omega), up2_a (by omega), hg_90, up2_a (by omega), hR.2.1.2.2.2.2.2.2.1, s_freeReg, if_neg (by omega), ud_n (by omega), ud_n (by omega), ud_n (by omega), ud_n (by omega), ud_n (by omega)])
          refine j_aload_n 105 3 dX1_dialOn_104 rfl rfl ?_
          refine j_iconst 106 dX1_dialOn_105 rfl ?_
          refine j_callV 109 (As := [.int (i32 (-1))]) (kc2 := 0) (ks2 := 0) dX1_dialOn_106 rfl mvX5_serve lk_X1_96 (hE.rg r hr) rfl ⟨Nat.le_of_ble_eq_true rfl, rfl⟩ rfl rfl (Nat.le_of_ble_eq_true rfl) ⟨Nat.le_of_ble_eq_true rfl, Nat.le_of_ble_eq_true rfl⟩ ⟨Nat.le_of_ble_eq_true rfl, Nat.le_of_ble_eq_true rfl⟩ (c_serveR (hE.rg r hr) (r32 (by decide) (by decide))) x_d (k_d0 ?_)
          refine j_aload_n 110 4 dX1_dialOn_109 rfl rfl ?_
          refine j_bipush 112 dX1_dialOn_110 rfl (by decide) ?_
          refine j_aload_n 113 2 dX1_dialOn_112 rfl rfl ?_
          refine j_geti 116 dX1_dialOn_113 rfl fl_X1_74 hE.ex rfl rfl (fun r_113 => ?_)
          refine j_callV 119 (As := [.int (i32 (9)), .int (i32 ((up2 (up2 (up2 g_90 (e + 26 + r) 1 (-1)) (e + 26 + r) 2 1) (e + 26 + r) 3 0) (e) 6))]) (kc2 := 0) (ks2 := 0) dX1_dialOn_116 rfl mvX0_end lk_X1_204 (hE.cl c hc40) rfl ⟨Nat.le_of_ble_eq_true rfl, rfl⟩ rfl rfl (Nat.le_of_ble_eq_true rfl) ⟨Nat.le_of_ble_eq_true rfl, Nat.le_of_ble_eq_true rfl⟩ ⟨Nat.le_of_ble_eq_true rfl, Nat.le_of_ble_eq_true rfl⟩ (c_end (hE.cl c hc40) (r32 (by decide) (by decide)) r_113) x_d (k_d0 ?_)
          have hFF : Fr g (up2 (up2 (up2 (up2 (up2 (up2 g_90 (e + 26 + r) 1 (-1)) (e + 26 + r) 2 1) (e + 26 + r) 3 0) (e + 35 + c) 1 9) (e + 35 + c) 11 ((up2 (up2 (up2 g_90 (e + 26 + r) 1 (-1)) (e + 26 + r) 2 1) (e + 26 + r) 3 0) e 6)) (e + 35 + c) 12 0) e := by rw [hg_90]; exact (((hFr.up (by omega) (by omega)).end26 hr)).end hc40
          have hF12 : (up2 (up2 (up2 (up2 (up2 (up2 g_90 (e + 26 + r) 1 (-1)) (e + 26 + r) 2 1) (e + 26 + r) 3 0) (e + 35 + c) 1 9) (e + 35 + c) 11 ((up2 (up2 (up2 g_90 (e + 26 + r) 1 (-1)) (e + 26 + r) 2 1) (e + 26 + r) 3 0) e 6)) (e + 35 + c) 12 0) e 12 = g e 12 := by rw [up2_a (by omega), up2_a (by omega), up2_a (by omega), up2_a (by omega), up2_a (by omega), up2_a (by omega), hg_90, up2_a (by omega)]; exact h12
          exact j_vret dX1_dialOn_119 rfl (⟨rfl, rfl, ⟨by rw [hsd]; exact hRF, hID, hPD⟩, hFF, hF12⟩)
    · have hcp : s_isComplete (s_dial1 d r c) ((s_dial1 d r c) (152 + 3 * r)).toNat (s_dv (s_dial1 d r c) c ((s_dial1 d r c) (152 + 3 * r)).toNat) = true := by rw [← rel_isComplete hR hbD hbD2 (by omega) hdvB.1 hdvB.2]; exact b01_1 c_65
      refine j_aload_n 69 2 dX1_dialOn_68 rfl rfl ?_
      refine j_aload_n 70 4 dX1_dialOn_69 rfl rfl ?_
      refine j_iconst 71 dX1_dialOn_70 rfl ?_
      refine j_callV 74 (As := [.ref (e + 35 + c), .int (i32 (3))]) (kc2 := 0) (ks2 := 0) dX1_dialOn_71 rfl mvX1_queueUp lk_X1_241 hE.ex rfl ⟨Nat.le_of_ble_eq_true rfl, rfl⟩ rfl rfl (Nat.le_of_ble_eq_true rfl) ⟨Nat.le_of_ble_eq_true rfl, Nat.le_of_ble_eq_true rfl⟩ ⟨Nat.le_of_ble_eq_true rfl, Nat.le_of_ble_eq_true rfl⟩ (c_queueUp hE (hE.cl c hc40) (r32 (by decide) (by decide))) x_d (k_d0 ?_)
      refine j_goto 119 dX1_dialOn_74 rfl ?_
      have hfin : s_dial2 (s_dial1 d r c) r c = s_waits (s_dial1 d r c) c 3 := by unfold s_dial2; rw [if_pos hcp]
      have hRF : RelX (up2 (up2 (up2 gb e 11 (bm (gb e 11 + 1))) (e + 35 + c) 7 (bm (gb e 11 + 1))) (e + 35 + c) 1 3) e (s_dial2 (s_dial1 d r c) r c) := by rw [hfin]; exact rel_waits hR hbD (by rw [e5]; exact k5) (by rw [hR.2.1.2.2.2.2.2.2.2.2.2.2.2])
      have hFF : Fr g (up2 (up2 (up2 gb e 11 (bm (gb e 11 + 1))) (e + 35 + c) 7 (bm (gb e 11 + 1))) (e + 35 + c) 1 3) e := ((hFr.up (by omega) (by omega)).up (by omega) (by omega)).up (by omega) (by omega)
      have hF12 : (up2 (up2 (up2 gb e 11 (bm (gb e 11 + 1))) (e + 35 + c) 7 (bm (gb e 11 + 1))) (e + 35 + c) 1 3) e 12 = g e 12 := by rw [up2_a (by omega), up2_a (by omega), up2_k (by decide)]; exact h12
      exact j_vret dX1_dialOn_119 rfl (⟨rfl, rfl, ⟨by rw [hsd]; exact hRF, hID, hPD⟩, hFF, hF12⟩)
