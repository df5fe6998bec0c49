theorem Inv.unmark {d e : Nat → Int} {k0 : Nat} (h : Inv d) (hk0 : k0 < 3) (hs : ∀ i, i ≠ 163 + 2 * k0 → i ≠ 164 + 2 * k0 → e i = d i) (h1 : e (163 + 2 * k0) = -1) (h2 : e (164 + 2 * k0) = 0) : Inv e := by
  obtain ⟨hb, hb2, hr, hc, hm, hu⟩ := h
  have hS : Sta d e := fun i hi => hs i (by unfold kpI at hi; omega) (by unfold kpI at hi; omega)
  have k5 : e 5 = d 5 := hs 5 (by omega) (by omega)
  have k0' : e 0 = d 0 := hs 0 (by omega) (by omega)
  have k1 : e 1 = d 1 := hs 1 (by omega) (by omega)
  have c0 : ∀ c : Nat, e (173 + 14 * c) = d (173 + 14 * c) ∧ e (178 + 14 * c) = d (178 + 14 * c) ∧ e (179 + 14 * c) = d (179 + 14 * c) ∧ e (170 + 14 * c) = d (170 + 14 * c) := fun c => ⟨hs _ (by omega) (by omega), hs _ (by omega) (by omega), hs _ (by omega) (by omega), hs _ (by omega) (by omega)⟩
  have r0 : ∀ r : Nat, r < 4 → e (151 + 3 * r) = d (151 + 3 * r) ∧ e (152 + 3 * r) = d (152 + 3 * r) ∧ e (153 + 3 * r) = d (153 + 3 * r) := fun r h => ⟨hs _ (by omega) (by omega), hs _ (by omega) (by omega), hs _ (by omega) (by omega)⟩
  have m0 : ∀ k : Nat, k < 3 → k ≠ k0 → e (163 + 2 * k) = d (163 + 2 * k) ∧ e (164 + 2 * k) = d (164 + 2 * k) := fun k h h2 => ⟨hs _ (by omega) (by omega), hs _ (by omega) (by omega)⟩
  refine ⟨hb.sta hS, hb2.sta hb hS, fun r hr4 => ?_, fun c hc5 => ?_, fun k hk => ?_, fun k k2 hk hk2 e1 e2 => ?_⟩
  · obtain ⟨e1, e2, e3⟩ := r0 r hr4
    rcases hr r hr4 with h | ⟨c, h1, h2⟩
    · exact Or.inl ⟨by rw [e1]; exact h.1, by rw [e2]; exact h.2.1, by rw [e3]; exact h.2.2⟩
    · obtain ⟨c1, c2, c3, c4⟩ := c0 c
      refine Or.inr ⟨c, by rw [e1]; exact h1, ?_⟩
      unfold IR
      rw [k5, k0', c1, c3, c4, e2, e3, cmp_sta hS]
      exact h2
  · obtain ⟨c1, c2, c3, c4⟩ := c0 c
    rw [k5] at hc5
    obtain ⟨h1, h2, h3⟩ := hc c hc5
    rw [c1, c2, c3]
    refine ⟨h1, h2, h3.imp id fun ⟨r, a1, a2, a3⟩ => ⟨r, a1, a2, by rw [(r0 r a1).1]; exact a3⟩⟩
  · by_cases q : k = k0
    · subst q
      exact Or.inl ⟨h1, h2⟩
    · obtain ⟨e1, e2⟩ := m0 k hk q
      rw [e1, e2, k5, k1]
      exact (hm k hk).imp id fun ⟨c, a⟩ => ⟨c, by rw [(c0 c).1]; exact a⟩
  · by_cases q : k = k0
    · subst q; exact absurd h1 e2
    · by_cases q2 : k2 = k0
      · subst q2; exact absurd (e1.trans h1) e2
      · rw [(m0 k hk q).1, (m0 k2 hk2 q2).1] at e1
        rw [(m0 k hk q).1] at e2
        exact hu k k2 hk hk2 e1 e2
theorem rel_mleft {g : Mem} {e k : Nat} {d : Nat → Int} (h : RelX g e d) (hb : RB d) (hk : k < 3) {y : Int} : RelX (up2 g (e + 31 + k) 2 y) e (ud d (164 + 2 * k) y) := by
  refine h.mark hb (Sta.rf.ud (kp_reg (by omega) (by omega))) hk (fun a ha => funext fun j => up2_a ha) (up2_k (by decide)) (fun i hi _ => ud_n (by omega)) ⟨?_, ?_⟩
  · rw [up2_k (by decide), ud_n (by omega)]; exact (h.2.2.2.2.2.2.1 k hk).1
  · rw [up2_s, ud_s]

set_option maxRecDepth 20000 in
theorem c_letMarkersWork {w : Wd} {sh : Shp} {g : Mem} {e : Nat} {d : Nat → Int} (hE : ExS sh.1 e) (hK0 : KX g e d) : CT w mX1_letMarkersWork [.ref (e)] sh g (vQ sh (fun g2 => KX g2 e (s_t4 d) ∧ Fr g g2 e ∧ g2 e 12 = g e 12)) := by
  refine j_entry (by decide) rfl (Nat.le_of_ble_eq_true rfl) (fun h => by cases h) rfl ?_
  show J w mX1_letMarkersWork 0 [(0, .ref (e))] [] sh g 0 0 _
  refine j_aload_n 1 0 dX1_letMarkersWork_0 rfl rfl ?_
  refine j_getr 4 dX1_letMarkersWork_1 rfl fl_X1_40 hE.ex rfl (fun _ _ => rfl) rfl ?_
  refine j_astore_n 5 (L2 := [(1, .ref (e + 30)), (0, .ref (e))]) dX1_letMarkersWork_4 rfl rfl (Nat.le_of_ble_eq_true rfl) rfl ?_
  refine j_aload_n 6 0 dX1_letMarkersWork_5 rfl rfl ?_
  refine j_alen 7 dX1_letMarkersWork_6 rfl hE.mks (Nat.le_of_ble_eq_true rfl) rfl ?_
  refine j_top (y := 3) rfl ?_
  refine j_istore_n 8 (L2 := [(2, .int (i32 (3))), (1, .ref (e + 30)), (0, .ref (e))]) dX1_letMarkersWork_7 rfl rfl (Nat.le_of_ble_eq_true rfl) rfl ?_
  refine j_iconst 9 dX1_letMarkersWork_8 rfl ?_
  refine j_istore_n 10 (L2 := [(3, .int (i32 (0))), (2, .int (i32 (3))), (1, .ref (e + 30)), (0, .ref (e))]) dX1_letMarkersWork_9 rfl rfl (Nat.le_of_ble_eq_true rfl) rfl ?_
  suffices lp_10 : ∀ (n_10 : Nat) (k : Nat) (da : Nat → Int) (ga : Mem), 3 - k < n_10 → k ≤ 3 → da = itr s_marks d (min k (d 1).toNat) → KX ga e da → Fr g ga e → Sta d da → ga e 12 = g e 12 → J w mX1_letMarkersWork 10 [(3, .int (i32 ((k : Int)))), (2, .int (i32 (3))), (1, .ref (e + 30)), (0, .ref (e))] [] sh ga 0 0 (vQ sh (fun g2 => KX g2 e (s_t4 d) ∧ Fr g g2 e ∧ g2 e 12 = g e 12)) by
    exact lp_10 _ 0 d g (Nat.lt_succ_self _) (by omega) (by rw [Nat.zero_min]; rfl) hK0 Fr.rf Sta.rf rfl
  intro n_10
  induction n_10 with
  | zero => intro k da ga h_; exact absurd h_ (Nat.not_lt_zero _)
  | succ n_10 ih_10 =>
    intro k da ga hn_10 hk hd hK hF hS hg
    have hns : da 1 = d 1 := hS 1 (Or.inl (by decide))
    refine j_iload_n 11 0 dX1_letMarkersWork_10 rfl rfl ?_
    refine j_iload_n 12 1 dX1_letMarkersWork_11 rfl rfl ?_
    refine j_icmp_ge 15 74 dX1_letMarkersWork_12 rfl rfl (r32 (by omega) (by omega)) (r32 (by decide) (by decide)) (fun c_12 => ?_) (fun c_12 => ?_)
    · exact j_vret dX1_letMarkersWork_74 rfl (⟨rfl, rfl, by have h40 := hK.2.1.1.2.1; rw [show min k (d 1).toNat = (d 1).toNat by omega] at hd; rw [hd] at hK; exact ⟨hK, hF, hg⟩⟩)
    · have hkN : k < 3 := by omega
      have hrow := hK.1.2.2.2.2.2.2.1 k hkN
      have hcnt : ga e 5 = da 5 := hK.1.2.1.2.2.2.2.2.1
      have h40 := hK.2.1.1.2.2.2.2.2.1
      refine j_aload_n 16 2 dX1_letMarkersWork_15 rfl rfl ?_
      refine j_iload_n 17 0 dX1_letMarkersWork_16 rfl rfl ?_
      refine j_aald 18 k dX1_letMarkersWork_17 rfl hE.mks (Nat.le_of_ble_eq_true rfl) rfl rfl rfl (show k < 3 by omega) rfl ?_
      refine j_astore 20 (L2 := [(4, .ref (e + 31 + k)), (3, .int (i32 ((k : Int)))), (2, .int (i32 (3))), (1, .ref (e + 30)), (0, .ref (e))]) dX1_letMarkersWork_18 rfl (Nat.le_of_ble_eq_true rfl) rfl ?_
      rcases hK.2.1.2.2.2.2.1 k hkN with hz | ⟨c, i1, k5, k1, hs4, l1, l9⟩
      · have hS2 : Sta d da := hS
        refine j_aload_n 21 4 dX1_letMarkersWork_20 rfl rfl ?_
        refine j_aload 23 0 dX1_letMarkersWork_21 rfl rfl ?_
        refine j_geti 26 dX1_letMarkersWork_23 rfl fl_X1_203 (hE.mk k (show k < 3 by omega)) rfl rfl (fun r_23 => ?_)
        refine j_top (y := da (163 + 2 * k)) (hrow.1) ?_
        refine j_callV 29 (As := [.int (i32 (da (163 + 2 * k)))]) (kc2 := 0) (ks2 := 0) dX1_letMarkersWork_26 rfl mvX1_callAt lk_X1_248 hE.ex rfl ⟨Nat.le_of_ble_eq_true rfl, rfl⟩ rfl rfl (Nat.le_of_ble_eq_true rfl) ⟨Nat.le_of_ble_eq_true rfl, Nat.le_of_ble_eq_true rfl⟩ ⟨Nat.le_of_ble_eq_true rfl, Nat.le_of_ble_eq_true rfl⟩ (c_callAt0 hE (by omega) (by rw [← hrow.1]; exact r_23) (by omega)) x_d (k_d1 ?_)
        refine j_astoreN 31 (L2 := [(5, .null), (4, .ref (e + 31 + k)), (3, .int (i32 ((k : Int)))), (2, .int (i32 (3))), (1, .ref (e + 30)), (0, .ref (e))]) dX1_letMarkersWork_29 rfl (Nat.le_of_ble_eq_true rfl) rfl ?_
        refine j_aloadN 33 0 dX1_letMarkersWork_31 rfl rfl ?_
        have hfs : k < (d 1).toNat → s_marks da k = da := fun q => by unfold s_marks; rw [if_pos hz.1]
        have hda2 : da = itr s_marks d (min (k + 1) (d 1).toNat) := itr_min hd (fun q => (hfs q).symm) (fun _ => rfl)
        have hK2 : KX ga e da := hK
        have hF2 : Fr g ga e := hF
        have hg2 : ga e 12 = g e 12 := hg
        refine j_ifnullN 68 dX1_letMarkersWork_33 rfl ?_
        refine j_iinc 71 2 (y := ((k + 1 : Nat) : Int)) (L2 := [(3, .int (i32 (((k + 1 : Nat) : Int)))), (5, .null), (4, .ref (e + 31 + k)), (2, .int (i32 (3))), (1, .ref (e + 30)), (0, .ref (e))]) dX1_letMarkersWork_68 rfl rfl (by omega) (Nat.le_of_ble_eq_true rfl) rfl ?_
        refine j_goto 10 dX1_letMarkersWork_71 rfl ?_
        refine j_sub [0, 3, 4, 5] rfl ?_
        exact ih_10 (k + 1) _ _ (by omega) (by omega) hda2 hK2 hF2 hS2 hg2
      · have hc40 : c < 40 := by omega
        refine j_aload_n 21 4 dX1_letMarkersWork_20 rfl rfl ?_
        refine j_aload 23 0 dX1_letMarkersWork_21 rfl rfl ?_
        refine j_geti 26 dX1_letMarkersWork_23 rfl fl_X1_203 (hE.mk k (show k < 3 by omega)) rfl rfl (fun r_23 => ?_)
        refine j_top (y := da (163 + 2 * k)) (hrow.1) ?_
        refine j_callV 29 (As := [.int (i32 (da (163 + 2 * k)))]) (kc2 := 0) (ks2 := 0) dX1_letMarkersWork_26 rfl mvX1_callAt lk_X1_248 hE.ex rfl ⟨Nat.le_of_ble_eq_true rfl, rfl⟩ rfl rfl (Nat.le_of_ble_eq_true rfl) ⟨Nat.le_of_ble_eq_true rfl, Nat.le_of_ble_eq_true rfl⟩ ⟨Nat.le_of_ble_eq_true rfl, Nat.le_of_ble_eq_true rfl⟩ ((by have h := c_callAt1 (w := w) hE (g := ga) (by omega) (x := da (163 + 2 * k)) (by rw [← hrow.1]; exact r_23) (by omega); rw [show (da (163 + 2 * k)).toNat = c by omega] at h; exact h)) x_d (k_d1 ?_)
        refine j_astore 31 (L2 := [(5, .ref (e + 35 + c)), (4, .ref (e + 31 + k)), (3, .int (i32 ((k : Int)))), (2, .int (i32 (3))), (1, .ref (e + 30)), (0, .ref (e))]) dX1_letMarkersWork_29 rfl (Nat.le_of_ble_eq_true rfl) rfl ?_
        refine j_aload 33 0 dX1_letMarkersWork_31 rfl rfl ?_
        refine j_ifnull 36 dX1_letMarkersWork_33 rfl ?_
        refine j_aload 38 1 dX1_letMarkersWork_36 rfl rfl ?_
        refine j_dup 39 dX1_letMarkersWork_38 rfl rfl ?_
        refine j_geti 42 dX1_letMarkersWork_39 rfl fl_X1_252 (hE.mk k (show k < 3 by omega)) rfl rfl (fun r_39 => ?_)
        refine j_top (y := da (164 + 2 * k)) (hrow.2) ?_
        refine j_iconst 43 dX1_letMarkersWork_42 rfl ?_
        refine j_isub 44 dX1_letMarkersWork_43 rfl ?_
        refine j_puti 47 dX1_letMarkersWork_44 rfl fl_X1_252 (hE.mk k (show k < 3 by omega)) rfl rfl rfl (r32 (by omega) (by omega)) ?_
        refine j_mn (fun g_44 hg_44 => ?_)
        refine j_aload 49 1 dX1_letMarkersWork_47 rfl rfl ?_
        refine j_geti 52 dX1_letMarkersWork_49 rfl fl_X1_252 (hE.mk k (show k < 3 by omega)) rfl rfl (fun r_49 => ?_)
        refine j_top (y := da (164 + 2 * k) - 1) (by rw [hg_44]; exact up2_s) ?_
        refine j_if_gt 55 68 dX1_letMarkersWork_52 rfl rfl (r32 (by omega) (by omega)) (fun c_52 => ?_) (fun c_52 => ?_)
        · have hm : s_marks da k = (ud da (164 + 2 * k) (da (164 + 2 * k) - 1)) := by unfold s_marks; rw [if_neg (by omega), if_pos c_52]
          have hI2 := inv_marks hK.2.1 hkN
          have hK2 : KX g_44 e (s_marks da k) := by rw [hm] at hI2 ⊢; exact ⟨by rw [hg_44]; exact rel_mleft hK.1 hK.2.1.1 hkN, hI2, po_ud hK.2.2 (by omega) (by omega) (by omega)⟩
          have hF2 : Fr g g_44 e := by rw [hg_44]; exact hF.up (by omega) (by omega)
          have hg2 : g_44 e 12 = g e 12 := by rw [hg_44, up2_a (by omega)]; exact hg
          have hda2 : s_marks da k = itr s_marks d (min (k + 1) (d 1).toNat) := itr_min hd (fun _ => rfl) (fun q => by omega)
          have hS2 : Sta d (s_marks da k) := hS.tr (sta_marks hK.2.1 hkN)
          refine j_iinc 71 2 (y := ((k + 1 : Nat) : Int)) (L2 := [(3, .int (i32 (((k + 1 : Nat) : Int)))), (5, .ref (e + 35 + c)), (4, .ref (e + 31 + k)), (2, .int (i32 (3))), (1, .ref (e + 30)), (0, .ref (e))]) dX1_letMarkersWork_68 rfl rfl (by omega) (Nat.le_of_ble_eq_true rfl) rfl ?_
          refine j_goto 10 dX1_letMarkersWork_71 rfl ?_
          refine j_sub [0, 3, 4, 5] rfl ?_
          exact ih_10 (k + 1) _ _ (by omega) (by omega) hda2 hK2 hF2 hS2 hg2
        · obtain ⟨r, hr, h9, h1r⟩ := (hK.2.1.2.2.2.1 c k5).2.2.resolve_left (fun q => q.2 (by omega))
          have hl1 : da (164 + 2 * k) = 1 := by omega
          have hIB : Inv (ud (ud da (164 + 2 * k) (da (164 + 2 * k) - 1)) (163 + 2 * k) (-1)) := hK.2.1.unmark hkN (fun i h1 h2 => by rw [ud_n h1, ud_n h2]) ud_s (by rw [ud_n (by omega), ud_s]; omega)
          have hPB : PO (ud (ud da (164 + 2 * k) (da (164 + 2 * k) - 1)) (163 + 2 * k) (-1)) := po_ud (po_ud hK.2.2 (by omega) (by omega) (by omega)) (by omega) (by omega) (by omega)
          have hRB : RelX (up2 (up2 g_44 (e + 31 + k) 1 (-1)) (e + 31 + k) 2 0) e (ud (ud da (164 + 2 * k) (da (164 + 2 * k) - 1)) (163 + 2 * k) (-1)) := by
            have h1 := rel_serveM (x := -1) (y := 0) hK.1 hK.2.1.1 hkN
            have e1 : ud (ud da (163 + 2 * k) (-1)) (164 + 2 * k) 0 = (ud (ud da (164 + 2 * k) (da (164 + 2 * k) - 1)) (163 + 2 * k) (-1)) := by
              rw [hl1]; funext i; by_cases q : i = 163 + 2 * k
              · subst q; rw [ud_n (by omega), ud_s, ud_s]
              · by_cases q2 : i = 164 + 2 * k
                · subst q2; rw [ud_s, ud_n q, ud_s]; rfl
                · rw [ud_n q2, ud_n q, ud_n q, ud_n q2]
            have e2 : (up2 (up2 g_44 (e + 31 + k) 1 (-1)) (e + 31 + k) 2 0) = up2 (up2 ga (e + 31 + k) 1 (-1)) (e + 31 + k) 2 0 := by
              rw [hg_44]; funext a j; by_cases q : a = e + 31 + k
              · subst q; by_cases q2 : j = 2
                · subst q2; rw [up2_s, up2_s]
                · rw [up2_k q2, up2_k q2]; by_cases q3 : j = 1
                  · subst q3; rw [up2_s, up2_s]
                  · rw [up2_k q3, up2_k q3, up2_k q2]
              · rw [up2_a q, up2_a q, up2_a q, up2_a q, up2_a q]
            rw [e2, ← e1]; exact h1
          have h9B : (ud (ud da (164 + 2 * k) (da (164 + 2 * k) - 1)) (163 + 2 * k) (-1)) (179 + 14 * c) = (r : Int) := by rw [ud_n (by omega), ud_n (by omega)]; exact h9
          refine j_aload 57 1 dX1_letMarkersWork_55 rfl rfl ?_
          refine j_iconst 58 dX1_letMarkersWork_57 rfl ?_
          refine j_iconst 59 dX1_letMarkersWork_58 rfl ?_
          refine j_callV 62 (As := [.int (i32 (-1)), .int (i32 (0))]) (kc2 := 0) (ks2 := 0) dX1_letMarkersWork_59 rfl mvX4_serve lk_X1_99 (hE.mk k (show k < 3 by omega)) rfl ⟨Nat.le_of_ble_eq_true rfl, rfl⟩ rfl rfl (Nat.le_of_ble_eq_true rfl) ⟨Nat.le_of_ble_eq_true rfl, Nat.le_of_ble_eq_true rfl⟩ ⟨Nat.le_of_ble_eq_true rfl, Nat.le_of_ble_eq_true rfl⟩ (c_serveM (hE.mk k hkN) (r32 (by decide) (by decide)) (r32 (by decide) (by decide))) x_d (k_d0 ?_)
          refine j_aload_n 63 5 dX1_letMarkersWork_62 rfl rfl ?_
          refine j_aload 65 0 dX1_letMarkersWork_63 rfl rfl ?_
          refine j_callV 68 (As := [.ref (e + 35 + c)]) (kc2 := 0) (ks2 := 0) dX1_letMarkersWork_65 rfl mvX1_findWay lk_X1_253 hE.ex rfl ⟨Nat.le_of_ble_eq_true rfl, rfl⟩ rfl rfl (Nat.le_of_ble_eq_true rfl) ⟨Nat.le_of_ble_eq_true rfl, Nat.le_of_ble_eq_true rfl⟩ ⟨Nat.le_of_ble_eq_true rfl, Nat.le_of_ble_eq_true rfl⟩ (c_findWay hE ⟨hRB, hIB, hPB⟩ (by rw [ud_n (by omega), ud_n (by omega)]; exact k5) hc40 (by rw [ud_n (by omega), ud_n (by omega)]; exact hs4) h9B hr) x_v (k_v fun g_65 h_65 => ?_)
          obtain ⟨hRT, hPT, hFT, h12T⟩ := h_65
          have hI2 := inv_marks hK.2.1 hkN
          have hm : s_marks da k = s_looks (s_freeReg (ud (ud da (164 + 2 * k) (da (164 + 2 * k) - 1)) (163 + 2 * k) (-1)) c) c ((ud (ud da (164 + 2 * k) (da (164 + 2 * k) - 1)) (163 + 2 * k) (-1)) (152 + 3 * r)).toNat (s_dv (s_freeReg (ud (ud da (164 + 2 * k) (da (164 + 2 * k) - 1)) (163 + 2 * k) (-1)) c) c ((ud (ud da (164 + 2 * k) (da (164 + 2 * k) - 1)) (163 + 2 * k) (-1)) (152 + 3 * r)).toNat) := by unfold s_marks s_found; rw [if_neg (by omega), if_neg (by omega), show (da (163 + 2 * k)).toNat = c by omega, ud_n (show 179 + 14 * c ≠ 164 + 2 * k by omega), h9, Int.toNat_natCast, ud_n (show 152 + 3 * r ≠ 163 + 2 * k by omega)]
          have hK2 : KX g_65 e (s_marks da k) := by rw [hm] at hI2 ⊢; exact ⟨hRT, hI2, hPT⟩
          have hF0 : Fr g (up2 (up2 g_44 (e + 31 + k) 1 (-1)) (e + 31 + k) 2 0) e := by rw [hg_44]; exact ((hF.up (by omega) (by omega)).up (by omega) (by omega)).up (by omega) (by omega)
          have hF2 : Fr g g_65 e := hF0.tr hFT
          have hg2 : g_65 e 12 = g e 12 := by rw [h12T, up2_a (by omega), up2_a (by omega), hg_44, up2_a (by omega)]; exact hg
          have hda2 : s_marks da k = itr s_marks d (min (k + 1) (d 1).toNat) := itr_min hd (fun _ => rfl) (fun q => by omega)
          have hS2 : Sta d (s_marks da k) := hS.tr (sta_marks hK.2.1 hkN)
          refine j_iinc 71 2 (y := ((k + 1 : Nat) : Int)) (L2 := [(3, .int (i32 (((k + 1 : Nat) : Int)))), (5, .ref (e + 35 + c)), (4, .ref (e + 31 + k)), (2, .int (i32 (3))), (1, .ref (e + 30)), (0, .ref (e))]) dX1_letMarkersWork_68 rfl rfl (by omega) (Nat.le_of_ble_eq_true rfl) rfl ?_
          refine j_goto 10 dX1_letMarkersWork_71 rfl ?_
          refine j_sub [0, 3, 4, 5] rfl ?_
          exact ih_10 (k + 1) _ _ (by omega) (by omega) hda2 hK2 hF2 hS2 hg2
