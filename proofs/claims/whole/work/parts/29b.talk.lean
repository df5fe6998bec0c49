theorem sta_itr {f : (Nat → Int) → Nat → (Nat → Int)} {d : Nat → Int} (h : ∀ e k, Sta e (f e k)) : ∀ n, Sta d (itr f d n)
  | 0 => Sta.rf
  | n + 1 => (sta_itr h n).tr (h _ n)
theorem kx_talk1 {g : Mem} {e k : Nat} {d : Nat → Int} (h : KX g e d) (h5 : (k : Int) < d 5) (hs : d (173 + 14 * k) = 5) (hR : R32 (d (178 + 14 * k))) (hl : ¬ d (178 + 14 * k) - 1 ≤ 0) : KX (up2 g (e + 35 + k) 12 (d (178 + 14 * k) - 1)) e (f_talk d k) := by
  have hI := inv_talk h.2.1 hR h5
  have h1 := (h.2.1.2.2.2.1 k h5).2.1 hs
  have hb : bm (d (178 + 14 * k) - 1) = d (178 + 14 * k) - 1 := bm_id ⟨by have := hR.1; omega, by have := hR.2; omega⟩
  have hf : f_talk d k = ud d (178 + 14 * k) (d (178 + 14 * k) - 1) := by
    unfold f_talk s_talk1
    rw [if_pos hs, hb, if_neg (by omega)]
  rw [hf] at hI ⊢
  exact ⟨rel_left h.1 h.2.1.1 h5, hI, po_ud h.2.2 (by omega) (by omega) (by omega)⟩
theorem kx_talk2 {g : Mem} {e k : Nat} {d : Nat → Int} (h : KX g e d) (h5 : (k : Int) < d 5) (hs : d (173 + 14 * k) = 5) (hR : R32 (d (178 + 14 * k))) (hl : d (178 + 14 * k) - 1 ≤ 0) {t : Int} (ht : t = g e 6) : KX (up2 (up2 (up2 (up2 g (e + 35 + k) 12 (d (178 + 14 * k) - 1)) (e + 35 + k) 1 6) (e + 35 + k) 11 t) (e + 35 + k) 12 0) e (f_talk d k) := by
  have hI := inv_talk h.2.1 hR h5
  have h1 := (h.2.1.2.2.2.1 k h5).2.1 hs
  have hb : bm (d (178 + 14 * k) - 1) = d (178 + 14 * k) - 1 := bm_id ⟨by have := hR.1; omega, by have := hR.2; omega⟩
  have hf : f_talk d k = s_isOver (ud d (178 + 14 * k) (d (178 + 14 * k) - 1)) k 6 := by
    unfold f_talk s_talk1
    rw [if_pos hs, hb, if_pos (by omega)]
  rw [hf] at hI ⊢
  exact ⟨rel_over (rel_left h.1 h.2.1.1 h5) (h.2.1.1.sta (Sta.rf.ud (by unfold kpI; omega))) (by rw [ud_n (by omega)]; exact h5) (by rw [ud_n (by omega), ht]; exact h.1.2.1.2.2.2.2.2.2.1), hI, po_over (po_ud h.2.2 (by omega) (by omega) (by omega)) (by decide)⟩

set_option maxRecDepth 20000 in
theorem c_letCallsTalk {w : Wd} {sh : Shp} {g : Mem} {e : Nat} {d : Nat → Int} (hE : ExS sh.1 e) (hK0 : KX g e d) : CT w mX1_letCallsTalk [.ref (e)] sh g (vQ sh (fun g2 => KX g2 e (s_t3 d) ∧ Fr g g2 e ∧ g2 e 12 = g e 12)) := by
  refine j_entry (by decide) rfl (Nat.le_of_ble_eq_true rfl) (fun h => by cases h) rfl ?_
  show J w mX1_letCallsTalk 0 [(0, .ref (e))] [] sh g 0 0 _
  refine j_aload_n 1 0 dX1_letCallsTalk_0 rfl rfl ?_
  refine j_getr 4 dX1_letCallsTalk_1 rfl fl_X1_47 hE.ex rfl (fun _ _ => rfl) rfl ?_
  refine j_astore_n 5 (L2 := [(1, .ref (e + 34)), (0, .ref (e))]) dX1_letCallsTalk_4 rfl rfl (Nat.le_of_ble_eq_true rfl) rfl ?_
  refine j_aload_n 6 0 dX1_letCallsTalk_5 rfl rfl ?_
  refine j_alen 7 dX1_letCallsTalk_6 rfl hE.cls (Nat.le_of_ble_eq_true rfl) rfl ?_
  refine j_top (y := 40) rfl ?_
  refine j_istore_n 8 (L2 := [(2, .int (i32 (40))), (1, .ref (e + 34)), (0, .ref (e))]) dX1_letCallsTalk_7 rfl rfl (Nat.le_of_ble_eq_true rfl) rfl ?_
  refine j_iconst 9 dX1_letCallsTalk_8 rfl ?_
  refine j_istore_n 10 (L2 := [(3, .int (i32 (0))), (2, .int (i32 (40))), (1, .ref (e + 34)), (0, .ref (e))]) dX1_letCallsTalk_9 rfl rfl (Nat.le_of_ble_eq_true rfl) rfl ?_
  suffices lp_10 : ∀ (n_10 : Nat) (k : Nat) (da : Nat → Int) (ga : Mem), 40 - k < n_10 → k ≤ 40 → da = itr f_talk d (min k (d 5).toNat) → KX ga e da → Fr g ga e → Sta d da → ga e 12 = g e 12 → J w mX1_letCallsTalk 10 [(3, .int (i32 ((k : Int)))), (2, .int (i32 (40))), (1, .ref (e + 34)), (0, .ref (e))] [] sh ga 0 0 (vQ sh (fun g2 => KX g2 e (s_t3 d) ∧ Fr g g2 e ∧ g2 e 12 = g e 12)) by
    exact lp_10 _ 0 d g (Nat.lt_succ_self _) (by omega) (by rw [Nat.zero_min]; rfl) hK0 Fr.rf Sta.rf rfl
  intro n_10
  induction n_10 with
  | zero => intro k da ga h_; exact absurd h_ (Nat.not_lt_zero _)
  | succ n_10 ih_10 =>
    intro k da ga hn_10 hk hd hK hF hS hg
    have hn5 : da 5 = d 5 := hS 5 (Or.inl (by decide))
    refine j_iload_n 11 0 dX1_letCallsTalk_10 rfl rfl ?_
    refine j_iload_n 12 1 dX1_letCallsTalk_11 rfl rfl ?_
    refine j_icmp_ge 15 65 dX1_letCallsTalk_12 rfl rfl (r32 (by omega) (by omega)) (r32 (by decide) (by decide)) (fun c_12 => ?_) (fun c_12 => ?_)
    · exact j_vret dX1_letCallsTalk_65 rfl (⟨rfl, rfl, by have h40 := hK.2.1.1.2.2.2.2.2.1; rw [show min k (d 5).toNat = (d 5).toNat by omega] at hd; rw [hd] at hK; exact ⟨hK, hF, hg⟩⟩)
    · have hk40 : k < 40 := by omega
      have hst := hK.1.st hk40
      refine j_aload_n 16 2 dX1_letCallsTalk_15 rfl rfl ?_
      refine j_iload_n 17 0 dX1_letCallsTalk_16 rfl rfl ?_
      refine j_aald 18 k dX1_letCallsTalk_17 rfl hE.cls (Nat.le_of_ble_eq_true rfl) rfl rfl rfl (show k < 40 by omega) rfl ?_
      refine j_astore 20 (L2 := [(4, .ref (e + 35 + k)), (3, .int (i32 ((k : Int)))), (2, .int (i32 (40))), (1, .ref (e + 34)), (0, .ref (e))]) dX1_letCallsTalk_18 rfl (Nat.le_of_ble_eq_true rfl) rfl ?_
      refine j_aload 22 0 dX1_letCallsTalk_20 rfl rfl ?_
      refine j_geti 25 dX1_letCallsTalk_22 rfl fl_X1_102 (hE.cl k (show k < 40 by omega)) rfl rfl (fun r_22 => ?_)
      refine j_iconst 26 dX1_letCallsTalk_25 rfl ?_
      refine j_icmp_ne 29 59 dX1_letCallsTalk_26 rfl rfl r_22 (r32 (by decide) (by decide)) (fun c_26 => ?_) (fun c_26 => ?_)
      · have hfs : k < (d 5).toNat → f_talk da k = da := fun q => by unfold f_talk; rw [if_neg]; intro h; rw [if_pos (show (k : Int) < da 5 by omega)] at hst; exact c_26 (hst.trans h)
        have hda2 : da = itr f_talk d (min (k + 1) (d 5).toNat) := itr_min hd (fun q => (hfs q).symm) (fun _ => rfl)
        have hK2 : KX ga e da := hK
        have hF2 : Fr g ga e := hF
        have hg2 : ga e 12 = g e 12 := hg
        refine j_iinc 62 1 (y := ((k + 1 : Nat) : Int)) (L2 := [(3, .int (i32 (((k + 1 : Nat) : Int)))), (4, .ref (e + 35 + k)), (2, .int (i32 (40))), (1, .ref (e + 34)), (0, .ref (e))]) dX1_letCallsTalk_59 rfl rfl (by omega) (Nat.le_of_ble_eq_true rfl) rfl ?_
        refine j_goto 10 dX1_letCallsTalk_62 rfl ?_
        refine j_sub [0, 2, 3, 4] rfl ?_
        exact ih_10 (k + 1) _ _ (by omega) (by omega) hda2 hK2 hF2 (by rw [hda2]; exact sta_itr (fun _ _ => sta_ftalk) _) hg2
      · have h5 : (k : Int) < da 5 := by
          rcases Int.lt_or_le (k : Int) (da 5) with q | q
          · exact q
          · rw [if_neg (by omega)] at hst; omega
        rw [if_pos h5] at hst
        have hs5 : da (173 + 14 * k) = 5 := by omega
        have T := hK.1.tl hk40 h5
        have hl12 : ga (e + 35 + k) 12 = da (178 + 14 * k) := T.2.2.2.2.2.2.2.2.2.2.2
        have hl1 := (hK.2.1.2.2.2.1 k h5).2.1 hs5
        refine j_aload 31 0 dX1_letCallsTalk_29 rfl rfl ?_
        refine j_dup 32 dX1_letCallsTalk_31 rfl rfl ?_
        refine j_geti 35 dX1_letCallsTalk_32 rfl fl_X1_245 (hE.cl k (show k < 40 by omega)) rfl rfl (fun r_32 => ?_)
        refine j_top (y := da (178 + 14 * k)) (hl12) ?_
        refine j_iconst 36 dX1_letCallsTalk_35 rfl ?_
        refine j_isub 37 dX1_letCallsTalk_36 rfl ?_
        refine j_puti 40 dX1_letCallsTalk_37 rfl fl_X1_245 (hE.cl k (show k < 40 by omega)) rfl rfl rfl (r32 (by omega) (by have h := r_32.2; omega)) ?_
        refine j_mn (fun g_37 hg_37 => ?_)
        have hR : R32 (da (178 + 14 * k)) := by rw [← hl12]; exact r_32
        refine j_aload 42 0 dX1_letCallsTalk_40 rfl rfl ?_
        refine j_geti 45 dX1_letCallsTalk_42 rfl fl_X1_245 (hE.cl k (show k < 40 by omega)) rfl rfl (fun r_42 => ?_)
        refine j_top (y := da (178 + 14 * k) - 1) (by rw [hg_37]; exact up2_s) ?_
        refine j_if_gt 48 59 dX1_letCallsTalk_45 rfl rfl (by have h := r_42; rw [hg_37, up2_s] at h; exact h) (fun c_45 => ?_) (fun c_45 => ?_)
        · have hK2 : KX g_37 e (f_talk da k) := by rw [hg_37]; exact kx_talk1 hK h5 hs5 hR (by omega)
          have hF2 : Fr g g_37 e := by rw [hg_37]; exact hF.up (by omega) (by omega)
          have hda2 : f_talk da k = itr f_talk d (min (k + 1) (d 5).toNat) := itr_min hd (fun _ => rfl) (fun q => by omega)
          have hg2 : g_37 e 12 = g e 12 := by rw [hg_37, up2_a (by omega)]; exact hg
          refine j_iinc 62 1 (y := ((k + 1 : Nat) : Int)) (L2 := [(3, .int (i32 (((k + 1 : Nat) : Int)))), (4, .ref (e + 35 + k)), (2, .int (i32 (40))), (1, .ref (e + 34)), (0, .ref (e))]) dX1_letCallsTalk_59 rfl rfl (by omega) (Nat.le_of_ble_eq_true rfl) rfl ?_
          refine j_goto 10 dX1_letCallsTalk_62 rfl ?_
          refine j_sub [0, 2, 3, 4] rfl ?_
          exact ih_10 (k + 1) _ _ (by omega) (by omega) hda2 hK2 hF2 (by rw [hda2]; exact sta_itr (fun _ _ => sta_ftalk) _) hg2
        · have hK2 : KX (up2 (up2 (up2 g_37 (e + 35 + k) 1 6) (e + 35 + k) 11 (g_37 e 6)) (e + 35 + k) 12 0) e (f_talk da k) := by rw [hg_37]; exact kx_talk2 hK h5 hs5 hR (by omega) (by rw [up2_a (by omega)])
          have hF2 : Fr g (up2 (up2 (up2 g_37 (e + 35 + k) 1 6) (e + 35 + k) 11 (g_37 e 6)) (e + 35 + k) 12 0) e := by rw [hg_37]; exact (hF.up (by omega) (by omega)).end hk40
          have hda2 : f_talk da k = itr f_talk d (min (k + 1) (d 5).toNat) := itr_min hd (fun _ => rfl) (fun q => by omega)
          have hg2 : (up2 (up2 (up2 g_37 (e + 35 + k) 1 6) (e + 35 + k) 11 (g_37 e 6)) (e + 35 + k) 12 0) e 12 = g e 12 := by rw [up2_a (by omega), up2_a (by omega), up2_a (by omega), hg_37, up2_a (by omega)]; exact hg
          refine j_aload 50 0 dX1_letCallsTalk_48 rfl rfl ?_
          refine j_bipush 52 dX1_letCallsTalk_50 rfl (by decide) ?_
          refine j_aload_n 53 4 dX1_letCallsTalk_52 rfl rfl ?_
          refine j_geti 56 dX1_letCallsTalk_53 rfl fl_X1_74 hE.ex rfl rfl (fun r_53 => ?_)
          refine j_callV 59 (As := [.int (i32 (6)), .int (i32 (g_37 (e) 6))]) (kc2 := 0) (ks2 := 0) dX1_letCallsTalk_56 rfl mvX0_end lk_X1_204 (hE.cl k (show k < 40 by omega)) rfl ⟨Nat.le_of_ble_eq_true rfl, rfl⟩ rfl rfl (Nat.le_of_ble_eq_true rfl) ⟨Nat.le_of_ble_eq_true rfl, Nat.le_of_ble_eq_true rfl⟩ ⟨Nat.le_of_ble_eq_true rfl, Nat.le_of_ble_eq_true rfl⟩ (c_end (hE.cl k hk40) (r32 (by decide) (by decide)) r_53) x_d (k_d0 ?_)
          refine j_iinc 62 1 (y := ((k + 1 : Nat) : Int)) (L2 := [(3, .int (i32 (((k + 1 : Nat) : Int)))), (4, .ref (e + 35 + k)), (2, .int (i32 (40))), (1, .ref (e + 34)), (0, .ref (e))]) dX1_letCallsTalk_59 rfl rfl (by omega) (Nat.le_of_ble_eq_true rfl) rfl ?_
          refine j_goto 10 dX1_letCallsTalk_62 rfl ?_
          refine j_sub [0, 2, 3, 4] rfl ?_
          exact ih_10 (k + 1) _ _ (by omega) (by omega) hda2 hK2 hF2 (by rw [hda2]; exact sta_itr (fun _ _ => sta_ftalk) _) hg2
