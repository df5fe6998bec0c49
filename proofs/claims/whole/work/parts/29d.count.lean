theorem kx_most {g : Mem} {e : Nat} {d : Nat → Int} (h : KX g e d) : KX (up2 g e 10 (if (s_cnt d 1 : Int) < d 24 then d 24 else (s_cnt d 1 : Int))) e (s_t8 d) := ⟨rel_most h.1 h.2.1.1, inv_t8 h.2.1, po_ud h.2.2 (by omega) (by omega) (by omega)⟩
theorem kx_sum {g : Mem} {e k : Nat} {d : Nat → Int} (h : KX g e d) (hk : k < 5) (h3 : (k : Int) < d 3) {v : Int} (hv : v = bm (g (e + 3 + k) 7 + (x_busyTrunks g e (k : Int) : Int))) : KX (up2 g (e + 3 + k) 7 v) e (f_sum d k) := by
  subst hv
  have G := h.1.2.2.2.1 k h3
  obtain ⟨G1, G2, G3, G4, G5, G6, G7⟩ := G
  have hS : Sta d (f_sum d k) := sta_sum hk
  have hI := inv_sum h.2.1 hk
  unfold f_sum s_addGroup at hS hI ⊢
  refine ⟨h.1.grp h.2.1.1 hS hk (fun a ha => funext fun j => up2_a ha) (up2_k (by decide)) (fun i hi _ => ud_n (by omega)) (fun _ => ?_), hI, h.2.2.up (ud_n (by omega)) (ud_n (by omega)) (ud_n (by omega)) (fun x hx => ud_n (by omega)) (fun c hc => Or.inl ⟨ud_n (by omega), ud_n (by omega), ud_n (by omega)⟩)⟩
  refine ⟨?_, ?_, ?_, ?_, ?_, ?_, ?_⟩
  · rw [up2_k (by decide), ud_n (by omega)]; exact G1
  · rw [up2_k (by decide), ud_n (by omega)]; exact G2
  · rw [up2_k (by decide), ud_n (by omega)]; exact G3
  · rw [up2_k (by decide), ud_n (by omega)]; exact G4
  · rw [up2_k (by decide), ud_n (by omega)]; exact G5
  · rw [up2_s, rel_busyTrunks h.1, G6, show 56 + 9 * k = 50 + 9 * k + 6 by omega, ud_s]
  · rw [up2_k (by decide), ud_n (by omega), ud_n (by omega)]; exact G7

set_option maxRecDepth 20000 in
theorem c_countTick {w : Wd} {sh : Shp} {g : Mem} {e : Nat} {d : Nat → Int} (hE : ExS sh.1 e) (hK0 : KX g e d) : CT w mX1_countTick [.ref (e)] sh g (vQ sh (fun g2 => KX g2 e (s_t9 (s_t8 d)) ∧ Fr g g2 e ∧ g2 e 12 = g e 12)) := by
  refine j_entry (by decide) rfl (Nat.le_of_ble_eq_true rfl) (fun h => by cases h) rfl ?_
  show J w mX1_countTick 0 [(0, .ref (e))] [] sh g 0 0 _
  refine j_aload_n 1 0 dX1_countTick_0 rfl rfl ?_
  refine j_aload_n 2 0 dX1_countTick_1 rfl rfl ?_
  refine j_geti 5 dX1_countTick_2 rfl fl_X1_86 hE.ex rfl rfl (fun r_2 => ?_)
  refine j_top (y := d 24) (hK0.1.2.1.2.2.2.2.2.2.2.2.2.2.1) ?_
  have h24 : R32 (d 24) := by rw [← hK0.1.2.1.2.2.2.2.2.2.2.2.2.2.1]; exact r_2
  have hc1 : (x_countIn g e 1 : Int) = (s_cnt d 1 : Int) := by rw [rel_countIn hK0.1 (by decide)]
  have hcl : s_cnt d 1 ≤ 40 := cnt_le _ 40
  have hmx : R32 (if (s_cnt d 1 : Int) < d 24 then d 24 else (s_cnt d 1 : Int)) := by obtain ⟨q1, q2⟩ := h24; split <;> exact ⟨by omega, by omega⟩
  refine j_aload_n 6 0 dX1_countTick_5 rfl rfl ?_
  refine j_iconst 7 dX1_countTick_6 rfl ?_
  refine j_callV 10 (As := [.int (i32 (1))]) (kc2 := 0) (ks2 := 0) dX1_countTick_7 rfl mvX1_countIn lk_X1_235 hE.ex rfl ⟨Nat.le_of_ble_eq_true rfl, rfl⟩ rfl rfl (Nat.le_of_ble_eq_true rfl) ⟨Nat.le_of_ble_eq_true rfl, Nat.le_of_ble_eq_true rfl⟩ ⟨Nat.le_of_ble_eq_true rfl, Nat.le_of_ble_eq_true rfl⟩ (c_countIn hE (r32 (by decide) (by decide))) x_d (k_d1 ?_)
  refine j_max 13 dX1_countTick_10 rfl (by decide +kernel) (Nat.le_of_ble_eq_true rfl) ⟨Nat.le_of_ble_eq_true rfl, Nat.le_of_ble_eq_true rfl⟩ (by rw [← hK0.1.2.1.2.2.2.2.2.2.2.2.2.2.1]; exact r_2) (r32 (by omega) (by omega)) ?_
  refine j_top (y := (if (s_cnt d 1 : Int) < d 24 then d 24 else (s_cnt d 1 : Int))) (by rw [hc1]; split <;> split <;> omega) ?_
  refine j_puti 16 dX1_countTick_13 rfl fl_X1_86 hE.ex rfl rfl rfl hmx ?_
  refine j_mn (fun g_13 hg_13 => ?_)
  refine j_mem hg_13 ?_
  refine j_aload_n 17 0 dX1_countTick_16 rfl rfl ?_
  refine j_getr 20 dX1_countTick_17 rfl fl_X1_17 hE.ex rfl (fun _ _ => rfl) rfl ?_
  refine j_astore_n 21 (L2 := [(1, .ref (e + 2)), (0, .ref (e))]) dX1_countTick_20 rfl rfl (Nat.le_of_ble_eq_true rfl) rfl ?_
  refine j_aload_n 22 0 dX1_countTick_21 rfl rfl ?_
  refine j_alen 23 dX1_countTick_22 rfl hE.grs (Nat.le_of_ble_eq_true rfl) rfl ?_
  refine j_top (y := 5) rfl ?_
  refine j_istore_n 24 (L2 := [(2, .int (i32 (5))), (1, .ref (e + 2)), (0, .ref (e))]) dX1_countTick_23 rfl rfl (Nat.le_of_ble_eq_true rfl) rfl ?_
  refine j_iconst 25 dX1_countTick_24 rfl ?_
  refine j_istore_n 26 (L2 := [(3, .int (i32 (0))), (2, .int (i32 (5))), (1, .ref (e + 2)), (0, .ref (e))]) dX1_countTick_25 rfl rfl (Nat.le_of_ble_eq_true rfl) rfl ?_
  suffices lp_26 : ∀ (n_26 : Nat) (k : Nat) (da : Nat → Int) (ga : Mem), 5 - k < n_26 → k ≤ 5 → da = itr f_sum (s_t8 d) (min k (d 3).toNat) → KX ga e da → Fr g ga e → Sta d da → ga e 12 = g e 12 → J w mX1_countTick 26 [(3, .int (i32 ((k : Int)))), (2, .int (i32 (5))), (1, .ref (e + 2)), (0, .ref (e))] [] sh ga 0 0 (vQ sh (fun g2 => KX g2 e (s_t9 (s_t8 d)) ∧ Fr g g2 e ∧ g2 e 12 = g e 12)) by
    exact lp_26 _ 0 (s_t8 d) (up2 g e 10 (if (s_cnt d 1 : Int) < d 24 then d 24 else (s_cnt d 1 : Int))) (Nat.lt_succ_self _) (by omega) (by rw [Nat.zero_min]; rfl) (kx_most hK0) (Fr.rf.up (by omega) (by omega)) sta_t8 (up2_k (by decide))
  intro n_26
  induction n_26 with
  | zero => intro k da ga h_; exact absurd h_ (Nat.not_lt_zero _)
  | succ n_26 ih_26 =>
    intro k da ga hn_26 hk hd hK hF hS hg
    have hn3 : da 3 = d 3 := hS 3 (Or.inl (by decide))
    refine j_iload_n 27 0 dX1_countTick_26 rfl rfl ?_
    refine j_iload_n 28 1 dX1_countTick_27 rfl rfl ?_
    refine j_icmp_ge 31 73 dX1_countTick_28 rfl rfl (r32 (by omega) (by omega)) (r32 (by decide) (by decide)) (fun c_28 => ?_) (fun c_28 => ?_)
    · exact j_vret dX1_countTick_73 rfl (⟨rfl, rfl, by have h40 := hK0.2.1.1.2.2.2.1; rw [show min k (d 3).toNat = (d 3).toNat by omega] at hd; rw [hd] at hK; have h8 : (s_t8 d) 3 = d 3 := ud_n (by decide); have hk9 : KX ga e (s_t9 (s_t8 d)) := (by unfold s_t9; rw [h8]; exact hK); exact ⟨hk9, hF, hg⟩⟩)
    · have hk5 : k < 5 := by omega
      have hcnt : ga e 3 = da 3 := hK.1.2.1.2.2.2.1
      have h30 := hK.2.1.1.2.2.2.1.1
      refine j_aload_n 32 2 dX1_countTick_31 rfl rfl ?_
      refine j_iload_n 33 0 dX1_countTick_32 rfl rfl ?_
      refine j_aald 34 k dX1_countTick_33 rfl hE.grs (Nat.le_of_ble_eq_true rfl) rfl rfl rfl (show k < 5 by omega) rfl ?_
      refine j_astore 36 (L2 := [(4, .ref (e + 3 + k)), (3, .int (i32 ((k : Int)))), (2, .int (i32 (5))), (1, .ref (e + 2)), (0, .ref (e))]) dX1_countTick_34 rfl (Nat.le_of_ble_eq_true rfl) rfl ?_
      refine j_aload 38 0 dX1_countTick_36 rfl rfl ?_
      refine j_geti 41 dX1_countTick_38 rfl fl_X1_133 (hE.gr k (show k < 5 by omega)) rfl rfl (fun r_38 => ?_)
      refine j_top (y := (k : Int)) (hK.1.1.1 k hk5) ?_
      refine j_aload_n 42 4 dX1_countTick_41 rfl rfl ?_
      refine j_geti 45 dX1_countTick_42 rfl fl_X1_65 hE.ex rfl rfl (fun r_42 => ?_)
      refine j_icmp_ge 48 67 dX1_countTick_45 rfl rfl (r32 (by omega) (by omega)) r_42 (fun c_45 => ?_) (fun c_45 => ?_)
      · have hda2 : da = itr f_sum (s_t8 d) (min (k + 1) (d 3).toNat) := itr_min hd (fun q => by omega) (fun _ => rfl)
        have hK2 : KX ga e da := hK
        have hF2 : Fr g ga e := hF
        have hg2 : ga e 12 = g e 12 := hg
        refine j_iinc 70 1 (y := ((k + 1 : Nat) : Int)) (L2 := [(3, .int (i32 (((k + 1 : Nat) : Int)))), (4, .ref (e + 3 + k)), (2, .int (i32 (5))), (1, .ref (e + 2)), (0, .ref (e))]) dX1_countTick_67 rfl rfl (by omega) (Nat.le_of_ble_eq_true rfl) rfl ?_
        refine j_goto 26 dX1_countTick_70 rfl ?_
        refine j_sub [0, 2, 3, 4] rfl ?_
        exact ih_26 (k + 1) _ _ (by omega) (by omega) hda2 hK2 hF2 (by rw [hda2]; exact sta_t8.tr (sta_itrN (N := 5) (fun _ _ h => sta_sum h) _ (by omega))) hg2
      · have h3 : (k : Int) < da 3 := by omega
        refine j_aload 50 0 dX1_countTick_48 rfl rfl ?_
        refine j_dup 51 dX1_countTick_50 rfl rfl ?_
        refine j_geti 54 dX1_countTick_51 rfl fl_X1_323 (hE.gr k (show k < 5 by omega)) rfl rfl (fun r_51 => ?_)
        refine j_aload_n 55 4 dX1_countTick_54 rfl rfl ?_
        refine j_aload 57 0 dX1_countTick_55 rfl rfl ?_
        refine j_geti 60 dX1_countTick_57 rfl fl_X1_133 (hE.gr k (show k < 5 by omega)) rfl rfl (fun r_57 => ?_)
        refine j_top (y := (k : Int)) (hK.1.1.1 k hk5) ?_
        refine j_callV 63 (As := [.int (i32 ((k : Int)))]) (kc2 := 0) (ks2 := 0) dX1_countTick_60 rfl mvX1_busyTrunks lk_X1_293 hE.ex rfl ⟨Nat.le_of_ble_eq_true rfl, rfl⟩ rfl rfl (Nat.le_of_ble_eq_true rfl) ⟨Nat.le_of_ble_eq_true rfl, Nat.le_of_ble_eq_true rfl⟩ ⟨Nat.le_of_ble_eq_true rfl, Nat.le_of_ble_eq_true rfl⟩ (c_busyTrunks hE (r32 (by omega) (by omega))) x_d (k_d1 ?_)
        refine j_iadd 64 dX1_countTick_63 rfl ?_
        refine j_nb ?_
        refine j_puti 67 dX1_countTick_64 rfl fl_X1_323 (hE.gr k (show k < 5 by omega)) rfl rfl rfl (bm_r _) ?_
        refine j_mn (fun g_64 hg_64 => ?_)
        refine j_mem hg_64 ?_
        have hK2 : KX (up2 ga (e + 3 + k) 7 (bm (ga (e + 3 + k) 7 + (x_busyTrunks ga e (k : Int) : Int)))) e (f_sum da k) := kx_sum hK hk5 h3 rfl
        have hF2 : Fr g (up2 ga (e + 3 + k) 7 (bm (ga (e + 3 + k) 7 + (x_busyTrunks ga e (k : Int) : Int)))) e := hF.up (by omega) (by omega)
        have hda2 : f_sum da k = itr f_sum (s_t8 d) (min (k + 1) (d 3).toNat) := itr_min hd (fun _ => rfl) (fun q => by omega)
        have hg2 : (up2 ga (e + 3 + k) 7 (bm (ga (e + 3 + k) 7 + (x_busyTrunks ga e (k : Int) : Int)))) e 12 = g e 12 := by rw [up2_a (by omega)]; exact hg
        refine j_iinc 70 1 (y := ((k + 1 : Nat) : Int)) (L2 := [(3, .int (i32 (((k + 1 : Nat) : Int)))), (4, .ref (e + 3 + k)), (2, .int (i32 (5))), (1, .ref (e + 2)), (0, .ref (e))]) dX1_countTick_67 rfl rfl (by omega) (Nat.le_of_ble_eq_true rfl) rfl ?_
        refine j_goto 26 dX1_countTick_70 rfl ?_
        refine j_sub [0, 2, 3, 4] rfl ?_
        exact ih_26 (k + 1) _ _ (by omega) (by omega) hda2 hK2 hF2 (by rw [hda2]; exact sta_t8.tr (sta_itrN (N := 5) (fun _ _ h => sta_sum h) _ (by omega))) hg2
