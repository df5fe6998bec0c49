set_option maxRecDepth 20000 in
theorem c_letRegistersDial {w : Wd} {sh : Shp} {g : Mem} {e : Nat} {d : Nat → Int} (hE : ExS sh.1 e) (hK0 : KX g e d) : CT w mX1_letRegistersDial [.ref (e)] sh g (vQ sh (fun g2 => KX g2 e (s_t5 d) ∧ Fr g g2 e ∧ g2 e 12 = g e 12)) := by
  refine j_entry (by decide) rfl (Nat.le_of_ble_eq_true rfl) (fun h => by cases h) rfl ?_
  show J w mX1_letRegistersDial 0 [(0, .ref (e))] [] sh g 0 0 _
  refine j_aload_n 1 0 dX1_letRegistersDial_0 rfl rfl ?_
  refine j_getr 4 dX1_letRegistersDial_1 rfl fl_X1_33 hE.ex rfl (fun _ _ => rfl) rfl ?_
  refine j_astore_n 5 (L2 := [(1, .ref (e + 25)), (0, .ref (e))]) dX1_letRegistersDial_4 rfl rfl (Nat.le_of_ble_eq_true rfl) rfl ?_
  refine j_aload_n 6 0 dX1_letRegistersDial_5 rfl rfl ?_
  refine j_alen 7 dX1_letRegistersDial_6 rfl hE.rgs (Nat.le_of_ble_eq_true rfl) rfl ?_
  refine j_top (y := 4) rfl ?_
  refine j_istore_n 8 (L2 := [(2, .int (i32 (4))), (1, .ref (e + 25)), (0, .ref (e))]) dX1_letRegistersDial_7 rfl rfl (Nat.le_of_ble_eq_true rfl) rfl ?_
  refine j_iconst 9 dX1_letRegistersDial_8 rfl ?_
  refine j_istore_n 10 (L2 := [(3, .int (i32 (0))), (2, .int (i32 (4))), (1, .ref (e + 25)), (0, .ref (e))]) dX1_letRegistersDial_9 rfl rfl (Nat.le_of_ble_eq_true rfl) rfl ?_
  suffices lp_10 : ∀ (n_10 : Nat) (k : Nat) (da : Nat → Int) (ga : Mem), 4 - k < n_10 → k ≤ 4 → da = itr s_dials d (min k (d 0).toNat) → KX ga e da → Fr g ga e → Sta d da → ga e 12 = g e 12 → J w mX1_letRegistersDial 10 [(3, .int (i32 ((k : Int)))), (2, .int (i32 (4))), (1, .ref (e + 25)), (0, .ref (e))] [] sh ga 0 0 (vQ sh (fun g2 => KX g2 e (s_t5 d) ∧ Fr g g2 e ∧ g2 e 12 = g e 12)) by
    exact lp_10 _ 0 d g (Nat.lt_succ_self _) (by omega) (by rw [Nat.zero_min]; rfl) hK0 Fr.rf Sta.rf rfl
  intro n_10
  induction n_10 with
  | zero => intro k da ga h_; exact absurd h_ (Nat.not_lt_zero _)
  | succ n_10 ih_10 =>
    intro k da ga hn_10 hk hd hK hF hS hg
    have hns : da 0 = d 0 := hS 0 (Or.inl (by decide))
    refine j_iload_n 11 0 dX1_letRegistersDial_10 rfl rfl ?_
    refine j_iload_n 12 1 dX1_letRegistersDial_11 rfl rfl ?_
    refine j_icmp_ge 15 59 dX1_letRegistersDial_12 rfl rfl (r32 (by omega) (by omega)) (r32 (by decide) (by decide)) (fun c_12 => ?_) (fun c_12 => ?_)
    · exact j_vret dX1_letRegistersDial_59 rfl (⟨rfl, rfl, by have h40 := hK.2.1.1.1; rw [show min k (d 0).toNat = (d 0).toNat by omega] at hd; rw [hd] at hK; exact ⟨hK, hF, hg⟩⟩)
    · have hkN : k < 4 := by omega
      have hrow : ga (e + 26 + k) 1 = da (151 + 3 * k) := (hK.1.2.2.2.2.2.1 k hkN).1
      have hcnt : ga e 5 = da 5 := hK.1.2.1.2.2.2.2.2.1
      have h40 := hK.2.1.1.2.2.2.2.2.1
      refine j_aload_n 16 2 dX1_letRegistersDial_15 rfl rfl ?_
      refine j_iload_n 17 0 dX1_letRegistersDial_16 rfl rfl ?_
      refine j_aald 18 k dX1_letRegistersDial_17 rfl hE.rgs (Nat.le_of_ble_eq_true rfl) rfl rfl rfl (show k < 4 by omega) rfl ?_
      refine j_astore 20 (L2 := [(4, .ref (e + 26 + k)), (3, .int (i32 ((k : Int)))), (2, .int (i32 (4))), (1, .ref (e + 25)), (0, .ref (e))]) dX1_letRegistersDial_18 rfl (Nat.le_of_ble_eq_true rfl) rfl ?_
      rcases hK.2.1.2.2.1 k hkN with hz | ⟨c, i1, i2⟩
      · have hS2 : Sta d da := hS
        refine j_aload_n 21 4 dX1_letRegistersDial_20 rfl rfl ?_
        refine j_aload 23 0 dX1_letRegistersDial_21 rfl rfl ?_
        refine j_geti 26 dX1_letRegistersDial_23 rfl fl_X1_193 (hE.rg k (show k < 4 by omega)) rfl rfl (fun r_23 => ?_)
        refine j_callV 29 (As := [.int (i32 (ga (e + 26 + k) 1))]) (kc2 := 0) (ks2 := 0) dX1_letRegistersDial_26 rfl mvX1_callAt lk_X1_248 hE.ex rfl ⟨Nat.le_of_ble_eq_true rfl, rfl⟩ rfl rfl (Nat.le_of_ble_eq_true rfl) ⟨Nat.le_of_ble_eq_true rfl, Nat.le_of_ble_eq_true rfl⟩ ⟨Nat.le_of_ble_eq_true rfl, Nat.le_of_ble_eq_true rfl⟩ (c_callAt0 hE (by omega) r_23 (by omega)) x_d (k_d1 ?_)
        refine j_astoreN 31 (L2 := [(5, .null), (4, .ref (e + 26 + k)), (3, .int (i32 ((k : Int)))), (2, .int (i32 (4))), (1, .ref (e + 25)), (0, .ref (e))]) dX1_letRegistersDial_29 rfl (Nat.le_of_ble_eq_true rfl) rfl ?_
        refine j_aloadN 33 0 dX1_letRegistersDial_31 rfl rfl ?_
        have hfs : k < (d 0).toNat → s_dials da k = da := fun q => by unfold s_dials; rw [if_pos hz.1]
        have hda2 : da = itr s_dials d (min (k + 1) (d 0).toNat) := itr_min hd (fun q => (hfs q).symm) (fun _ => rfl)
        have hK2 : KX ga e da := hK
        have hF2 : Fr g ga e := hF
        have hg2 : ga e 12 = g e 12 := hg
        refine j_ifnullN 53 dX1_letRegistersDial_33 rfl ?_
        refine j_iinc 56 2 (y := ((k + 1 : Nat) : Int)) (L2 := [(3, .int (i32 (((k + 1 : Nat) : Int)))), (5, .null), (4, .ref (e + 26 + k)), (2, .int (i32 (4))), (1, .ref (e + 25)), (0, .ref (e))]) dX1_letRegistersDial_53 rfl rfl (by omega) (Nat.le_of_ble_eq_true rfl) rfl ?_
        refine j_goto 10 dX1_letRegistersDial_56 rfl ?_
        refine j_sub [0, 3, 4, 5] rfl ?_
        exact ih_10 (k + 1) _ _ (by omega) (by omega) hda2 hK2 hF2 hS2 hg2
      · obtain ⟨k5, k0, k9, k2, k4, i3⟩ := i2
        refine j_aload_n 21 4 dX1_letRegistersDial_20 rfl rfl ?_
        refine j_aload 23 0 dX1_letRegistersDial_21 rfl rfl ?_
        refine j_geti 26 dX1_letRegistersDial_23 rfl fl_X1_193 (hE.rg k (show k < 4 by omega)) rfl rfl (fun r_23 => ?_)
        refine j_callV 29 (As := [.int (i32 (ga (e + 26 + k) 1))]) (kc2 := 0) (ks2 := 0) dX1_letRegistersDial_26 rfl mvX1_callAt lk_X1_248 hE.ex rfl ⟨Nat.le_of_ble_eq_true rfl, rfl⟩ rfl rfl (Nat.le_of_ble_eq_true rfl) ⟨Nat.le_of_ble_eq_true rfl, Nat.le_of_ble_eq_true rfl⟩ ⟨Nat.le_of_ble_eq_true rfl, Nat.le_of_ble_eq_true rfl⟩ ((by have h := c_callAt1 (w := w) hE (g := ga) (by omega) (x := ga (e + 26 + k) 1) r_23 (by omega); rw [show (ga (e + 26 + k) 1).toNat = c by omega] at h; exact h)) x_d (k_d1 ?_)
        refine j_astore 31 (L2 := [(5, .ref (e + 35 + c)), (4, .ref (e + 26 + k)), (3, .int (i32 ((k : Int)))), (2, .int (i32 (4))), (1, .ref (e + 25)), (0, .ref (e))]) dX1_letRegistersDial_29 rfl (Nat.le_of_ble_eq_true rfl) rfl ?_
        refine j_aload 33 0 dX1_letRegistersDial_31 rfl rfl ?_
        refine j_ifnull 36 dX1_letRegistersDial_33 rfl ?_
        refine j_aload 38 0 dX1_letRegistersDial_36 rfl rfl ?_
        refine j_geti 41 dX1_letRegistersDial_38 rfl fl_X1_102 (hE.cl c (show c < 40 by omega)) rfl rfl (fun r_38 => ?_)
        refine j_iconst 42 dX1_letRegistersDial_41 rfl ?_
        refine j_icmp_ne 45 53 dX1_letRegistersDial_42 rfl rfl r_38 (r32 (by decide) (by decide)) (fun c_42 => ?_) (fun c_42 => ?_)
        · have hst := hK.1.st (c := c) (by omega)
          rw [if_pos k5] at hst
          have hfs : k < (d 0).toNat → s_dials da k = da := fun q => by unfold s_dials; rw [i1, if_neg (by omega), Int.toNat_natCast, if_neg (fun q => c_42 (hst.trans q))]
          have hda2 : da = itr s_dials d (min (k + 1) (d 0).toNat) := itr_min hd (fun q => (hfs q).symm) (fun _ => rfl)
          have hK2 : KX ga e da := hK
          have hF2 : Fr g ga e := hF
          have hg2 : ga e 12 = g e 12 := hg
          have hS2 : Sta d da := hS
          refine j_iinc 56 2 (y := ((k + 1 : Nat) : Int)) (L2 := [(3, .int (i32 (((k + 1 : Nat) : Int)))), (5, .ref (e + 35 + c)), (4, .ref (e + 26 + k)), (2, .int (i32 (4))), (1, .ref (e + 25)), (0, .ref (e))]) dX1_letRegistersDial_53 rfl rfl (by omega) (Nat.le_of_ble_eq_true rfl) rfl ?_
          refine j_goto 10 dX1_letRegistersDial_56 rfl ?_
          refine j_sub [0, 3, 4, 5] rfl ?_
          exact ih_10 (k + 1) _ _ (by omega) (by omega) hda2 hK2 hF2 hS2 hg2
        · have hst := hK.1.st (c := c) (by omega)
          rw [if_pos k5] at hst
          have hs2 : da (173 + 14 * c) = 2 := by omega
          refine j_aload_n 46 5 dX1_letRegistersDial_45 rfl rfl ?_
          refine j_aload 48 1 dX1_letRegistersDial_46 rfl rfl ?_
          refine j_aload 50 0 dX1_letRegistersDial_48 rfl rfl ?_
          refine j_callV 53 (As := [.ref (e + 26 + k), .ref (e + 35 + c)]) (kc2 := 0) (ks2 := 0) dX1_letRegistersDial_50 rfl mvX1_dialOn lk_X1_299 hE.ex rfl ⟨Nat.le_of_ble_eq_true rfl, rfl⟩ rfl rfl (Nat.le_of_ble_eq_true rfl) ⟨Nat.le_of_ble_eq_true rfl, Nat.le_of_ble_eq_true rfl⟩ ⟨Nat.le_of_ble_eq_true rfl, Nat.le_of_ble_eq_true rfl⟩ (c_dialOn hE hK hkN i1 (by omega) hs2) x_v (k_v fun g_50 h_50 => ?_)
          obtain ⟨hK2, hF3, hg3⟩ := h_50
          have hF2 : Fr g g_50 e := hF.tr hF3
          have hg2 : g_50 e 12 = g e 12 := hg3.trans hg
          have hda2 : s_dials da k = itr s_dials d (min (k + 1) (d 0).toNat) := itr_min hd (fun _ => rfl) (fun q => by omega)
          have hS2 : Sta d (s_dials da k) := hS.tr (sta_dials hK.2.1 hkN)
          refine j_iinc 56 2 (y := ((k + 1 : Nat) : Int)) (L2 := [(3, .int (i32 (((k + 1 : Nat) : Int)))), (5, .ref (e + 35 + c)), (4, .ref (e + 26 + k)), (2, .int (i32 (4))), (1, .ref (e + 25)), (0, .ref (e))]) dX1_letRegistersDial_53 rfl rfl (by omega) (Nat.le_of_ble_eq_true rfl) rfl ?_
          refine j_goto 10 dX1_letRegistersDial_56 rfl ?_
          refine j_sub [0, 3, 4, 5] rfl ?_
          exact ih_10 (k + 1) _ _ (by omega) (by omega) hda2 hK2 hF2 hS2 hg2
