theorem kx_time {g : Mem} {e : Nat} {d : Nat → Int} (h : KX g e d) : KX (up2 g e 6 (bm (g e 6 + 1))) e (s_t1 d) := by
  have h1 : g e 6 = d 6 := h.1.2.1.2.2.2.2.2.2.1
  rw [h1]
  exact ⟨rel_time h.1 h.2.1.1, inv_t1 h.2.1, po_ud h.2.2 (by omega) (by omega) (by omega)⟩

set_option maxRecDepth 20000 in
theorem c_tick {w : Wd} {sh : Shp} {g : Mem} {e : Nat} {d : Nat → Int} (hE : ExS sh.1 e) (hK : KX g e d) : CT w mX1_tick [.ref (e)] sh g (vQ sh (fun g2 => KX g2 e (s_tick d) ∧ Fr g g2 e ∧ g2 e 12 = s_gr (s_t1 d) (g e 12))) := by
  refine j_entry (by decide) rfl (Nat.le_of_ble_eq_true rfl) (fun h => by cases h) rfl ?_
  show J w mX1_tick 0 [(0, .ref (e))] [] sh g 0 0 _
  refine j_aload_n 1 0 dX1_tick_0 rfl rfl ?_
  refine j_dup 2 dX1_tick_1 rfl rfl ?_
  refine j_geti 5 dX1_tick_2 rfl fl_X1_74 hE.ex rfl rfl (fun r_2 => ?_)
  refine j_iconst 6 dX1_tick_5 rfl ?_
  refine j_iadd 7 dX1_tick_6 rfl ?_
  refine j_nb ?_
  refine j_puti 10 dX1_tick_7 rfl fl_X1_74 hE.ex rfl rfl rfl (bm_r _) ?_
  refine j_mn (fun g_7 hg_7 => ?_)
  refine j_mem hg_7 ?_
  refine j_aload_n 11 0 dX1_tick_10 rfl rfl ?_
  refine j_callV 14 (As := []) (kc2 := 0) (ks2 := 0) dX1_tick_11 rfl mvX1_letCallsCome lk_X1_207 hE.ex rfl ⟨Nat.le_of_ble_eq_true rfl, rfl⟩ rfl rfl (Nat.le_of_ble_eq_true rfl) ⟨Nat.le_of_ble_eq_true rfl, Nat.le_of_ble_eq_true rfl⟩ ⟨Nat.le_of_ble_eq_true rfl, Nat.le_of_ble_eq_true rfl⟩ (c_letCallsCome hE (kx_time hK)) x_v (k_v fun g_11 h_11 => ?_)
  obtain ⟨k11, f11, e11⟩ := h_11
  have F11 : Fr g g_11 e := (Fr.rf.up (by omega) (by omega)).tr f11
  have E11 : g_11 e 12 = s_gr (s_t1 d) (g e 12) := by rw [e11, up2_k (by decide)]
  refine j_aload_n 15 0 dX1_tick_14 rfl rfl ?_
  refine j_callV 18 (As := []) (kc2 := 0) (ks2 := 0) dX1_tick_15 rfl mvX1_letCallsTalk lk_X1_210 hE.ex rfl ⟨Nat.le_of_ble_eq_true rfl, rfl⟩ rfl rfl (Nat.le_of_ble_eq_true rfl) ⟨Nat.le_of_ble_eq_true rfl, Nat.le_of_ble_eq_true rfl⟩ ⟨Nat.le_of_ble_eq_true rfl, Nat.le_of_ble_eq_true rfl⟩ (c_letCallsTalk hE k11) x_v (k_v fun g_15 h_15 => ?_)
  obtain ⟨k15, f15, e15⟩ := h_15
  have F15 : Fr g g_15 e := F11.tr f15
  have E15 : g_15 e 12 = s_gr (s_t1 d) (g e 12) := e15.trans E11
  refine j_aload_n 19 0 dX1_tick_18 rfl rfl ?_
  refine j_callV 22 (As := []) (kc2 := 0) (ks2 := 0) dX1_tick_19 rfl mvX1_letMarkersWork lk_X1_213 hE.ex rfl ⟨Nat.le_of_ble_eq_true rfl, rfl⟩ rfl rfl (Nat.le_of_ble_eq_true rfl) ⟨Nat.le_of_ble_eq_true rfl, Nat.le_of_ble_eq_true rfl⟩ ⟨Nat.le_of_ble_eq_true rfl, Nat.le_of_ble_eq_true rfl⟩ (c_letMarkersWork hE k15) x_v (k_v fun g_19 h_19 => ?_)
  obtain ⟨k19, f19, e19⟩ := h_19
  have F19 : Fr g g_19 e := F15.tr f19
  have E19 : g_19 e 12 = s_gr (s_t1 d) (g e 12) := e19.trans E15
  refine j_aload_n 23 0 dX1_tick_22 rfl rfl ?_
  refine j_callV 26 (As := []) (kc2 := 0) (ks2 := 0) dX1_tick_23 rfl mvX1_letRegistersDial lk_X1_216 hE.ex rfl ⟨Nat.le_of_ble_eq_true rfl, rfl⟩ rfl rfl (Nat.le_of_ble_eq_true rfl) ⟨Nat.le_of_ble_eq_true rfl, Nat.le_of_ble_eq_true rfl⟩ ⟨Nat.le_of_ble_eq_true rfl, Nat.le_of_ble_eq_true rfl⟩ (c_letRegistersDial hE k19) x_v (k_v fun g_23 h_23 => ?_)
  obtain ⟨k23, f23, e23⟩ := h_23
  have F23 : Fr g g_23 e := F19.tr f23
  have E23 : g_23 e 12 = s_gr (s_t1 d) (g e 12) := e23.trans E19
  refine j_aload_n 27 0 dX1_tick_26 rfl rfl ?_
  refine j_callV 30 (As := []) (kc2 := 0) (ks2 := 0) dX1_tick_27 rfl mvX1_giveMarkers lk_X1_219 hE.ex rfl ⟨Nat.le_of_ble_eq_true rfl, rfl⟩ rfl rfl (Nat.le_of_ble_eq_true rfl) ⟨Nat.le_of_ble_eq_true rfl, Nat.le_of_ble_eq_true rfl⟩ ⟨Nat.le_of_ble_eq_true rfl, Nat.le_of_ble_eq_true rfl⟩ (c_giveMarkers hE k23) x_v (k_v fun g_27 h_27 => ?_)
  obtain ⟨k27, f27, e27⟩ := h_27
  have F27 : Fr g g_27 e := F23.tr f27
  have E27 : g_27 e 12 = s_gr (s_t1 d) (g e 12) := e27.trans E23
  refine j_aload_n 31 0 dX1_tick_30 rfl rfl ?_
  refine j_callV 34 (As := []) (kc2 := 0) (ks2 := 0) dX1_tick_31 rfl mvX1_giveRegisters lk_X1_222 hE.ex rfl ⟨Nat.le_of_ble_eq_true rfl, rfl⟩ rfl rfl (Nat.le_of_ble_eq_true rfl) ⟨Nat.le_of_ble_eq_true rfl, Nat.le_of_ble_eq_true rfl⟩ ⟨Nat.le_of_ble_eq_true rfl, Nat.le_of_ble_eq_true rfl⟩ (c_giveRegisters hE k27) x_v (k_v fun g_31 h_31 => ?_)
  obtain ⟨k31, f31, e31⟩ := h_31
  have F31 : Fr g g_31 e := F27.tr f31
  have E31 : g_31 e 12 = s_gr (s_t1 d) (g e 12) := e31.trans E27
  refine j_aload_n 35 0 dX1_tick_34 rfl rfl ?_
  refine j_callV 38 (As := []) (kc2 := 0) (ks2 := 0) dX1_tick_35 rfl mvX1_countTick lk_X1_225 hE.ex rfl ⟨Nat.le_of_ble_eq_true rfl, rfl⟩ rfl rfl (Nat.le_of_ble_eq_true rfl) ⟨Nat.le_of_ble_eq_true rfl, Nat.le_of_ble_eq_true rfl⟩ ⟨Nat.le_of_ble_eq_true rfl, Nat.le_of_ble_eq_true rfl⟩ (c_countTick hE k31) x_v (k_v fun g_35 h_35 => ?_)
  obtain ⟨k35, f35, e35⟩ := h_35
  have F35 : Fr g g_35 e := F31.tr f35
  have E35 : g_35 e 12 = s_gr (s_t1 d) (g e 12) := e35.trans E31
  exact j_vret dX1_tick_38 rfl (⟨rfl, rfl, k35, F35, E35⟩)
