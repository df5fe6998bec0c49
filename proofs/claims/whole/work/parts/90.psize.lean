/-! the reader of the class: a whole setup -/
def P_size (T : Tx) (q : Nat) : PR := if wdB T q 0 = true then kNum T (q + 8) 1 4 fun r p2 => kNum T p2 1 3 fun m p3 => kSem T p3 fun p4 => .inl (row0 r m, (fun _ => false), p4) else .inr (-2, q)
theorem kSem_1 {T : Tx} {p : Nat} {k : Nat → PR} (h : byT T (sk T p) = 59) : kSem T p k = k (sk T p + 1) := if_pos h
theorem kSem_2 {T : Tx} {p : Nat} {k : Nat → PR} (h : ¬ byT T (sk T p) = 59) : kSem T p k = .inr (-2, sk T p) := if_neg h
theorem ExI.fr {g g2 : Mem} {e : Nat} (h : ExI g e) (q : ∀ a, e ≤ a → a < e + 75 → g2 a = g a) : ExI g2 e := h.same (fun a h1 h2 => by rw [q a h1 h2])

set_option maxRecDepth 20000 in
theorem c_readSize {w : Wd} {sh : Shp} {g : Mem} {R tx : Nat} (hR : RdS sh.1 R tx) {T : Tx} {q : Nat} (htx : tx < R ∨ R + 76 ≤ tx) (H0 : MRd g R tx T (fun _ => false) q) (hI0 : ExI g (R + 1))  : CT w mX8_readSize [.ref (R)] sh g (iQ sh (CP g R tx T (P_size T q))) := by
  have F0 : FrR g g R := FrR.rf
  obtain ⟨hX0, hk0, hq0, hs0, he0⟩ := id H0
  have hT7 := hX0.1
  have hTb := hX0.2.2.2
  have hr0 := hk0.2.2.1
  refine j_entry (by decide) rfl (Nat.le_of_ble_eq_true rfl) (fun h => by cases h) rfl ?_
  show J w mX8_readSize 0 [(0, .ref (R))] [] sh g 0 0 _
  refine j_aload_n 1 0 dX8_readSize_0 rfl rfl ?_
  refine j_ldcS 3 (i := 0) dX8_readSize_1 rfl (tx := "exchange") (by decide) ?_
  cases hw : wdB T q 0
  ·
    refine j_callV 6 (As := [.ref (w.2.1 (100 + 0))]) (kc2 := 0) (ks2 := 0) dX8_readSize_3 rfl mvX8_isWord lk_X8_63 hR.rd rfl ⟨Nat.le_of_ble_eq_true rfl, rfl⟩ rfl rfl (Nat.le_of_ble_eq_true rfl) ⟨Nat.le_of_ble_eq_true rfl, Nat.le_of_ble_eq_true rfl⟩ ⟨Nat.le_of_ble_eq_true rfl, Nat.le_of_ble_eq_true rfl⟩ (c_isWord hR hX0 hk0 hq0 (by decide)) x_d (k_d1 ?_)
    refine j_top (y := 0) (bo0 hw) ?_
    refine j_if_ne 9 16 dX8_readSize_6 rfl rfl (r32 (by decide) (by decide)) (fun c_6 => absurd c_6 (by decide)) (fun c_6 => ?_)
    refine j_aload_n 10 0 dX8_readSize_9 rfl rfl ?_
    refine j_bipush 12 dX8_readSize_10 rfl (by decide) ?_
    refine j_callV 15 (As := [.int (i32 (-2))]) (kc2 := 0) (ks2 := 0) dX8_readSize_12 rfl mvX8_fail lk_X8_67 hR.rd rfl ⟨Nat.le_of_ble_eq_true rfl, rfl⟩ rfl rfl (Nat.le_of_ble_eq_true rfl) ⟨Nat.le_of_ble_eq_true rfl, Nat.le_of_ble_eq_true rfl⟩ ⟨Nat.le_of_ble_eq_true rfl, Nat.le_of_ble_eq_true rfl⟩ (c_fail hR (q := q) (by omega) hr0 (r32 (by decide) (by decide))) x_d (k_d1 ?_)
    exact j_zret dX8_readSize_15 rfl (Or.inl rfl) (⟨_, rfl, rfl, cp_bad F0 hI0 (by unfold P_size; rw [if_neg (show ¬ wdB T q 0 = true by rw [hw]; decide)])⟩)
  ·
    refine j_callV 6 (As := [.ref (w.2.1 (100 + 0))]) (kc2 := 0) (ks2 := 0) dX8_readSize_3 rfl mvX8_isWord lk_X8_63 hR.rd rfl ⟨Nat.le_of_ble_eq_true rfl, rfl⟩ rfl rfl (Nat.le_of_ble_eq_true rfl) ⟨Nat.le_of_ble_eq_true rfl, Nat.le_of_ble_eq_true rfl⟩ ⟨Nat.le_of_ble_eq_true rfl, Nat.le_of_ble_eq_true rfl⟩ (c_isWord hR hX0 hk0 hq0 (by decide)) x_d (k_d1 ?_)
    refine j_top (y := 1) (bo1 hw) ?_
    refine j_if_ne 9 16 dX8_readSize_6 rfl rfl (r32 (by decide) (by decide)) (fun c_6 => ?_) (fun c_6 => absurd c_6 (by decide))
    have hz1 : szT T q = 8 := by have h1 : ln T q = 8 := (wd_iff.mp hw).1; rw [sz_L hTb (by omega)]; exact h1
    refine j_aload_n 17 0 dX8_readSize_16 rfl rfl ?_
    have hsz0 := szT_le hTb hq0
    refine j_callV 20 (As := []) (kc2 := 0) (ks2 := 0) dX8_readSize_17 rfl mvX8_advance lk_X8_45 hR.rd rfl ⟨Nat.le_of_ble_eq_true rfl, rfl⟩ rfl rfl (Nat.le_of_ble_eq_true rfl) ⟨Nat.le_of_ble_eq_true rfl, Nat.le_of_ble_eq_true rfl⟩ ⟨Nat.le_of_ble_eq_true rfl, Nat.le_of_ble_eq_true rfl⟩ (c_advance hR hX0 (by rw [hk0.1, hz1]) (by omega) (by omega)) x_d (k_d0 ?_)
    refine j_mn (fun g1 hg1 => ?_)
    have H1 : MRd g1 R tx T (fun _ => false) (sk T (q + 8)) := by rw [hg1]; exact H0.adv htx hz1
    have F1 : FrR g g1 R := by rw [hg1]; exact F0.adv
    have hI1 : ExI g1 (R + 1) := by rw [hg1]; exact hI0.fr (fun a h1 h2 => tokM_o (by omega))
    obtain ⟨hX1, hk1, hq1, hs1, he1⟩ := id H1
    have hr1 := hk1.2.2.1
    refine j_aload_n 21 0 dX8_readSize_20 rfl rfl ?_
    refine j_iconst 22 dX8_readSize_21 rfl ?_
    refine j_iconst 23 dX8_readSize_22 rfl ?_
    rcases numC T (sk T (q + 8)) (1) (4) with hA | hA | hA
    ·
      refine j_callV 26 (As := [.int (i32 (1)), .int (i32 (4))]) (kc2 := 0) (ks2 := 0) dX8_readSize_23 rfl mvX8_checkNumber lk_X8_71 hR.rd rfl ⟨Nat.le_of_ble_eq_true rfl, rfl⟩ rfl rfl (Nat.le_of_ble_eq_true rfl) ⟨Nat.le_of_ble_eq_true rfl, Nat.le_of_ble_eq_true rfl⟩ ⟨Nat.le_of_ble_eq_true rfl, Nat.le_of_ble_eq_true rfl⟩ (c_num1 hR hX1 hk1 hq1 (by decide) (by decide) (by decide) (by decide) hA.1 hA.2) x_d (k_d1 ?_)
      refine j_if_ne 29 31 dX8_readSize_26 rfl rfl (r32 (by decide) (by decide)) (fun c_26 => ?_) (fun c_26 => absurd c_26 (by decide))
      have hnu1 := num_of hTb hk1 hA.1
      have hz2 : szT T (sk T (q + 8)) = dn T (sk T (q + 8)) := sz_D hTb hA.1
      refine j_aload_n 32 0 dX8_readSize_31 rfl rfl ?_
      refine j_geti 35 dX8_readSize_32 rfl fl_X8_75 hR.rd rfl rfl (fun r_32 => ?_)
      refine j_top (y := (nv T (sk T (q + 8)))) (hnu1.1 (by omega)) ?_
      refine j_istore_n 36 (L2 := [(1, .int (i32 ((nv T (sk T (q + 8)))))), (0, .ref (R))]) dX8_readSize_35 rfl rfl (Nat.le_of_ble_eq_true rfl) rfl ?_
      refine j_aload_n 37 1 dX8_readSize_36 rfl rfl ?_
      have hsz1 := szT_le hTb hq1
      refine j_callV 40 (As := []) (kc2 := 0) (ks2 := 0) dX8_readSize_37 rfl mvX8_advance lk_X8_45 hR.rd rfl ⟨Nat.le_of_ble_eq_true rfl, rfl⟩ rfl rfl (Nat.le_of_ble_eq_true rfl) ⟨Nat.le_of_ble_eq_true rfl, Nat.le_of_ble_eq_true rfl⟩ ⟨Nat.le_of_ble_eq_true rfl, Nat.le_of_ble_eq_true rfl⟩ (c_advance hR hX1 (by rw [hk1.1, hz2]) (by omega) (by omega)) x_d (k_d0 ?_)
      refine j_mn (fun g2 hg2 => ?_)
      have H2 : MRd g2 R tx T (fun _ => false) (sk T ((sk T (q + 8)) + dn T (sk T (q + 8)))) := by rw [hg2]; exact H1.adv htx hz2
      have F2 : FrR g g2 R := by rw [hg2]; exact F1.adv
      have hI2 : ExI g2 (R + 1) := by rw [hg2]; exact hI1.fr (fun a h1 h2 => tokM_o (by omega))
      obtain ⟨hX2, hk2, hq2, hs2, he2⟩ := id H2
      have hr2 := hk2.2.2.1
      refine j_aload_n 41 1 dX8_readSize_40 rfl rfl ?_
      refine j_iconst 42 dX8_readSize_41 rfl ?_
      refine j_iconst 43 dX8_readSize_42 rfl ?_
      rcases numC T (sk T ((sk T (q + 8)) + dn T (sk T (q + 8)))) (1) (3) with hB | hB | hB
      ·
        refine j_callV 46 (As := [.int (i32 (1)), .int (i32 (3))]) (kc2 := 0) (ks2 := 0) dX8_readSize_43 rfl mvX8_checkNumber lk_X8_71 hR.rd rfl ⟨Nat.le_of_ble_eq_true rfl, rfl⟩ rfl rfl (Nat.le_of_ble_eq_true rfl) ⟨Nat.le_of_ble_eq_true rfl, Nat.le_of_ble_eq_true rfl⟩ ⟨Nat.le_of_ble_eq_true rfl, Nat.le_of_ble_eq_true rfl⟩ (c_num1 hR hX2 hk2 hq2 (by decide) (by decide) (by decide) (by decide) hB.1 hB.2) x_d (k_d1 ?_)
        refine j_if_ne 49 51 dX8_readSize_46 rfl rfl (r32 (by decide) (by decide)) (fun c_46 => ?_) (fun c_46 => absurd c_46 (by decide))
        have hnu2 := num_of hTb hk2 hB.1
        have hz4 : szT T (sk T ((sk T (q + 8)) + dn T (sk T (q + 8)))) = dn T (sk T ((sk T (q + 8)) + dn T (sk T (q + 8)))) := sz_D hTb hB.1
        refine j_aload_n 52 1 dX8_readSize_51 rfl rfl ?_
        refine j_getr 55 dX8_readSize_52 rfl fl_X8_12 hR.rd rfl (fun _ _ => rfl) rfl ?_
        refine j_iload_n 56 0 dX8_readSize_55 rfl rfl ?_
        refine j_aload_n 57 1 dX8_readSize_56 rfl rfl ?_
        refine j_geti 60 dX8_readSize_57 rfl fl_X8_75 hR.rd rfl rfl (fun r_57 => ?_)
        refine j_top (y := (nv T (sk T ((sk T (q + 8)) + dn T (sk T (q + 8)))))) (hnu2.1 (by omega)) ?_
        refine j_callV 63 (As := [.int (i32 ((nv T (sk T (q + 8))))), .int (i32 ((nv T (sk T ((sk T (q + 8)) + dn T (sk T (q + 8)))))))]) (kc2 := 0) (ks2 := 0) dX8_readSize_60 rfl mvX1_tellSize lk_X8_78 hR.told.ex rfl ⟨Nat.le_of_ble_eq_true rfl, rfl⟩ rfl rfl (Nat.le_of_ble_eq_true rfl) ⟨Nat.le_of_ble_eq_true rfl, Nat.le_of_ble_eq_true rfl⟩ ⟨Nat.le_of_ble_eq_true rfl, Nat.le_of_ble_eq_true rfl⟩ (c_tellSize hR.told hI2 (r32 (by omega) (by omega)) (r32 (by omega) (by omega))) x_v (k_v fun g_60 h_60 => ?_)
        obtain ⟨hE3, hFx⟩ := h_60
        have hP5 : PInv (row0 (nv T (sk T (q + 8))) (nv T (sk T ((sk T (q + 8)) + dn T (sk T (q + 8)))))) := pinv_0 ⟨by omega, by omega⟩ ⟨by omega, by omega⟩
        have H3 : MRd g_60 R tx T (fun _ => false) (sk T ((sk T (q + 8)) + dn T (sk T (q + 8)))) := H2.upd (fun j => by rw [hFx R (by omega)]) (hFx tx (by omega))
        have F3 : FrR g g_60 R := F2.tr (fun a ha => hFx a (by omega))
        have hsz2 := szT_le hTb hq2
        have hI3 := hE3.1
        refine j_aload_n 64 1 dX8_readSize_63 rfl rfl ?_
        refine j_callV 67 (As := []) (kc2 := 0) (ks2 := 0) dX8_readSize_64 rfl mvX8_advance lk_X8_45 hR.rd rfl ⟨Nat.le_of_ble_eq_true rfl, rfl⟩ rfl rfl (Nat.le_of_ble_eq_true rfl) ⟨Nat.le_of_ble_eq_true rfl, Nat.le_of_ble_eq_true rfl⟩ ⟨Nat.le_of_ble_eq_true rfl, Nat.le_of_ble_eq_true rfl⟩ (c_advance hR H3.1 (by rw [H3.2.1.1, hz4]) (by omega) (by omega)) x_d (k_d0 ?_)
        refine j_mn (fun g4 hg4 => ?_)
        have H4 : MRd g4 R tx T (fun _ => false) (sk T ((sk T ((sk T (q + 8)) + dn T (sk T (q + 8)))) + dn T (sk T ((sk T (q + 8)) + dn T (sk T (q + 8)))))) := by rw [hg4]; exact H3.adv htx hz4
        have F4 : FrR g g4 R := by rw [hg4]; exact F3.adv
        have hI4 : ExI g4 (R + 1) := by rw [hg4]; exact hI3.fr (fun a h1 h2 => tokM_o (by omega))
        obtain ⟨hX4, hk4, hq4, hs4, he4⟩ := id H4
        have hr4 := hk4.2.2.1
        have hE4 : RelX g4 (R + 1) (row0 (nv T (sk T (q + 8))) (nv T (sk T ((sk T (q + 8)) + dn T (sk T (q + 8)))))) := by rw [hg4]; exact hE3.rows2 hP5 (fun a h1 h2 => tokM_o (by omega))
        refine j_aload_n 68 1 dX8_readSize_67 rfl rfl ?_
        by_cases hC : byT T (sk T ((sk T ((sk T (q + 8)) + dn T (sk T (q + 8)))) + dn T (sk T ((sk T (q + 8)) + dn T (sk T (q + 8)))))) = 59
        ·
          have hz5 : szT T (sk T ((sk T ((sk T (q + 8)) + dn T (sk T (q + 8)))) + dn T (sk T ((sk T (q + 8)) + dn T (sk T (q + 8)))))) = 1 := sz_S hTb hC
          refine j_callV 71 (As := []) (kc2 := 0) (ks2 := 0) dX8_readSize_68 rfl mvX8_passSemicolon lk_X8_58 hR.rd rfl ⟨Nat.le_of_ble_eq_true rfl, rfl⟩ rfl rfl (Nat.le_of_ble_eq_true rfl) ⟨Nat.le_of_ble_eq_true rfl, Nat.le_of_ble_eq_true rfl⟩ ⟨Nat.le_of_ble_eq_true rfl, Nat.le_of_ble_eq_true rfl⟩ (c_sem1 hR hX4 hk4 hq4 (by omega) hC) x_d (k_d1 ?_)
          refine j_mn (fun g5 hg5 => ?_)
          have H5 : MRd g5 R tx T (fun _ => false) (sk T ((sk T ((sk T ((sk T (q + 8)) + dn T (sk T (q + 8)))) + dn T (sk T ((sk T (q + 8)) + dn T (sk T (q + 8)))))) + 1)) := by rw [hg5]; exact H4.adv htx hz5
          have F5 : FrR g g5 R := by rw [hg5]; exact F4.adv
          have hI5 : ExI g5 (R + 1) := by rw [hg5]; exact hI4.fr (fun a h1 h2 => tokM_o (by omega))
          obtain ⟨hX5, hk5, hq5, hs5, he5⟩ := id H5
          have hr5 := hk5.2.2.1
          have hE5 : RelX g5 (R + 1) (row0 (nv T (sk T (q + 8))) (nv T (sk T ((sk T (q + 8)) + dn T (sk T (q + 8)))))) := by rw [hg5]; exact hE4.rows2 hP5 (fun a h1 h2 => tokM_o (by omega))
          exact j_zret dX8_readSize_71 rfl (by first | exact Or.inl rfl | exact Or.inr rfl) (⟨_, rfl, rfl, cp_ok F5 (H5.crd hE5 hP5) (p2 := (sk T ((sk T ((sk T (q + 8)) + dn T (sk T (q + 8)))) + dn T (sk T ((sk T (q + 8)) + dn T (sk T (q + 8)))))) + 1) rfl (by unfold P_size; rw [if_pos hw, kNum_1 hA, kNum_1 hB, kSem_1 hC])⟩)
        ·
          refine j_callV 71 (As := []) (kc2 := 0) (ks2 := 0) dX8_readSize_68 rfl mvX8_passSemicolon lk_X8_58 hR.rd rfl ⟨Nat.le_of_ble_eq_true rfl, rfl⟩ rfl rfl (Nat.le_of_ble_eq_true rfl) ⟨Nat.le_of_ble_eq_true rfl, Nat.le_of_ble_eq_true rfl⟩ ⟨Nat.le_of_ble_eq_true rfl, Nat.le_of_ble_eq_true rfl⟩ (c_sem2 hR hX4 hk4 hq4 hC) x_d (k_d1 ?_)
          exact j_zret dX8_readSize_71 rfl (by first | exact Or.inl rfl | exact Or.inr rfl) (⟨_, rfl, rfl, cp_bad F4 hI4 (by unfold P_size; rw [if_pos hw, kNum_1 hA, kNum_1 hB, kSem_2 hC])⟩)
      ·
        refine j_callV 46 (As := [.int (i32 (1)), .int (i32 (3))]) (kc2 := 0) (ks2 := 0) dX8_readSize_43 rfl mvX8_checkNumber lk_X8_71 hR.rd rfl ⟨Nat.le_of_ble_eq_true rfl, rfl⟩ rfl rfl (Nat.le_of_ble_eq_true rfl) ⟨Nat.le_of_ble_eq_true rfl, Nat.le_of_ble_eq_true rfl⟩ ⟨Nat.le_of_ble_eq_true rfl, Nat.le_of_ble_eq_true rfl⟩ (c_num2 hR hX2 hk2 hq2 (by decide) (by decide) (by decide) (by decide) hB) x_d (k_d1 ?_)
        refine j_if_ne 49 51 dX8_readSize_46 rfl rfl (r32 (by decide) (by decide)) (fun c_46 => absurd c_46 (by decide)) (fun c_46 => ?_)
        refine j_iconst 50 dX8_readSize_49 rfl ?_
        exact j_zret dX8_readSize_50 rfl (Or.inl rfl) (⟨_, rfl, rfl, cp_bad F2 hI2 (by unfold P_size; rw [if_pos hw, kNum_1 hA, kNum_2 hB])⟩)
      ·
        refine j_callV 46 (As := [.int (i32 (1)), .int (i32 (3))]) (kc2 := 0) (ks2 := 0) dX8_readSize_43 rfl mvX8_checkNumber lk_X8_71 hR.rd rfl ⟨Nat.le_of_ble_eq_true rfl, rfl⟩ rfl rfl (Nat.le_of_ble_eq_true rfl) ⟨Nat.le_of_ble_eq_true rfl, Nat.le_of_ble_eq_true rfl⟩ ⟨Nat.le_of_ble_eq_true rfl, Nat.le_of_ble_eq_true rfl⟩ (c_num3 hR hX2 hk2 hq2 (by decide) (by decide) (by decide) (by decide) hB.1 hB.2) x_d (k_d1 ?_)
        refine j_if_ne 49 51 dX8_readSize_46 rfl rfl (r32 (by decide) (by decide)) (fun c_46 => absurd c_46 (by decide)) (fun c_46 => ?_)
        refine j_iconst 50 dX8_readSize_49 rfl ?_
        exact j_zret dX8_readSize_50 rfl (Or.inl rfl) (⟨_, rfl, rfl, cp_bad F2 hI2 (by unfold P_size; rw [if_pos hw, kNum_1 hA, kNum_3 hB])⟩)
    ·
      refine j_callV 26 (As := [.int (i32 (1)), .int (i32 (4))]) (kc2 := 0) (ks2 := 0) dX8_readSize_23 rfl mvX8_checkNumber lk_X8_71 hR.rd rfl ⟨Nat.le_of_ble_eq_true rfl, rfl⟩ rfl rfl (Nat.le_of_ble_eq_true rfl) ⟨Nat.le_of_ble_eq_true rfl, Nat.le_of_ble_eq_true rfl⟩ ⟨Nat.le_of_ble_eq_true rfl, Nat.le_of_ble_eq_true rfl⟩ (c_num2 hR hX1 hk1 hq1 (by decide) (by decide) (by decide) (by decide) hA) x_d (k_d1 ?_)
      refine j_if_ne 29 31 dX8_readSize_26 rfl rfl (r32 (by decide) (by decide)) (fun c_26 => absurd c_26 (by decide)) (fun c_26 => ?_)
      refine j_iconst 30 dX8_readSize_29 rfl ?_
      exact j_zret dX8_readSize_30 rfl (Or.inl rfl) (⟨_, rfl, rfl, cp_bad F1 hI1 (by unfold P_size; rw [if_pos hw, kNum_2 hA])⟩)
    ·
      refine j_callV 26 (As := [.int (i32 (1)), .int (i32 (4))]) (kc2 := 0) (ks2 := 0) dX8_readSize_23 rfl mvX8_checkNumber lk_X8_71 hR.rd rfl ⟨Nat.le_of_ble_eq_true rfl, rfl⟩ rfl rfl (Nat.le_of_ble_eq_true rfl) ⟨Nat.le_of_ble_eq_true rfl, Nat.le_of_ble_eq_true rfl⟩ ⟨Nat.le_of_ble_eq_true rfl, Nat.le_of_ble_eq_true rfl⟩ (c_num3 hR hX1 hk1 hq1 (by decide) (by decide) (by decide) (by decide) hA.1 hA.2) x_d (k_d1 ?_)
      refine j_if_ne 29 31 dX8_readSize_26 rfl rfl (r32 (by decide) (by decide)) (fun c_26 => absurd c_26 (by decide)) (fun c_26 => ?_)
      refine j_iconst 30 dX8_readSize_29 rfl ?_
      exact j_zret dX8_readSize_30 rfl (Or.inl rfl) (⟨_, rfl, rfl, cp_bad F1 hI1 (by unfold P_size; rw [if_pos hw, kNum_3 hA])⟩)
