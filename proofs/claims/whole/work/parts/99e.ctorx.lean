/-! an Exchange is made -/
theorem kEx_put {e : Nat} : kdR (kdR (kdR (kdR (kdR (kdR (1, 0, kN) 13 (some (e + 1))) 14 (some (e + 2))) 15 (some (e + 8))) 16 (some (e + 25))) 17 (some (e + 30))) 18 (some (e + 34)) = kEx e := by
  have : (kdR (kdR (kdR (kdR (kdR (kdR (1, 0, kN) 13 (some (e + 1))) 14 (some (e + 2))) 15 (some (e + 8))) 16 (some (e + 25))) 17 (some (e + 30))) 18 (some (e + 34))).2.2 = (kEx e).2.2 := funext fun j => by
    match j with
    | 0 => rfl | 1 => rfl | 2 => rfl | 3 => rfl | 4 => rfl | 5 => rfl | 6 => rfl | 7 => rfl | 8 => rfl | 9 => rfl | 10 => rfl | 11 => rfl | 12 => rfl
    | 13 => rfl | 14 => rfl | 15 => rfl | 16 => rfl | 17 => rfl | 18 => rfl
    | _ + 19 => rfl
  exact Prod.ext rfl (Prod.ext rfl this)
theorem FL1.z2 {ci ar kar N p : Nat} {sh : Shp} {g : Mem} {K : Kd} (hp : p < ar) : FL1 ci ar (shP sh p K) g kar N (shP (shN sh ar (kar, N, kN)) p K) (gN g ar) 0 :=
  ⟨rfl, by rw [shP_o (by omega), shN_s]; congr 2, fun a ha => ⟨by
    by_cases z : a = p
    · subst z; rw [shP_s, shP_s]
    · rw [shP_o z, shN_o (by omega), shP_o z], gN_o (by omega)⟩, fun i hi => absurd hi (Nat.not_lt_zero i)⟩
theorem FL2.z2 {ar kar N p : Nat} {sh : Shp} {g : Mem} {K : Kd} (hp : p < ar) : FL2 ar (shP sh p K) g kar N (shP (shN sh ar (kar, N, kN)) p K) (gN g ar) 0 :=
  ⟨rfl, by rw [shP_o (by omega), shN_s]; congr 2, fun a ha => ⟨by
    by_cases z : a = p
    · subst z; rw [shP_s, shP_s]
    · rw [shP_o z, shN_o (by omega), shP_o z], gN_o (by omega)⟩, fun i hi => absurd hi (Nat.not_lt_zero i)⟩
theorem cl_X1_15 : Cond.classLink RX1 15 (f_C 2) ∈ lw_good := by decide +kernel
theorem cl_X1_24 : Cond.classLink RX1 24 (f_C 6) ∈ lw_good := by decide +kernel
theorem cl_X1_31 : Cond.classLink RX1 31 (f_C 5) ∈ lw_good := by decide +kernel
theorem cl_X1_38 : Cond.classLink RX1 38 (f_C 4) ∈ lw_good := by decide +kernel
theorem cl_X1_45 : Cond.classLink RX1 45 (f_C 0) ∈ lw_good := by decide +kernel
set_option linter.constructorNameAsVariable false in
theorem n_X1 {w : Wd} {sh : Shp} {g : Mem} {e : Nat} (he : sh.1 e = some (1, 0, kN)) (hs : sh.2 = some (e + 1)) : CT w mX1_init [.ref e] sh g (kQ fun sh2 g2 => sh2.2 = some (e + 75) ∧ ExS sh2.1 e ∧ ClrX g2 e ∧ g2 e 0 = 1 ∧ g2 e 1 = 1 ∧ Gr0 sh sh2 g g2 e) := by
  refine j_entry (by decide) rfl (Nat.le_of_ble_eq_true rfl) (fun _ => rfl) rfl ?_
  show J w mX1_init 0 [(0, .ref e)] [] sh g 74 721 _
  refine j_aload_n 1 0 dX1_init_0 rfl rfl ?_
  refine j_objInit 4 dX1_init_1 rfl oi_X1 (Nat.le_of_ble_eq_true rfl) (Nat.le_of_ble_eq_true rfl) ?_
  refine j_aload_n 5 0 dX1_init_4 rfl rfl ?_
  refine j_bipush 7 dX1_init_5 rfl (by decide) ?_
  refine j_newa 9 (N := 12) (kc2 := 73) (ks2 := 709) dX1_init_7 rfl rfl (by decide) na_int (Or.inl ⟨rfl, rfl⟩) hs ⟨Nat.le_of_ble_eq_true rfl, Nat.le_of_ble_eq_true rfl⟩ ?_
  refine j_putr 12 dX1_init_9 rfl fl_X1_9 (shN_o (by omega) |>.trans he) rfl (Or.inr ⟨rfl, rfl, rfl⟩) (Or.inr ⟨_, rfl⟩) ?_
  refine j_shn (fun sh0 hsh0 => ?_)
  refine j_mn (fun g0 hg0 => ?_)
  have A0 : sh0.2 = some (e + 2) := by rw [hsh0]; rfl
  have K0 : sh0.1 e = some (kdR (1, 0, kN) 13 (some (e + 1))) := by rw [hsh0]; exact shP_s
  have N0 : sh0.1 (e + 1) = some (10, 12, kN) := by rw [hsh0, shP_o (by omega)]; exact shN_s
  have G0 : Gr0 sh sh0 g g0 e := fun a ha => ⟨by rw [hsh0, shP_o (by omega), shN_o (by omega)], by rw [hg0, gN_o (by omega)]⟩
  refine j_aload_n 13 0 dX1_init_12 rfl rfl ?_
  refine j_iconst 14 dX1_init_13 rfl ?_
  refine j_newq 17 (N := 5) (k := 14) (C9 := RX2) (kc2 := 72) (ks2 := 704) dX1_init_14 rfl rfl (by decide) cl_X1_15 (by decide) ⟨by decide, fun _ => rfl⟩ A0 ⟨Nat.le_of_ble_eq_true rfl, Nat.le_of_ble_eq_true rfl⟩ ?_
  refine j_putr 20 dX1_init_17 rfl fl_X1_17 (shN_o (by omega) |>.trans K0) rfl (Or.inr ⟨rfl, rfl, rfl⟩) (Or.inr ⟨_, rfl⟩) ?_
  refine j_iconst 21 dX1_init_20 rfl ?_
  refine j_istore_n 22 (L2 := [(1, .int (i32 0)), (0, .ref e)]) dX1_init_21 rfl rfl (Nat.le_of_ble_eq_true rfl) rfl ?_
  suffices lp_22 : ∀ (n_ k : Nat) (shk : Shp) (gk : Mem), 5 - k < n_ → k ≤ 5 → FL1 2 (e + 2) (shP sh0 e (kdR (kdR (1, 0, kN) 13 (some (e + 1))) 14 (some (e + 2)))) g0 14 5 shk gk k → J w mX1_init 22 [(1, .int (i32 (k : Int))), (0, .ref e)] [] shk gk (67 + 1 * (5 - k)) (664 + 8 * (5 - k)) _ by
    refine j_widen (kc2 := 67 + 1 * (5 - 0)) (ks2 := 664 + 8 * (5 - 0)) (by omega) (by omega) ?_
    exact lp_22 _ 0 _ _ (Nat.lt_succ_self _) (by omega) (FL1.z2 (by omega))
  intro n_
  induction n_ with
  | zero => intro k shk gk h_; exact absurd h_ (Nat.not_lt_zero _)
  | succ n_ ih_ =>
    intro k shk gk hn_ hk F
    have hKe : shk.1 e = some (kdR (kdR (1, 0, kN) 13 (some (e + 1))) 14 (some (e + 2))) := (F.2.2.1 e (by omega)).1.trans shP_s
    refine j_iload_n 23 0 dX1_init_22 rfl rfl ?_
    refine j_aload_n 24 1 dX1_init_23 rfl rfl ?_
    refine j_getr 27 dX1_init_24 rfl fl_X1_17 hKe rfl (fun _ _ => rfl) rfl ?_
    refine j_alen 28 dX1_init_27 rfl F.2.1 (Nat.le_of_ble_eq_true rfl) rfl ?_
    refine j_top (y := 5) rfl ?_
    refine j_icmp_ge 31 51 dX1_init_28 rfl rfl (r32 (by omega) (by omega)) (r32 (by decide) (by decide)) (fun c_ => ?_) (fun c_ => ?_)
    rotate_left
    · refine j_aload_n 32 1 dX1_init_31 rfl rfl ?_
      refine j_getr 35 dX1_init_32 rfl fl_X1_17 hKe rfl (fun _ _ => rfl) rfl ?_
      refine j_iload_n 36 0 dX1_init_35 rfl rfl ?_
      refine j_new 39 (ci := 2) (kc2 := 67 + 1 * (5 - k) - 1) (ks2 := 664 + 8 * (5 - k) - 8) dX1_init_36 rfl (by decide) cl_X1_15 ni_2.1 ni_2.2 dv_2 F.1 ⟨by omega, (show _ + 8 ≤ _ by omega)⟩ ?_
      refine j_dup 40 dX1_init_39 rfl rfl ?_
      refine j_iload_n 41 0 dX1_init_40 rfl rfl ?_
      refine j_callI 44 (As := [.int (i32 (k : Int))]) (kc2 := 67 + 1 * (5 - (k + 1))) (ks2 := 664 + 8 * (5 - (k + 1))) dX1_init_41 rfl miX2_init lk_X1_21 rfl rfl rfl (Nat.le_of_ble_eq_true rfl) ⟨Nat.le_of_ble_eq_true rfl, Nat.le_of_ble_eq_true rfl⟩ ⟨(show 0 + _ ≤ _ by omega), (show 0 + _ ≤ _ by omega)⟩ (n_X2 shN_s (r32 (by omega) (by omega))) x_d (k_d0 ?_)
      refine j_aast 45 k (ci := 2) dX1_init_44 rfl (shN_o (by omega) |>.trans F.2.1) ⟨by decide, fun _ => rfl⟩ rfl (by omega) (by decide) shN_s rfl (by decide) ?_
      refine j_iinc 48 0 (y := ((k + 1 : Nat) : Int)) (L2 := [(1, .int (i32 ((k + 1 : Nat) : Int))), (0, .ref e)]) dX1_init_45 rfl rfl (by omega) (Nat.le_of_ble_eq_true rfl) rfl ?_
      refine j_goto 22 dX1_init_48 rfl ?_
      exact ih_ (k + 1) _ _ (by omega) (by omega) F.s
    have hkN : k = 5 := by omega
    subst hkN
    refine j_kd (f := fun i => some (e + 2 + 1 + i)) F.2.1 (show 14 ≤ 14 by decide) (fun j hj => (if_pos (show j < 5 from hj)).symm) ?_
    refine j_widen (kc2 := 67) (ks2 := 664) (by omega) (by omega) ?_
    refine j_shn (fun sh1 hsh1 => ?_)
    refine j_mn (fun g1 hg1 => ?_)
    have A1 : sh1.2 = some (e + 8) := by rw [hsh1]; exact F.1
    have K1 : sh1.1 e = some (kdR (kdR (1, 0, kN) 13 (some (e + 1))) 14 (some (e + 2))) := by rw [hsh1, shP_o (by omega)]; exact hKe
    have R1 : sh1.1 (e + 2) = some (14, 5, fun i => some (e + 2 + 1 + i)) := by rw [hsh1]; exact shP_s
    have P1 : ∀ a, a < e + 2 → (a ≠ e → sh1.1 a = sh0.1 a) ∧ g1 a = g0 a := fun a ha => ⟨fun h => by rw [hsh1, shP_o (by omega), (F.2.2.1 a ha).1, shP_o h], by rw [hg1]; exact (F.2.2.1 a ha).2⟩
    have O1 : ∀ i, i < 5 → sh1.1 (e + 2 + 1 + i) = some (2, 0, kN) ∧ g1 (e + 2 + 1 + i) 0 = (i : Int) := fun i hi => ⟨by rw [hsh1, shP_o (by omega)]; exact (F.2.2.2 i hi).1, by rw [hg1]; exact (F.2.2.2 i hi).2⟩
    clear ih_ F hKe
    refine j_aload_n 52 1 dX1_init_51 rfl rfl ?_
    refine j_bipush 54 dX1_init_52 rfl (by decide) ?_
    refine j_newq 57 (N := 8) (k := 15) (C9 := RX6) (kc2 := 66) (ks2 := 656) dX1_init_54 rfl rfl (by decide) cl_X1_24 (by decide) ⟨by decide, fun _ => rfl⟩ A1 ⟨Nat.le_of_ble_eq_true rfl, Nat.le_of_ble_eq_true rfl⟩ ?_
    refine j_putr 60 dX1_init_57 rfl fl_X1_26 (shN_o (by omega) |>.trans K1) rfl (Or.inr ⟨rfl, rfl, rfl⟩) (Or.inr ⟨_, rfl⟩) ?_
    refine j_iconst 61 dX1_init_60 rfl ?_
    refine j_istore_n 62 (L2 := [(1, .int (i32 0)), (0, .ref e)]) dX1_init_61 rfl rfl (Nat.le_of_ble_eq_true rfl) rfl ?_
    suffices lp_62 : ∀ (n_ k : Nat) (shk : Shp) (gk : Mem), 8 - k < n_ → k ≤ 8 → FL2 (e + 8) (shP sh1 e (kdR (kdR (kdR (1, 0, kN) 13 (some (e + 1))) 14 (some (e + 2))) 15 (some (e + 8)))) g1 15 8 shk gk k → J w mX1_init 62 [(1, .int (i32 (k : Int))), (0, .ref e)] [] shk gk (50 + 2 * (8 - k)) (592 + 8 * (8 - k)) _ by
      refine j_widen (kc2 := 50 + 2 * (8 - 0)) (ks2 := 592 + 8 * (8 - 0)) (by omega) (by omega) ?_
      exact lp_62 _ 0 _ _ (Nat.lt_succ_self _) (by omega) (FL2.z2 (by omega))
    intro n_
    induction n_ with
    | zero => intro k shk gk h_; exact absurd h_ (Nat.not_lt_zero _)
    | succ n_ ih_ =>
      intro k shk gk hn_ hk F
      have hKe : shk.1 e = some (kdR (kdR (kdR (1, 0, kN) 13 (some (e + 1))) 14 (some (e + 2))) 15 (some (e + 8))) := (F.2.2.1 e (by omega)).1.trans shP_s
      refine j_iload_n 63 0 dX1_init_62 rfl rfl ?_
      refine j_aload_n 64 1 dX1_init_63 rfl rfl ?_
      refine j_getr 67 dX1_init_64 rfl fl_X1_26 hKe rfl (fun _ _ => rfl) rfl ?_
      refine j_alen 68 dX1_init_67 rfl F.2.1 (Nat.le_of_ble_eq_true rfl) rfl ?_
      refine j_top (y := 8) rfl ?_
      refine j_icmp_ge 71 91 dX1_init_68 rfl rfl (r32 (by omega) (by omega)) (r32 (by decide) (by decide)) (fun c_ => ?_) (fun c_ => ?_)
      rotate_left
      · refine j_aload_n 72 1 dX1_init_71 rfl rfl ?_
        refine j_getr 75 dX1_init_72 rfl fl_X1_26 hKe rfl (fun _ _ => rfl) rfl ?_
        refine j_iload_n 76 0 dX1_init_75 rfl rfl ?_
        refine j_new 79 (ci := 6) (kc2 := 50 + 2 * (8 - k) - 1) (ks2 := 592 + 8 * (8 - k) - 5) dX1_init_76 rfl (by decide) cl_X1_24 ni_6.1 ni_6.2 dv_6 F.1 ⟨by omega, (show _ + 5 ≤ _ by omega)⟩ ?_
        refine j_dup 80 dX1_init_79 rfl rfl ?_
        refine j_iload_n 81 0 dX1_init_80 rfl rfl ?_
        refine j_callI 84 (As := [.int (i32 (k : Int))]) (kc2 := 50 + 2 * (8 - (k + 1))) (ks2 := 592 + 8 * (8 - (k + 1))) dX1_init_81 rfl miX6_init lk_X1_30 rfl rfl rfl (Nat.le_of_ble_eq_true rfl) ⟨Nat.le_of_ble_eq_true rfl, Nat.le_of_ble_eq_true rfl⟩ ⟨(show 1 + _ ≤ _ by omega), (show 3 + _ ≤ _ by omega)⟩ (n_X6 shN_s rfl (r32 (by omega) (by omega))) x_k (k_k fun sh9 g9 h9 => ?_)
        obtain ⟨q1, q2, q3, q4, q5⟩ := h9
        have har : sh9.1 (e + 8) = some (15, 8, fun j => if j < k then some (e + 8 + 1 + 2 * j) else none) := by rw [(q5 _ (by omega)).1, shN_o (by omega)]; exact F.2.1
        refine j_aast 85 k (ci := 6) dX1_init_84 rfl har ⟨by decide, fun _ => rfl⟩ rfl (by omega) (by decide) q2 rfl (by decide) ?_
        have hst := F.s (sh1 := sh9) (g1 := g9) (by rw [q1]; congr 1) (q2.trans (by rw [show e + 8 + 1 + 2 * k + 1 = e + 8 + 2 + 2 * k by omega])) (by rw [show e + 8 + 2 + 2 * k = e + 8 + 1 + 2 * k + 1 by omega]; exact q3) q4 (fun a ha => ⟨by rw [(q5 a ha).1, shN_o (by omega)], by rw [(q5 a ha).2, gN_o (by omega)]⟩)
        refine j_iinc 88 0 (y := ((k + 1 : Nat) : Int)) (L2 := [(1, .int (i32 ((k + 1 : Nat) : Int))), (0, .ref e)]) dX1_init_85 rfl rfl (by omega) (Nat.le_of_ble_eq_true rfl) rfl ?_
        refine j_goto 62 dX1_init_88 rfl ?_
        exact ih_ (k + 1) _ _ (by omega) (by omega) hst
      have hkN : k = 8 := by omega
      subst hkN
      refine j_kd (f := fun i => some (e + 8 + 1 + 2 * i)) F.2.1 (show 14 ≤ 15 by decide) (fun j hj => (if_pos (show j < 8 from hj)).symm) ?_
      refine j_widen (kc2 := 50) (ks2 := 592) (by omega) (by omega) ?_
      refine j_shn (fun sh2 hsh2 => ?_)
      refine j_mn (fun g2 hg2 => ?_)
      have A2 : sh2.2 = some (e + 25) := by rw [hsh2]; exact F.1
      have K2 : sh2.1 e = some (kdR (kdR (kdR (1, 0, kN) 13 (some (e + 1))) 14 (some (e + 2))) 15 (some (e + 8))) := by rw [hsh2, shP_o (by omega)]; exact hKe
      have R2 : sh2.1 (e + 8) = some (15, 8, fun i => some (e + 8 + 1 + 2 * i)) := by rw [hsh2]; exact shP_s
      have P2 : ∀ a, a < e + 8 → (a ≠ e → sh2.1 a = sh1.1 a) ∧ g2 a = g1 a := fun a ha => ⟨fun h => by rw [hsh2, shP_o (by omega), (F.2.2.1 a ha).1, shP_o h], by rw [hg2]; exact (F.2.2.1 a ha).2⟩
      have O2 : ∀ i, i < 8 → sh2.1 (e + 8 + 1 + 2 * i) = some (kRt (e + 8 + 2 + 2 * i)) ∧ sh2.1 (e + 8 + 2 + 2 * i) = some (10, 3, kN) ∧ g2 (e + 8 + 1 + 2 * i) 0 = (i : Int) := fun i hi => ⟨by rw [hsh2, shP_o (by omega)]; exact (F.2.2.2 i hi).1, by rw [hsh2, shP_o (by omega)]; exact (F.2.2.2 i hi).2.1, by rw [hg2]; exact (F.2.2.2 i hi).2.2⟩
      clear ih_ F hKe
      refine j_aload_n 92 1 dX1_init_91 rfl rfl ?_
      refine j_iconst 93 dX1_init_92 rfl ?_
      refine j_newq 96 (N := 4) (k := 16) (C9 := RX5) (kc2 := 49) (ks2 := 588) dX1_init_93 rfl rfl (by decide) cl_X1_31 (by decide) ⟨by decide, fun _ => rfl⟩ A2 ⟨Nat.le_of_ble_eq_true rfl, Nat.le_of_ble_eq_true rfl⟩ ?_
      refine j_putr 99 dX1_init_96 rfl fl_X1_33 (shN_o (by omega) |>.trans K2) rfl (Or.inr ⟨rfl, rfl, rfl⟩) (Or.inr ⟨_, rfl⟩) ?_
      refine j_iconst 100 dX1_init_99 rfl ?_
      refine j_istore_n 101 (L2 := [(1, .int (i32 0)), (0, .ref e)]) dX1_init_100 rfl rfl (Nat.le_of_ble_eq_true rfl) rfl ?_
      suffices lp_101 : ∀ (n_ k : Nat) (shk : Shp) (gk : Mem), 4 - k < n_ → k ≤ 4 → FL1 5 (e + 25) (shP sh2 e (kdR (kdR (kdR (kdR (1, 0, kN) 13 (some (e + 1))) 14 (some (e + 2))) 15 (some (e + 8))) 16 (some (e + 25)))) g2 16 4 shk gk k → J w mX1_init 101 [(1, .int (i32 (k : Int))), (0, .ref e)] [] shk gk (45 + 1 * (4 - k)) (572 + 4 * (4 - k)) _ by
        refine j_widen (kc2 := 45 + 1 * (4 - 0)) (ks2 := 572 + 4 * (4 - 0)) (by omega) (by omega) ?_
        exact lp_101 _ 0 _ _ (Nat.lt_succ_self _) (by omega) (FL1.z2 (by omega))
      intro n_
      induction n_ with
      | zero => intro k shk gk h_; exact absurd h_ (Nat.not_lt_zero _)
      | succ n_ ih_ =>
        intro k shk gk hn_ hk F
        have hKe : shk.1 e = some (kdR (kdR (kdR (kdR (1, 0, kN) 13 (some (e + 1))) 14 (some (e + 2))) 15 (some (e + 8))) 16 (some (e + 25))) := (F.2.2.1 e (by omega)).1.trans shP_s
        refine j_iload_n 102 0 dX1_init_101 rfl rfl ?_
        refine j_aload_n 103 1 dX1_init_102 rfl rfl ?_
        refine j_getr 106 dX1_init_103 rfl fl_X1_33 hKe rfl (fun _ _ => rfl) rfl ?_
        refine j_alen 107 dX1_init_106 rfl F.2.1 (Nat.le_of_ble_eq_true rfl) rfl ?_
        refine j_top (y := 4) rfl ?_
        refine j_icmp_ge 110 130 dX1_init_107 rfl rfl (r32 (by omega) (by omega)) (r32 (by decide) (by decide)) (fun c_ => ?_) (fun c_ => ?_)
        rotate_left
        · refine j_aload_n 111 1 dX1_init_110 rfl rfl ?_
          refine j_getr 114 dX1_init_111 rfl fl_X1_33 hKe rfl (fun _ _ => rfl) rfl ?_
          refine j_iload_n 115 0 dX1_init_114 rfl rfl ?_
          refine j_new 118 (ci := 5) (kc2 := 45 + 1 * (4 - k) - 1) (ks2 := 572 + 4 * (4 - k) - 4) dX1_init_115 rfl (by decide) cl_X1_31 ni_5.1 ni_5.2 dv_5 F.1 ⟨by omega, (show _ + 4 ≤ _ by omega)⟩ ?_
          refine j_dup 119 dX1_init_118 rfl rfl ?_
          refine j_iload_n 120 0 dX1_init_119 rfl rfl ?_
          refine j_callI 123 (As := [.int (i32 (k : Int))]) (kc2 := 45 + 1 * (4 - (k + 1))) (ks2 := 572 + 4 * (4 - (k + 1))) dX1_init_120 rfl miX5_init lk_X1_37 rfl rfl rfl (Nat.le_of_ble_eq_true rfl) ⟨Nat.le_of_ble_eq_true rfl, Nat.le_of_ble_eq_true rfl⟩ ⟨(show 0 + _ ≤ _ by omega), (show 0 + _ ≤ _ by omega)⟩ (n_X5 shN_s (r32 (by omega) (by omega))) x_d (k_d0 ?_)
          refine j_aast 124 k (ci := 5) dX1_init_123 rfl (shN_o (by omega) |>.trans F.2.1) ⟨by decide, fun _ => rfl⟩ rfl (by omega) (by decide) shN_s rfl (by decide) ?_
          refine j_iinc 127 0 (y := ((k + 1 : Nat) : Int)) (L2 := [(1, .int (i32 ((k + 1 : Nat) : Int))), (0, .ref e)]) dX1_init_124 rfl rfl (by omega) (Nat.le_of_ble_eq_true rfl) rfl ?_
          refine j_goto 101 dX1_init_127 rfl ?_
          exact ih_ (k + 1) _ _ (by omega) (by omega) F.s
        have hkN : k = 4 := by omega
        subst hkN
        refine j_kd (f := fun i => some (e + 25 + 1 + i)) F.2.1 (show 14 ≤ 16 by decide) (fun j hj => (if_pos (show j < 4 from hj)).symm) ?_
        refine j_widen (kc2 := 45) (ks2 := 572) (by omega) (by omega) ?_
        refine j_shn (fun sh3 hsh3 => ?_)
        refine j_mn (fun g3 hg3 => ?_)
        have A3 : sh3.2 = some (e + 30) := by rw [hsh3]; exact F.1
        have K3 : sh3.1 e = some (kdR (kdR (kdR (kdR (1, 0, kN) 13 (some (e + 1))) 14 (some (e + 2))) 15 (some (e + 8))) 16 (some (e + 25))) := by rw [hsh3, shP_o (by omega)]; exact hKe
        have R3 : sh3.1 (e + 25) = some (16, 4, fun i => some (e + 25 + 1 + i)) := by rw [hsh3]; exact shP_s
        have P3 : ∀ a, a < e + 25 → (a ≠ e → sh3.1 a = sh2.1 a) ∧ g3 a = g2 a := fun a ha => ⟨fun h => by rw [hsh3, shP_o (by omega), (F.2.2.1 a ha).1, shP_o h], by rw [hg3]; exact (F.2.2.1 a ha).2⟩
        have O3 : ∀ i, i < 4 → sh3.1 (e + 25 + 1 + i) = some (5, 0, kN) ∧ g3 (e + 25 + 1 + i) 0 = (i : Int) := fun i hi => ⟨by rw [hsh3, shP_o (by omega)]; exact (F.2.2.2 i hi).1, by rw [hg3]; exact (F.2.2.2 i hi).2⟩
        clear ih_ F hKe
        refine j_aload_n 131 1 dX1_init_130 rfl rfl ?_
        refine j_iconst 132 dX1_init_131 rfl ?_
        refine j_newq 135 (N := 3) (k := 17) (C9 := RX4) (kc2 := 44) (ks2 := 569) dX1_init_132 rfl rfl (by decide) cl_X1_38 (by decide) ⟨by decide, fun _ => rfl⟩ A3 ⟨Nat.le_of_ble_eq_true rfl, Nat.le_of_ble_eq_true rfl⟩ ?_
        refine j_putr 138 dX1_init_135 rfl fl_X1_40 (shN_o (by omega) |>.trans K3) rfl (Or.inr ⟨rfl, rfl, rfl⟩) (Or.inr ⟨_, rfl⟩) ?_
        refine j_iconst 139 dX1_init_138 rfl ?_
        refine j_istore_n 140 (L2 := [(1, .int (i32 0)), (0, .ref e)]) dX1_init_139 rfl rfl (Nat.le_of_ble_eq_true rfl) rfl ?_
        suffices lp_140 : ∀ (n_ k : Nat) (shk : Shp) (gk : Mem), 3 - k < n_ → k ≤ 3 → FL1 4 (e + 30) (shP sh3 e (kdR (kdR (kdR (kdR (kdR (1, 0, kN) 13 (some (e + 1))) 14 (some (e + 2))) 15 (some (e + 8))) 16 (some (e + 25))) 17 (some (e + 30)))) g3 17 3 shk gk k → J w mX1_init 140 [(1, .int (i32 (k : Int))), (0, .ref e)] [] shk gk (41 + 1 * (3 - k)) (560 + 3 * (3 - k)) _ by
          refine j_widen (kc2 := 41 + 1 * (3 - 0)) (ks2 := 560 + 3 * (3 - 0)) (by omega) (by omega) ?_
          exact lp_140 _ 0 _ _ (Nat.lt_succ_self _) (by omega) (FL1.z2 (by omega))
        intro n_
        induction n_ with
        | zero => intro k shk gk h_; exact absurd h_ (Nat.not_lt_zero _)
        | succ n_ ih_ =>
          intro k shk gk hn_ hk F
          have hKe : shk.1 e = some (kdR (kdR (kdR (kdR (kdR (1, 0, kN) 13 (some (e + 1))) 14 (some (e + 2))) 15 (some (e + 8))) 16 (some (e + 25))) 17 (some (e + 30))) := (F.2.2.1 e (by omega)).1.trans shP_s
          refine j_iload_n 141 0 dX1_init_140 rfl rfl ?_
          refine j_aload_n 142 1 dX1_init_141 rfl rfl ?_
          refine j_getr 145 dX1_init_142 rfl fl_X1_40 hKe rfl (fun _ _ => rfl) rfl ?_
          refine j_alen 146 dX1_init_145 rfl F.2.1 (Nat.le_of_ble_eq_true rfl) rfl ?_
          refine j_top (y := 3) rfl ?_
          refine j_icmp_ge 149 169 dX1_init_146 rfl rfl (r32 (by omega) (by omega)) (r32 (by decide) (by decide)) (fun c_ => ?_) (fun c_ => ?_)
          rotate_left
          · refine j_aload_n 150 1 dX1_init_149 rfl rfl ?_
            refine j_getr 153 dX1_init_150 rfl fl_X1_40 hKe rfl (fun _ _ => rfl) rfl ?_
            refine j_iload_n 154 0 dX1_init_153 rfl rfl ?_
            refine j_new 157 (ci := 4) (kc2 := 41 + 1 * (3 - k) - 1) (ks2 := 560 + 3 * (3 - k) - 3) dX1_init_154 rfl (by decide) cl_X1_38 ni_4.1 ni_4.2 dv_4 F.1 ⟨by omega, (show _ + 3 ≤ _ by omega)⟩ ?_
            refine j_dup 158 dX1_init_157 rfl rfl ?_
            refine j_iload_n 159 0 dX1_init_158 rfl rfl ?_
            refine j_callI 162 (As := [.int (i32 (k : Int))]) (kc2 := 41 + 1 * (3 - (k + 1))) (ks2 := 560 + 3 * (3 - (k + 1))) dX1_init_159 rfl miX4_init lk_X1_44 rfl rfl rfl (Nat.le_of_ble_eq_true rfl) ⟨Nat.le_of_ble_eq_true rfl, Nat.le_of_ble_eq_true rfl⟩ ⟨(show 0 + _ ≤ _ by omega), (show 0 + _ ≤ _ by omega)⟩ (n_X4 shN_s (r32 (by omega) (by omega))) x_d (k_d0 ?_)
            refine j_aast 163 k (ci := 4) dX1_init_162 rfl (shN_o (by omega) |>.trans F.2.1) ⟨by decide, fun _ => rfl⟩ rfl (by omega) (by decide) shN_s rfl (by decide) ?_
            refine j_iinc 166 0 (y := ((k + 1 : Nat) : Int)) (L2 := [(1, .int (i32 ((k + 1 : Nat) : Int))), (0, .ref e)]) dX1_init_163 rfl rfl (by omega) (Nat.le_of_ble_eq_true rfl) rfl ?_
            refine j_goto 140 dX1_init_166 rfl ?_
            exact ih_ (k + 1) _ _ (by omega) (by omega) F.s
          have hkN : k = 3 := by omega
          subst hkN
          refine j_kd (f := fun i => some (e + 30 + 1 + i)) F.2.1 (show 14 ≤ 17 by decide) (fun j hj => (if_pos (show j < 3 from hj)).symm) ?_
          refine j_widen (kc2 := 41) (ks2 := 560) (by omega) (by omega) ?_
          refine j_shn (fun sh4 hsh4 => ?_)
          refine j_mn (fun g4 hg4 => ?_)
          have A4 : sh4.2 = some (e + 34) := by rw [hsh4]; exact F.1
          have K4 : sh4.1 e = some (kdR (kdR (kdR (kdR (kdR (1, 0, kN) 13 (some (e + 1))) 14 (some (e + 2))) 15 (some (e + 8))) 16 (some (e + 25))) 17 (some (e + 30))) := by rw [hsh4, shP_o (by omega)]; exact hKe
          have R4 : sh4.1 (e + 30) = some (17, 3, fun i => some (e + 30 + 1 + i)) := by rw [hsh4]; exact shP_s
          have P4 : ∀ a, a < e + 30 → (a ≠ e → sh4.1 a = sh3.1 a) ∧ g4 a = g3 a := fun a ha => ⟨fun h => by rw [hsh4, shP_o (by omega), (F.2.2.1 a ha).1, shP_o h], by rw [hg4]; exact (F.2.2.1 a ha).2⟩
          have O4 : ∀ i, i < 3 → sh4.1 (e + 30 + 1 + i) = some (4, 0, kN) ∧ g4 (e + 30 + 1 + i) 0 = (i : Int) := fun i hi => ⟨by rw [hsh4, shP_o (by omega)]; exact (F.2.2.2 i hi).1, by rw [hg4]; exact (F.2.2.2 i hi).2⟩
          clear ih_ F hKe
          refine j_aload_n 170 1 dX1_init_169 rfl rfl ?_
          refine j_bipush 172 dX1_init_170 rfl (by decide) ?_
          refine j_newq 175 (N := 40) (k := 18) (C9 := RX0) (kc2 := 40) (ks2 := 520) dX1_init_172 rfl rfl (by decide) cl_X1_45 (by decide) ⟨by decide, fun _ => rfl⟩ A4 ⟨Nat.le_of_ble_eq_true rfl, Nat.le_of_ble_eq_true rfl⟩ ?_
          refine j_putr 178 dX1_init_175 rfl fl_X1_47 (shN_o (by omega) |>.trans K4) rfl (Or.inr ⟨rfl, rfl, rfl⟩) (Or.inr ⟨_, rfl⟩) ?_
          refine j_iconst 179 dX1_init_178 rfl ?_
          refine j_istore_n 180 (L2 := [(1, .int (i32 0)), (0, .ref e)]) dX1_init_179 rfl rfl (Nat.le_of_ble_eq_true rfl) rfl ?_
          suffices lp_180 : ∀ (n_ k : Nat) (shk : Shp) (gk : Mem), 40 - k < n_ → k ≤ 40 → FL1 0 (e + 34) (shP sh4 e (kdR (kdR (kdR (kdR (kdR (kdR (1, 0, kN) 13 (some (e + 1))) 14 (some (e + 2))) 15 (some (e + 8))) 16 (some (e + 25))) 17 (some (e + 30))) 18 (some (e + 34)))) g4 18 40 shk gk k → J w mX1_init 180 [(1, .int (i32 (k : Int))), (0, .ref e)] [] shk gk (0 + 1 * (40 - k)) (0 + 13 * (40 - k)) _ by
            refine j_widen (kc2 := 0 + 1 * (40 - 0)) (ks2 := 0 + 13 * (40 - 0)) (by omega) (by omega) ?_
            exact lp_180 _ 0 _ _ (Nat.lt_succ_self _) (by omega) (FL1.z2 (by omega))
          intro n_
          induction n_ with
          | zero => intro k shk gk h_; exact absurd h_ (Nat.not_lt_zero _)
          | succ n_ ih_ =>
            intro k shk gk hn_ hk F
            have hKe : shk.1 e = some (kdR (kdR (kdR (kdR (kdR (kdR (1, 0, kN) 13 (some (e + 1))) 14 (some (e + 2))) 15 (some (e + 8))) 16 (some (e + 25))) 17 (some (e + 30))) 18 (some (e + 34))) := (F.2.2.1 e (by omega)).1.trans shP_s
            refine j_iload_n 181 0 dX1_init_180 rfl rfl ?_
            refine j_aload_n 182 1 dX1_init_181 rfl rfl ?_
            refine j_getr 185 dX1_init_182 rfl fl_X1_47 hKe rfl (fun _ _ => rfl) rfl ?_
            refine j_alen 186 dX1_init_185 rfl F.2.1 (Nat.le_of_ble_eq_true rfl) rfl ?_
            refine j_top (y := 40) rfl ?_
            refine j_icmp_ge 189 209 dX1_init_186 rfl rfl (r32 (by omega) (by omega)) (r32 (by decide) (by decide)) (fun c_ => ?_) (fun c_ => ?_)
            rotate_left
            · refine j_aload_n 190 1 dX1_init_189 rfl rfl ?_
              refine j_getr 193 dX1_init_190 rfl fl_X1_47 hKe rfl (fun _ _ => rfl) rfl ?_
              refine j_iload_n 194 0 dX1_init_193 rfl rfl ?_
              refine j_new 197 (ci := 0) (kc2 := 0 + 1 * (40 - k) - 1) (ks2 := 0 + 13 * (40 - k) - 13) dX1_init_194 rfl (by decide) cl_X1_45 ni_0.1 ni_0.2 dv_0 F.1 ⟨by omega, (show _ + 13 ≤ _ by omega)⟩ ?_
              refine j_dup 198 dX1_init_197 rfl rfl ?_
              refine j_iload_n 199 0 dX1_init_198 rfl rfl ?_
              refine j_callI 202 (As := [.int (i32 (k : Int))]) (kc2 := 0 + 1 * (40 - (k + 1))) (ks2 := 0 + 13 * (40 - (k + 1))) dX1_init_199 rfl miX0_init lk_X1_51 rfl rfl rfl (Nat.le_of_ble_eq_true rfl) ⟨Nat.le_of_ble_eq_true rfl, Nat.le_of_ble_eq_true rfl⟩ ⟨(show 0 + _ ≤ _ by omega), (show 0 + _ ≤ _ by omega)⟩ (n_X0 shN_s (r32 (by omega) (by omega))) x_d (k_d0 ?_)
              refine j_aast 203 k (ci := 0) dX1_init_202 rfl (shN_o (by omega) |>.trans F.2.1) ⟨by decide, fun _ => rfl⟩ rfl (by omega) (by decide) shN_s rfl (by decide) ?_
              refine j_iinc 206 0 (y := ((k + 1 : Nat) : Int)) (L2 := [(1, .int (i32 ((k + 1 : Nat) : Int))), (0, .ref e)]) dX1_init_203 rfl rfl (by omega) (Nat.le_of_ble_eq_true rfl) rfl ?_
              refine j_goto 180 dX1_init_206 rfl ?_
              exact ih_ (k + 1) _ _ (by omega) (by omega) F.s
            have hkN : k = 40 := by omega
            subst hkN
            refine j_kd (f := fun i => some (e + 34 + 1 + i)) F.2.1 (show 14 ≤ 18 by decide) (fun j hj => (if_pos (show j < 40 from hj)).symm) ?_
            refine j_widen (kc2 := 0) (ks2 := 0) (by omega) (by omega) ?_
            refine j_shn (fun sh5 hsh5 => ?_)
            refine j_mn (fun g5 hg5 => ?_)
            have A5 : sh5.2 = some (e + 75) := by rw [hsh5]; exact F.1
            have K5 : sh5.1 e = some (kdR (kdR (kdR (kdR (kdR (kdR (1, 0, kN) 13 (some (e + 1))) 14 (some (e + 2))) 15 (some (e + 8))) 16 (some (e + 25))) 17 (some (e + 30))) 18 (some (e + 34))) := by rw [hsh5, shP_o (by omega)]; exact hKe
            have R5 : sh5.1 (e + 34) = some (18, 40, fun i => some (e + 34 + 1 + i)) := by rw [hsh5]; exact shP_s
            have P5 : ∀ a, a < e + 34 → (a ≠ e → sh5.1 a = sh4.1 a) ∧ g5 a = g4 a := fun a ha => ⟨fun h => by rw [hsh5, shP_o (by omega), (F.2.2.1 a ha).1, shP_o h], by rw [hg5]; exact (F.2.2.1 a ha).2⟩
            have O5 : ∀ i, i < 40 → sh5.1 (e + 34 + 1 + i) = some (0, 0, kN) ∧ g5 (e + 34 + 1 + i) 0 = (i : Int) := fun i hi => ⟨by rw [hsh5, shP_o (by omega)]; exact (F.2.2.2 i hi).1, by rw [hg5]; exact (F.2.2.2 i hi).2⟩
            clear ih_ F hKe
            have Z4 : ∀ a, a < e + 34 → (a ≠ e → sh5.1 a = sh4.1 a) ∧ g5 a = g4 a := P5
            have Z3 : ∀ a, a < e + 30 → (a ≠ e → sh5.1 a = sh3.1 a) ∧ g5 a = g3 a := fun a ha => ⟨fun h => ((Z4 a (by omega)).1 h).trans ((P4 a ha).1 h), (Z4 a (by omega)).2.trans (P4 a ha).2⟩
            have Z2 : ∀ a, a < e + 25 → (a ≠ e → sh5.1 a = sh2.1 a) ∧ g5 a = g2 a := fun a ha => ⟨fun h => ((Z3 a (by omega)).1 h).trans ((P3 a ha).1 h), (Z3 a (by omega)).2.trans (P3 a ha).2⟩
            have Z1 : ∀ a, a < e + 8 → (a ≠ e → sh5.1 a = sh1.1 a) ∧ g5 a = g1 a := fun a ha => ⟨fun h => ((Z2 a (by omega)).1 h).trans ((P2 a ha).1 h), (Z2 a (by omega)).2.trans (P2 a ha).2⟩
            have Z0 : ∀ a, a < e + 2 → (a ≠ e → sh5.1 a = sh0.1 a) ∧ g5 a = g0 a := fun a ha => ⟨fun h => ((Z1 a (by omega)).1 h).trans ((P1 a ha).1 h), (Z1 a (by omega)).2.trans (P1 a ha).2⟩
            have hE : ExS sh5.1 e := by
              refine ⟨by rw [K5, kEx_put], by rw [(Z0 _ (by omega)).1 (by omega)]; exact N0, by rw [(Z1 _ (by omega)).1 (by omega)]; exact R1, fun i hi => by rw [(Z1 _ (by omega)).1 (by omega)]; exact (O1 i hi).1, by rw [(Z2 _ (by omega)).1 (by omega)]; exact R2, fun i hi => by rw [(Z2 _ (by omega)).1 (by omega)]; exact (O2 i hi).1, fun i hi => by rw [(Z2 _ (by omega)).1 (by omega)]; exact (O2 i hi).2.1, by rw [(Z3 _ (by omega)).1 (by omega)]; exact R3, fun i hi => by rw [(Z3 _ (by omega)).1 (by omega)]; exact (O3 i hi).1, by rw [(Z4 _ (by omega)).1 (by omega)]; exact R4, fun i hi => by rw [(Z4 _ (by omega)).1 (by omega)]; exact (O4 i hi).1, R5, fun i hi => (O5 i hi).1⟩
            have hI : ExI g5 e := by
              exact ⟨fun i hi => by rw [(Z1 _ (by omega)).2]; exact (O1 i hi).2, fun i hi => by rw [(Z2 _ (by omega)).2]; exact (O2 i hi).2.2, fun i hi => by rw [(Z3 _ (by omega)).2]; exact (O3 i hi).2, fun i hi => by rw [(Z4 _ (by omega)).2]; exact (O4 i hi).2, fun i hi => (O5 i hi).2⟩
            refine j_aload_n 210 1 dX1_init_209 rfl rfl ?_
            refine j_callV 213 (As := []) (kc2 := 0) (ks2 := 0) dX1_init_210 rfl mvX1_clear lk_X1_52 hE.ex rfl ⟨Nat.le_of_ble_eq_true rfl, rfl⟩ rfl rfl (Nat.le_of_ble_eq_true rfl) ⟨Nat.le_of_ble_eq_true rfl, Nat.le_of_ble_eq_true rfl⟩ ⟨Nat.le_of_ble_eq_true rfl, Nat.le_of_ble_eq_true rfl⟩ (c_clear hE hI) x_v (k_v fun g6 h6 => ?_)
            obtain ⟨c1, c2, c3, c4⟩ := h6
            exact j_vret dX1_init_213 rfl ⟨rfl, A5, hE, c1, c3, c4, fun a ha => ⟨((Z0 a (by omega)).1 (by omega)).trans (G0 a ha).1, (c2 a (by omega)).trans ((Z0 a (by omega)).2.trans (G0 a ha).2)⟩⟩
