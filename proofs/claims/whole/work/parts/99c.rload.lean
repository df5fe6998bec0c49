/-! the reference: a new row, and load -/
theorem lay_row {r m : Int} : ud (ud (ud (ud (ud (ud (ud (ud (ud (ud (ud (ud (fun _ => 0) 0 r) 1 m) 19 40) 20 5) 21 2) 151 (-1)) 154 (-1)) 157 (-1)) 160 (-1)) 163 (-1)) 165 (-1)) 167 (-1) = row0 r m := by
  funext j
  by_cases h0 : j = 0
  · subst h0; rfl
  by_cases h1 : j = 1
  · subst h1; rfl
  by_cases h2 : j = 19
  · subst h2; rfl
  by_cases h3 : j = 20
  · subst h3; rfl
  by_cases h4 : j = 21
  · subst h4; rfl
  by_cases h5 : j = 151
  · subst h5; rfl
  by_cases h6 : j = 154
  · subst h6; rfl
  by_cases h7 : j = 157
  · subst h7; rfl
  by_cases h8 : j = 160
  · subst h8; rfl
  by_cases h9 : j = 163
  · subst h9; rfl
  by_cases h10 : j = 165
  · subst h10; rfl
  by_cases h11 : j = 167
  · subst h11; rfl
  rw [ud_n h11, ud_n h10, ud_n h9, ud_n h8, ud_n h7, ud_n h6, ud_n h5, ud_n h4, ud_n h3, ud_n h2, ud_n h1, ud_n h0]
  unfold row0
  rw [if_neg h0, if_neg h1, if_neg h2, if_neg h3, if_neg h4, if_neg (by omega)]

set_option maxRecDepth 20000 in
theorem rp_lay {w : Wd} {sh : Shp} {g : Mem} {a : Nat} (ha : sh.1 a = some (10, 729, kN)) {r m : Int} (hr : R32 r) (hm : R32 m) : CT w mX10_layExchange [.ref (a), .int (i32 (r)), .int (i32 (m))] sh g (dQ none sh (upR g a (row0 r m))) := by
  refine j_entry (by decide) rfl (Nat.le_of_ble_eq_true rfl) (fun h => by cases h) rfl ?_
  show J w mX10_layExchange 0 [(0, .ref (a)), (1, .int (i32 (r))), (2, .int (i32 (m)))] [] sh g 0 0 _
  refine j_mem (upR_id (a := a)).symm ?_
  refine j_iconst 1 dX10_layExchange_0 rfl ?_
  refine j_istore_n 2 (L2 := [(3, .int (i32 (0))), (0, .ref (a)), (1, .int (i32 (r))), (2, .int (i32 (m)))]) dX10_layExchange_1 rfl rfl (Nat.le_of_ble_eq_true rfl) rfl ?_
  suffices lp_2 : ∀ (n_2 : Nat) (k : Nat) (da : Nat → Int), 729 - k < n_2 → k ≤ 729 → (∀ j, j < k → da j = 0) → J w mX10_layExchange 2 [(3, .int (i32 ((k : Int)))), (0, .ref (a)), (1, .int (i32 (r))), (2, .int (i32 (m)))] [] sh (upR g (a) da) 0 0 (dQ none sh (upR g a (row0 r m))) by
    exact lp_2 _ 0 (g a) (Nat.lt_succ_self _) (by omega) (fun j hj => absurd hj (Nat.not_lt_zero j))
  intro n_2
  induction n_2 with
  | zero => intro k da h_; exact absurd h_ (Nat.not_lt_zero _)
  | succ n_2 ih_2 =>
    intro k da hn_2 hk hda
    refine j_iload_n 3 0 dX10_layExchange_2 rfl rfl ?_
    refine j_sipush 6 dX10_layExchange_3 rfl (by decide) ?_
    refine j_icmp_ge 9 19 dX10_layExchange_6 rfl rfl (r32 (by omega) (by omega)) (r32 (by decide) (by decide)) (fun c_6 => ?_) (fun c_6 => ?_)
    · refine j_row ha rfl (row := fun _ => 0) (fun j hj => by rw [upR_s]; exact (hda j (by have hj2 : j < 729 := hj; omega)).symm) (fun _ => ⟨by decide, by decide⟩) ?_
      refine j_mem upR_upR ?_
      refine j_aload_n 20 1 dX10_layExchange_19 rfl rfl ?_
      refine j_iconst 21 dX10_layExchange_20 rfl ?_
      refine j_iload_n 22 2 dX10_layExchange_21 rfl rfl ?_
      refine j_iast_d 23 0 dX10_layExchange_22 rfl ha rfl (by first | rfl | omega) (show 0 < 729 by omega) hr ?_
      refine j_aload_n 24 1 dX10_layExchange_23 rfl rfl ?_
      refine j_iconst 25 dX10_layExchange_24 rfl ?_
      refine j_iload_n 26 3 dX10_layExchange_25 rfl rfl ?_
      refine j_iast_d 27 1 dX10_layExchange_26 rfl ha rfl (by first | rfl | omega) (show 1 < 729 by omega) hm ?_
      refine j_aload_n 28 1 dX10_layExchange_27 rfl rfl ?_
      refine j_bipush 30 dX10_layExchange_28 rfl (by decide) ?_
      refine j_bipush 32 dX10_layExchange_30 rfl (by decide) ?_
      refine j_iast_d 33 19 dX10_layExchange_32 rfl ha rfl (by first | rfl | omega) (show 19 < 729 by omega) (r32 (by decide) (by decide)) ?_
      refine j_aload_n 34 1 dX10_layExchange_33 rfl rfl ?_
      refine j_bipush 36 dX10_layExchange_34 rfl (by decide) ?_
      refine j_iconst 37 dX10_layExchange_36 rfl ?_
      refine j_iast_d 38 20 dX10_layExchange_37 rfl ha rfl (by first | rfl | omega) (show 20 < 729 by omega) (r32 (by decide) (by decide)) ?_
      refine j_aload_n 39 1 dX10_layExchange_38 rfl rfl ?_
      refine j_bipush 41 dX10_layExchange_39 rfl (by decide) ?_
      refine j_iconst 42 dX10_layExchange_41 rfl ?_
      refine j_iast_d 43 21 dX10_layExchange_42 rfl ha rfl (by first | rfl | omega) (show 21 < 729 by omega) (r32 (by decide) (by decide)) ?_
      refine j_iconst 44 dX10_layExchange_43 rfl ?_
      refine j_istore_n 45 (L2 := [(3, .int (i32 (0))), (0, .ref (a)), (1, .int (i32 (r))), (2, .int (i32 (m)))]) dX10_layExchange_44 rfl rfl (Nat.le_of_ble_eq_true rfl) rfl ?_
      refine j_iload_n 46 0 dX10_layExchange_45 rfl rfl ?_
      refine j_iconst 47 dX10_layExchange_46 rfl ?_
      refine j_icmp_ge 50 68 dX10_layExchange_47 rfl rfl (r32 (by decide) (by decide)) (r32 (by decide) (by decide)) (fun c => absurd c (by decide)) (fun _ => ?_)
      refine j_aload_n 51 1 dX10_layExchange_50 rfl rfl ?_
      refine j_sipush 54 dX10_layExchange_51 rfl (by decide) ?_
      refine j_iconst 55 dX10_layExchange_54 rfl ?_
      refine j_iload_n 56 0 dX10_layExchange_55 rfl rfl ?_
      refine j_imul 57 dX10_layExchange_56 rfl ?_
      refine j_iadd 58 dX10_layExchange_57 rfl ?_
      refine j_iconst 59 dX10_layExchange_58 rfl ?_
      refine j_iadd 60 dX10_layExchange_59 rfl ?_
      refine j_iconst 61 dX10_layExchange_60 rfl ?_
      refine j_iast_d 62 151 dX10_layExchange_61 rfl ha rfl (by first | rfl | omega) (show 151 < 729 by omega) (r32 (by decide) (by decide)) ?_
      refine j_iinc 65 0 (y := 1) (L2 := [(3, .int (i32 (1))), (0, .ref (a)), (1, .int (i32 (r))), (2, .int (i32 (m)))]) dX10_layExchange_62 rfl rfl (by omega) (Nat.le_of_ble_eq_true rfl) rfl ?_
      refine j_goto 45 dX10_layExchange_65 rfl ?_
      refine j_iload_n 46 0 dX10_layExchange_45 rfl rfl ?_
      refine j_iconst 47 dX10_layExchange_46 rfl ?_
      refine j_icmp_ge 50 68 dX10_layExchange_47 rfl rfl (r32 (by decide) (by decide)) (r32 (by decide) (by decide)) (fun c => absurd c (by decide)) (fun _ => ?_)
      refine j_aload_n 51 1 dX10_layExchange_50 rfl rfl ?_
      refine j_sipush 54 dX10_layExchange_51 rfl (by decide) ?_
      refine j_iconst 55 dX10_layExchange_54 rfl ?_
      refine j_iload_n 56 0 dX10_layExchange_55 rfl rfl ?_
      refine j_imul 57 dX10_layExchange_56 rfl ?_
      refine j_iadd 58 dX10_layExchange_57 rfl ?_
      refine j_iconst 59 dX10_layExchange_58 rfl ?_
      refine j_iadd 60 dX10_layExchange_59 rfl ?_
      refine j_iconst 61 dX10_layExchange_60 rfl ?_
      refine j_iast_d 62 154 dX10_layExchange_61 rfl ha rfl (by first | rfl | omega) (show 154 < 729 by omega) (r32 (by decide) (by decide)) ?_
      refine j_iinc 65 0 (y := 2) (L2 := [(3, .int (i32 (2))), (0, .ref (a)), (1, .int (i32 (r))), (2, .int (i32 (m)))]) dX10_layExchange_62 rfl rfl (by omega) (Nat.le_of_ble_eq_true rfl) rfl ?_
      refine j_goto 45 dX10_layExchange_65 rfl ?_
      refine j_iload_n 46 0 dX10_layExchange_45 rfl rfl ?_
      refine j_iconst 47 dX10_layExchange_46 rfl ?_
      refine j_icmp_ge 50 68 dX10_layExchange_47 rfl rfl (r32 (by decide) (by decide)) (r32 (by decide) (by decide)) (fun c => absurd c (by decide)) (fun _ => ?_)
      refine j_aload_n 51 1 dX10_layExchange_50 rfl rfl ?_
      refine j_sipush 54 dX10_layExchange_51 rfl (by decide) ?_
      refine j_iconst 55 dX10_layExchange_54 rfl ?_
      refine j_iload_n 56 0 dX10_layExchange_55 rfl rfl ?_
      refine j_imul 57 dX10_layExchange_56 rfl ?_
      refine j_iadd 58 dX10_layExchange_57 rfl ?_
      refine j_iconst 59 dX10_layExchange_58 rfl ?_
      refine j_iadd 60 dX10_layExchange_59 rfl ?_
      refine j_iconst 61 dX10_layExchange_60 rfl ?_
      refine j_iast_d 62 157 dX10_layExchange_61 rfl ha rfl (by first | rfl | omega) (show 157 < 729 by omega) (r32 (by decide) (by decide)) ?_
      refine j_iinc 65 0 (y := 3) (L2 := [(3, .int (i32 (3))), (0, .ref (a)), (1, .int (i32 (r))), (2, .int (i32 (m)))]) dX10_layExchange_62 rfl rfl (by omega) (Nat.le_of_ble_eq_true rfl) rfl ?_
      refine j_goto 45 dX10_layExchange_65 rfl ?_
      refine j_iload_n 46 0 dX10_layExchange_45 rfl rfl ?_
      refine j_iconst 47 dX10_layExchange_46 rfl ?_
      refine j_icmp_ge 50 68 dX10_layExchange_47 rfl rfl (r32 (by decide) (by decide)) (r32 (by decide) (by decide)) (fun c => absurd c (by decide)) (fun _ => ?_)
      refine j_aload_n 51 1 dX10_layExchange_50 rfl rfl ?_
      refine j_sipush 54 dX10_layExchange_51 rfl (by decide) ?_
      refine j_iconst 55 dX10_layExchange_54 rfl ?_
      refine j_iload_n 56 0 dX10_layExchange_55 rfl rfl ?_
      refine j_imul 57 dX10_layExchange_56 rfl ?_
      refine j_iadd 58 dX10_layExchange_57 rfl ?_
      refine j_iconst 59 dX10_layExchange_58 rfl ?_
      refine j_iadd 60 dX10_layExchange_59 rfl ?_
      refine j_iconst 61 dX10_layExchange_60 rfl ?_
      refine j_iast_d 62 160 dX10_layExchange_61 rfl ha rfl (by first | rfl | omega) (show 160 < 729 by omega) (r32 (by decide) (by decide)) ?_
      refine j_iinc 65 0 (y := 4) (L2 := [(3, .int (i32 (4))), (0, .ref (a)), (1, .int (i32 (r))), (2, .int (i32 (m)))]) dX10_layExchange_62 rfl rfl (by omega) (Nat.le_of_ble_eq_true rfl) rfl ?_
      refine j_goto 45 dX10_layExchange_65 rfl ?_
      refine j_iload_n 46 0 dX10_layExchange_45 rfl rfl ?_
      refine j_iconst 47 dX10_layExchange_46 rfl ?_
      refine j_icmp_ge 50 68 dX10_layExchange_47 rfl rfl (r32 (by decide) (by decide)) (r32 (by decide) (by decide)) (fun _ => ?_) (fun c => absurd c (by decide))
      refine j_iconst 69 dX10_layExchange_68 rfl ?_
      refine j_istore_n 70 (L2 := [(3, .int (i32 (0))), (0, .ref (a)), (1, .int (i32 (r))), (2, .int (i32 (m)))]) dX10_layExchange_69 rfl rfl (Nat.le_of_ble_eq_true rfl) rfl ?_
      refine j_iload_n 71 0 dX10_layExchange_70 rfl rfl ?_
      refine j_iconst 72 dX10_layExchange_71 rfl ?_
      refine j_icmp_ge 75 93 dX10_layExchange_72 rfl rfl (r32 (by decide) (by decide)) (r32 (by decide) (by decide)) (fun c => absurd c (by decide)) (fun _ => ?_)
      refine j_aload_n 76 1 dX10_layExchange_75 rfl rfl ?_
      refine j_sipush 79 dX10_layExchange_76 rfl (by decide) ?_
      refine j_iconst 80 dX10_layExchange_79 rfl ?_
      refine j_iload_n 81 0 dX10_layExchange_80 rfl rfl ?_
      refine j_imul 82 dX10_layExchange_81 rfl ?_
      refine j_iadd 83 dX10_layExchange_82 rfl ?_
      refine j_iconst 84 dX10_layExchange_83 rfl ?_
      refine j_iadd 85 dX10_layExchange_84 rfl ?_
      refine j_iconst 86 dX10_layExchange_85 rfl ?_
      refine j_iast_d 87 163 dX10_layExchange_86 rfl ha rfl (by first | rfl | omega) (show 163 < 729 by omega) (r32 (by decide) (by decide)) ?_
      refine j_iinc 90 0 (y := 1) (L2 := [(3, .int (i32 (1))), (0, .ref (a)), (1, .int (i32 (r))), (2, .int (i32 (m)))]) dX10_layExchange_87 rfl rfl (by omega) (Nat.le_of_ble_eq_true rfl) rfl ?_
      refine j_goto 70 dX10_layExchange_90 rfl ?_
      refine j_iload_n 71 0 dX10_layExchange_70 rfl rfl ?_
      refine j_iconst 72 dX10_layExchange_71 rfl ?_
      refine j_icmp_ge 75 93 dX10_layExchange_72 rfl rfl (r32 (by decide) (by decide)) (r32 (by decide) (by decide)) (fun c => absurd c (by decide)) (fun _ => ?_)
      refine j_aload_n 76 1 dX10_layExchange_75 rfl rfl ?_
      refine j_sipush 79 dX10_layExchange_76 rfl (by decide) ?_
      refine j_iconst 80 dX10_layExchange_79 rfl ?_
      refine j_iload_n 81 0 dX10_layExchange_80 rfl rfl ?_
      refine j_imul 82 dX10_layExchange_81 rfl ?_
      refine j_iadd 83 dX10_layExchange_82 rfl ?_
      refine j_iconst 84 dX10_layExchange_83 rfl ?_
      refine j_iadd 85 dX10_layExchange_84 rfl ?_
      refine j_iconst 86 dX10_layExchange_85 rfl ?_
      refine j_iast_d 87 165 dX10_layExchange_86 rfl ha rfl (by first | rfl | omega) (show 165 < 729 by omega) (r32 (by decide) (by decide)) ?_
      refine j_iinc 90 0 (y := 2) (L2 := [(3, .int (i32 (2))), (0, .ref (a)), (1, .int (i32 (r))), (2, .int (i32 (m)))]) dX10_layExchange_87 rfl rfl (by omega) (Nat.le_of_ble_eq_true rfl) rfl ?_
      refine j_goto 70 dX10_layExchange_90 rfl ?_
      refine j_iload_n 71 0 dX10_layExchange_70 rfl rfl ?_
      refine j_iconst 72 dX10_layExchange_71 rfl ?_
      refine j_icmp_ge 75 93 dX10_layExchange_72 rfl rfl (r32 (by decide) (by decide)) (r32 (by decide) (by decide)) (fun c => absurd c (by decide)) (fun _ => ?_)
      refine j_aload_n 76 1 dX10_layExchange_75 rfl rfl ?_
      refine j_sipush 79 dX10_layExchange_76 rfl (by decide) ?_
      refine j_iconst 80 dX10_layExchange_79 rfl ?_
      refine j_iload_n 81 0 dX10_layExchange_80 rfl rfl ?_
      refine j_imul 82 dX10_layExchange_81 rfl ?_
      refine j_iadd 83 dX10_layExchange_82 rfl ?_
      refine j_iconst 84 dX10_layExchange_83 rfl ?_
      refine j_iadd 85 dX10_layExchange_84 rfl ?_
      refine j_iconst 86 dX10_layExchange_85 rfl ?_
      refine j_iast_d 87 167 dX10_layExchange_86 rfl ha rfl (by first | rfl | omega) (show 167 < 729 by omega) (r32 (by decide) (by decide)) ?_
      refine j_iinc 90 0 (y := 3) (L2 := [(3, .int (i32 (3))), (0, .ref (a)), (1, .int (i32 (r))), (2, .int (i32 (m)))]) dX10_layExchange_87 rfl rfl (by omega) (Nat.le_of_ble_eq_true rfl) rfl ?_
      refine j_goto 70 dX10_layExchange_90 rfl ?_
      refine j_iload_n 71 0 dX10_layExchange_70 rfl rfl ?_
      refine j_iconst 72 dX10_layExchange_71 rfl ?_
      refine j_icmp_ge 75 93 dX10_layExchange_72 rfl rfl (r32 (by decide) (by decide)) (r32 (by decide) (by decide)) (fun _ => ?_) (fun c => absurd c (by decide))
      exact j_vret dX10_layExchange_93 rfl (q_m (congrArg (upR g a) lay_row))
    · refine j_aload_n 10 1 dX10_layExchange_9 rfl rfl ?_
      refine j_iload_n 11 0 dX10_layExchange_10 rfl rfl ?_
      refine j_iconst 12 dX10_layExchange_11 rfl ?_
      refine j_iast_d 13 k dX10_layExchange_12 rfl ha rfl rfl (show k < 729 by omega) (r32 (by decide) (by decide)) ?_
      refine j_iinc 16 0 (y := ((k + 1 : Nat) : Int)) (L2 := [(3, .int (i32 (((k + 1 : Nat) : Int)))), (0, .ref (a)), (1, .int (i32 (r))), (2, .int (i32 (m)))]) dX10_layExchange_13 rfl rfl (by omega) (Nat.le_of_ble_eq_true rfl) rfl ?_
      refine j_goto 2 dX10_layExchange_16 rfl ?_
      exact ih_2 (k + 1) (ud da k (0)) (by omega) (by omega) (fun j hj => by by_cases z : j = k; subst z; exact ud_s; rw [ud_n z]; exact hda j (by omega))

theorem RE.ur {g : Mem} {m : Nat} {T : Tx} {e : PE} {d : Nat → Int} (h : RE g m T e) : RE (upR g (m + 3) d) m T e := by
  obtain ⟨h1, ⟨p, h2, h3⟩, h4, h5, h6⟩ := h
  exact ⟨⟨h1.1, by rw [upR_at (by omega)]; exact h1.2.1, fun k hk => by rw [upR_at (by omega)]; exact h1.2.2.1 k hk, h1.2.2.2⟩, ⟨p, by rw [upR_at (by omega)]; exact h2, h3⟩, by rw [upR_at (by omega)]; exact h4, by rw [upR_at (by omega)]; exact h5, h6⟩
/-- what the reference's load comes to -/
def LR (g : Mem) (m : Nat) (T : Tx) (hist : Nat → (Nat → Int)) (c : Nat) : Int → Mem → Prop := fun z g2 => (∀ a, a ≠ m → a ≠ m + 2 → a ≠ m + 3 → (a < m + 6 ∨ m + 14 ≤ a) → g2 a = g a) ∧ g2 m 0 = 0 ∧ g2 m 2 = 0 ∧ match P_load T with
  | .inl r => z = r.1 5 ∧ g2 m 7 = -1 ∧ g2 (m + 2) = r.1 ∧ HR g2 m (push (g (m + 2)) hist) (if c < 8 then c + 1 else 8)
  | .inr e => z = e.1 ∧ g2 m 7 = (e.2 : Int) ∧ g2 (m + 2) = g (m + 2) ∧ HR g2 m hist c

set_option linter.constructorNameAsVariable false in
set_option maxRecDepth 20000 in
theorem rp_load {w : Wd} {sh : Shp} {g : Mem} {m : Nat} (hM : MdS sh.1 m) {T : Tx} {c : Nat} {hist : Nat → (Nat → Int)} (hH : HR g m hist c) (hT7 : T.2 ≤ 700) (hf : (T.2 : Int) ≤ g m 2) (hbt : ∀ k, k < T.2 → g (m + 1) k = T.1 k) (hTb : ∀ k, 0 ≤ T.1 k ∧ T.1 k ≤ 255)  : CT w mX10_load [.ref (m), .int (i32 ((T.2 : Int)))] sh g (iQ sh (LR g m T hist c)) := by
  refine j_entry (by decide) rfl (Nat.le_of_ble_eq_true rfl) (fun h => by cases h) rfl ?_
  show J w mX10_load 0 [(0, .ref (m)), (1, .int (i32 ((T.2 : Int))))] [] sh g 0 0 _
  refine j_aload_n 1 0 dX10_load_0 rfl rfl ?_
  refine j_iconst 2 dX10_load_1 rfl ?_
  refine j_puti 5 dX10_load_2 rfl fl_X10_35 hM.md rfl rfl rfl (r32 (by decide) (by decide)) ?_
  refine j_mn (fun g_2 hg_2 => ?_)
  refine j_aload_n 6 0 dX10_load_5 rfl rfl ?_
  refine j_iload_n 7 1 dX10_load_6 rfl rfl ?_
  refine j_iconst 8 dX10_load_7 rfl ?_
  refine j_aload_n 9 0 dX10_load_8 rfl rfl ?_
  refine j_geti 12 dX10_load_9 rfl fl_X10_38 hM.md rfl rfl (fun r_9 => ?_)
  refine j_top (y := g m 2) ((by rw [hg_2, up2_k (by decide)])) ?_
  refine j_callS 15 (As := [.int (i32 ((T.2 : Int))), .int (i32 (0)), .int (i32 (g m 2))]) (kc2 := 0) (ks2 := 0) dX10_load_12 rfl msX10_in lk_X10_57 rfl rfl (Nat.le_of_ble_eq_true rfl) ⟨Nat.le_of_ble_eq_true rfl, Nat.le_of_ble_eq_true rfl⟩ ⟨Nat.le_of_ble_eq_true rfl, Nat.le_of_ble_eq_true rfl⟩ (r_in (r32 (by omega) (by omega)) (r32 (by decide) (by decide)) (by have h := r_9; rw [hg_2, up2_k (by decide)] at h; exact h)) x_d (k_d1 ?_)
  refine j_top (y := 1) (by rw [decide_eq_true (show 0 ≤ (T.2 : Int) ∧ (T.2 : Int) ≤ g m 2 by omega)]; rfl) ?_
  refine j_if_ne 18 22 dX10_load_15 rfl rfl (r32 (by decide) (by decide)) (fun c_15 => ?_) (fun c_15 => absurd c_15 (by decide))
  refine j_iconst 23 dX10_load_22 rfl ?_
  refine j_mem (upR_id (a := m + 2)).symm ?_
  refine j_iconst 24 dX10_load_23 rfl ?_
  refine j_callV 27 (As := [.int (i32 (0)), .int (i32 (1))]) (kc2 := 0) (ks2 := 0) dX10_load_24 rfl mvX10_fails lk_X10_176 hM.md rfl ⟨Nat.le_of_ble_eq_true rfl, rfl⟩ rfl rfl (Nat.le_of_ble_eq_true rfl) ⟨Nat.le_of_ble_eq_true rfl, Nat.le_of_ble_eq_true rfl⟩ ⟨Nat.le_of_ble_eq_true rfl, Nat.le_of_ble_eq_true rfl⟩ (r_fails0 hM 1 (by rw [hg_2]; exact up2_s)) x_d (k_d1 ?_)
  refine j_mem (upR_id (a := m + 2)) ?_
  refine j_if_eq 30 32 dX10_load_27 rfl rfl (r32 (by decide) (by decide)) (fun c_27 => ?_) (fun c_27 => absurd c_27 (by decide))
  refine j_aload_n 33 0 dX10_load_32 rfl rfl ?_
  refine j_iconst 34 dX10_load_33 rfl ?_
  refine j_puti 37 dX10_load_34 rfl fl_X10_38 hM.md rfl rfl rfl (r32 (by decide) (by decide)) ?_
  refine j_mn (fun g_34 hg_34 => ?_)
  refine j_aload_n 38 0 dX10_load_37 rfl rfl ?_
  refine j_iload_n 39 1 dX10_load_38 rfl rfl ?_
  refine j_puti 42 dX10_load_39 rfl fl_X10_41 hM.md rfl rfl rfl (r32 (by omega) (by omega)) ?_
  refine j_mn (fun g_39 hg_39 => ?_)
  refine j_aload_n 43 0 dX10_load_42 rfl rfl ?_
  refine j_iconst 44 dX10_load_43 rfl ?_
  refine j_puti 47 dX10_load_44 rfl fl_X10_44 hM.md rfl rfl rfl (r32 (by decide) (by decide)) ?_
  refine j_mn (fun g_44 hg_44 => ?_)
  refine j_aload_n 48 0 dX10_load_47 rfl rfl ?_
  refine j_iconst 49 dX10_load_48 rfl ?_
  refine j_puti 52 dX10_load_49 rfl fl_X10_51 hM.md rfl rfl rfl (r32 (by decide) (by decide)) ?_
  refine j_mn (fun g_49 hg_49 => ?_)
  refine j_aload_n 53 0 dX10_load_52 rfl rfl ?_
  refine j_iconst 54 dX10_load_53 rfl ?_
  refine j_puti 57 dX10_load_54 rfl fl_X10_54 hM.md rfl rfl rfl (r32 (by decide) (by decide)) ?_
  refine j_mn (fun g_54 hg_54 => ?_)
  refine j_aload_n 58 0 dX10_load_57 rfl rfl ?_
  refine j_iconst 59 dX10_load_58 rfl ?_
  refine j_puti 62 dX10_load_59 rfl fl_X10_136 hM.md rfl rfl rfl (r32 (by decide) (by decide)) ?_
  refine j_mn (fun g_59 hg_59 => ?_)
  have hrow : ∀ a, a ≠ m → g_59 a = g a := fun a ha => by rw [hg_59, up2_row ha, hg_54, up2_row ha, hg_49, up2_row ha, hg_44, up2_row ha, hg_39, up2_row ha, hg_34, up2_row ha, hg_2, up2_row ha]
  have hcel : g_59 m 0 = 0 ∧ g_59 m 2 = 0 ∧ g_59 m 3 = (T.2 : Int) ∧ g_59 m 4 = 0 ∧ g_59 m 5 = 0 ∧ g_59 m 6 = -1 ∧ g_59 m 14 = 0 ∧ g_59 m 12 = g m 12 := by rw [hg_59, hg_54, hg_49, hg_44, hg_39, hg_34, hg_2]; simp [up2]
  have S59 : RG g_59 m T 0 := ⟨⟨hT7, hcel.2.2.1, fun k hk => by rw [hrow _ (by omega)]; exact hbt k hk, hTb⟩, hcel.2.2.2.1, Nat.zero_le _, hcel.2.2.2.2.1, hcel.2.2.2.2.2.1⟩
  have hs0 := sk_le (T := T) (Nat.zero_le T.2)
  refine j_aload_n 63 0 dX10_load_62 rfl rfl ?_
  refine j_ldcS 65 (i := 0) dX10_load_63 rfl (tx := "exchange") (by decide) ?_
  refine j_callV 68 (As := [.ref (w.2.1 (100 + 0))]) (kc2 := 0) (ks2 := 0) dX10_load_65 rfl mvX10_takeWord lk_X10_141 hM.md rfl ⟨Nat.le_of_ble_eq_true rfl, rfl⟩ rfl rfl (Nat.le_of_ble_eq_true rfl) ⟨Nat.le_of_ble_eq_true rfl, Nat.le_of_ble_eq_true rfl⟩ ⟨Nat.le_of_ble_eq_true rfl, Nat.le_of_ble_eq_true rfl⟩ (rp_takeWord hM S59 (by decide)) x_d (k_d1 ?_)
  refine j_mn (fun g1 hg1 => ?_)
  have F1 : FM g_59 g1 m := by rw [hg1]; exact FM.rf.up (by decide)
  rcases (Bool.eq_false_or_eq_true (wdB T (sk T 0) 0)).symm with w0 | w0
  ·
    refine j_top (y := 0) (by rw [w0]; rfl) ?_
    have S1 : RG g1 m T (sk T 0) := by rw [hg1, show wdS T 0 0 = (sk T 0) from by unfold wdS; rw [w0]; rfl]; exact S59.mv hs0
    refine j_if_ne 71 81 dX10_load_68 rfl rfl (r32 (by decide) (by decide)) (fun c_68 => absurd rfl c_68) (fun c_68 => ?_)
    refine j_aload_n 72 0 dX10_load_71 rfl rfl ?_
    refine j_bipush 74 dX10_load_72 rfl (by decide) ?_
    refine j_aload_n 75 0 dX10_load_74 rfl rfl ?_
    refine j_geti 78 dX10_load_75 rfl fl_X10_44 hM.md rfl rfl (fun r_75 => ?_)
    refine j_top (y := (((sk T 0) : Nat) : Int)) (S1.2.1) ?_
    refine j_callV 81 (As := [.int (i32 (-2)), .int (i32 ((((sk T 0) : Nat) : Int)))]) (kc2 := 0) (ks2 := 0) dX10_load_78 rfl mvX10_report lk_X10_78 hM.md rfl ⟨Nat.le_of_ble_eq_true rfl, rfl⟩ rfl rfl (Nat.le_of_ble_eq_true rfl) ⟨Nat.le_of_ble_eq_true rfl, Nat.le_of_ble_eq_true rfl⟩ ⟨Nat.le_of_ble_eq_true rfl, Nat.le_of_ble_eq_true rfl⟩ (rp_report0 hM S1.2.2.2.1 (r32 (by decide) (by decide)) (r32 (by omega) (by omega))) x_d (k_d0 ?_)
    refine j_mn (fun g1 hg1 => ?_)
    have S1 : RE g1 m T ((-2), (sk T 0)) := by rw [hg1]; exact S1.err (by decide)
    have F1 : FM g_59 g1 m := by rw [hg1]; exact (F1.up (by decide)).up (by decide)
    refine j_aload_n 82 0 dX10_load_81 rfl rfl ?_
    refine j_iconst 83 dX10_load_82 rfl ?_
    refine j_iconst 84 dX10_load_83 rfl ?_
    refine j_callV 87 (As := [.int (i32 (1)), .int (i32 (4))]) (kc2 := 0) (ks2 := 0) dX10_load_84 rfl mvX10_number lk_X10_126 hM.md rfl ⟨Nat.le_of_ble_eq_true rfl, rfl⟩ rfl rfl (Nat.le_of_ble_eq_true rfl) ⟨Nat.le_of_ble_eq_true rfl, Nat.le_of_ble_eq_true rfl⟩ ⟨Nat.le_of_ble_eq_true rfl, Nat.le_of_ble_eq_true rfl⟩ (rp_numberX hM (r32 (by decide) (by decide)) (r32 (by decide) (by decide)) S1) x_i (k_i fun z_84 g_84 h_84 => ?_)
    obtain ⟨Fz2, hz2, S2⟩ := h_84
    have F2 := F1.tr Fz2
    refine j_top (y := 0) hz2 ?_
    refine j_istore_n 88 (L2 := [(2, .int (i32 (0))), (0, .ref (m)), (1, .int (i32 ((T.2 : Int))))]) dX10_load_87 rfl rfl (Nat.le_of_ble_eq_true rfl) rfl ?_
    refine j_aload_n 89 1 dX10_load_88 rfl rfl ?_
    refine j_iconst 90 dX10_load_89 rfl ?_
    refine j_iconst 91 dX10_load_90 rfl ?_
    refine j_callV 94 (As := [.int (i32 (1)), .int (i32 (3))]) (kc2 := 0) (ks2 := 0) dX10_load_91 rfl mvX10_number lk_X10_126 hM.md rfl ⟨Nat.le_of_ble_eq_true rfl, rfl⟩ rfl rfl (Nat.le_of_ble_eq_true rfl) ⟨Nat.le_of_ble_eq_true rfl, Nat.le_of_ble_eq_true rfl⟩ ⟨Nat.le_of_ble_eq_true rfl, Nat.le_of_ble_eq_true rfl⟩ (rp_numberX hM (r32 (by decide) (by decide)) (r32 (by decide) (by decide)) S2) x_i (k_i fun z_91 g_91 h_91 => ?_)
    obtain ⟨Fz3, hz3, S3⟩ := h_91
    have F3 := F2.tr Fz3
    refine j_top (y := 0) hz3 ?_
    refine j_istore_n 95 (L2 := [(3, .int (i32 (0))), (2, .int (i32 (0))), (0, .ref (m)), (1, .int (i32 ((T.2 : Int))))]) dX10_load_94 rfl rfl (Nat.le_of_ble_eq_true rfl) rfl ?_
    refine j_aload_n 96 2 dX10_load_95 rfl rfl ?_
    refine j_getr 99 dX10_load_96 rfl fl_X10_20 hM.md rfl (fun _ _ => rfl) rfl ?_
    refine j_iload_n 100 1 dX10_load_99 rfl rfl ?_
    refine j_iload_n 101 0 dX10_load_100 rfl rfl ?_
    refine j_callS 104 (As := [.ref (m + 3), .int (i32 (0)), .int (i32 (0))]) (kc2 := 0) (ks2 := 0) dX10_load_101 rfl msX10_layExchange lk_X10_31 rfl rfl (Nat.le_of_ble_eq_true rfl) ⟨Nat.le_of_ble_eq_true rfl, Nat.le_of_ble_eq_true rfl⟩ ⟨Nat.le_of_ble_eq_true rfl, Nat.le_of_ble_eq_true rfl⟩ (rp_lay hM.dra (r32 (by decide) (by decide)) (r32 (by decide) (by decide))) x_d (k_d0 ?_)
    refine j_aload_n 105 2 dX10_load_104 rfl rfl ?_
    refine j_bipush 107 dX10_load_105 rfl (by decide) ?_
    have SU := S3.ur (d := (row0 (0) (0)))
    refine j_callV 110 (As := [.int (i32 (59))]) (kc2 := 0) (ks2 := 0) dX10_load_107 rfl mvX10_expect lk_X10_173 hM.md rfl ⟨Nat.le_of_ble_eq_true rfl, rfl⟩ rfl rfl (Nat.le_of_ble_eq_true rfl) ⟨Nat.le_of_ble_eq_true rfl, Nat.le_of_ble_eq_true rfl⟩ ⟨Nat.le_of_ble_eq_true rfl, Nat.le_of_ble_eq_true rfl⟩ (rp_expect hM (st := (.inr ((-2), (sk T 0)))) SU) x_v (k_v fun g_107 h_107 => ?_)
    obtain ⟨FE, SE⟩ := h_107
    have SE : RE g_107 m T ((-2), (sk T 0)) := SE
    have FX : FD g_59 g_107 m := (FD.ur (d := (row0 (0) (0))) F3.fd).tr FE.fd
    have hres : P_load T = .inr ((-2), (sk T 0)) := by unfold P_load; rw [if_neg (show ¬ wdB T (sk T 0) 0 = true by rw [w0]; decide)]
    refine j_aload_n 111 2 dX10_load_110 rfl rfl ?_
    refine j_callV 114 (As := []) (kc2 := 0) (ks2 := 0) dX10_load_111 rfl mvX10_isGood lk_X10_61 hM.md rfl ⟨Nat.le_of_ble_eq_true rfl, rfl⟩ rfl rfl (Nat.le_of_ble_eq_true rfl) ⟨Nat.le_of_ble_eq_true rfl, Nat.le_of_ble_eq_true rfl⟩ ⟨Nat.le_of_ble_eq_true rfl, Nat.le_of_ble_eq_true rfl⟩ (rp_isGood hM) x_d (k_d1 ?_)
    refine j_top (y := 0) (by rw [decide_eq_false (by have h1 := SE.2.2.1; have h2 := SE.2.2.2.2; (try dsimp only at h1 h2); omega)]; rfl) ?_
    refine j_if_eq 117 132 dX10_load_114 rfl rfl (r32 (by decide) (by decide)) (fun c_114 => ?_) (fun c_114 => absurd c_114 (by decide))
    refine j_aload_n 133 2 dX10_load_132 rfl rfl ?_
    refine j_aload_n 134 2 dX10_load_133 rfl rfl ?_
    refine j_geti 137 dX10_load_134 rfl fl_X10_54 hM.md rfl rfl (fun r_134 => ?_)
    refine j_top (y := ((((-2), (sk T 0)).2 : Nat) : Int)) (SE.2.2.2.1) ?_
    refine j_puti 140 dX10_load_137 rfl fl_X10_13 hM.md rfl rfl rfl (by rw [← SE.2.2.2.1]; exact r_134) ?_
    refine j_mn (fun g_137 hg_137 => ?_)
    have FR : ∀ a, a ≠ m → a ≠ m + 3 → g_137 a = g a := fun a h1 h2 => by rw [hg_137, up2_row h1, FX.1 a h1 h2]; exact hrow a h1
    have FC : g_137 m 0 = 0 ∧ g_137 m 2 = 0 ∧ g_137 m 12 = g m 12 := by rw [hg_137, up2_k (by decide), up2_k (by decide), up2_k (by decide), FX.2 0 (by decide), FX.2 2 (by decide), FX.2 12 (by decide)]; exact ⟨hcel.1, hcel.2.1, hcel.2.2.2.2.2.2.2⟩
    have S137 : RE g_137 m T ((-2), (sk T 0)) := by rw [hg_137]; exact SE.up (by decide)
    have H137 : HR g_137 m hist c := hH.same FC.2.2 (fun a h1 h2 => FR a (by omega) (by omega))
    refine j_aload_n 141 2 dX10_load_140 rfl rfl ?_
    refine j_callV 144 (As := []) (kc2 := 0) (ks2 := 0) dX10_load_141 rfl mvX10_isGood lk_X10_61 hM.md rfl ⟨Nat.le_of_ble_eq_true rfl, rfl⟩ rfl rfl (Nat.le_of_ble_eq_true rfl) ⟨Nat.le_of_ble_eq_true rfl, Nat.le_of_ble_eq_true rfl⟩ ⟨Nat.le_of_ble_eq_true rfl, Nat.le_of_ble_eq_true rfl⟩ (rp_isGood hM) x_d (k_d1 ?_)
    refine j_top (y := 0) (by rw [decide_eq_false (by have h1 := S137.2.2.1; have h2 := S137.2.2.2.2; (try dsimp only at h1 h2); omega)]; rfl) ?_
    refine j_if_ne 147 152 dX10_load_144 rfl rfl (r32 (by decide) (by decide)) (fun c_144 => absurd c_144 (by decide)) (fun c_144 => ?_)
    refine j_aload_n 148 2 dX10_load_147 rfl rfl ?_
    refine j_geti 151 dX10_load_148 rfl fl_X10_51 hM.md rfl rfl (fun r_148 => ?_)
    exact j_iret dX10_load_151 rfl (⟨_, rfl, rfl, fun a h1 h2 h3 h4 => FR a h1 h3, FC.1, FC.2.1, by
          rw [hres]
          exact ⟨S137.2.2.1, by rw [hg_137]; exact up2_s, FR _ (by omega) (by omega), H137⟩⟩)
  ·
    refine j_top (y := 1) (by rw [w0]; rfl) ?_
    have hle := wd_end (i := 0) (by decide) w0 hs0
    have S1 : RG g1 m T ((sk T 0) + 8) := by rw [hg1, show wdS T 0 0 = (sk T 0) + 8 from by unfold wdS; rw [w0]; rfl]; exact S59.mv hle
    refine j_if_ne 71 81 dX10_load_68 rfl rfl (r32 (by decide) (by decide)) (fun c_68 => ?_) (fun c_68 => absurd c_68 (by decide))
    refine j_aload_n 82 0 dX10_load_81 rfl rfl ?_
    refine j_iconst 83 dX10_load_82 rfl ?_
    refine j_iconst 84 dX10_load_83 rfl ?_
    refine j_callV 87 (As := [.int (i32 (1)), .int (i32 (4))]) (kc2 := 0) (ks2 := 0) dX10_load_84 rfl mvX10_number lk_X10_126 hM.md rfl ⟨Nat.le_of_ble_eq_true rfl, rfl⟩ rfl rfl (Nat.le_of_ble_eq_true rfl) ⟨Nat.le_of_ble_eq_true rfl, Nat.le_of_ble_eq_true rfl⟩ ⟨Nat.le_of_ble_eq_true rfl, Nat.le_of_ble_eq_true rfl⟩ (rp_number hM (by first | decide | omega) (by first | decide | omega) (by first | decide | omega) (by first | decide | omega) (st := (.inl ((sk T 0) + 8))) S1) x_i (k_i fun z_84 g_84 h_84 => ?_)
    obtain ⟨Fz4, hz4, S4⟩ := h_84
    have F4 := F1.tr Fz4
    have hdl4 : (sk T ((sk T 0) + 8)) + dn T (sk T ((sk T 0) + 8)) ≤ T.2 := rn_le hD (sk_le S1.2.2.1)
    rcases numC T (sk T ((sk T 0) + 8)) (1) (4) with hA | hA | hA
    ·
      rw [numS_1 hA] at hz4 S4
      refine j_top (y := nv T (sk T ((sk T 0) + 8))) hz4 ?_
      refine j_istore_n 88 (L2 := [(2, .int (i32 (nv T (sk T ((sk T 0) + 8))))), (0, .ref (m)), (1, .int (i32 ((T.2 : Int))))]) dX10_load_87 rfl rfl (Nat.le_of_ble_eq_true rfl) rfl ?_
      refine j_aload_n 89 1 dX10_load_88 rfl rfl ?_
      refine j_iconst 90 dX10_load_89 rfl ?_
      refine j_iconst 91 dX10_load_90 rfl ?_
      refine j_callV 94 (As := [.int (i32 (1)), .int (i32 (3))]) (kc2 := 0) (ks2 := 0) dX10_load_91 rfl mvX10_number lk_X10_126 hM.md rfl ⟨Nat.le_of_ble_eq_true rfl, rfl⟩ rfl rfl (Nat.le_of_ble_eq_true rfl) ⟨Nat.le_of_ble_eq_true rfl, Nat.le_of_ble_eq_true rfl⟩ ⟨Nat.le_of_ble_eq_true rfl, Nat.le_of_ble_eq_true rfl⟩ (rp_number hM (by first | decide | omega) (by first | decide | omega) (by first | decide | omega) (by first | decide | omega) (st := (.inl ((sk T ((sk T 0) + 8)) + dn T (sk T ((sk T 0) + 8))))) S4) x_i (k_i fun z_91 g_91 h_91 => ?_)
      obtain ⟨Fz5, hz5, S5⟩ := h_91
      have F5 := F4.tr Fz5
      have hdl5 : (sk T ((sk T ((sk T 0) + 8)) + dn T (sk T ((sk T 0) + 8)))) + dn T (sk T ((sk T ((sk T 0) + 8)) + dn T (sk T ((sk T 0) + 8)))) ≤ T.2 := rn_le hD (sk_le S4.2.2.1)
      rcases numC T (sk T ((sk T ((sk T 0) + 8)) + dn T (sk T ((sk T 0) + 8)))) (1) (3) with hB | hB | hB
      ·
        rw [numS_1 hB] at hz5 S5
        refine j_top (y := nv T (sk T ((sk T ((sk T 0) + 8)) + dn T (sk T ((sk T 0) + 8))))) hz5 ?_
        refine j_istore_n 95 (L2 := [(3, .int (i32 (nv T (sk T ((sk T ((sk T 0) + 8)) + dn T (sk T ((sk T 0) + 8))))))), (2, .int (i32 (nv T (sk T ((sk T 0) + 8))))), (0, .ref (m)), (1, .int (i32 ((T.2 : Int))))]) dX10_load_94 rfl rfl (Nat.le_of_ble_eq_true rfl) rfl ?_
        refine j_aload_n 96 2 dX10_load_95 rfl rfl ?_
        refine j_getr 99 dX10_load_96 rfl fl_X10_20 hM.md rfl (fun _ _ => rfl) rfl ?_
        refine j_iload_n 100 1 dX10_load_99 rfl rfl ?_
        refine j_iload_n 101 0 dX10_load_100 rfl rfl ?_
        refine j_callS 104 (As := [.ref (m + 3), .int (i32 (nv T (sk T ((sk T 0) + 8)))), .int (i32 (nv T (sk T ((sk T ((sk T 0) + 8)) + dn T (sk T ((sk T 0) + 8))))))]) (kc2 := 0) (ks2 := 0) dX10_load_101 rfl msX10_layExchange lk_X10_31 rfl rfl (Nat.le_of_ble_eq_true rfl) ⟨Nat.le_of_ble_eq_true rfl, Nat.le_of_ble_eq_true rfl⟩ ⟨Nat.le_of_ble_eq_true rfl, Nat.le_of_ble_eq_true rfl⟩ (rp_lay hM.dra (r32 (by omega) (by omega)) (r32 (by omega) (by omega))) x_d (k_d0 ?_)
        refine j_aload_n 105 2 dX10_load_104 rfl rfl ?_
        refine j_bipush 107 dX10_load_105 rfl (by decide) ?_
        have SU := S5.ur (d := (row0 (nv T (sk T ((sk T 0) + 8))) (nv T (sk T ((sk T ((sk T 0) + 8)) + dn T (sk T ((sk T 0) + 8)))))))
        refine j_callV 110 (As := [.int (i32 (59))]) (kc2 := 0) (ks2 := 0) dX10_load_107 rfl mvX10_expect lk_X10_173 hM.md rfl ⟨Nat.le_of_ble_eq_true rfl, rfl⟩ rfl rfl (Nat.le_of_ble_eq_true rfl) ⟨Nat.le_of_ble_eq_true rfl, Nat.le_of_ble_eq_true rfl⟩ ⟨Nat.le_of_ble_eq_true rfl, Nat.le_of_ble_eq_true rfl⟩ (rp_expect hM (st := (.inl ((sk T ((sk T ((sk T 0) + 8)) + dn T (sk T ((sk T 0) + 8)))) + dn T (sk T ((sk T ((sk T 0) + 8)) + dn T (sk T ((sk T 0) + 8))))))) SU) x_v (k_v fun g_107 h_107 => ?_)
        obtain ⟨FE, SE⟩ := h_107
        have FX : FD g_59 g_107 m := (FD.ur (d := (row0 (nv T (sk T ((sk T 0) + 8))) (nv T (sk T ((sk T ((sk T 0) + 8)) + dn T (sk T ((sk T 0) + 8))))))) F5.fd).tr FE.fd
        have DX : g_107 (m + 3) = (row0 (nv T (sk T ((sk T 0) + 8))) (nv T (sk T ((sk T ((sk T 0) + 8)) + dn T (sk T ((sk T 0) + 8)))))) := (FE.1 _ (by omega)).trans upR_s
        have MX : SM g_107 m (fun _ => false) := by
                  show _ = _
                  rw [FE.2 14 (by decide), upR_at (by omega), F5.2 14 (by decide), hcel.2.2.2.2.2.2.1]; rfl
        have PX : PInv (row0 (nv T (sk T ((sk T 0) + 8))) (nv T (sk T ((sk T ((sk T 0) + 8)) + dn T (sk T ((sk T 0) + 8)))))) := pinv_0 ⟨by omega, by omega⟩ ⟨by omega, by omega⟩
        by_cases hC : byT T (sk T ((sk T ((sk T ((sk T 0) + 8)) + dn T (sk T ((sk T 0) + 8)))) + dn T (sk T ((sk T ((sk T 0) + 8)) + dn T (sk T ((sk T 0) + 8)))))) = 59
        ·
          rw [show expS T 59 (.inl ((sk T ((sk T ((sk T 0) + 8)) + dn T (sk T ((sk T 0) + 8)))) + dn T (sk T ((sk T ((sk T 0) + 8)) + dn T (sk T ((sk T 0) + 8)))))) = .inl (sk T ((sk T ((sk T ((sk T 0) + 8)) + dn T (sk T ((sk T 0) + 8)))) + dn T (sk T ((sk T ((sk T 0) + 8)) + dn T (sk T ((sk T 0) + 8))))) + 1) from if_pos hC] at SE
          have hres0 : P_load T = P_all T 700 (row0 (nv T (sk T ((sk T 0) + 8))) (nv T (sk T ((sk T ((sk T 0) + 8)) + dn T (sk T ((sk T 0) + 8)))))) (fun _ => false) (sk T ((sk T ((sk T ((sk T 0) + 8)) + dn T (sk T ((sk T 0) + 8)))) + dn T (sk T ((sk T ((sk T 0) + 8)) + dn T (sk T ((sk T 0) + 8))))) + 1) := by unfold P_load; rw [if_pos w0, kNum_1 hA, kNum_1 hB, kSem_1 hC]
          have hq4 := SE.2.2.1
          suffices lp_110 : ∀ (f : Nat) (d : Nat → Int) (s : Nat → Bool) (p p2 : Nat) (gk : Mem), T.2 ≤ p + f → sk T p2 = sk T p → RG gk m T p2 → gk (m + 3) = d → PInv d → SM gk m s → FD g_59 gk m → P_load T = P_all T f d s p → J w mX10_load 110 [(0, .ref m), (1, .int (i32 (T.2 : Int)))] [] sh gk 0 0 (iQ sh (LR g m T hist c)) by
            refine j_sub [2, 3] rfl ?_
            exact lp_110 700 _ _ _ _ _ (by omega) rfl SE DX PX MX FX hres0
          intro f
          induction f with
          | zero =>
            intro d s p p2 gk hTp hsk HG hgk HP HS FK hres
            have hp2 := sk_le HG.2.2.1
            refine j_aload_n 111 0 dX10_load_110 rfl rfl ?_
            refine j_callV 114 (As := []) (kc2 := 0) (ks2 := 0) dX10_load_111 rfl mvX10_isGood lk_X10_61 hM.md rfl ⟨Nat.le_of_ble_eq_true rfl, rfl⟩ rfl rfl (Nat.le_of_ble_eq_true rfl) ⟨Nat.le_of_ble_eq_true rfl, Nat.le_of_ble_eq_true rfl⟩ ⟨Nat.le_of_ble_eq_true rfl, Nat.le_of_ble_eq_true rfl⟩ (rp_isGood hM) x_d (k_d1 ?_)
            refine j_top (y := 1) (by rw [decide_eq_true HG.2.2.2.1]; rfl) ?_
            refine j_if_eq 117 132 dX10_load_114 rfl rfl (r32 (by decide) (by decide)) (fun c_114 => absurd c_114 (by decide)) (fun c_114 => ?_)
            refine j_aload_n 118 0 dX10_load_117 rfl rfl ?_
            refine j_callV 121 (As := []) (kc2 := 0) (ks2 := 0) dX10_load_118 rfl mvX10_ahead lk_X10_65 hM.md rfl ⟨Nat.le_of_ble_eq_true rfl, rfl⟩ rfl rfl (Nat.le_of_ble_eq_true rfl) ⟨Nat.le_of_ble_eq_true rfl, Nat.le_of_ble_eq_true rfl⟩ ⟨Nat.le_of_ble_eq_true rfl, Nat.le_of_ble_eq_true rfl⟩ (rp_ahead hM HG.1 HG.2.1 HG.2.2.1) x_d (k_d1 ?_)
            refine j_iconst 122 dX10_load_121 rfl ?_
            refine j_icmp_eq 125 132 dX10_load_122 rfl rfl (by have := byT_r HG.1.2.2.2 (sk T p2); exact ⟨by omega, by omega⟩) (r32 (by decide) (by decide)) (fun c_122_6 => ?_) (fun c_122_6 => ?_)
            · skip
              have hres9 : P_load T = .inl (d, s, p) := hres.trans (all_e (by rw [← hsk]; exact c_122_6) _)
              refine j_mn (fun g9 hg9 => ?_)
              have S9 : RG g9 m T (sk T p2) := by rw [hg9]; exact HG.mv hp2
              have FZ9 : FM gk g9 m := by rw [hg9]; exact FM.rf.up (by decide)
              have F9 : FD g_59 g9 m := FK.tr FZ9.fd
              have D9 : g9 (m + 3) = d := (FZ9.1 _ (by omega)).trans hgk
              refine j_aload_n 133 0 dX10_load_132 rfl rfl ?_
              refine j_aload_n 134 0 dX10_load_133 rfl rfl ?_
              refine j_geti 137 dX10_load_134 rfl fl_X10_54 hM.md rfl rfl (fun r_134 => ?_)
              refine j_top (y := -1) (S9.2.2.2.2) ?_
              refine j_puti 140 dX10_load_137 rfl fl_X10_13 hM.md rfl rfl rfl (r32 (by decide) (by decide)) ?_
              refine j_mn (fun g_137 hg_137 => ?_)
              have FR : ∀ a, a ≠ m → a ≠ m + 3 → g_137 a = g a := fun a h1 h2 => by rw [hg_137, up2_row h1, F9.1 a h1 h2]; exact hrow a h1
              have FC : g_137 m 0 = 0 ∧ g_137 m 2 = 0 ∧ g_137 m 12 = g m 12 := by rw [hg_137, up2_k (by decide), up2_k (by decide), up2_k (by decide), F9.2 0 (by decide), F9.2 2 (by decide), F9.2 12 (by decide)]; exact ⟨hcel.1, hcel.2.1, hcel.2.2.2.2.2.2.2⟩
              have S137 : RG g_137 m T (sk T p2) := by rw [hg_137]; exact S9.up (by decide)
              have D137 : g_137 (m + 3) = d := by rw [hg_137, up2_row (by omega)]; exact D9
              have H137 : HR g_137 m hist c := hH.same FC.2.2 (fun a h1 h2 => FR a (by omega) (by omega))
              refine j_aload_n 141 0 dX10_load_140 rfl rfl ?_
              refine j_callV 144 (As := []) (kc2 := 0) (ks2 := 0) dX10_load_141 rfl mvX10_isGood lk_X10_61 hM.md rfl ⟨Nat.le_of_ble_eq_true rfl, rfl⟩ rfl rfl (Nat.le_of_ble_eq_true rfl) ⟨Nat.le_of_ble_eq_true rfl, Nat.le_of_ble_eq_true rfl⟩ ⟨Nat.le_of_ble_eq_true rfl, Nat.le_of_ble_eq_true rfl⟩ (rp_isGood hM) x_d (k_d1 ?_)
              refine j_top (y := 1) (by rw [decide_eq_true S137.2.2.2.1]; rfl) ?_
              refine j_if_ne 147 152 dX10_load_144 rfl rfl (r32 (by decide) (by decide)) (fun c_144 => ?_) (fun c_144 => absurd c_144 (by decide))
              refine j_aload_n 153 0 dX10_load_152 rfl rfl ?_
              refine j_callV 156 (As := []) (kc2 := 0) (ks2 := 0) dX10_load_153 rfl mvX10_remember lk_X10_185 hM.md rfl ⟨Nat.le_of_ble_eq_true rfl, rfl⟩ rfl rfl (Nat.le_of_ble_eq_true rfl) ⟨Nat.le_of_ble_eq_true rfl, Nat.le_of_ble_eq_true rfl⟩ ⟨Nat.le_of_ble_eq_true rfl, Nat.le_of_ble_eq_true rfl⟩ (r_remember hM H137) x_v (k_v fun g_153 h_153 => ?_)
              obtain ⟨HRn, FRm, FRc⟩ := h_153
              refine j_aload_n 157 0 dX10_load_156 rfl rfl ?_
              refine j_getr 160 dX10_load_157 rfl fl_X10_20 hM.md rfl (fun _ _ => rfl) rfl ?_
              refine j_aload_n 161 0 dX10_load_160 rfl rfl ?_
              refine j_getr 164 dX10_load_161 rfl fl_X10_17 hM.md rfl (fun _ _ => rfl) rfl ?_
              refine j_callS 167 (As := [.ref (m + 3), .ref (m + 2)]) (kc2 := 0) (ks2 := 0) dX10_load_164 rfl msX10_copy lk_X10_188 rfl rfl (Nat.le_of_ble_eq_true rfl) ⟨Nat.le_of_ble_eq_true rfl, Nat.le_of_ble_eq_true rfl⟩ ⟨Nat.le_of_ble_eq_true rfl, Nat.le_of_ble_eq_true rfl⟩ (r_copy hM.dra hM.dat (by omega)) x_d (k_d0 ?_)
              refine j_aload_n 168 0 dX10_load_167 rfl rfl ?_
              refine j_getr 171 dX10_load_168 rfl fl_X10_17 hM.md rfl (fun _ _ => rfl) rfl ?_
              refine j_iconst 172 dX10_load_171 rfl ?_
              refine j_iald 173 5 dX10_load_172 rfl hM.dat rfl rfl (show 5 < 729 by omega) (fun r_172 => ?_)
              refine j_top (y := d 5) ((by rw [upR_s, FRm _ (by omega) (by omega), D137])) ?_
              exact j_iret dX10_load_173 rfl (⟨_, rfl, rfl, fun a h1 h2 h3 h4 => by rw [upR_n h2, FRm a h1 h4]; exact FR a h1 h3, by rw [upR_at (by omega), FRc 0 (by decide)]; exact FC.1, by rw [upR_at (by omega), FRc 2 (by decide)]; exact FC.2.1, by
                              rw [hres9]
                              refine ⟨rfl, ?_, ?_, ?_⟩
                              · rw [upR_at (by omega), FRc 7 (by decide), hg_137]; exact up2_s
                              · rw [upR_s, FRm _ (by omega) (by omega), D137]
                              · have h9 := HRn.same (g2 := upR g_153 (m + 2) (g_153 (m + 3))) (upR_at (by omega)) (fun a h1 h2 => upR_n (by omega))
                                rw [FR (m + 2) (by omega) (by omega)] at h9
                                exact h9⟩)
            · skip
              exact absurd (by_ge (by have h8 := sk_ge (T := T) p; rw [hsk]; omega)) c_122_6
          | succ f ih_110 =>
            intro d s p p2 gk hTp hsk HG hgk HP HS FK hres
            have hp2 := sk_le HG.2.2.1
            refine j_aload_n 111 0 dX10_load_110 rfl rfl ?_
            refine j_callV 114 (As := []) (kc2 := 0) (ks2 := 0) dX10_load_111 rfl mvX10_isGood lk_X10_61 hM.md rfl ⟨Nat.le_of_ble_eq_true rfl, rfl⟩ rfl rfl (Nat.le_of_ble_eq_true rfl) ⟨Nat.le_of_ble_eq_true rfl, Nat.le_of_ble_eq_true rfl⟩ ⟨Nat.le_of_ble_eq_true rfl, Nat.le_of_ble_eq_true rfl⟩ (rp_isGood hM) x_d (k_d1 ?_)
            refine j_top (y := 1) (by rw [decide_eq_true HG.2.2.2.1]; rfl) ?_
            refine j_if_eq 117 132 dX10_load_114 rfl rfl (r32 (by decide) (by decide)) (fun c_114 => absurd c_114 (by decide)) (fun c_114 => ?_)
            refine j_aload_n 118 0 dX10_load_117 rfl rfl ?_
            refine j_callV 121 (As := []) (kc2 := 0) (ks2 := 0) dX10_load_118 rfl mvX10_ahead lk_X10_65 hM.md rfl ⟨Nat.le_of_ble_eq_true rfl, rfl⟩ rfl rfl (Nat.le_of_ble_eq_true rfl) ⟨Nat.le_of_ble_eq_true rfl, Nat.le_of_ble_eq_true rfl⟩ ⟨Nat.le_of_ble_eq_true rfl, Nat.le_of_ble_eq_true rfl⟩ (rp_ahead hM HG.1 HG.2.1 HG.2.2.1) x_d (k_d1 ?_)
            refine j_iconst 122 dX10_load_121 rfl ?_
            refine j_icmp_eq 125 132 dX10_load_122 rfl rfl (by have := byT_r HG.1.2.2.2 (sk T p2); exact ⟨by omega, by omega⟩) (r32 (by decide) (by decide)) (fun c_122_7 => ?_) (fun c_122_7 => ?_)
            · skip
              have hres9 : P_load T = .inl (d, s, p) := hres.trans (all_e (by rw [← hsk]; exact c_122_7) _)
              refine j_mn (fun g9 hg9 => ?_)
              have S9 : RG g9 m T (sk T p2) := by rw [hg9]; exact HG.mv hp2
              have FZ9 : FM gk g9 m := by rw [hg9]; exact FM.rf.up (by decide)
              have F9 : FD g_59 g9 m := FK.tr FZ9.fd
              have D9 : g9 (m + 3) = d := (FZ9.1 _ (by omega)).trans hgk
              refine j_aload_n 133 0 dX10_load_132 rfl rfl ?_
              refine j_aload_n 134 0 dX10_load_133 rfl rfl ?_
              refine j_geti 137 dX10_load_134 rfl fl_X10_54 hM.md rfl rfl (fun r_134 => ?_)
              refine j_top (y := -1) (S9.2.2.2.2) ?_
              refine j_puti 140 dX10_load_137 rfl fl_X10_13 hM.md rfl rfl rfl (r32 (by decide) (by decide)) ?_
              refine j_mn (fun g_137 hg_137 => ?_)
              have FR : ∀ a, a ≠ m → a ≠ m + 3 → g_137 a = g a := fun a h1 h2 => by rw [hg_137, up2_row h1, F9.1 a h1 h2]; exact hrow a h1
              have FC : g_137 m 0 = 0 ∧ g_137 m 2 = 0 ∧ g_137 m 12 = g m 12 := by rw [hg_137, up2_k (by decide), up2_k (by decide), up2_k (by decide), F9.2 0 (by decide), F9.2 2 (by decide), F9.2 12 (by decide)]; exact ⟨hcel.1, hcel.2.1, hcel.2.2.2.2.2.2.2⟩
              have S137 : RG g_137 m T (sk T p2) := by rw [hg_137]; exact S9.up (by decide)
              have D137 : g_137 (m + 3) = d := by rw [hg_137, up2_row (by omega)]; exact D9
              have H137 : HR g_137 m hist c := hH.same FC.2.2 (fun a h1 h2 => FR a (by omega) (by omega))
              refine j_aload_n 141 0 dX10_load_140 rfl rfl ?_
              refine j_callV 144 (As := []) (kc2 := 0) (ks2 := 0) dX10_load_141 rfl mvX10_isGood lk_X10_61 hM.md rfl ⟨Nat.le_of_ble_eq_true rfl, rfl⟩ rfl rfl (Nat.le_of_ble_eq_true rfl) ⟨Nat.le_of_ble_eq_true rfl, Nat.le_of_ble_eq_true rfl⟩ ⟨Nat.le_of_ble_eq_true rfl, Nat.le_of_ble_eq_true rfl⟩ (rp_isGood hM) x_d (k_d1 ?_)
              refine j_top (y := 1) (by rw [decide_eq_true S137.2.2.2.1]; rfl) ?_
              refine j_if_ne 147 152 dX10_load_144 rfl rfl (r32 (by decide) (by decide)) (fun c_144 => ?_) (fun c_144 => absurd c_144 (by decide))
              refine j_aload_n 153 0 dX10_load_152 rfl rfl ?_
              refine j_callV 156 (As := []) (kc2 := 0) (ks2 := 0) dX10_load_153 rfl mvX10_remember lk_X10_185 hM.md rfl ⟨Nat.le_of_ble_eq_true rfl, rfl⟩ rfl rfl (Nat.le_of_ble_eq_true rfl) ⟨Nat.le_of_ble_eq_true rfl, Nat.le_of_ble_eq_true rfl⟩ ⟨Nat.le_of_ble_eq_true rfl, Nat.le_of_ble_eq_true rfl⟩ (r_remember hM H137) x_v (k_v fun g_153 h_153 => ?_)
              obtain ⟨HRn, FRm, FRc⟩ := h_153
              refine j_aload_n 157 0 dX10_load_156 rfl rfl ?_
              refine j_getr 160 dX10_load_157 rfl fl_X10_20 hM.md rfl (fun _ _ => rfl) rfl ?_
              refine j_aload_n 161 0 dX10_load_160 rfl rfl ?_
              refine j_getr 164 dX10_load_161 rfl fl_X10_17 hM.md rfl (fun _ _ => rfl) rfl ?_
              refine j_callS 167 (As := [.ref (m + 3), .ref (m + 2)]) (kc2 := 0) (ks2 := 0) dX10_load_164 rfl msX10_copy lk_X10_188 rfl rfl (Nat.le_of_ble_eq_true rfl) ⟨Nat.le_of_ble_eq_true rfl, Nat.le_of_ble_eq_true rfl⟩ ⟨Nat.le_of_ble_eq_true rfl, Nat.le_of_ble_eq_true rfl⟩ (r_copy hM.dra hM.dat (by omega)) x_d (k_d0 ?_)
              refine j_aload_n 168 0 dX10_load_167 rfl rfl ?_
              refine j_getr 171 dX10_load_168 rfl fl_X10_17 hM.md rfl (fun _ _ => rfl) rfl ?_
              refine j_iconst 172 dX10_load_171 rfl ?_
              refine j_iald 173 5 dX10_load_172 rfl hM.dat rfl rfl (show 5 < 729 by omega) (fun r_172 => ?_)
              refine j_top (y := d 5) ((by rw [upR_s, FRm _ (by omega) (by omega), D137])) ?_
              exact j_iret dX10_load_173 rfl (⟨_, rfl, rfl, fun a h1 h2 h3 h4 => by rw [upR_n h2, FRm a h1 h4]; exact FR a h1 h3, by rw [upR_at (by omega), FRc 0 (by decide)]; exact FC.1, by rw [upR_at (by omega), FRc 2 (by decide)]; exact FC.2.1, by
                              rw [hres9]
                              refine ⟨rfl, ?_, ?_, ?_⟩
                              · rw [upR_at (by omega), FRc 7 (by decide), hg_137]; exact up2_s
                              · rw [upR_s, FRm _ (by omega) (by omega), D137]
                              · have h9 := HRn.same (g2 := upR g_153 (m + 2) (g_153 (m + 3))) (upR_at (by omega)) (fun a h1 h2 => upR_n (by omega))
                                rw [FR (m + 2) (by omega) (by omega)] at h9
                                exact h9⟩)
            · skip
              refine j_mn (fun g9 hg9 => ?_)
              have hne : byT T (sk T p) ≠ -1 := by rw [← hsk]; exact c_122_7
              have S9 : RG g9 m T (sk T p2) := by rw [hg9]; exact HG.mv hp2
              have FZ9 : FM gk g9 m := by rw [hg9]; exact FM.rf.up (by decide)
              have F9 : FD g_59 g9 m := FK.tr FZ9.fd
              have D9 : g9 (m + 3) = d := (FZ9.1 _ (by omega)).trans hgk
              refine j_aload_n 126 0 dX10_load_125 rfl rfl ?_
              refine j_callV 129 (As := []) (kc2 := 0) (ks2 := 0) dX10_load_126 rfl mvX10_statement lk_X10_182 hM.md rfl ⟨Nat.le_of_ble_eq_true rfl, rfl⟩ rfl rfl (Nat.le_of_ble_eq_true rfl) ⟨Nat.le_of_ble_eq_true rfl, Nat.le_of_ble_eq_true rfl⟩ ⟨Nat.le_of_ble_eq_true rfl, Nat.le_of_ble_eq_true rfl⟩ (rp_statement hM S9 D9 HP (HS.fm FZ9)) x_v (k_v fun g_126 h_126 => ?_)
              rw [show P_stmt T d s (sk T p2) = P_stmt T d s p from stmt_sk (by rw [sk_sk, hsk])] at h_126
              have hsg : ∀ r, P_stmt T d s p = .inl r → p < r.2.2 ∧ PInv r.1 := fun r h => stmt_go HP h
              refine j_goto 110 dX10_load_129 rfl ?_
              rcases hst : P_stmt T d s p with r | e
              ·
                rw [hst] at h_126
                obtain ⟨FS, ⟨p3, hp3, G3⟩, D3, M3⟩ := h_126
                obtain ⟨hgo, hPn⟩ := hsg r hst
                exact ih_110 r.1 r.2.1 r.2.2 p3 _ (by omega) hp3 G3 D3 hPn M3 (F9.tr FS) (hres.trans ((all_n hne).trans (by rw [hst])))
              ·
                rw [hst] at h_126
                obtain ⟨FS, SE2⟩ := h_126
                have FX2 := F9.tr FS
                have hres2 : P_load T = .inr e := hres.trans ((all_n hne).trans (by rw [hst]))
                refine j_aload_n 111 0 dX10_load_110 rfl rfl ?_
                refine j_callV 114 (As := []) (kc2 := 0) (ks2 := 0) dX10_load_111 rfl mvX10_isGood lk_X10_61 hM.md rfl ⟨Nat.le_of_ble_eq_true rfl, rfl⟩ rfl rfl (Nat.le_of_ble_eq_true rfl) ⟨Nat.le_of_ble_eq_true rfl, Nat.le_of_ble_eq_true rfl⟩ ⟨Nat.le_of_ble_eq_true rfl, Nat.le_of_ble_eq_true rfl⟩ (rp_isGood hM) x_d (k_d1 ?_)
                refine j_top (y := 0) (by rw [decide_eq_false (by have h1 := SE2.2.2.1; have h2 := SE2.2.2.2.2; (try dsimp only at h1 h2); omega)]; rfl) ?_
                refine j_if_eq 117 132 dX10_load_114 rfl rfl (r32 (by decide) (by decide)) (fun c_114 => ?_) (fun c_114 => absurd c_114 (by decide))
                refine j_aload_n 133 0 dX10_load_132 rfl rfl ?_
                refine j_aload_n 134 0 dX10_load_133 rfl rfl ?_
                refine j_geti 137 dX10_load_134 rfl fl_X10_54 hM.md rfl rfl (fun r_134 => ?_)
                refine j_top (y := ((e.2 : Nat) : Int)) (SE2.2.2.2.1) ?_
                refine j_puti 140 dX10_load_137 rfl fl_X10_13 hM.md rfl rfl rfl (by rw [← SE2.2.2.2.1]; exact r_134) ?_
                refine j_mn (fun g_137 hg_137 => ?_)
                have FR : ∀ a, a ≠ m → a ≠ m + 3 → g_137 a = g a := fun a h1 h2 => by rw [hg_137, up2_row h1, FX2.1 a h1 h2]; exact hrow a h1
                have FC : g_137 m 0 = 0 ∧ g_137 m 2 = 0 ∧ g_137 m 12 = g m 12 := by rw [hg_137, up2_k (by decide), up2_k (by decide), up2_k (by decide), FX2.2 0 (by decide), FX2.2 2 (by decide), FX2.2 12 (by decide)]; exact ⟨hcel.1, hcel.2.1, hcel.2.2.2.2.2.2.2⟩
                have S137 : RE g_137 m T e := by rw [hg_137]; exact SE2.up (by decide)
                have H137 : HR g_137 m hist c := hH.same FC.2.2 (fun a h1 h2 => FR a (by omega) (by omega))
                refine j_aload_n 141 0 dX10_load_140 rfl rfl ?_
                refine j_callV 144 (As := []) (kc2 := 0) (ks2 := 0) dX10_load_141 rfl mvX10_isGood lk_X10_61 hM.md rfl ⟨Nat.le_of_ble_eq_true rfl, rfl⟩ rfl rfl (Nat.le_of_ble_eq_true rfl) ⟨Nat.le_of_ble_eq_true rfl, Nat.le_of_ble_eq_true rfl⟩ ⟨Nat.le_of_ble_eq_true rfl, Nat.le_of_ble_eq_true rfl⟩ (rp_isGood hM) x_d (k_d1 ?_)
                refine j_top (y := 0) (by rw [decide_eq_false (by have h1 := S137.2.2.1; have h2 := S137.2.2.2.2; (try dsimp only at h1 h2); omega)]; rfl) ?_
                refine j_if_ne 147 152 dX10_load_144 rfl rfl (r32 (by decide) (by decide)) (fun c_144 => absurd c_144 (by decide)) (fun c_144 => ?_)
                refine j_aload_n 148 0 dX10_load_147 rfl rfl ?_
                refine j_geti 151 dX10_load_148 rfl fl_X10_51 hM.md rfl rfl (fun r_148 => ?_)
                exact j_iret dX10_load_151 rfl (⟨_, rfl, rfl, fun a h1 h2 h3 h4 => FR a h1 h3, FC.1, FC.2.1, by
                                  rw [hres2]
                                  exact ⟨S137.2.2.1, by rw [hg_137]; exact up2_s, FR _ (by omega) (by omega), H137⟩⟩)
        ·
          rw [show expS T 59 (.inl ((sk T ((sk T ((sk T 0) + 8)) + dn T (sk T ((sk T 0) + 8)))) + dn T (sk T ((sk T ((sk T 0) + 8)) + dn T (sk T ((sk T 0) + 8)))))) = .inr (-2, sk T ((sk T ((sk T ((sk T 0) + 8)) + dn T (sk T ((sk T 0) + 8)))) + dn T (sk T ((sk T ((sk T 0) + 8)) + dn T (sk T ((sk T 0) + 8)))))) from if_neg hC] at SE
          have hres : P_load T = .inr (-2, sk T ((sk T ((sk T ((sk T 0) + 8)) + dn T (sk T ((sk T 0) + 8)))) + dn T (sk T ((sk T ((sk T 0) + 8)) + dn T (sk T ((sk T 0) + 8)))))) := by unfold P_load; rw [if_pos w0, kNum_1 hA, kNum_1 hB, kSem_2 hC]
          refine j_aload_n 111 2 dX10_load_110 rfl rfl ?_
          refine j_callV 114 (As := []) (kc2 := 0) (ks2 := 0) dX10_load_111 rfl mvX10_isGood lk_X10_61 hM.md rfl ⟨Nat.le_of_ble_eq_true rfl, rfl⟩ rfl rfl (Nat.le_of_ble_eq_true rfl) ⟨Nat.le_of_ble_eq_true rfl, Nat.le_of_ble_eq_true rfl⟩ ⟨Nat.le_of_ble_eq_true rfl, Nat.le_of_ble_eq_true rfl⟩ (rp_isGood hM) x_d (k_d1 ?_)
          refine j_top (y := 0) (by rw [decide_eq_false (by have h1 := SE.2.2.1; have h2 := SE.2.2.2.2; (try dsimp only at h1 h2); omega)]; rfl) ?_
          refine j_if_eq 117 132 dX10_load_114 rfl rfl (r32 (by decide) (by decide)) (fun c_114 => ?_) (fun c_114 => absurd c_114 (by decide))
          refine j_aload_n 133 2 dX10_load_132 rfl rfl ?_
          refine j_aload_n 134 2 dX10_load_133 rfl rfl ?_
          refine j_geti 137 dX10_load_134 rfl fl_X10_54 hM.md rfl rfl (fun r_134 => ?_)
          refine j_top (y := (((-2, sk T ((sk T ((sk T ((sk T 0) + 8)) + dn T (sk T ((sk T 0) + 8)))) + dn T (sk T ((sk T ((sk T 0) + 8)) + dn T (sk T ((sk T 0) + 8)))))).2 : Nat) : Int)) (SE.2.2.2.1) ?_
          refine j_puti 140 dX10_load_137 rfl fl_X10_13 hM.md rfl rfl rfl (by rw [← SE.2.2.2.1]; exact r_134) ?_
          refine j_mn (fun g_137 hg_137 => ?_)
          have FR : ∀ a, a ≠ m → a ≠ m + 3 → g_137 a = g a := fun a h1 h2 => by rw [hg_137, up2_row h1, FX.1 a h1 h2]; exact hrow a h1
          have FC : g_137 m 0 = 0 ∧ g_137 m 2 = 0 ∧ g_137 m 12 = g m 12 := by rw [hg_137, up2_k (by decide), up2_k (by decide), up2_k (by decide), FX.2 0 (by decide), FX.2 2 (by decide), FX.2 12 (by decide)]; exact ⟨hcel.1, hcel.2.1, hcel.2.2.2.2.2.2.2⟩
          have S137 : RE g_137 m T (-2, sk T ((sk T ((sk T ((sk T 0) + 8)) + dn T (sk T ((sk T 0) + 8)))) + dn T (sk T ((sk T ((sk T 0) + 8)) + dn T (sk T ((sk T 0) + 8)))))) := by rw [hg_137]; exact SE.up (by decide)
          have H137 : HR g_137 m hist c := hH.same FC.2.2 (fun a h1 h2 => FR a (by omega) (by omega))
          refine j_aload_n 141 2 dX10_load_140 rfl rfl ?_
          refine j_callV 144 (As := []) (kc2 := 0) (ks2 := 0) dX10_load_141 rfl mvX10_isGood lk_X10_61 hM.md rfl ⟨Nat.le_of_ble_eq_true rfl, rfl⟩ rfl rfl (Nat.le_of_ble_eq_true rfl) ⟨Nat.le_of_ble_eq_true rfl, Nat.le_of_ble_eq_true rfl⟩ ⟨Nat.le_of_ble_eq_true rfl, Nat.le_of_ble_eq_true rfl⟩ (rp_isGood hM) x_d (k_d1 ?_)
          refine j_top (y := 0) (by rw [decide_eq_false (by have h1 := S137.2.2.1; have h2 := S137.2.2.2.2; (try dsimp only at h1 h2); omega)]; rfl) ?_
          refine j_if_ne 147 152 dX10_load_144 rfl rfl (r32 (by decide) (by decide)) (fun c_144 => absurd c_144 (by decide)) (fun c_144 => ?_)
          refine j_aload_n 148 2 dX10_load_147 rfl rfl ?_
          refine j_geti 151 dX10_load_148 rfl fl_X10_51 hM.md rfl rfl (fun r_148 => ?_)
          exact j_iret dX10_load_151 rfl (⟨_, rfl, rfl, fun a h1 h2 h3 h4 => FR a h1 h3, FC.1, FC.2.1, by
                      rw [hres]
                      exact ⟨S137.2.2.1, by rw [hg_137]; exact up2_s, FR _ (by omega) (by omega), H137⟩⟩)
      ·
        rw [numS_2 hB] at hz5 S5
        refine j_top (y := 0) hz5 ?_
        refine j_istore_n 95 (L2 := [(3, .int (i32 (0))), (2, .int (i32 (nv T (sk T ((sk T 0) + 8))))), (0, .ref (m)), (1, .int (i32 ((T.2 : Int))))]) dX10_load_94 rfl rfl (Nat.le_of_ble_eq_true rfl) rfl ?_
        refine j_aload_n 96 2 dX10_load_95 rfl rfl ?_
        refine j_getr 99 dX10_load_96 rfl fl_X10_20 hM.md rfl (fun _ _ => rfl) rfl ?_
        refine j_iload_n 100 1 dX10_load_99 rfl rfl ?_
        refine j_iload_n 101 0 dX10_load_100 rfl rfl ?_
        refine j_callS 104 (As := [.ref (m + 3), .int (i32 (nv T (sk T ((sk T 0) + 8)))), .int (i32 (0))]) (kc2 := 0) (ks2 := 0) dX10_load_101 rfl msX10_layExchange lk_X10_31 rfl rfl (Nat.le_of_ble_eq_true rfl) ⟨Nat.le_of_ble_eq_true rfl, Nat.le_of_ble_eq_true rfl⟩ ⟨Nat.le_of_ble_eq_true rfl, Nat.le_of_ble_eq_true rfl⟩ (rp_lay hM.dra (r32 (by omega) (by omega)) (r32 (by decide) (by decide))) x_d (k_d0 ?_)
        refine j_aload_n 105 2 dX10_load_104 rfl rfl ?_
        refine j_bipush 107 dX10_load_105 rfl (by decide) ?_
        have SU := S5.ur (d := (row0 (nv T (sk T ((sk T 0) + 8))) (0)))
        refine j_callV 110 (As := [.int (i32 (59))]) (kc2 := 0) (ks2 := 0) dX10_load_107 rfl mvX10_expect lk_X10_173 hM.md rfl ⟨Nat.le_of_ble_eq_true rfl, rfl⟩ rfl rfl (Nat.le_of_ble_eq_true rfl) ⟨Nat.le_of_ble_eq_true rfl, Nat.le_of_ble_eq_true rfl⟩ ⟨Nat.le_of_ble_eq_true rfl, Nat.le_of_ble_eq_true rfl⟩ (rp_expect hM (st := (.inr ((-2), (sk T ((sk T ((sk T 0) + 8)) + dn T (sk T ((sk T 0) + 8))))))) SU) x_v (k_v fun g_107 h_107 => ?_)
        obtain ⟨FE, SE⟩ := h_107
        have SE : RE g_107 m T ((-2), (sk T ((sk T ((sk T 0) + 8)) + dn T (sk T ((sk T 0) + 8))))) := SE
        have FX : FD g_59 g_107 m := (FD.ur (d := (row0 (nv T (sk T ((sk T 0) + 8))) (0))) F5.fd).tr FE.fd
        have hres : P_load T = .inr ((-2), (sk T ((sk T ((sk T 0) + 8)) + dn T (sk T ((sk T 0) + 8))))) := by unfold P_load; rw [if_pos w0, kNum_1 hA, kNum_2 hB]
        refine j_aload_n 111 2 dX10_load_110 rfl rfl ?_
        refine j_callV 114 (As := []) (kc2 := 0) (ks2 := 0) dX10_load_111 rfl mvX10_isGood lk_X10_61 hM.md rfl ⟨Nat.le_of_ble_eq_true rfl, rfl⟩ rfl rfl (Nat.le_of_ble_eq_true rfl) ⟨Nat.le_of_ble_eq_true rfl, Nat.le_of_ble_eq_true rfl⟩ ⟨Nat.le_of_ble_eq_true rfl, Nat.le_of_ble_eq_true rfl⟩ (rp_isGood hM) x_d (k_d1 ?_)
        refine j_top (y := 0) (by rw [decide_eq_false (by have h1 := SE.2.2.1; have h2 := SE.2.2.2.2; (try dsimp only at h1 h2); omega)]; rfl) ?_
        refine j_if_eq 117 132 dX10_load_114 rfl rfl (r32 (by decide) (by decide)) (fun c_114 => ?_) (fun c_114 => absurd c_114 (by decide))
        refine j_aload_n 133 2 dX10_load_132 rfl rfl ?_
        refine j_aload_n 134 2 dX10_load_133 rfl rfl ?_
        refine j_geti 137 dX10_load_134 rfl fl_X10_54 hM.md rfl rfl (fun r_134 => ?_)
        refine j_top (y := ((((-2), (sk T ((sk T ((sk T 0) + 8)) + dn T (sk T ((sk T 0) + 8))))).2 : Nat) : Int)) (SE.2.2.2.1) ?_
        refine j_puti 140 dX10_load_137 rfl fl_X10_13 hM.md rfl rfl rfl (by rw [← SE.2.2.2.1]; exact r_134) ?_
        refine j_mn (fun g_137 hg_137 => ?_)
        have FR : ∀ a, a ≠ m → a ≠ m + 3 → g_137 a = g a := fun a h1 h2 => by rw [hg_137, up2_row h1, FX.1 a h1 h2]; exact hrow a h1
        have FC : g_137 m 0 = 0 ∧ g_137 m 2 = 0 ∧ g_137 m 12 = g m 12 := by rw [hg_137, up2_k (by decide), up2_k (by decide), up2_k (by decide), FX.2 0 (by decide), FX.2 2 (by decide), FX.2 12 (by decide)]; exact ⟨hcel.1, hcel.2.1, hcel.2.2.2.2.2.2.2⟩
        have S137 : RE g_137 m T ((-2), (sk T ((sk T ((sk T 0) + 8)) + dn T (sk T ((sk T 0) + 8))))) := by rw [hg_137]; exact SE.up (by decide)
        have H137 : HR g_137 m hist c := hH.same FC.2.2 (fun a h1 h2 => FR a (by omega) (by omega))
        refine j_aload_n 141 2 dX10_load_140 rfl rfl ?_
        refine j_callV 144 (As := []) (kc2 := 0) (ks2 := 0) dX10_load_141 rfl mvX10_isGood lk_X10_61 hM.md rfl ⟨Nat.le_of_ble_eq_true rfl, rfl⟩ rfl rfl (Nat.le_of_ble_eq_true rfl) ⟨Nat.le_of_ble_eq_true rfl, Nat.le_of_ble_eq_true rfl⟩ ⟨Nat.le_of_ble_eq_true rfl, Nat.le_of_ble_eq_true rfl⟩ (rp_isGood hM) x_d (k_d1 ?_)
        refine j_top (y := 0) (by rw [decide_eq_false (by have h1 := S137.2.2.1; have h2 := S137.2.2.2.2; (try dsimp only at h1 h2); omega)]; rfl) ?_
        refine j_if_ne 147 152 dX10_load_144 rfl rfl (r32 (by decide) (by decide)) (fun c_144 => absurd c_144 (by decide)) (fun c_144 => ?_)
        refine j_aload_n 148 2 dX10_load_147 rfl rfl ?_
        refine j_geti 151 dX10_load_148 rfl fl_X10_51 hM.md rfl rfl (fun r_148 => ?_)
        exact j_iret dX10_load_151 rfl (⟨_, rfl, rfl, fun a h1 h2 h3 h4 => FR a h1 h3, FC.1, FC.2.1, by
                  rw [hres]
                  exact ⟨S137.2.2.1, by rw [hg_137]; exact up2_s, FR _ (by omega) (by omega), H137⟩⟩)
      ·
        rw [numS_3 hB] at hz5 S5
        refine j_top (y := 0) hz5 ?_
        refine j_istore_n 95 (L2 := [(3, .int (i32 (0))), (2, .int (i32 (nv T (sk T ((sk T 0) + 8))))), (0, .ref (m)), (1, .int (i32 ((T.2 : Int))))]) dX10_load_94 rfl rfl (Nat.le_of_ble_eq_true rfl) rfl ?_
        refine j_aload_n 96 2 dX10_load_95 rfl rfl ?_
        refine j_getr 99 dX10_load_96 rfl fl_X10_20 hM.md rfl (fun _ _ => rfl) rfl ?_
        refine j_iload_n 100 1 dX10_load_99 rfl rfl ?_
        refine j_iload_n 101 0 dX10_load_100 rfl rfl ?_
        refine j_callS 104 (As := [.ref (m + 3), .int (i32 (nv T (sk T ((sk T 0) + 8)))), .int (i32 (0))]) (kc2 := 0) (ks2 := 0) dX10_load_101 rfl msX10_layExchange lk_X10_31 rfl rfl (Nat.le_of_ble_eq_true rfl) ⟨Nat.le_of_ble_eq_true rfl, Nat.le_of_ble_eq_true rfl⟩ ⟨Nat.le_of_ble_eq_true rfl, Nat.le_of_ble_eq_true rfl⟩ (rp_lay hM.dra (r32 (by omega) (by omega)) (r32 (by decide) (by decide))) x_d (k_d0 ?_)
        refine j_aload_n 105 2 dX10_load_104 rfl rfl ?_
        refine j_bipush 107 dX10_load_105 rfl (by decide) ?_
        have SU := S5.ur (d := (row0 (nv T (sk T ((sk T 0) + 8))) (0)))
        refine j_callV 110 (As := [.int (i32 (59))]) (kc2 := 0) (ks2 := 0) dX10_load_107 rfl mvX10_expect lk_X10_173 hM.md rfl ⟨Nat.le_of_ble_eq_true rfl, rfl⟩ rfl rfl (Nat.le_of_ble_eq_true rfl) ⟨Nat.le_of_ble_eq_true rfl, Nat.le_of_ble_eq_true rfl⟩ ⟨Nat.le_of_ble_eq_true rfl, Nat.le_of_ble_eq_true rfl⟩ (rp_expect hM (st := (.inr ((-3), (sk T ((sk T ((sk T 0) + 8)) + dn T (sk T ((sk T 0) + 8))))))) SU) x_v (k_v fun g_107 h_107 => ?_)
        obtain ⟨FE, SE⟩ := h_107
        have SE : RE g_107 m T ((-3), (sk T ((sk T ((sk T 0) + 8)) + dn T (sk T ((sk T 0) + 8))))) := SE
        have FX : FD g_59 g_107 m := (FD.ur (d := (row0 (nv T (sk T ((sk T 0) + 8))) (0))) F5.fd).tr FE.fd
        have hres : P_load T = .inr ((-3), (sk T ((sk T ((sk T 0) + 8)) + dn T (sk T ((sk T 0) + 8))))) := by unfold P_load; rw [if_pos w0, kNum_1 hA, kNum_3 hB]
        refine j_aload_n 111 2 dX10_load_110 rfl rfl ?_
        refine j_callV 114 (As := []) (kc2 := 0) (ks2 := 0) dX10_load_111 rfl mvX10_isGood lk_X10_61 hM.md rfl ⟨Nat.le_of_ble_eq_true rfl, rfl⟩ rfl rfl (Nat.le_of_ble_eq_true rfl) ⟨Nat.le_of_ble_eq_true rfl, Nat.le_of_ble_eq_true rfl⟩ ⟨Nat.le_of_ble_eq_true rfl, Nat.le_of_ble_eq_true rfl⟩ (rp_isGood hM) x_d (k_d1 ?_)
        refine j_top (y := 0) (by rw [decide_eq_false (by have h1 := SE.2.2.1; have h2 := SE.2.2.2.2; (try dsimp only at h1 h2); omega)]; rfl) ?_
        refine j_if_eq 117 132 dX10_load_114 rfl rfl (r32 (by decide) (by decide)) (fun c_114 => ?_) (fun c_114 => absurd c_114 (by decide))
        refine j_aload_n 133 2 dX10_load_132 rfl rfl ?_
        refine j_aload_n 134 2 dX10_load_133 rfl rfl ?_
        refine j_geti 137 dX10_load_134 rfl fl_X10_54 hM.md rfl rfl (fun r_134 => ?_)
        refine j_top (y := ((((-3), (sk T ((sk T ((sk T 0) + 8)) + dn T (sk T ((sk T 0) + 8))))).2 : Nat) : Int)) (SE.2.2.2.1) ?_
        refine j_puti 140 dX10_load_137 rfl fl_X10_13 hM.md rfl rfl rfl (by rw [← SE.2.2.2.1]; exact r_134) ?_
        refine j_mn (fun g_137 hg_137 => ?_)
        have FR : ∀ a, a ≠ m → a ≠ m + 3 → g_137 a = g a := fun a h1 h2 => by rw [hg_137, up2_row h1, FX.1 a h1 h2]; exact hrow a h1
        have FC : g_137 m 0 = 0 ∧ g_137 m 2 = 0 ∧ g_137 m 12 = g m 12 := by rw [hg_137, up2_k (by decide), up2_k (by decide), up2_k (by decide), FX.2 0 (by decide), FX.2 2 (by decide), FX.2 12 (by decide)]; exact ⟨hcel.1, hcel.2.1, hcel.2.2.2.2.2.2.2⟩
        have S137 : RE g_137 m T ((-3), (sk T ((sk T ((sk T 0) + 8)) + dn T (sk T ((sk T 0) + 8))))) := by rw [hg_137]; exact SE.up (by decide)
        have H137 : HR g_137 m hist c := hH.same FC.2.2 (fun a h1 h2 => FR a (by omega) (by omega))
        refine j_aload_n 141 2 dX10_load_140 rfl rfl ?_
        refine j_callV 144 (As := []) (kc2 := 0) (ks2 := 0) dX10_load_141 rfl mvX10_isGood lk_X10_61 hM.md rfl ⟨Nat.le_of_ble_eq_true rfl, rfl⟩ rfl rfl (Nat.le_of_ble_eq_true rfl) ⟨Nat.le_of_ble_eq_true rfl, Nat.le_of_ble_eq_true rfl⟩ ⟨Nat.le_of_ble_eq_true rfl, Nat.le_of_ble_eq_true rfl⟩ (rp_isGood hM) x_d (k_d1 ?_)
        refine j_top (y := 0) (by rw [decide_eq_false (by have h1 := S137.2.2.1; have h2 := S137.2.2.2.2; (try dsimp only at h1 h2); omega)]; rfl) ?_
        refine j_if_ne 147 152 dX10_load_144 rfl rfl (r32 (by decide) (by decide)) (fun c_144 => absurd c_144 (by decide)) (fun c_144 => ?_)
        refine j_aload_n 148 2 dX10_load_147 rfl rfl ?_
        refine j_geti 151 dX10_load_148 rfl fl_X10_51 hM.md rfl rfl (fun r_148 => ?_)
        exact j_iret dX10_load_151 rfl (⟨_, rfl, rfl, fun a h1 h2 h3 h4 => FR a h1 h3, FC.1, FC.2.1, by
                  rw [hres]
                  exact ⟨S137.2.2.1, by rw [hg_137]; exact up2_s, FR _ (by omega) (by omega), H137⟩⟩)
    ·
      rw [numS_2 hA] at hz4 S4
      refine j_top (y := 0) hz4 ?_
      refine j_istore_n 88 (L2 := [(2, .int (i32 (0))), (0, .ref (m)), (1, .int (i32 ((T.2 : Int))))]) dX10_load_87 rfl rfl (Nat.le_of_ble_eq_true rfl) rfl ?_
      refine j_aload_n 89 1 dX10_load_88 rfl rfl ?_
      refine j_iconst 90 dX10_load_89 rfl ?_
      refine j_iconst 91 dX10_load_90 rfl ?_
      refine j_callV 94 (As := [.int (i32 (1)), .int (i32 (3))]) (kc2 := 0) (ks2 := 0) dX10_load_91 rfl mvX10_number lk_X10_126 hM.md rfl ⟨Nat.le_of_ble_eq_true rfl, rfl⟩ rfl rfl (Nat.le_of_ble_eq_true rfl) ⟨Nat.le_of_ble_eq_true rfl, Nat.le_of_ble_eq_true rfl⟩ ⟨Nat.le_of_ble_eq_true rfl, Nat.le_of_ble_eq_true rfl⟩ (rp_numberX hM (r32 (by decide) (by decide)) (r32 (by decide) (by decide)) S4) x_i (k_i fun z_91 g_91 h_91 => ?_)
      obtain ⟨Fz8, hz8, S8⟩ := h_91
      have F8 := F4.tr Fz8
      refine j_top (y := 0) hz8 ?_
      refine j_istore_n 95 (L2 := [(3, .int (i32 (0))), (2, .int (i32 (0))), (0, .ref (m)), (1, .int (i32 ((T.2 : Int))))]) dX10_load_94 rfl rfl (Nat.le_of_ble_eq_true rfl) rfl ?_
      refine j_aload_n 96 2 dX10_load_95 rfl rfl ?_
      refine j_getr 99 dX10_load_96 rfl fl_X10_20 hM.md rfl (fun _ _ => rfl) rfl ?_
      refine j_iload_n 100 1 dX10_load_99 rfl rfl ?_
      refine j_iload_n 101 0 dX10_load_100 rfl rfl ?_
      refine j_callS 104 (As := [.ref (m + 3), .int (i32 (0)), .int (i32 (0))]) (kc2 := 0) (ks2 := 0) dX10_load_101 rfl msX10_layExchange lk_X10_31 rfl rfl (Nat.le_of_ble_eq_true rfl) ⟨Nat.le_of_ble_eq_true rfl, Nat.le_of_ble_eq_true rfl⟩ ⟨Nat.le_of_ble_eq_true rfl, Nat.le_of_ble_eq_true rfl⟩ (rp_lay hM.dra (r32 (by decide) (by decide)) (r32 (by decide) (by decide))) x_d (k_d0 ?_)
      refine j_aload_n 105 2 dX10_load_104 rfl rfl ?_
      refine j_bipush 107 dX10_load_105 rfl (by decide) ?_
      have SU := S8.ur (d := (row0 (0) (0)))
      refine j_callV 110 (As := [.int (i32 (59))]) (kc2 := 0) (ks2 := 0) dX10_load_107 rfl mvX10_expect lk_X10_173 hM.md rfl ⟨Nat.le_of_ble_eq_true rfl, rfl⟩ rfl rfl (Nat.le_of_ble_eq_true rfl) ⟨Nat.le_of_ble_eq_true rfl, Nat.le_of_ble_eq_true rfl⟩ ⟨Nat.le_of_ble_eq_true rfl, Nat.le_of_ble_eq_true rfl⟩ (rp_expect hM (st := (.inr ((-2), (sk T ((sk T 0) + 8))))) SU) x_v (k_v fun g_107 h_107 => ?_)
      obtain ⟨FE, SE⟩ := h_107
      have SE : RE g_107 m T ((-2), (sk T ((sk T 0) + 8))) := SE
      have FX : FD g_59 g_107 m := (FD.ur (d := (row0 (0) (0))) F8.fd).tr FE.fd
      have hres : P_load T = .inr ((-2), (sk T ((sk T 0) + 8))) := by unfold P_load; rw [if_pos w0, kNum_2 hA]
      refine j_aload_n 111 2 dX10_load_110 rfl rfl ?_
      refine j_callV 114 (As := []) (kc2 := 0) (ks2 := 0) dX10_load_111 rfl mvX10_isGood lk_X10_61 hM.md rfl ⟨Nat.le_of_ble_eq_true rfl, rfl⟩ rfl rfl (Nat.le_of_ble_eq_true rfl) ⟨Nat.le_of_ble_eq_true rfl, Nat.le_of_ble_eq_true rfl⟩ ⟨Nat.le_of_ble_eq_true rfl, Nat.le_of_ble_eq_true rfl⟩ (rp_isGood hM) x_d (k_d1 ?_)
      refine j_top (y := 0) (by rw [decide_eq_false (by have h1 := SE.2.2.1; have h2 := SE.2.2.2.2; (try dsimp only at h1 h2); omega)]; rfl) ?_
      refine j_if_eq 117 132 dX10_load_114 rfl rfl (r32 (by decide) (by decide)) (fun c_114 => ?_) (fun c_114 => absurd c_114 (by decide))
      refine j_aload_n 133 2 dX10_load_132 rfl rfl ?_
      refine j_aload_n 134 2 dX10_load_133 rfl rfl ?_
      refine j_geti 137 dX10_load_134 rfl fl_X10_54 hM.md rfl rfl (fun r_134 => ?_)
      refine j_top (y := ((((-2), (sk T ((sk T 0) + 8))).2 : Nat) : Int)) (SE.2.2.2.1) ?_
      refine j_puti 140 dX10_load_137 rfl fl_X10_13 hM.md rfl rfl rfl (by rw [← SE.2.2.2.1]; exact r_134) ?_
      refine j_mn (fun g_137 hg_137 => ?_)
      have FR : ∀ a, a ≠ m → a ≠ m + 3 → g_137 a = g a := fun a h1 h2 => by rw [hg_137, up2_row h1, FX.1 a h1 h2]; exact hrow a h1
      have FC : g_137 m 0 = 0 ∧ g_137 m 2 = 0 ∧ g_137 m 12 = g m 12 := by rw [hg_137, up2_k (by decide), up2_k (by decide), up2_k (by decide), FX.2 0 (by decide), FX.2 2 (by decide), FX.2 12 (by decide)]; exact ⟨hcel.1, hcel.2.1, hcel.2.2.2.2.2.2.2⟩
      have S137 : RE g_137 m T ((-2), (sk T ((sk T 0) + 8))) := by rw [hg_137]; exact SE.up (by decide)
      have H137 : HR g_137 m hist c := hH.same FC.2.2 (fun a h1 h2 => FR a (by omega) (by omega))
      refine j_aload_n 141 2 dX10_load_140 rfl rfl ?_
      refine j_callV 144 (As := []) (kc2 := 0) (ks2 := 0) dX10_load_141 rfl mvX10_isGood lk_X10_61 hM.md rfl ⟨Nat.le_of_ble_eq_true rfl, rfl⟩ rfl rfl (Nat.le_of_ble_eq_true rfl) ⟨Nat.le_of_ble_eq_true rfl, Nat.le_of_ble_eq_true rfl⟩ ⟨Nat.le_of_ble_eq_true rfl, Nat.le_of_ble_eq_true rfl⟩ (rp_isGood hM) x_d (k_d1 ?_)
      refine j_top (y := 0) (by rw [decide_eq_false (by have h1 := S137.2.2.1; have h2 := S137.2.2.2.2; (try dsimp only at h1 h2); omega)]; rfl) ?_
      refine j_if_ne 147 152 dX10_load_144 rfl rfl (r32 (by decide) (by decide)) (fun c_144 => absurd c_144 (by decide)) (fun c_144 => ?_)
      refine j_aload_n 148 2 dX10_load_147 rfl rfl ?_
      refine j_geti 151 dX10_load_148 rfl fl_X10_51 hM.md rfl rfl (fun r_148 => ?_)
      exact j_iret dX10_load_151 rfl (⟨_, rfl, rfl, fun a h1 h2 h3 h4 => FR a h1 h3, FC.1, FC.2.1, by
              rw [hres]
              exact ⟨S137.2.2.1, by rw [hg_137]; exact up2_s, FR _ (by omega) (by omega), H137⟩⟩)
    ·
      rw [numS_3 hA] at hz4 S4
      refine j_top (y := 0) hz4 ?_
      refine j_istore_n 88 (L2 := [(2, .int (i32 (0))), (0, .ref (m)), (1, .int (i32 ((T.2 : Int))))]) dX10_load_87 rfl rfl (Nat.le_of_ble_eq_true rfl) rfl ?_
      refine j_aload_n 89 1 dX10_load_88 rfl rfl ?_
      refine j_iconst 90 dX10_load_89 rfl ?_
      refine j_iconst 91 dX10_load_90 rfl ?_
      refine j_callV 94 (As := [.int (i32 (1)), .int (i32 (3))]) (kc2 := 0) (ks2 := 0) dX10_load_91 rfl mvX10_number lk_X10_126 hM.md rfl ⟨Nat.le_of_ble_eq_true rfl, rfl⟩ rfl rfl (Nat.le_of_ble_eq_true rfl) ⟨Nat.le_of_ble_eq_true rfl, Nat.le_of_ble_eq_true rfl⟩ ⟨Nat.le_of_ble_eq_true rfl, Nat.le_of_ble_eq_true rfl⟩ (rp_numberX hM (r32 (by decide) (by decide)) (r32 (by decide) (by decide)) S4) x_i (k_i fun z_91 g_91 h_91 => ?_)
      obtain ⟨Fz9, hz9, S9⟩ := h_91
      have F9 := F4.tr Fz9
      refine j_top (y := 0) hz9 ?_
      refine j_istore_n 95 (L2 := [(3, .int (i32 (0))), (2, .int (i32 (0))), (0, .ref (m)), (1, .int (i32 ((T.2 : Int))))]) dX10_load_94 rfl rfl (Nat.le_of_ble_eq_true rfl) rfl ?_
      refine j_aload_n 96 2 dX10_load_95 rfl rfl ?_
      refine j_getr 99 dX10_load_96 rfl fl_X10_20 hM.md rfl (fun _ _ => rfl) rfl ?_
      refine j_iload_n 100 1 dX10_load_99 rfl rfl ?_
      refine j_iload_n 101 0 dX10_load_100 rfl rfl ?_
      refine j_callS 104 (As := [.ref (m + 3), .int (i32 (0)), .int (i32 (0))]) (kc2 := 0) (ks2 := 0) dX10_load_101 rfl msX10_layExchange lk_X10_31 rfl rfl (Nat.le_of_ble_eq_true rfl) ⟨Nat.le_of_ble_eq_true rfl, Nat.le_of_ble_eq_true rfl⟩ ⟨Nat.le_of_ble_eq_true rfl, Nat.le_of_ble_eq_true rfl⟩ (rp_lay hM.dra (r32 (by decide) (by decide)) (r32 (by decide) (by decide))) x_d (k_d0 ?_)
      refine j_aload_n 105 2 dX10_load_104 rfl rfl ?_
      refine j_bipush 107 dX10_load_105 rfl (by decide) ?_
      have SU := S9.ur (d := (row0 (0) (0)))
      refine j_callV 110 (As := [.int (i32 (59))]) (kc2 := 0) (ks2 := 0) dX10_load_107 rfl mvX10_expect lk_X10_173 hM.md rfl ⟨Nat.le_of_ble_eq_true rfl, rfl⟩ rfl rfl (Nat.le_of_ble_eq_true rfl) ⟨Nat.le_of_ble_eq_true rfl, Nat.le_of_ble_eq_true rfl⟩ ⟨Nat.le_of_ble_eq_true rfl, Nat.le_of_ble_eq_true rfl⟩ (rp_expect hM (st := (.inr ((-3), (sk T ((sk T 0) + 8))))) SU) x_v (k_v fun g_107 h_107 => ?_)
      obtain ⟨FE, SE⟩ := h_107
      have SE : RE g_107 m T ((-3), (sk T ((sk T 0) + 8))) := SE
      have FX : FD g_59 g_107 m := (FD.ur (d := (row0 (0) (0))) F9.fd).tr FE.fd
      have hres : P_load T = .inr ((-3), (sk T ((sk T 0) + 8))) := by unfold P_load; rw [if_pos w0, kNum_3 hA]
      refine j_aload_n 111 2 dX10_load_110 rfl rfl ?_
      refine j_callV 114 (As := []) (kc2 := 0) (ks2 := 0) dX10_load_111 rfl mvX10_isGood lk_X10_61 hM.md rfl ⟨Nat.le_of_ble_eq_true rfl, rfl⟩ rfl rfl (Nat.le_of_ble_eq_true rfl) ⟨Nat.le_of_ble_eq_true rfl, Nat.le_of_ble_eq_true rfl⟩ ⟨Nat.le_of_ble_eq_true rfl, Nat.le_of_ble_eq_true rfl⟩ (rp_isGood hM) x_d (k_d1 ?_)
      refine j_top (y := 0) (by rw [decide_eq_false (by have h1 := SE.2.2.1; have h2 := SE.2.2.2.2; (try dsimp only at h1 h2); omega)]; rfl) ?_
      refine j_if_eq 117 132 dX10_load_114 rfl rfl (r32 (by decide) (by decide)) (fun c_114 => ?_) (fun c_114 => absurd c_114 (by decide))
      refine j_aload_n 133 2 dX10_load_132 rfl rfl ?_
      refine j_aload_n 134 2 dX10_load_133 rfl rfl ?_
      refine j_geti 137 dX10_load_134 rfl fl_X10_54 hM.md rfl rfl (fun r_134 => ?_)
      refine j_top (y := ((((-3), (sk T ((sk T 0) + 8))).2 : Nat) : Int)) (SE.2.2.2.1) ?_
      refine j_puti 140 dX10_load_137 rfl fl_X10_13 hM.md rfl rfl rfl (by rw [← SE.2.2.2.1]; exact r_134) ?_
      refine j_mn (fun g_137 hg_137 => ?_)
      have FR : ∀ a, a ≠ m → a ≠ m + 3 → g_137 a = g a := fun a h1 h2 => by rw [hg_137, up2_row h1, FX.1 a h1 h2]; exact hrow a h1
      have FC : g_137 m 0 = 0 ∧ g_137 m 2 = 0 ∧ g_137 m 12 = g m 12 := by rw [hg_137, up2_k (by decide), up2_k (by decide), up2_k (by decide), FX.2 0 (by decide), FX.2 2 (by decide), FX.2 12 (by decide)]; exact ⟨hcel.1, hcel.2.1, hcel.2.2.2.2.2.2.2⟩
      have S137 : RE g_137 m T ((-3), (sk T ((sk T 0) + 8))) := by rw [hg_137]; exact SE.up (by decide)
      have H137 : HR g_137 m hist c := hH.same FC.2.2 (fun a h1 h2 => FR a (by omega) (by omega))
      refine j_aload_n 141 2 dX10_load_140 rfl rfl ?_
      refine j_callV 144 (As := []) (kc2 := 0) (ks2 := 0) dX10_load_141 rfl mvX10_isGood lk_X10_61 hM.md rfl ⟨Nat.le_of_ble_eq_true rfl, rfl⟩ rfl rfl (Nat.le_of_ble_eq_true rfl) ⟨Nat.le_of_ble_eq_true rfl, Nat.le_of_ble_eq_true rfl⟩ ⟨Nat.le_of_ble_eq_true rfl, Nat.le_of_ble_eq_true rfl⟩ (rp_isGood hM) x_d (k_d1 ?_)
      refine j_top (y := 0) (by rw [decide_eq_false (by have h1 := S137.2.2.1; have h2 := S137.2.2.2.2; (try dsimp only at h1 h2); omega)]; rfl) ?_
      refine j_if_ne 147 152 dX10_load_144 rfl rfl (r32 (by decide) (by decide)) (fun c_144 => absurd c_144 (by decide)) (fun c_144 => ?_)
      refine j_aload_n 148 2 dX10_load_147 rfl rfl ?_
      refine j_geti 151 dX10_load_148 rfl fl_X10_51 hM.md rfl rfl (fun r_148 => ?_)
      exact j_iret dX10_load_151 rfl (⟨_, rfl, rfl, fun a h1 h2 h3 h4 => FR a h1 h3, FC.1, FC.2.1, by
              rw [hres]
              exact ⟨S137.2.2.1, by rw [hg_137]; exact up2_s, FR _ (by omega) (by omega), H137⟩⟩)
