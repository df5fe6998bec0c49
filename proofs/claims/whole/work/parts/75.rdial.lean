/-! the reference: layCall, dial, hang, checksum -/
def layZ (d : Nat → Int) (c k : Nat) : Nat → Int := fun j => if 169 + 14 * c ≤ j ∧ j < 169 + 14 * c + k then 0 else d j
theorem layZ_0 {d : Nat → Int} {c : Nat} : layZ d c 0 = d := funext fun j => if_neg (by omega)
theorem layZ_s {d : Nat → Int} {c k : Nat} : ud (layZ d c k) (169 + 14 * c + k) 0 = layZ d c (k + 1) := funext fun j => by
  unfold ud layZ
  by_cases h : j = 169 + 14 * c + k
  · rw [if_pos h, if_pos (by omega)]
  · rw [if_neg h]
    by_cases h2 : 169 + 14 * c ≤ j ∧ j < 169 + 14 * c + k
    · rw [if_pos h2, if_pos (by omega)]
    · rw [if_neg h2, if_neg (by omega)]
theorem layZ_5 {d : Nat → Int} {c k : Nat} : layZ d c k 5 = d 5 := if_neg (by omega)

theorem lay_eq {d : Nat → Int} {c : Nat} {line many value talk comes : Int} (hc : d 5 = (c : Int)) : (ud (ud (ud (ud (ud (ud (ud (ud (ud (ud (ud (layZ d c 14) (169 + 14 * c + 0) line) (169 + 14 * c + 1) many) (169 + 14 * c + 11) value) (169 + 14 * c + 2) talk) (169 + 14 * c + 3) comes) (169 + 14 * c + 5) (-1)) (169 + 14 * c + 6) (-1)) (169 + 14 * c + 7) (-1)) (169 + 14 * c + 8) (-1)) (169 + 14 * c + 10) (-1)) 5 (d 5 + 1)) = s_lay d line many value talk comes := funext fun j => by
  by_cases h5 : j = 5
  · subst h5; rw [ud_s, lay_5]
  · rw [ud_n h5]
    by_cases h : j < 169 + 14 * c ∨ 183 + 14 * c ≤ j
    · rw [lay_n hc h5 h, ud_n (by omega), ud_n (by omega), ud_n (by omega), ud_n (by omega), ud_n (by omega), ud_n (by omega), ud_n (by omega), ud_n (by omega), ud_n (by omega), ud_n (by omega)]
      exact if_neg (by omega)
    · obtain ⟨k, hk, rfl⟩ : ∃ k, k < 14 ∧ j = 169 + 14 * c + k := ⟨j - (169 + 14 * c), by omega, by omega⟩
      rw [lay_k hc (k := k) (by omega) hk]
      have hz : layZ d c 14 (169 + 14 * c + k) = 0 := if_pos (by omega)
      match k, hk with
      | 0, _ => rw [ud_n (by omega), ud_n (by omega), ud_n (by omega), ud_n (by omega), ud_n (by omega), ud_n (by omega), ud_n (by omega), ud_n (by omega), ud_n (by omega), ud_s]; rfl
      | 1, _ => rw [ud_n (by omega), ud_n (by omega), ud_n (by omega), ud_n (by omega), ud_n (by omega), ud_n (by omega), ud_n (by omega), ud_n (by omega), ud_s]; rfl
      | 2, _ => rw [ud_n (by omega), ud_n (by omega), ud_n (by omega), ud_n (by omega), ud_n (by omega), ud_n (by omega), ud_s]; rfl
      | 3, _ => rw [ud_n (by omega), ud_n (by omega), ud_n (by omega), ud_n (by omega), ud_n (by omega), ud_s]; rfl
      | 4, _ => rw [ud_n (by omega), ud_n (by omega), ud_n (by omega), ud_n (by omega), ud_n (by omega), ud_n (by omega), ud_n (by omega), ud_n (by omega), ud_n (by omega), ud_n (by omega), hz]; rfl
      | 5, _ => rw [ud_n (by omega), ud_n (by omega), ud_n (by omega), ud_n (by omega), ud_s]; rfl
      | 6, _ => rw [ud_n (by omega), ud_n (by omega), ud_n (by omega), ud_s]; rfl
      | 7, _ => rw [ud_n (by omega), ud_n (by omega), ud_s]; rfl
      | 8, _ => rw [ud_n (by omega), ud_s]; rfl
      | 9, _ => rw [ud_n (by omega), ud_n (by omega), ud_n (by omega), ud_n (by omega), ud_n (by omega), ud_n (by omega), ud_n (by omega), ud_n (by omega), ud_n (by omega), ud_n (by omega), hz]; rfl
      | 10, _ => rw [ud_s]; rfl
      | 11, _ => rw [ud_n (by omega), ud_n (by omega), ud_n (by omega), ud_n (by omega), ud_n (by omega), ud_n (by omega), ud_n (by omega), ud_s]; rfl
      | 12, _ => rw [ud_n (by omega), ud_n (by omega), ud_n (by omega), ud_n (by omega), ud_n (by omega), ud_n (by omega), ud_n (by omega), ud_n (by omega), ud_n (by omega), ud_n (by omega), hz]; rfl
      | 13, _ => rw [ud_n (by omega), ud_n (by omega), ud_n (by omega), ud_n (by omega), ud_n (by omega), ud_n (by omega), ud_n (by omega), ud_n (by omega), ud_n (by omega), ud_n (by omega), hz]; rfl

set_option maxRecDepth 20000 in
theorem r_layCall {w : Wd} {sh : Shp} {g : Mem} {d : Nat → Int} {a : Nat} (ha : sh.1 a = some (10, 729, kN)) {c : Nat} (hc : d 5 = (c : Int)) (hc40 : c < 40) {line many value talk comes : Int} (h0 : R32 line) (h1 : R32 many) (h2 : R32 value) (h3 : R32 talk) (h4 : R32 comes) : CT w mX10_layCall [.ref (a), .int (i32 (line)), .int (i32 (many)), .int (i32 (value)), .int (i32 (talk)), .int (i32 (comes))] sh (upR g a d) (dQ none sh (upR g a (s_lay d line many value talk comes))) := by
  refine j_entry (by decide) rfl (Nat.le_of_ble_eq_true rfl) (fun h => by cases h) rfl ?_
  show J w mX10_layCall 0 [(0, .ref (a)), (1, .int (i32 (line))), (2, .int (i32 (many))), (3, .int (i32 (value))), (4, .int (i32 (talk))), (5, .int (i32 (comes)))] [] sh (upR g a d) 0 0 _
  refine j_sipush 3 dX10_layCall_0 rfl (by decide) ?_
  refine j_bipush 5 dX10_layCall_3 rfl (by decide) ?_
  refine j_aload_n 6 0 dX10_layCall_5 rfl rfl ?_
  refine j_iconst 7 dX10_layCall_6 rfl ?_
  refine j_iald_d 8 5 dX10_layCall_7 rfl ha rfl rfl (show 5 < 729 by omega) (fun r_7 => ?_)
  refine j_top (y := (c : Int)) (hc) ?_
  refine j_imul 9 dX10_layCall_8 rfl ?_
  refine j_iadd 10 dX10_layCall_9 rfl ?_
  refine j_istore 12 (L2 := [(6, .int (i32 ((169) + ((14) * ((c : Int)))))), (0, .ref (a)), (1, .int (i32 (line))), (2, .int (i32 (many))), (3, .int (i32 (value))), (4, .int (i32 (talk))), (5, .int (i32 (comes)))]) dX10_layCall_10 rfl (Nat.le_of_ble_eq_true rfl) rfl ?_
  refine j_iconst 13 dX10_layCall_12 rfl ?_
  refine j_istore 15 (L2 := [(7, .int (i32 (0))), (6, .int (i32 ((169) + ((14) * ((c : Int)))))), (0, .ref (a)), (1, .int (i32 (line))), (2, .int (i32 (many))), (3, .int (i32 (value))), (4, .int (i32 (talk))), (5, .int (i32 (comes)))]) dX10_layCall_13 rfl (Nat.le_of_ble_eq_true rfl) rfl ?_
  suffices lp_15 : ∀ (n_15 : Nat) (k : Nat) (da : Nat → Int), 14 - k < n_15 → k ≤ 14 → da = layZ d c k → J w mX10_layCall 15 [(7, .int (i32 ((k : Int)))), (6, .int (i32 ((169) + ((14) * ((c : Int)))))), (0, .ref (a)), (1, .int (i32 (line))), (2, .int (i32 (many))), (3, .int (i32 (value))), (4, .int (i32 (talk))), (5, .int (i32 (comes)))] [] sh (upR g (a) da) 0 0 (dQ none sh (upR g a (s_lay d line many value talk comes))) by
    exact lp_15 _ 0 d (Nat.lt_succ_self _) (by omega) layZ_0.symm
  intro n_15
  induction n_15 with
  | zero => intro k da h_; exact absurd h_ (Nat.not_lt_zero _)
  | succ n_15 ih_15 =>
    intro k da hn_15 hk hda
    refine j_iload 17 0 dX10_layCall_15 rfl rfl ?_
    refine j_bipush 19 dX10_layCall_17 rfl (by decide) ?_
    refine j_icmp_ge 22 36 dX10_layCall_19 rfl rfl (r32 (by omega) (by omega)) (r32 (by decide) (by decide)) (fun c_19 => ?_) (fun c_19 => ?_)
    · have hk14 : k = 14 := by omega
      refine j_d (d2 := layZ d c 14) (by rw [hda, hk14]) ?_
      refine j_aload_n 37 2 dX10_layCall_36 rfl rfl ?_
      refine j_iload 39 1 dX10_layCall_37 rfl rfl ?_
      refine j_iconst 40 dX10_layCall_39 rfl ?_
      refine j_iadd 41 dX10_layCall_40 rfl ?_
      refine j_iload_n 42 3 dX10_layCall_41 rfl rfl ?_
      refine j_iast_d 43 (169 + 14 * c + 0) dX10_layCall_42 rfl ha rfl (by omega) (show 169 + 14 * c + 0 < 729 by omega) h0 ?_
      refine j_aload_n 44 2 dX10_layCall_43 rfl rfl ?_
      refine j_iload 46 1 dX10_layCall_44 rfl rfl ?_
      refine j_iconst 47 dX10_layCall_46 rfl ?_
      refine j_iadd 48 dX10_layCall_47 rfl ?_
      refine j_iload_n 49 4 dX10_layCall_48 rfl rfl ?_
      refine j_iast_d 50 (169 + 14 * c + 1) dX10_layCall_49 rfl ha rfl (by omega) (show 169 + 14 * c + 1 < 729 by omega) h1 ?_
      refine j_aload_n 51 2 dX10_layCall_50 rfl rfl ?_
      refine j_iload 53 1 dX10_layCall_51 rfl rfl ?_
      refine j_bipush 55 dX10_layCall_53 rfl (by decide) ?_
      refine j_iadd 56 dX10_layCall_55 rfl ?_
      refine j_iload_n 57 5 dX10_layCall_56 rfl rfl ?_
      refine j_iast_d 58 (169 + 14 * c + 11) dX10_layCall_57 rfl ha rfl (by omega) (show 169 + 14 * c + 11 < 729 by omega) h2 ?_
      refine j_aload_n 59 2 dX10_layCall_58 rfl rfl ?_
      refine j_iload 61 1 dX10_layCall_59 rfl rfl ?_
      refine j_iconst 62 dX10_layCall_61 rfl ?_
      refine j_iadd 63 dX10_layCall_62 rfl ?_
      refine j_iload 65 6 dX10_layCall_63 rfl rfl ?_
      refine j_iast_d 66 (169 + 14 * c + 2) dX10_layCall_65 rfl ha rfl (by omega) (show 169 + 14 * c + 2 < 729 by omega) h3 ?_
      refine j_aload_n 67 2 dX10_layCall_66 rfl rfl ?_
      refine j_iload 69 1 dX10_layCall_67 rfl rfl ?_
      refine j_iconst 70 dX10_layCall_69 rfl ?_
      refine j_iadd 71 dX10_layCall_70 rfl ?_
      refine j_iload 73 7 dX10_layCall_71 rfl rfl ?_
      refine j_iast_d 74 (169 + 14 * c + 3) dX10_layCall_73 rfl ha rfl (by omega) (show 169 + 14 * c + 3 < 729 by omega) h4 ?_
      refine j_aload_n 75 2 dX10_layCall_74 rfl rfl ?_
      refine j_iload 77 1 dX10_layCall_75 rfl rfl ?_
      refine j_iconst 78 dX10_layCall_77 rfl ?_
      refine j_iadd 79 dX10_layCall_78 rfl ?_
      refine j_iconst 80 dX10_layCall_79 rfl ?_
      refine j_iast_d 81 (169 + 14 * c + 5) dX10_layCall_80 rfl ha rfl (by omega) (show 169 + 14 * c + 5 < 729 by omega) (r32 (by decide) (by decide)) ?_
      refine j_aload_n 82 2 dX10_layCall_81 rfl rfl ?_
      refine j_iload 84 1 dX10_layCall_82 rfl rfl ?_
      refine j_bipush 86 dX10_layCall_84 rfl (by decide) ?_
      refine j_iadd 87 dX10_layCall_86 rfl ?_
      refine j_iconst 88 dX10_layCall_87 rfl ?_
      refine j_iast_d 89 (169 + 14 * c + 6) dX10_layCall_88 rfl ha rfl (by omega) (show 169 + 14 * c + 6 < 729 by omega) (r32 (by decide) (by decide)) ?_
      refine j_aload_n 90 2 dX10_layCall_89 rfl rfl ?_
      refine j_iload 92 1 dX10_layCall_90 rfl rfl ?_
      refine j_bipush 94 dX10_layCall_92 rfl (by decide) ?_
      refine j_iadd 95 dX10_layCall_94 rfl ?_
      refine j_iconst 96 dX10_layCall_95 rfl ?_
      refine j_iast_d 97 (169 + 14 * c + 7) dX10_layCall_96 rfl ha rfl (by omega) (show 169 + 14 * c + 7 < 729 by omega) (r32 (by decide) (by decide)) ?_
      refine j_aload_n 98 2 dX10_layCall_97 rfl rfl ?_
      refine j_iload 100 1 dX10_layCall_98 rfl rfl ?_
      refine j_bipush 102 dX10_layCall_100 rfl (by decide) ?_
      refine j_iadd 103 dX10_layCall_102 rfl ?_
      refine j_iconst 104 dX10_layCall_103 rfl ?_
      refine j_iast_d 105 (169 + 14 * c + 8) dX10_layCall_104 rfl ha rfl (by omega) (show 169 + 14 * c + 8 < 729 by omega) (r32 (by decide) (by decide)) ?_
      refine j_aload_n 106 2 dX10_layCall_105 rfl rfl ?_
      refine j_iload 108 1 dX10_layCall_106 rfl rfl ?_
      refine j_bipush 110 dX10_layCall_108 rfl (by decide) ?_
      refine j_iadd 111 dX10_layCall_110 rfl ?_
      refine j_iconst 112 dX10_layCall_111 rfl ?_
      refine j_iast_d 113 (169 + 14 * c + 10) dX10_layCall_112 rfl ha rfl (by omega) (show 169 + 14 * c + 10 < 729 by omega) (r32 (by decide) (by decide)) ?_
      refine j_aload_n 114 2 dX10_layCall_113 rfl rfl ?_
      refine j_iconst 115 dX10_layCall_114 rfl ?_
      refine j_dup2 116 dX10_layCall_115 rfl rfl rfl ?_
      refine j_iald_d 117 5 dX10_layCall_116 rfl ha rfl rfl (show 5 < 729 by omega) (fun r_116 => ?_)
      refine j_top (y := (c : Int)) ((by rw [ud_n (by omega), ud_n (by omega), ud_n (by omega), ud_n (by omega), ud_n (by omega), ud_n (by omega), ud_n (by omega), ud_n (by omega), ud_n (by omega), ud_n (by omega)]; exact layZ_5.trans hc)) ?_
      refine j_iconst 118 dX10_layCall_117 rfl ?_
      refine j_iadd 119 dX10_layCall_118 rfl ?_
      refine j_iast_d 120 5 dX10_layCall_119 rfl ha rfl rfl (show 5 < 729 by decide) (r32 (by omega) (by omega)) ?_
      refine j_d (d2 := (ud (ud (ud (ud (ud (ud (ud (ud (ud (ud (ud (layZ d c 14) (169 + 14 * c + 0) line) (169 + 14 * c + 1) many) (169 + 14 * c + 11) value) (169 + 14 * c + 2) talk) (169 + 14 * c + 3) comes) (169 + 14 * c + 5) (-1)) (169 + 14 * c + 6) (-1)) (169 + 14 * c + 7) (-1)) (169 + 14 * c + 8) (-1)) (169 + 14 * c + 10) (-1)) 5 (d 5 + 1))) (by rw [hc]) ?_
      exact j_vret dX10_layCall_120 rfl (q_d (lay_eq hc))
    · refine j_aload_n 23 2 dX10_layCall_22 rfl rfl ?_
      refine j_iload 25 1 dX10_layCall_23 rfl rfl ?_
      refine j_iload 27 0 dX10_layCall_25 rfl rfl ?_
      refine j_iadd 28 dX10_layCall_27 rfl ?_
      refine j_iconst 29 dX10_layCall_28 rfl ?_
      refine j_iast_d 30 (169 + 14 * c + k) dX10_layCall_29 rfl ha rfl (by omega) (show 169 + 14 * c + k < 729 by omega) (r32 (by decide) (by decide)) ?_
      refine j_iinc 33 0 (y := ((k + 1 : Nat) : Int)) (L2 := [(7, .int (i32 (((k + 1 : Nat) : Int)))), (6, .int (i32 ((169) + ((14) * ((c : Int)))))), (0, .ref (a)), (1, .int (i32 (line))), (2, .int (i32 (many))), (3, .int (i32 (value))), (4, .int (i32 (talk))), (5, .int (i32 (comes)))]) dX10_layCall_30 rfl rfl (by omega) (Nat.le_of_ble_eq_true rfl) rfl ?_
      refine j_goto 15 dX10_layCall_33 rfl ?_
      exact ih_15 (k + 1) (ud da (169 + 14 * c + k) (0)) (by omega) (by omega) (by rw [hda]; exact layZ_s)

set_option maxRecDepth 20000 in
theorem r_dialB {w : Wd} {sh : Shp} {g : Mem} {d : Nat → Int} {m : Nat} (hM : MdS sh.1 m) (hP : PI d) {x n t : Int} (hx : R32 x) (hn : R32 n) (ht : R32 t) (h0 : ¬ (0 ≤ x ∧ x < d 2)) : CT w mX10_dial [.ref (m), .int (i32 (x)), .int (i32 (n)), .int (i32 (t))] sh (upR g (m + 2) d) (dQ (some (.int (i32 (0)))) sh (upR (up2 (up2 g m 0 0) m 0 1) (m + 2) d)) := by
  have hI := hP.1
  have hb := hI.1
  have hb0 := hb.1
  have hb1 := hb.2.1
  have hb2 := hb.2.2.1
  have hb3 := hb.2.2.2.1
  have hb4 := hb.2.2.2.2.1
  have hb5 := hb.2.2.2.2.2.1
  refine j_entry (by decide) rfl (Nat.le_of_ble_eq_true rfl) (fun h => by cases h) rfl ?_
  show J w mX10_dial 0 [(0, .ref (m)), (1, .int (i32 (x))), (2, .int (i32 (n))), (3, .int (i32 (t)))] [] sh (upR g (m + 2) d) 0 0 _
  refine j_aload_n 1 0 dX10_dial_0 rfl rfl ?_
  refine j_iconst 2 dX10_dial_1 rfl ?_
  refine j_puti 5 dX10_dial_2 rfl fl_X10_35 hM.md rfl rfl rfl (r32 (by decide) (by decide)) ?_
  refine j_mem (up2_upR_n (by omega)) ?_
  refine j_aload_n 6 0 dX10_dial_5 rfl rfl ?_
  refine j_iload_n 7 1 dX10_dial_6 rfl rfl ?_
  refine j_iconst 8 dX10_dial_7 rfl ?_
  refine j_aload_n 9 0 dX10_dial_8 rfl rfl ?_
  refine j_getr 12 dX10_dial_9 rfl fl_X10_17 hM.md rfl (fun _ _ => rfl) rfl ?_
  refine j_iconst 13 dX10_dial_12 rfl ?_
  refine j_iald_d 14 2 dX10_dial_13 rfl hM.dat rfl rfl (show 2 < 729 by omega) (fun r_13 => ?_)
  refine j_iconst 15 dX10_dial_14 rfl ?_
  refine j_isub 16 dX10_dial_15 rfl ?_
  refine j_callS 19 (As := [.int (i32 (x)), .int (i32 (0)), .int (i32 ((d (2)) - (1)))]) (kc2 := 0) (ks2 := 0) dX10_dial_16 rfl msX10_in lk_X10_57 rfl rfl (Nat.le_of_ble_eq_true rfl) ⟨Nat.le_of_ble_eq_true rfl, Nat.le_of_ble_eq_true rfl⟩ ⟨Nat.le_of_ble_eq_true rfl, Nat.le_of_ble_eq_true rfl⟩ (r_in hx (r32 (by decide) (by decide)) (r32 (by omega) (by omega))) x_d (k_d1 ?_)
  refine j_if_ne 22 26 dX10_dial_19 rfl rfl (r01 (b01_r _)) (fun c_19 => absurd c_19 (by rw [decide_eq_false (show ¬ (0 ≤ x ∧ x ≤ d 2 - 1) by omega)]; decide)) (fun c_19 => ?_)
  refine j_iconst 23 dX10_dial_22 rfl ?_
  refine j_goto 27 dX10_dial_23 rfl ?_
  refine j_iconst 28 dX10_dial_27 rfl ?_
  refine j_callV 31 (As := [.int (i32 (1)), .int (i32 (1))]) (kc2 := 0) (ks2 := 0) dX10_dial_28 rfl mvX10_fails lk_X10_176 hM.md rfl ⟨Nat.le_of_ble_eq_true rfl, rfl⟩ rfl rfl (Nat.le_of_ble_eq_true rfl) ⟨Nat.le_of_ble_eq_true rfl, Nat.le_of_ble_eq_true rfl⟩ ⟨Nat.le_of_ble_eq_true rfl, Nat.le_of_ble_eq_true rfl⟩ (r_fails1 hM 1 (by decide) (by decide) (by decide) up2_s) x_d (k_d1 ?_)
  refine j_if_ne 34 99 dX10_dial_31 rfl rfl (r32 (by decide) (by decide)) (fun c_31 => ?_) (fun c_31 => absurd c_31 (by decide))
  refine j_iconst 100 dX10_dial_99 rfl ?_
  exact j_iret dX10_dial_100 rfl (⟨rfl, rfl, rfl⟩)

set_option maxRecDepth 20000 in
theorem r_dialI {w : Wd} {sh : Shp} {g : Mem} {d : Nat → Int} {m : Nat} (hM : MdS sh.1 m) (hP : PI d) {x n t : Int} (hx : R32 x) (hn : R32 n) (ht : R32 t) (h0 : 0 ≤ x ∧ x < d 2) (hb9 : ¬ (1 ≤ n ∧ n ≤ 6 ∧ n ≤ g m 2) ∨ t < 1 ∨ 99 < t) : CT w mX10_dial [.ref (m), .int (i32 (x)), .int (i32 (n)), .int (i32 (t))] sh (upR g (m + 2) d) (dQ (some (.int (i32 (0)))) sh (upR (up2 (up2 g m 0 0) m 0 2) (m + 2) d)) := by
  have hI := hP.1
  have hb := hI.1
  have hb0 := hb.1
  have hb1 := hb.2.1
  have hb2 := hb.2.2.1
  have hb3 := hb.2.2.2.1
  have hb4 := hb.2.2.2.2.1
  have hb5 := hb.2.2.2.2.2.1
  refine j_entry (by decide) rfl (Nat.le_of_ble_eq_true rfl) (fun h => by cases h) rfl ?_
  show J w mX10_dial 0 [(0, .ref (m)), (1, .int (i32 (x))), (2, .int (i32 (n))), (3, .int (i32 (t)))] [] sh (upR g (m + 2) d) 0 0 _
  refine j_aload_n 1 0 dX10_dial_0 rfl rfl ?_
  refine j_iconst 2 dX10_dial_1 rfl ?_
  refine j_puti 5 dX10_dial_2 rfl fl_X10_35 hM.md rfl rfl rfl (r32 (by decide) (by decide)) ?_
  refine j_mem (up2_upR_n (by omega)) ?_
  refine j_aload_n 6 0 dX10_dial_5 rfl rfl ?_
  refine j_iload_n 7 1 dX10_dial_6 rfl rfl ?_
  refine j_iconst 8 dX10_dial_7 rfl ?_
  refine j_aload_n 9 0 dX10_dial_8 rfl rfl ?_
  refine j_getr 12 dX10_dial_9 rfl fl_X10_17 hM.md rfl (fun _ _ => rfl) rfl ?_
  refine j_iconst 13 dX10_dial_12 rfl ?_
  refine j_iald_d 14 2 dX10_dial_13 rfl hM.dat rfl rfl (show 2 < 729 by omega) (fun r_13 => ?_)
  refine j_iconst 15 dX10_dial_14 rfl ?_
  refine j_isub 16 dX10_dial_15 rfl ?_
  refine j_callS 19 (As := [.int (i32 (x)), .int (i32 (0)), .int (i32 ((d (2)) - (1)))]) (kc2 := 0) (ks2 := 0) dX10_dial_16 rfl msX10_in lk_X10_57 rfl rfl (Nat.le_of_ble_eq_true rfl) ⟨Nat.le_of_ble_eq_true rfl, Nat.le_of_ble_eq_true rfl⟩ ⟨Nat.le_of_ble_eq_true rfl, Nat.le_of_ble_eq_true rfl⟩ (r_in hx (r32 (by decide) (by decide)) (r32 (by omega) (by omega))) x_d (k_d1 ?_)
  refine j_if_ne 22 26 dX10_dial_19 rfl rfl (r01 (b01_r _)) (fun c_19 => ?_) (fun c_19 => absurd c_19 (by rw [decide_eq_true (show 0 ≤ x ∧ x ≤ d 2 - 1 by omega)]; decide))
  refine j_iconst 27 dX10_dial_26 rfl ?_
  refine j_iconst 28 dX10_dial_27 rfl ?_
  refine j_callV 31 (As := [.int (i32 (0)), .int (i32 (1))]) (kc2 := 0) (ks2 := 0) dX10_dial_28 rfl mvX10_fails lk_X10_176 hM.md rfl ⟨Nat.le_of_ble_eq_true rfl, rfl⟩ rfl rfl (Nat.le_of_ble_eq_true rfl) ⟨Nat.le_of_ble_eq_true rfl, Nat.le_of_ble_eq_true rfl⟩ ⟨Nat.le_of_ble_eq_true rfl, Nat.le_of_ble_eq_true rfl⟩ (r_fails0 hM 1 up2_s) x_d (k_d1 ?_)
  refine j_if_ne 34 99 dX10_dial_31 rfl rfl (r32 (by decide) (by decide)) (fun c_31 => absurd c_31 (by decide)) (fun c_31 => ?_)
  refine j_aload_n 35 0 dX10_dial_34 rfl rfl ?_
  refine j_iload_n 36 2 dX10_dial_35 rfl rfl ?_
  refine j_iconst 37 dX10_dial_36 rfl ?_
  refine j_bipush 39 dX10_dial_37 rfl (by decide) ?_
  refine j_callS 42 (As := [.int (i32 (n)), .int (i32 (1)), .int (i32 (6))]) (kc2 := 0) (ks2 := 0) dX10_dial_39 rfl msX10_in lk_X10_57 rfl rfl (Nat.le_of_ble_eq_true rfl) ⟨Nat.le_of_ble_eq_true rfl, Nat.le_of_ble_eq_true rfl⟩ ⟨Nat.le_of_ble_eq_true rfl, Nat.le_of_ble_eq_true rfl⟩ (r_in hn (r32 (by decide) (by decide)) (r32 (by decide) (by decide))) x_d (k_d1 ?_)
  refine j_if_eq 45 63 dX10_dial_42 rfl rfl (r01 (b01_r _)) (fun c_42 => ?_) (fun c_42 => ?_)
  · refine j_iconst 64 dX10_dial_63 rfl ?_
    refine j_goto 68 dX10_dial_64 rfl ?_
    refine j_iconst 69 dX10_dial_68 rfl ?_
    refine j_callV 72 (As := [.int (i32 (1)), .int (i32 (2))]) (kc2 := 0) (ks2 := 0) dX10_dial_69 rfl mvX10_fails lk_X10_176 hM.md rfl ⟨Nat.le_of_ble_eq_true rfl, rfl⟩ rfl rfl (Nat.le_of_ble_eq_true rfl) ⟨Nat.le_of_ble_eq_true rfl, Nat.le_of_ble_eq_true rfl⟩ ⟨Nat.le_of_ble_eq_true rfl, Nat.le_of_ble_eq_true rfl⟩ (r_fails1 hM 2 (by decide) (by decide) (by decide) up2_s) x_d (k_d1 ?_)
    refine j_if_ne 75 99 dX10_dial_72 rfl rfl (r32 (by decide) (by decide)) (fun c_72 => ?_) (fun c_72 => absurd c_72 (by decide))
    refine j_iconst 100 dX10_dial_99 rfl ?_
    exact j_iret dX10_dial_100 rfl (⟨rfl, rfl, rfl⟩)
  · have h42 := of_decide_eq_true (b01_1 c_42)
    refine j_iload_n 46 2 dX10_dial_45 rfl rfl ?_
    refine j_aload_n 47 0 dX10_dial_46 rfl rfl ?_
    refine j_geti 50 dX10_dial_47 rfl fl_X10_38 hM.md rfl rfl (fun r_47 => ?_)
    refine j_top (y := (up2 g (m) 0 (0)) (m) 2) (upR_at (by omega)) ?_
    refine j_top (y := g m 2) ((up2_k (by decide))) ?_
    refine j_icmp_gt 53 63 dX10_dial_50 rfl rfl hn (by have h := r_47; rw [upR_at (by omega), up2_k (by decide)] at h; exact h) (fun c_50 => ?_) (fun c_50 => ?_)
    · refine j_iconst 64 dX10_dial_63 rfl ?_
      refine j_goto 68 dX10_dial_64 rfl ?_
      refine j_iconst 69 dX10_dial_68 rfl ?_
      refine j_callV 72 (As := [.int (i32 (1)), .int (i32 (2))]) (kc2 := 0) (ks2 := 0) dX10_dial_69 rfl mvX10_fails lk_X10_176 hM.md rfl ⟨Nat.le_of_ble_eq_true rfl, rfl⟩ rfl rfl (Nat.le_of_ble_eq_true rfl) ⟨Nat.le_of_ble_eq_true rfl, Nat.le_of_ble_eq_true rfl⟩ ⟨Nat.le_of_ble_eq_true rfl, Nat.le_of_ble_eq_true rfl⟩ (r_fails1 hM 2 (by decide) (by decide) (by decide) up2_s) x_d (k_d1 ?_)
      refine j_if_ne 75 99 dX10_dial_72 rfl rfl (r32 (by decide) (by decide)) (fun c_72 => ?_) (fun c_72 => absurd c_72 (by decide))
      refine j_iconst 100 dX10_dial_99 rfl ?_
      exact j_iret dX10_dial_100 rfl (⟨rfl, rfl, rfl⟩)
    · refine j_iload_n 54 3 dX10_dial_53 rfl rfl ?_
      refine j_iconst 55 dX10_dial_54 rfl ?_
      refine j_bipush 57 dX10_dial_55 rfl (by decide) ?_
      refine j_callS 60 (As := [.int (i32 (t)), .int (i32 (1)), .int (i32 (99))]) (kc2 := 0) (ks2 := 0) dX10_dial_57 rfl msX10_in lk_X10_57 rfl rfl (Nat.le_of_ble_eq_true rfl) ⟨Nat.le_of_ble_eq_true rfl, Nat.le_of_ble_eq_true rfl⟩ ⟨Nat.le_of_ble_eq_true rfl, Nat.le_of_ble_eq_true rfl⟩ (r_in ht (r32 (by decide) (by decide)) (r32 (by decide) (by decide))) x_d (k_d1 ?_)
      refine j_if_ne 63 67 dX10_dial_60 rfl rfl (r01 (b01_r _)) (fun c_60 => absurd c_60 (by rw [decide_eq_false (show ¬ (1 ≤ t ∧ t ≤ 99) by omega)]; decide)) (fun c_60 => ?_)
      refine j_iconst 64 dX10_dial_63 rfl ?_
      refine j_goto 68 dX10_dial_64 rfl ?_
      refine j_iconst 69 dX10_dial_68 rfl ?_
      refine j_callV 72 (As := [.int (i32 (1)), .int (i32 (2))]) (kc2 := 0) (ks2 := 0) dX10_dial_69 rfl mvX10_fails lk_X10_176 hM.md rfl ⟨Nat.le_of_ble_eq_true rfl, rfl⟩ rfl rfl (Nat.le_of_ble_eq_true rfl) ⟨Nat.le_of_ble_eq_true rfl, Nat.le_of_ble_eq_true rfl⟩ ⟨Nat.le_of_ble_eq_true rfl, Nat.le_of_ble_eq_true rfl⟩ (r_fails1 hM 2 (by decide) (by decide) (by decide) up2_s) x_d (k_d1 ?_)
      refine j_if_ne 75 99 dX10_dial_72 rfl rfl (r32 (by decide) (by decide)) (fun c_72 => ?_) (fun c_72 => absurd c_72 (by decide))
      refine j_iconst 100 dX10_dial_99 rfl ?_
      exact j_iret dX10_dial_100 rfl (⟨rfl, rfl, rfl⟩)

set_option maxRecDepth 20000 in
theorem r_dialS {w : Wd} {sh : Shp} {g : Mem} {d : Nat → Int} {m : Nat} (hM : MdS sh.1 m) (hP : PI d) {x n t : Int} (hx : R32 x) (hn : R32 n) (ht : R32 t) (h0 : 0 ≤ x ∧ x < d 2) (h1 : 1 ≤ n ∧ n ≤ 6 ∧ n ≤ g m 2) (h2 : 1 ≤ t ∧ t ≤ 99) (h40 : 40 ≤ d 5) : CT w mX10_dial [.ref (m), .int (i32 (x)), .int (i32 (n)), .int (i32 (t))] sh (upR g (m + 2) d) (dQ (some (.int (i32 (0)))) sh (upR (up2 (up2 g m 0 0) m 0 3) (m + 2) d)) := by
  have hI := hP.1
  have hb := hI.1
  have hb0 := hb.1
  have hb1 := hb.2.1
  have hb2 := hb.2.2.1
  have hb3 := hb.2.2.2.1
  have hb4 := hb.2.2.2.2.1
  have hb5 := hb.2.2.2.2.2.1
  refine j_entry (by decide) rfl (Nat.le_of_ble_eq_true rfl) (fun h => by cases h) rfl ?_
  show J w mX10_dial 0 [(0, .ref (m)), (1, .int (i32 (x))), (2, .int (i32 (n))), (3, .int (i32 (t)))] [] sh (upR g (m + 2) d) 0 0 _
  refine j_aload_n 1 0 dX10_dial_0 rfl rfl ?_
  refine j_iconst 2 dX10_dial_1 rfl ?_
  refine j_puti 5 dX10_dial_2 rfl fl_X10_35 hM.md rfl rfl rfl (r32 (by decide) (by decide)) ?_
  refine j_mem (up2_upR_n (by omega)) ?_
  refine j_aload_n 6 0 dX10_dial_5 rfl rfl ?_
  refine j_iload_n 7 1 dX10_dial_6 rfl rfl ?_
  refine j_iconst 8 dX10_dial_7 rfl ?_
  refine j_aload_n 9 0 dX10_dial_8 rfl rfl ?_
  refine j_getr 12 dX10_dial_9 rfl fl_X10_17 hM.md rfl (fun _ _ => rfl) rfl ?_
  refine j_iconst 13 dX10_dial_12 rfl ?_
  refine j_iald_d 14 2 dX10_dial_13 rfl hM.dat rfl rfl (show 2 < 729 by omega) (fun r_13 => ?_)
  refine j_iconst 15 dX10_dial_14 rfl ?_
  refine j_isub 16 dX10_dial_15 rfl ?_
  refine j_callS 19 (As := [.int (i32 (x)), .int (i32 (0)), .int (i32 ((d (2)) - (1)))]) (kc2 := 0) (ks2 := 0) dX10_dial_16 rfl msX10_in lk_X10_57 rfl rfl (Nat.le_of_ble_eq_true rfl) ⟨Nat.le_of_ble_eq_true rfl, Nat.le_of_ble_eq_true rfl⟩ ⟨Nat.le_of_ble_eq_true rfl, Nat.le_of_ble_eq_true rfl⟩ (r_in hx (r32 (by decide) (by decide)) (r32 (by omega) (by omega))) x_d (k_d1 ?_)
  refine j_if_ne 22 26 dX10_dial_19 rfl rfl (r01 (b01_r _)) (fun c_19 => ?_) (fun c_19 => absurd c_19 (by rw [decide_eq_true (show 0 ≤ x ∧ x ≤ d 2 - 1 by omega)]; decide))
  refine j_iconst 27 dX10_dial_26 rfl ?_
  refine j_iconst 28 dX10_dial_27 rfl ?_
  refine j_callV 31 (As := [.int (i32 (0)), .int (i32 (1))]) (kc2 := 0) (ks2 := 0) dX10_dial_28 rfl mvX10_fails lk_X10_176 hM.md rfl ⟨Nat.le_of_ble_eq_true rfl, rfl⟩ rfl rfl (Nat.le_of_ble_eq_true rfl) ⟨Nat.le_of_ble_eq_true rfl, Nat.le_of_ble_eq_true rfl⟩ ⟨Nat.le_of_ble_eq_true rfl, Nat.le_of_ble_eq_true rfl⟩ (r_fails0 hM 1 up2_s) x_d (k_d1 ?_)
  refine j_if_ne 34 99 dX10_dial_31 rfl rfl (r32 (by decide) (by decide)) (fun c_31 => absurd c_31 (by decide)) (fun c_31 => ?_)
  refine j_aload_n 35 0 dX10_dial_34 rfl rfl ?_
  refine j_iload_n 36 2 dX10_dial_35 rfl rfl ?_
  refine j_iconst 37 dX10_dial_36 rfl ?_
  refine j_bipush 39 dX10_dial_37 rfl (by decide) ?_
  refine j_callS 42 (As := [.int (i32 (n)), .int (i32 (1)), .int (i32 (6))]) (kc2 := 0) (ks2 := 0) dX10_dial_39 rfl msX10_in lk_X10_57 rfl rfl (Nat.le_of_ble_eq_true rfl) ⟨Nat.le_of_ble_eq_true rfl, Nat.le_of_ble_eq_true rfl⟩ ⟨Nat.le_of_ble_eq_true rfl, Nat.le_of_ble_eq_true rfl⟩ (r_in hn (r32 (by decide) (by decide)) (r32 (by decide) (by decide))) x_d (k_d1 ?_)
  refine j_if_eq 45 63 dX10_dial_42 rfl rfl (r01 (b01_r _)) (fun c_42 => absurd c_42 (by rw [decide_eq_true (show 1 ≤ n ∧ n ≤ 6 by omega)]; decide)) (fun c_42 => ?_)
  refine j_iload_n 46 2 dX10_dial_45 rfl rfl ?_
  refine j_aload_n 47 0 dX10_dial_46 rfl rfl ?_
  refine j_geti 50 dX10_dial_47 rfl fl_X10_38 hM.md rfl rfl (fun r_47 => ?_)
  refine j_top (y := (up2 g (m) 0 (0)) (m) 2) (upR_at (by omega)) ?_
  refine j_top (y := g m 2) ((up2_k (by decide))) ?_
  refine j_icmp_gt 53 63 dX10_dial_50 rfl rfl hn (by have h := r_47; rw [upR_at (by omega), up2_k (by decide)] at h; exact h) (fun c_50 => absurd c_50 (by omega)) (fun c_50 => ?_)
  refine j_iload_n 54 3 dX10_dial_53 rfl rfl ?_
  refine j_iconst 55 dX10_dial_54 rfl ?_
  refine j_bipush 57 dX10_dial_55 rfl (by decide) ?_
  refine j_callS 60 (As := [.int (i32 (t)), .int (i32 (1)), .int (i32 (99))]) (kc2 := 0) (ks2 := 0) dX10_dial_57 rfl msX10_in lk_X10_57 rfl rfl (Nat.le_of_ble_eq_true rfl) ⟨Nat.le_of_ble_eq_true rfl, Nat.le_of_ble_eq_true rfl⟩ ⟨Nat.le_of_ble_eq_true rfl, Nat.le_of_ble_eq_true rfl⟩ (r_in ht (r32 (by decide) (by decide)) (r32 (by decide) (by decide))) x_d (k_d1 ?_)
  refine j_if_ne 63 67 dX10_dial_60 rfl rfl (r01 (b01_r _)) (fun c_60 => ?_) (fun c_60 => absurd c_60 (by rw [decide_eq_true (show 1 ≤ t ∧ t ≤ 99 by omega)]; decide))
  refine j_iconst 68 dX10_dial_67 rfl ?_
  refine j_iconst 69 dX10_dial_68 rfl ?_
  refine j_callV 72 (As := [.int (i32 (0)), .int (i32 (2))]) (kc2 := 0) (ks2 := 0) dX10_dial_69 rfl mvX10_fails lk_X10_176 hM.md rfl ⟨Nat.le_of_ble_eq_true rfl, rfl⟩ rfl rfl (Nat.le_of_ble_eq_true rfl) ⟨Nat.le_of_ble_eq_true rfl, Nat.le_of_ble_eq_true rfl⟩ ⟨Nat.le_of_ble_eq_true rfl, Nat.le_of_ble_eq_true rfl⟩ (r_fails0 hM 2 up2_s) x_d (k_d1 ?_)
  refine j_if_ne 75 99 dX10_dial_72 rfl rfl (r32 (by decide) (by decide)) (fun c_72 => absurd c_72 (by decide)) (fun c_72 => ?_)
  refine j_aload_n 76 0 dX10_dial_75 rfl rfl ?_
  refine j_aload_n 77 0 dX10_dial_76 rfl rfl ?_
  refine j_getr 80 dX10_dial_77 rfl fl_X10_17 hM.md rfl (fun _ _ => rfl) rfl ?_
  refine j_iconst 81 dX10_dial_80 rfl ?_
  refine j_iald_d 82 5 dX10_dial_81 rfl hM.dat rfl rfl (show 5 < 729 by omega) (fun r_81 => ?_)
  refine j_bipush 84 dX10_dial_82 rfl (by decide) ?_
  refine j_icmp_ne 87 91 dX10_dial_84 rfl rfl r_81 (r32 (by decide) (by decide)) (fun c_84 => absurd c_84 (by omega)) (fun c_84 => ?_)
  refine j_iconst 88 dX10_dial_87 rfl ?_
  refine j_goto 92 dX10_dial_88 rfl ?_
  refine j_iconst 93 dX10_dial_92 rfl ?_
  refine j_callV 96 (As := [.int (i32 (1)), .int (i32 (3))]) (kc2 := 0) (ks2 := 0) dX10_dial_93 rfl mvX10_fails lk_X10_176 hM.md rfl ⟨Nat.le_of_ble_eq_true rfl, rfl⟩ rfl rfl (Nat.le_of_ble_eq_true rfl) ⟨Nat.le_of_ble_eq_true rfl, Nat.le_of_ble_eq_true rfl⟩ ⟨Nat.le_of_ble_eq_true rfl, Nat.le_of_ble_eq_true rfl⟩ (r_fails1 hM 3 (by decide) (by decide) (by decide) up2_s) x_d (k_d1 ?_)
  refine j_if_eq 99 101 dX10_dial_96 rfl rfl (r32 (by decide) (by decide)) (fun c_96 => absurd c_96 (by decide)) (fun c_96 => ?_)
  refine j_iconst 100 dX10_dial_99 rfl ?_
  exact j_iret dX10_dial_100 rfl (⟨rfl, rfl, rfl⟩)

set_option maxRecDepth 20000 in
theorem r_dialN {w : Wd} {sh : Shp} {g : Mem} {d : Nat → Int} {m : Nat} (hM : MdS sh.1 m) (hP : PI d) {x t : Int} {n : Nat} (h0 : 0 ≤ x ∧ x < d 2) (hn : 1 ≤ n ∧ n ≤ 6) (hf : (n : Int) ≤ g m 2) (h2t : 1 ≤ t ∧ t ≤ 99) (h40 : d 5 < 40) (hd : bdB (g (m + 1)) n = false) : CT w mX10_dial [.ref (m), .int (i32 (x)), .int (i32 ((n : Int))), .int (i32 (t))] sh (upR g (m + 2) d) (dQ (some (.int (i32 (-1)))) sh (upR (up2 (up2 g m 0 0) m 2 0) (m + 2) d)) := by
  have hI := hP.1
  have hb := hI.1
  have hb0 := hb.1
  have hb1 := hb.2.1
  have hb2 := hb.2.2.1
  have hb3 := hb.2.2.2.1
  have hb4 := hb.2.2.2.2.1
  have hb5 := hb.2.2.2.2.2.1
  have hT1 : (up2 (up2 g m 0 0) m 2 0) (m + 1) = g (m + 1) := (up2_row (by omega)).trans (up2_row (by omega))
  refine j_entry (by decide) rfl (Nat.le_of_ble_eq_true rfl) (fun h => by cases h) rfl ?_
  show J w mX10_dial 0 [(0, .ref (m)), (1, .int (i32 (x))), (2, .int (i32 ((n : Int)))), (3, .int (i32 (t)))] [] sh (upR g (m + 2) d) 0 0 _
  refine j_aload_n 1 0 dX10_dial_0 rfl rfl ?_
  refine j_iconst 2 dX10_dial_1 rfl ?_
  refine j_puti 5 dX10_dial_2 rfl fl_X10_35 hM.md rfl rfl rfl (r32 (by decide) (by decide)) ?_
  refine j_mem (up2_upR_n (by omega)) ?_
  refine j_aload_n 6 0 dX10_dial_5 rfl rfl ?_
  refine j_iload_n 7 1 dX10_dial_6 rfl rfl ?_
  refine j_iconst 8 dX10_dial_7 rfl ?_
  refine j_aload_n 9 0 dX10_dial_8 rfl rfl ?_
  refine j_getr 12 dX10_dial_9 rfl fl_X10_17 hM.md rfl (fun _ _ => rfl) rfl ?_
  refine j_iconst 13 dX10_dial_12 rfl ?_
  refine j_iald_d 14 2 dX10_dial_13 rfl hM.dat rfl rfl (show 2 < 729 by omega) (fun r_13 => ?_)
  refine j_iconst 15 dX10_dial_14 rfl ?_
  refine j_isub 16 dX10_dial_15 rfl ?_
  refine j_callS 19 (As := [.int (i32 (x)), .int (i32 (0)), .int (i32 ((d (2)) - (1)))]) (kc2 := 0) (ks2 := 0) dX10_dial_16 rfl msX10_in lk_X10_57 rfl rfl (Nat.le_of_ble_eq_true rfl) ⟨Nat.le_of_ble_eq_true rfl, Nat.le_of_ble_eq_true rfl⟩ ⟨Nat.le_of_ble_eq_true rfl, Nat.le_of_ble_eq_true rfl⟩ (r_in ⟨by omega, by omega⟩ (r32 (by decide) (by decide)) (r32 (by omega) (by omega))) x_d (k_d1 ?_)
  refine j_if_ne 22 26 dX10_dial_19 rfl rfl (r01 (b01_r _)) (fun c_19 => ?_) (fun c_19 => absurd c_19 (by rw [decide_eq_true (show 0 ≤ x ∧ x ≤ d 2 - 1 by omega)]; decide))
  refine j_iconst 27 dX10_dial_26 rfl ?_
  refine j_iconst 28 dX10_dial_27 rfl ?_
  refine j_callV 31 (As := [.int (i32 (0)), .int (i32 (1))]) (kc2 := 0) (ks2 := 0) dX10_dial_28 rfl mvX10_fails lk_X10_176 hM.md rfl ⟨Nat.le_of_ble_eq_true rfl, rfl⟩ rfl rfl (Nat.le_of_ble_eq_true rfl) ⟨Nat.le_of_ble_eq_true rfl, Nat.le_of_ble_eq_true rfl⟩ ⟨Nat.le_of_ble_eq_true rfl, Nat.le_of_ble_eq_true rfl⟩ (r_fails0 hM 1 up2_s) x_d (k_d1 ?_)
  refine j_if_ne 34 99 dX10_dial_31 rfl rfl (r32 (by decide) (by decide)) (fun c_31 => absurd c_31 (by decide)) (fun c_31 => ?_)
  refine j_aload_n 35 0 dX10_dial_34 rfl rfl ?_
  refine j_iload_n 36 2 dX10_dial_35 rfl rfl ?_
  refine j_iconst 37 dX10_dial_36 rfl ?_
  refine j_bipush 39 dX10_dial_37 rfl (by decide) ?_
  refine j_callS 42 (As := [.int (i32 ((n : Int))), .int (i32 (1)), .int (i32 (6))]) (kc2 := 0) (ks2 := 0) dX10_dial_39 rfl msX10_in lk_X10_57 rfl rfl (Nat.le_of_ble_eq_true rfl) ⟨Nat.le_of_ble_eq_true rfl, Nat.le_of_ble_eq_true rfl⟩ ⟨Nat.le_of_ble_eq_true rfl, Nat.le_of_ble_eq_true rfl⟩ (r_in (r32 (by omega) (by omega)) (r32 (by decide) (by decide)) (r32 (by decide) (by decide))) x_d (k_d1 ?_)
  refine j_if_eq 45 63 dX10_dial_42 rfl rfl (r01 (b01_r _)) (fun c_42 => absurd c_42 (by rw [decide_eq_true (show 1 ≤ (n : Int) ∧ (n : Int) ≤ 6 by omega)]; decide)) (fun c_42 => ?_)
  refine j_iload_n 46 2 dX10_dial_45 rfl rfl ?_
  refine j_aload_n 47 0 dX10_dial_46 rfl rfl ?_
  refine j_geti 50 dX10_dial_47 rfl fl_X10_38 hM.md rfl rfl (fun r_47 => ?_)
  refine j_top (y := (up2 g (m) 0 (0)) (m) 2) (upR_at (by omega)) ?_
  refine j_top (y := g m 2) ((up2_k (by decide))) ?_
  refine j_icmp_gt 53 63 dX10_dial_50 rfl rfl (r32 (by omega) (by omega)) (by have h := r_47; rw [upR_at (by omega), up2_k (by decide)] at h; exact h) (fun c_50 => absurd c_50 (by omega)) (fun c_50 => ?_)
  refine j_iload_n 54 3 dX10_dial_53 rfl rfl ?_
  refine j_iconst 55 dX10_dial_54 rfl ?_
  refine j_bipush 57 dX10_dial_55 rfl (by decide) ?_
  refine j_callS 60 (As := [.int (i32 (t)), .int (i32 (1)), .int (i32 (99))]) (kc2 := 0) (ks2 := 0) dX10_dial_57 rfl msX10_in lk_X10_57 rfl rfl (Nat.le_of_ble_eq_true rfl) ⟨Nat.le_of_ble_eq_true rfl, Nat.le_of_ble_eq_true rfl⟩ ⟨Nat.le_of_ble_eq_true rfl, Nat.le_of_ble_eq_true rfl⟩ (r_in (r32 (by omega) (by omega)) (r32 (by decide) (by decide)) (r32 (by decide) (by decide))) x_d (k_d1 ?_)
  refine j_if_ne 63 67 dX10_dial_60 rfl rfl (r01 (b01_r _)) (fun c_60 => ?_) (fun c_60 => absurd c_60 (by rw [decide_eq_true (show 1 ≤ t ∧ t ≤ 99 by omega)]; decide))
  refine j_iconst 68 dX10_dial_67 rfl ?_
  refine j_iconst 69 dX10_dial_68 rfl ?_
  refine j_callV 72 (As := [.int (i32 (0)), .int (i32 (2))]) (kc2 := 0) (ks2 := 0) dX10_dial_69 rfl mvX10_fails lk_X10_176 hM.md rfl ⟨Nat.le_of_ble_eq_true rfl, rfl⟩ rfl rfl (Nat.le_of_ble_eq_true rfl) ⟨Nat.le_of_ble_eq_true rfl, Nat.le_of_ble_eq_true rfl⟩ ⟨Nat.le_of_ble_eq_true rfl, Nat.le_of_ble_eq_true rfl⟩ (r_fails0 hM 2 up2_s) x_d (k_d1 ?_)
  refine j_if_ne 75 99 dX10_dial_72 rfl rfl (r32 (by decide) (by decide)) (fun c_72 => absurd c_72 (by decide)) (fun c_72 => ?_)
  refine j_aload_n 76 0 dX10_dial_75 rfl rfl ?_
  refine j_aload_n 77 0 dX10_dial_76 rfl rfl ?_
  refine j_getr 80 dX10_dial_77 rfl fl_X10_17 hM.md rfl (fun _ _ => rfl) rfl ?_
  refine j_iconst 81 dX10_dial_80 rfl ?_
  refine j_iald_d 82 5 dX10_dial_81 rfl hM.dat rfl rfl (show 5 < 729 by omega) (fun r_81 => ?_)
  refine j_bipush 84 dX10_dial_82 rfl (by decide) ?_
  refine j_icmp_ne 87 91 dX10_dial_84 rfl rfl r_81 (r32 (by decide) (by decide)) (fun c_84 => ?_) (fun c_84 => absurd c_84 (by omega))
  refine j_iconst 92 dX10_dial_91 rfl ?_
  refine j_iconst 93 dX10_dial_92 rfl ?_
  refine j_callV 96 (As := [.int (i32 (0)), .int (i32 (3))]) (kc2 := 0) (ks2 := 0) dX10_dial_93 rfl mvX10_fails lk_X10_176 hM.md rfl ⟨Nat.le_of_ble_eq_true rfl, rfl⟩ rfl rfl (Nat.le_of_ble_eq_true rfl) ⟨Nat.le_of_ble_eq_true rfl, Nat.le_of_ble_eq_true rfl⟩ ⟨Nat.le_of_ble_eq_true rfl, Nat.le_of_ble_eq_true rfl⟩ (r_fails0 hM 3 up2_s) x_d (k_d1 ?_)
  refine j_if_eq 99 101 dX10_dial_96 rfl rfl (r32 (by decide) (by decide)) (fun c_96 => ?_) (fun c_96 => absurd c_96 (by decide))
  refine j_aload_n 102 0 dX10_dial_101 rfl rfl ?_
  refine j_iconst 103 dX10_dial_102 rfl ?_
  refine j_puti 106 dX10_dial_103 rfl fl_X10_38 hM.md rfl rfl rfl (r32 (by decide) (by decide)) ?_
  refine j_mem (up2_upR_n (by omega)) ?_
  refine j_aload_n 107 0 dX10_dial_106 rfl rfl ?_
  refine j_iload_n 108 2 dX10_dial_107 rfl rfl ?_
  refine j_callV 111 (As := [.int (i32 ((n : Int)))]) (kc2 := 0) (ks2 := 0) dX10_dial_108 rfl mvX10_valueOf lk_X10_291 hM.md rfl ⟨Nat.le_of_ble_eq_true rfl, rfl⟩ rfl rfl (Nat.le_of_ble_eq_true rfl) ⟨Nat.le_of_ble_eq_true rfl, Nat.le_of_ble_eq_true rfl⟩ ⟨Nat.le_of_ble_eq_true rfl, Nat.le_of_ble_eq_true rfl⟩ (r_valueOf (g := (up2 (up2 g m 0 0) m 2 0)) hM hn.2) x_d (k_d1 ?_)
  refine j_top (y := -1) (by rw [hT1, hd]; rfl) ?_
  refine j_istore 113 (L2 := [(4, .int (i32 (-1))), (0, .ref (m)), (1, .int (i32 (x))), (2, .int (i32 ((n : Int)))), (3, .int (i32 (t)))]) dX10_dial_111 rfl (Nat.le_of_ble_eq_true rfl) rfl ?_
  refine j_iload 115 0 dX10_dial_113 rfl rfl ?_
  refine j_iconst 116 dX10_dial_115 rfl ?_
  refine j_icmp_ne 119 121 dX10_dial_116 rfl rfl (r32 (by decide) (by decide)) (r32 (by decide) (by decide)) (fun c_116 => absurd c_116 (by decide)) (fun c_116 => ?_)
  refine j_iconst 120 dX10_dial_119 rfl ?_
  exact j_iret dX10_dial_120 rfl (⟨rfl, rfl, rfl⟩)

theorem up2_c2 {g : Mem} {a : Nat} {x y : Int} : up2 (up2 g a 2 y) a 0 x = up2 (up2 g a 0 x) a 2 y := by
  funext b j
  by_cases hb : b = a
  · subst hb
    by_cases j0 : j = 0
    · subst j0; rw [up2_s, up2_k (by decide), up2_s]
    · rw [up2_k j0]
      by_cases j2 : j = 2
      · subst j2; rw [up2_s, up2_s]
      · rw [up2_k j2, up2_k j2, up2_k j0]
  · rw [up2_a hb, up2_a hb, up2_a hb, up2_a hb]

set_option maxRecDepth 20000 in
theorem r_dial {w : Wd} {sh : Shp} {g : Mem} {d : Nat → Int} {m : Nat} (hM : MdS sh.1 m) (hP : PI d) {c9 : Nat} {hist : Nat → (Nat → Int)} (hH : HR g m hist c9) {x t : Int} {n : Nat} (h0 : 0 ≤ x ∧ x < d 2) (hn : 1 ≤ n ∧ n ≤ 6) (hf : (n : Int) ≤ g m 2) (h2t : 1 ≤ t ∧ t ≤ 99) (h40 : d 5 < 40) (hd : bdB (g (m + 1)) n = true) : CT w mX10_dial [.ref (m), .int (i32 (x)), .int (i32 ((n : Int))), .int (i32 (t))] sh (upR g (m + 2) d) (iQ sh (fun z g2 => z = d 5 ∧ g2 (m + 2) = s_lay d x (n : Int) (bv (g (m + 1)) n) t (bm (d 6 + 1)) ∧ HR g2 m (push d hist) (if c9 < 8 then c9 + 1 else 8) ∧ (∀ a, a ≠ m → a ≠ m + 2 → (a < m + 6 ∨ m + 14 ≤ a) → g2 a = (up2 g m 2 0) a) ∧ (∀ j, j ≠ 0 → j ≠ 12 → g2 m j = (up2 g m 2 0) m j) ∧ g2 m 0 = 0)) := by
  have hI := hP.1
  have hb := hI.1
  have hb0 := hb.1
  have hb1 := hb.2.1
  have hb2 := hb.2.2.1
  have hb3 := hb.2.2.2.1
  have hb4 := hb.2.2.2.2.1
  have hb5 := hb.2.2.2.2.2.1
  have hT1 : (up2 (up2 g m 0 0) m 2 0) (m + 1) = g (m + 1) := (up2_row (by omega)).trans (up2_row (by omega))
  have hbr := bv_rng hd
  have hp6 : pw n ≤ pw 6 := pw_le hn.2
  have hp : pw 6 = 1000000 := rfl
  have hH1 : HR (upR (up2 (up2 g m 0 0) m 2 0) (m + 2) d) m hist c9 := hH.same (by rw [upR_at (by omega), up2_k (by decide)]; exact up2_k (by decide)) (fun a a1 a2 => by rw [upR_n (by omega), up2_row (by omega)]; exact up2_row (by omega))
  refine j_entry (by decide) rfl (Nat.le_of_ble_eq_true rfl) (fun h => by cases h) rfl ?_
  show J w mX10_dial 0 [(0, .ref (m)), (1, .int (i32 (x))), (2, .int (i32 ((n : Int)))), (3, .int (i32 (t)))] [] sh (upR g (m + 2) d) 0 0 _
  refine j_aload_n 1 0 dX10_dial_0 rfl rfl ?_
  refine j_iconst 2 dX10_dial_1 rfl ?_
  refine j_puti 5 dX10_dial_2 rfl fl_X10_35 hM.md rfl rfl rfl (r32 (by decide) (by decide)) ?_
  refine j_mem (up2_upR_n (by omega)) ?_
  refine j_aload_n 6 0 dX10_dial_5 rfl rfl ?_
  refine j_iload_n 7 1 dX10_dial_6 rfl rfl ?_
  refine j_iconst 8 dX10_dial_7 rfl ?_
  refine j_aload_n 9 0 dX10_dial_8 rfl rfl ?_
  refine j_getr 12 dX10_dial_9 rfl fl_X10_17 hM.md rfl (fun _ _ => rfl) rfl ?_
  refine j_iconst 13 dX10_dial_12 rfl ?_
  refine j_iald_d 14 2 dX10_dial_13 rfl hM.dat rfl rfl (show 2 < 729 by omega) (fun r_13 => ?_)
  refine j_iconst 15 dX10_dial_14 rfl ?_
  refine j_isub 16 dX10_dial_15 rfl ?_
  refine j_callS 19 (As := [.int (i32 (x)), .int (i32 (0)), .int (i32 ((d (2)) - (1)))]) (kc2 := 0) (ks2 := 0) dX10_dial_16 rfl msX10_in lk_X10_57 rfl rfl (Nat.le_of_ble_eq_true rfl) ⟨Nat.le_of_ble_eq_true rfl, Nat.le_of_ble_eq_true rfl⟩ ⟨Nat.le_of_ble_eq_true rfl, Nat.le_of_ble_eq_true rfl⟩ (r_in ⟨by omega, by omega⟩ (r32 (by decide) (by decide)) (r32 (by omega) (by omega))) x_d (k_d1 ?_)
  refine j_if_ne 22 26 dX10_dial_19 rfl rfl (r01 (b01_r _)) (fun c_19 => ?_) (fun c_19 => absurd c_19 (by rw [decide_eq_true (show 0 ≤ x ∧ x ≤ d 2 - 1 by omega)]; decide))
  refine j_iconst 27 dX10_dial_26 rfl ?_
  refine j_iconst 28 dX10_dial_27 rfl ?_
  refine j_callV 31 (As := [.int (i32 (0)), .int (i32 (1))]) (kc2 := 0) (ks2 := 0) dX10_dial_28 rfl mvX10_fails lk_X10_176 hM.md rfl ⟨Nat.le_of_ble_eq_true rfl, rfl⟩ rfl rfl (Nat.le_of_ble_eq_true rfl) ⟨Nat.le_of_ble_eq_true rfl, Nat.le_of_ble_eq_true rfl⟩ ⟨Nat.le_of_ble_eq_true rfl, Nat.le_of_ble_eq_true rfl⟩ (r_fails0 hM 1 up2_s) x_d (k_d1 ?_)
  refine j_if_ne 34 99 dX10_dial_31 rfl rfl (r32 (by decide) (by decide)) (fun c_31 => absurd c_31 (by decide)) (fun c_31 => ?_)
  refine j_aload_n 35 0 dX10_dial_34 rfl rfl ?_
  refine j_iload_n 36 2 dX10_dial_35 rfl rfl ?_
  refine j_iconst 37 dX10_dial_36 rfl ?_
  refine j_bipush 39 dX10_dial_37 rfl (by decide) ?_
  refine j_callS 42 (As := [.int (i32 ((n : Int))), .int (i32 (1)), .int (i32 (6))]) (kc2 := 0) (ks2 := 0) dX10_dial_39 rfl msX10_in lk_X10_57 rfl rfl (Nat.le_of_ble_eq_true rfl) ⟨Nat.le_of_ble_eq_true rfl, Nat.le_of_ble_eq_true rfl⟩ ⟨Nat.le_of_ble_eq_true rfl, Nat.le_of_ble_eq_true rfl⟩ (r_in (r32 (by omega) (by omega)) (r32 (by decide) (by decide)) (r32 (by decide) (by decide))) x_d (k_d1 ?_)
  refine j_if_eq 45 63 dX10_dial_42 rfl rfl (r01 (b01_r _)) (fun c_42 => absurd c_42 (by rw [decide_eq_true (show 1 ≤ (n : Int) ∧ (n : Int) ≤ 6 by omega)]; decide)) (fun c_42 => ?_)
  refine j_iload_n 46 2 dX10_dial_45 rfl rfl ?_
  refine j_aload_n 47 0 dX10_dial_46 rfl rfl ?_
  refine j_geti 50 dX10_dial_47 rfl fl_X10_38 hM.md rfl rfl (fun r_47 => ?_)
  refine j_top (y := (up2 g (m) 0 (0)) (m) 2) (upR_at (by omega)) ?_
  refine j_top (y := g m 2) ((up2_k (by decide))) ?_
  refine j_icmp_gt 53 63 dX10_dial_50 rfl rfl (r32 (by omega) (by omega)) (by have h := r_47; rw [upR_at (by omega), up2_k (by decide)] at h; exact h) (fun c_50 => absurd c_50 (by omega)) (fun c_50 => ?_)
  refine j_iload_n 54 3 dX10_dial_53 rfl rfl ?_
  refine j_iconst 55 dX10_dial_54 rfl ?_
  refine j_bipush 57 dX10_dial_55 rfl (by decide) ?_
  refine j_callS 60 (As := [.int (i32 (t)), .int (i32 (1)), .int (i32 (99))]) (kc2 := 0) (ks2 := 0) dX10_dial_57 rfl msX10_in lk_X10_57 rfl rfl (Nat.le_of_ble_eq_true rfl) ⟨Nat.le_of_ble_eq_true rfl, Nat.le_of_ble_eq_true rfl⟩ ⟨Nat.le_of_ble_eq_true rfl, Nat.le_of_ble_eq_true rfl⟩ (r_in (r32 (by omega) (by omega)) (r32 (by decide) (by decide)) (r32 (by decide) (by decide))) x_d (k_d1 ?_)
  refine j_if_ne 63 67 dX10_dial_60 rfl rfl (r01 (b01_r _)) (fun c_60 => ?_) (fun c_60 => absurd c_60 (by rw [decide_eq_true (show 1 ≤ t ∧ t ≤ 99 by omega)]; decide))
  refine j_iconst 68 dX10_dial_67 rfl ?_
  refine j_iconst 69 dX10_dial_68 rfl ?_
  refine j_callV 72 (As := [.int (i32 (0)), .int (i32 (2))]) (kc2 := 0) (ks2 := 0) dX10_dial_69 rfl mvX10_fails lk_X10_176 hM.md rfl ⟨Nat.le_of_ble_eq_true rfl, rfl⟩ rfl rfl (Nat.le_of_ble_eq_true rfl) ⟨Nat.le_of_ble_eq_true rfl, Nat.le_of_ble_eq_true rfl⟩ ⟨Nat.le_of_ble_eq_true rfl, Nat.le_of_ble_eq_true rfl⟩ (r_fails0 hM 2 up2_s) x_d (k_d1 ?_)
  refine j_if_ne 75 99 dX10_dial_72 rfl rfl (r32 (by decide) (by decide)) (fun c_72 => absurd c_72 (by decide)) (fun c_72 => ?_)
  refine j_aload_n 76 0 dX10_dial_75 rfl rfl ?_
  refine j_aload_n 77 0 dX10_dial_76 rfl rfl ?_
  refine j_getr 80 dX10_dial_77 rfl fl_X10_17 hM.md rfl (fun _ _ => rfl) rfl ?_
  refine j_iconst 81 dX10_dial_80 rfl ?_
  refine j_iald_d 82 5 dX10_dial_81 rfl hM.dat rfl rfl (show 5 < 729 by omega) (fun r_81 => ?_)
  refine j_bipush 84 dX10_dial_82 rfl (by decide) ?_
  refine j_icmp_ne 87 91 dX10_dial_84 rfl rfl r_81 (r32 (by decide) (by decide)) (fun c_84 => ?_) (fun c_84 => absurd c_84 (by omega))
  refine j_iconst 92 dX10_dial_91 rfl ?_
  refine j_iconst 93 dX10_dial_92 rfl ?_
  refine j_callV 96 (As := [.int (i32 (0)), .int (i32 (3))]) (kc2 := 0) (ks2 := 0) dX10_dial_93 rfl mvX10_fails lk_X10_176 hM.md rfl ⟨Nat.le_of_ble_eq_true rfl, rfl⟩ rfl rfl (Nat.le_of_ble_eq_true rfl) ⟨Nat.le_of_ble_eq_true rfl, Nat.le_of_ble_eq_true rfl⟩ ⟨Nat.le_of_ble_eq_true rfl, Nat.le_of_ble_eq_true rfl⟩ (r_fails0 hM 3 up2_s) x_d (k_d1 ?_)
  refine j_if_eq 99 101 dX10_dial_96 rfl rfl (r32 (by decide) (by decide)) (fun c_96 => ?_) (fun c_96 => absurd c_96 (by decide))
  refine j_aload_n 102 0 dX10_dial_101 rfl rfl ?_
  refine j_iconst 103 dX10_dial_102 rfl ?_
  refine j_puti 106 dX10_dial_103 rfl fl_X10_38 hM.md rfl rfl rfl (r32 (by decide) (by decide)) ?_
  refine j_mem (up2_upR_n (by omega)) ?_
  refine j_aload_n 107 0 dX10_dial_106 rfl rfl ?_
  refine j_iload_n 108 2 dX10_dial_107 rfl rfl ?_
  refine j_callV 111 (As := [.int (i32 ((n : Int)))]) (kc2 := 0) (ks2 := 0) dX10_dial_108 rfl mvX10_valueOf lk_X10_291 hM.md rfl ⟨Nat.le_of_ble_eq_true rfl, rfl⟩ rfl rfl (Nat.le_of_ble_eq_true rfl) ⟨Nat.le_of_ble_eq_true rfl, Nat.le_of_ble_eq_true rfl⟩ ⟨Nat.le_of_ble_eq_true rfl, Nat.le_of_ble_eq_true rfl⟩ (r_valueOf (g := (up2 (up2 g m 0 0) m 2 0)) hM hn.2) x_d (k_d1 ?_)
  refine j_top (y := bv (g (m + 1)) n) (by rw [hT1, if_pos hd]) ?_
  refine j_istore 113 (L2 := [(4, .int (i32 (bv (g (m + 1)) n))), (0, .ref (m)), (1, .int (i32 (x))), (2, .int (i32 ((n : Int)))), (3, .int (i32 (t)))]) dX10_dial_111 rfl (Nat.le_of_ble_eq_true rfl) rfl ?_
  refine j_iload 115 0 dX10_dial_113 rfl rfl ?_
  refine j_iconst 116 dX10_dial_115 rfl ?_
  refine j_icmp_ne 119 121 dX10_dial_116 rfl rfl (r32 (by omega) (by omega)) (r32 (by decide) (by decide)) (fun c_116 => ?_) (fun c_116 => absurd c_116 (by omega))
  refine j_aload_n 122 1 dX10_dial_121 rfl rfl ?_
  refine j_callV 125 (As := []) (kc2 := 0) (ks2 := 0) dX10_dial_122 rfl mvX10_remember lk_X10_185 hM.md rfl ⟨Nat.le_of_ble_eq_true rfl, rfl⟩ rfl rfl (Nat.le_of_ble_eq_true rfl) ⟨Nat.le_of_ble_eq_true rfl, Nat.le_of_ble_eq_true rfl⟩ ⟨Nat.le_of_ble_eq_true rfl, Nat.le_of_ble_eq_true rfl⟩ (r_remember hM hH1) x_v (k_v fun g_122 h_122 => ?_)
  have hRM : RM (up2 g m 2 0) g_122 m d hist c9 := rem_RM (g := up2 g m 2 0) (by rw [up2_c2]; exact h_122)
  refine j_mem (upR_id2 hRM.2.1).symm ?_
  refine j_aload_n 126 1 dX10_dial_125 rfl rfl ?_
  refine j_getr 129 dX10_dial_126 rfl fl_X10_17 hM.md rfl (fun _ _ => rfl) rfl ?_
  refine j_iload_n 130 2 dX10_dial_129 rfl rfl ?_
  refine j_iload_n 131 3 dX10_dial_130 rfl rfl ?_
  refine j_iload 133 0 dX10_dial_131 rfl rfl ?_
  refine j_iload_n 134 4 dX10_dial_133 rfl rfl ?_
  refine j_aload_n 135 1 dX10_dial_134 rfl rfl ?_
  refine j_getr 138 dX10_dial_135 rfl fl_X10_17 hM.md rfl (fun _ _ => rfl) rfl ?_
  refine j_bipush 140 dX10_dial_138 rfl (by decide) ?_
  refine j_iald_d 141 6 dX10_dial_140 rfl hM.dat rfl rfl (show 6 < 729 by omega) (fun r_140 => ?_)
  refine j_iconst 142 dX10_dial_141 rfl ?_
  refine j_iadd 143 dX10_dial_142 rfl ?_
  refine j_nb ?_
  obtain ⟨cc, hcc⟩ := Int.eq_ofNat_of_zero_le hb5.1
  refine j_callS 146 (As := [.ref (m + 2), .int (i32 (x)), .int (i32 ((n : Int))), .int (i32 (bv (g (m + 1)) n)), .int (i32 (t)), .int (i32 (bm ((d 6) + 1)))]) (kc2 := 0) (ks2 := 0) dX10_dial_143 rfl msX10_layCall lk_X10_132 rfl rfl (Nat.le_of_ble_eq_true rfl) ⟨Nat.le_of_ble_eq_true rfl, Nat.le_of_ble_eq_true rfl⟩ ⟨Nat.le_of_ble_eq_true rfl, Nat.le_of_ble_eq_true rfl⟩ (r_layCall hM.dat (c := cc) hcc (by omega) ⟨by omega, by omega⟩ (r32 (by omega) (by omega)) (r32 (by omega) (by omega)) (r32 (by omega) (by omega)) (bm_r _)) x_d (k_d0 ?_)
  refine j_aload_n 147 1 dX10_dial_146 rfl rfl ?_
  refine j_getr 150 dX10_dial_147 rfl fl_X10_17 hM.md rfl (fun _ _ => rfl) rfl ?_
  refine j_iconst 151 dX10_dial_150 rfl ?_
  refine j_iald_d 152 5 dX10_dial_151 rfl hM.dat rfl rfl (show 5 < 729 by omega) (fun r_151 => ?_)
  refine j_top (y := d 5 + 1) (lay_5) ?_
  refine j_iconst 153 dX10_dial_152 rfl ?_
  refine j_isub 154 dX10_dial_153 rfl ?_
  exact j_iret dX10_dial_154 rfl (⟨_, rfl, rfl, by omega, hRM.out⟩)

theorem unm_all {d : Nat → Int} {c k : Nat} (hI : Inv d) (hr4 : (d (179 + 14 * c)).toNat < 4) (hk : d 1 ≤ (k : Int)) (hk3 : k ≤ 3) : unmN (s_freeReg d c) c k = unmN (s_freeReg d c) c 3 := by
  have hb := hI.1.2.1
  have hs : ∀ i, i < 3 → k ≤ i → unmN (s_freeReg d c) c (i + 1) = unmN (s_freeReg d c) c i := fun i h3 hi => unm_n (by
    rw [freeReg_n hr4 (by omega) (by omega)]
    rcases hI.2.2.2.2.1 i h3 with q | ⟨c2, q1, q2, q3, q4⟩
    · rw [q.1]; omega
    · omega)
  by_cases h0 : k = 3
  · rw [h0]
  · have e2 := hs 2 (by omega) (by omega)
    by_cases h2 : k = 2
    · rw [h2]; exact e2.symm
    · have e1 := hs 1 (by omega) (by omega)
      by_cases h1 : k = 1
      · rw [h1]; exact (e2.trans e1).symm
      · have e0 := hs 0 (by omega) (by omega)
        rw [show k = 0 by omega]; exact ((e2.trans e1).trans e0).symm

set_option maxRecDepth 20000 in
theorem r_hang {w : Wd} {sh : Shp} {g : Mem} {d : Nat → Int} {m : Nat} (hM : MdS sh.1 m) (hP : PI d) {c9 : Nat} {hist : Nat → (Nat → Int)} (hH : HR g m hist c9) {c : Nat} (hc : (c : Int) < d 5) (hc40 : c < 40) (hst : d (173 + 14 * c) ≤ 5) : CT w mX10_hang [.ref (m), .int (i32 ((c : Int)))] sh (upR g (m + 2) d) (iQ sh (fun z g2 => z = d (173 + 14 * c) ∧ g2 (m + 2) = s_hang d c ∧ HR g2 m (push d hist) (if c9 < 8 then c9 + 1 else 8) ∧ (∀ a, a ≠ m → a ≠ m + 2 → (a < m + 6 ∨ m + 14 ≤ a) → g2 a = g a) ∧ (∀ j, j ≠ 0 → j ≠ 12 → g2 m j = g m j) ∧ g2 m 0 = 0)) := by
  have hI := hP.1
  have hb := hI.1
  have hb0 := hb.1
  have hb1 := hb.2.1
  have hb2 := hb.2.2.1
  have hb3 := hb.2.2.2.1
  have hb4 := hb.2.2.2.2.1
  have hb5 := hb.2.2.2.2.2.1
  have hcc := hI.2.2.2.1 c hc
  have hr4 : d (179 + 14 * c) = -1 ∨ (0 ≤ d (179 + 14 * c) ∧ d (179 + 14 * c) < 4) := hcc.2.2.elim (fun q => Or.inl q.1) (fun ⟨r, r1, r2, r3⟩ => Or.inr (by omega))
  have hr4b : (d (179 + 14 * c)).toNat < 4 := by omega
  refine j_entry (by decide) rfl (Nat.le_of_ble_eq_true rfl) (fun h => by cases h) rfl ?_
  show J w mX10_hang 0 [(0, .ref (m)), (1, .int (i32 ((c : Int))))] [] sh (upR g (m + 2) d) 0 0 _
  refine j_aload_n 1 0 dX10_hang_0 rfl rfl ?_
  refine j_iconst 2 dX10_hang_1 rfl ?_
  refine j_puti 5 dX10_hang_2 rfl fl_X10_35 hM.md rfl rfl rfl (r32 (by decide) (by decide)) ?_
  refine j_mem (up2_upR_n (by omega)) ?_
  refine j_aload_n 6 0 dX10_hang_5 rfl rfl ?_
  refine j_iload_n 7 1 dX10_hang_6 rfl rfl ?_
  refine j_callV 10 (As := [.int (i32 ((c : Int)))]) (kc2 := 0) (ks2 := 0) dX10_hang_7 rfl mvX10_noCall lk_X10_288 hM.md rfl ⟨Nat.le_of_ble_eq_true rfl, rfl⟩ rfl rfl (Nat.le_of_ble_eq_true rfl) ⟨Nat.le_of_ble_eq_true rfl, Nat.le_of_ble_eq_true rfl⟩ ⟨Nat.le_of_ble_eq_true rfl, Nat.le_of_ble_eq_true rfl⟩ (r_noCall0 hM hI (r32 (by omega) (by omega)) up2_s (by omega)) x_d (k_d1 ?_)
  refine j_if_ne 13 37 dX10_hang_10 rfl rfl (r32 (by decide) (by decide)) (fun c_10 => absurd c_10 (by decide)) (fun c_10 => ?_)
  refine j_aload_n 14 0 dX10_hang_13 rfl rfl ?_
  refine j_aload_n 15 0 dX10_hang_14 rfl rfl ?_
  refine j_iload_n 16 1 dX10_hang_15 rfl rfl ?_
  refine j_iconst 17 dX10_hang_16 rfl ?_
  refine j_callV 20 (As := [.int (i32 ((c : Int))), .int (i32 (4))]) (kc2 := 0) (ks2 := 0) dX10_hang_17 rfl mvX10_of lk_X10_192 hM.md rfl ⟨Nat.le_of_ble_eq_true rfl, rfl⟩ rfl rfl (Nat.le_of_ble_eq_true rfl) ⟨Nat.le_of_ble_eq_true rfl, Nat.le_of_ble_eq_true rfl⟩ ⟨Nat.le_of_ble_eq_true rfl, Nat.le_of_ble_eq_true rfl⟩ (r_of hM c 4 (173 + 14 * c) rfl rfl (by omega) hc40 (by decide)) x_d (k_d1 ?_)
  refine j_bipush 22 dX10_hang_20 rfl (by decide) ?_
  refine j_icmp_lt 25 29 dX10_hang_22 rfl rfl ⟨by omega, by omega⟩ (r32 (by decide) (by decide)) (fun c_22 => ?_) (fun c_22 => absurd c_22 (by omega))
  refine j_iconst 30 dX10_hang_29 rfl ?_
  refine j_iconst 31 dX10_hang_30 rfl ?_
  refine j_callV 34 (As := [.int (i32 (0)), .int (i32 (2))]) (kc2 := 0) (ks2 := 0) dX10_hang_31 rfl mvX10_fails lk_X10_176 hM.md rfl ⟨Nat.le_of_ble_eq_true rfl, rfl⟩ rfl rfl (Nat.le_of_ble_eq_true rfl) ⟨Nat.le_of_ble_eq_true rfl, Nat.le_of_ble_eq_true rfl⟩ ⟨Nat.le_of_ble_eq_true rfl, Nat.le_of_ble_eq_true rfl⟩ (r_fails0 hM 2 up2_s) x_d (k_d1 ?_)
  refine j_if_eq 37 39 dX10_hang_34 rfl rfl (r32 (by decide) (by decide)) (fun c_34 => ?_) (fun c_34 => absurd c_34 (by decide))
  refine j_aload_n 40 0 dX10_hang_39 rfl rfl ?_
  refine j_callV 43 (As := []) (kc2 := 0) (ks2 := 0) dX10_hang_40 rfl mvX10_remember lk_X10_185 hM.md rfl ⟨Nat.le_of_ble_eq_true rfl, rfl⟩ rfl rfl (Nat.le_of_ble_eq_true rfl) ⟨Nat.le_of_ble_eq_true rfl, Nat.le_of_ble_eq_true rfl⟩ ⟨Nat.le_of_ble_eq_true rfl, Nat.le_of_ble_eq_true rfl⟩ (r_remember hM hH.thr) x_v (k_v fun g_40 h_40 => ?_)
  have hRM : RM g g_40 m d hist c9 := rem_RM h_40
  refine j_mem (upR_id2 hRM.2.1).symm ?_
  refine j_aload_n 44 0 dX10_hang_43 rfl rfl ?_
  refine j_iload_n 45 1 dX10_hang_44 rfl rfl ?_
  refine j_iconst 46 dX10_hang_45 rfl ?_
  refine j_callV 49 (As := [.int (i32 ((c : Int))), .int (i32 (4))]) (kc2 := 0) (ks2 := 0) dX10_hang_46 rfl mvX10_of lk_X10_192 hM.md rfl ⟨Nat.le_of_ble_eq_true rfl, rfl⟩ rfl rfl (Nat.le_of_ble_eq_true rfl) ⟨Nat.le_of_ble_eq_true rfl, Nat.le_of_ble_eq_true rfl⟩ ⟨Nat.le_of_ble_eq_true rfl, Nat.le_of_ble_eq_true rfl⟩ (r_of hM c 4 (173 + 14 * c) rfl rfl (by omega) hc40 (by decide)) x_d (k_d1 ?_)
  refine j_istore_n 50 (L2 := [(2, .int (i32 (d (173 + 14 * c)))), (0, .ref (m)), (1, .int (i32 ((c : Int))))]) dX10_hang_49 rfl rfl (Nat.le_of_ble_eq_true rfl) rfl ?_
  refine j_aload_n 51 1 dX10_hang_50 rfl rfl ?_
  refine j_iload_n 52 2 dX10_hang_51 rfl rfl ?_
  refine j_callV 55 (As := [.int (i32 ((c : Int)))]) (kc2 := 0) (ks2 := 0) dX10_hang_52 rfl mvX10_freeRegister lk_X10_245 hM.md rfl ⟨Nat.le_of_ble_eq_true rfl, rfl⟩ rfl rfl (Nat.le_of_ble_eq_true rfl) ⟨Nat.le_of_ble_eq_true rfl, Nat.le_of_ble_eq_true rfl⟩ ⟨Nat.le_of_ble_eq_true rfl, Nat.le_of_ble_eq_true rfl⟩ (r_freeRegister hM c rfl hc40 hr4) x_d (k_d0 ?_)
  have hS1 : Sta d (s_freeReg d c) := sta_freeReg Sta.rf hr4b
  have hd11 : (s_freeReg d c) 1 = d 1 := hS1 1 (Or.inl (by decide))
  refine j_iconst 56 dX10_hang_55 rfl ?_
  refine j_istore_n 57 (L2 := [(3, .int (i32 (0))), (2, .int (i32 (d (173 + 14 * c)))), (0, .ref (m)), (1, .int (i32 ((c : Int))))]) dX10_hang_56 rfl rfl (Nat.le_of_ble_eq_true rfl) rfl ?_
  suffices lp_57 : ∀ (n_57 : Nat) (k : Nat) (da : Nat → Int), (d 1).toNat - k < n_57 → (k : Int) ≤ d 1 → da = unmN (s_freeReg d c) c k → J w mX10_hang 57 [(3, .int (i32 ((k : Int)))), (2, .int (i32 (d (173 + 14 * c)))), (0, .ref (m)), (1, .int (i32 ((c : Int))))] [] sh (upR g_40 (m + 2) da) 0 0 (iQ sh (fun z g2 => z = d (173 + 14 * c) ∧ g2 (m + 2) = s_hang d c ∧ HR g2 m (push d hist) (if c9 < 8 then c9 + 1 else 8) ∧ (∀ a, a ≠ m → a ≠ m + 2 → (a < m + 6 ∨ m + 14 ≤ a) → g2 a = g a) ∧ (∀ j, j ≠ 0 → j ≠ 12 → g2 m j = g m j) ∧ g2 m 0 = 0)) by
    exact lp_57 _ 0 (s_freeReg d c) (Nat.lt_succ_self _) (by omega) unm_0.symm
  intro n_57
  induction n_57 with
  | zero => intro k da h_; exact absurd h_ (Nat.not_lt_zero _)
  | succ n_57 ih_57 =>
    intro k da hn_57 hk hda
    have hda1 : da 1 = d 1 := by rw [hda, unm_out (by omega)]; exact hd11
    have hdk : da (163 + 2 * k) = (s_freeReg d c) (163 + 2 * k) := by rw [hda, unm_out (by omega)]
    refine j_iload_n 58 0 dX10_hang_57 rfl rfl ?_
    refine j_aload_n 59 2 dX10_hang_58 rfl rfl ?_
    refine j_getr 62 dX10_hang_59 rfl fl_X10_17 hM.md rfl (fun _ _ => rfl) rfl ?_
    refine j_iconst 63 dX10_hang_62 rfl ?_
    refine j_iald_d 64 1 dX10_hang_63 rfl hM.dat rfl rfl (show 1 < 729 by omega) (fun r_63 => ?_)
    refine j_top (y := d 1) (hda1) ?_
    refine j_icmp_ge 67 124 dX10_hang_64 rfl rfl (r32 (by omega) (by omega)) ⟨by omega, by omega⟩ (fun c_64 => ?_) (fun c_64 => ?_)
    · refine j_aload_n 125 2 dX10_hang_124 rfl rfl ?_
      refine j_iload_n 126 3 dX10_hang_125 rfl rfl ?_
      refine j_bipush 128 dX10_hang_126 rfl (by decide) ?_
      refine j_callV 131 (As := [.int (i32 ((c : Int))), .int (i32 (11))]) (kc2 := 0) (ks2 := 0) dX10_hang_128 rfl mvX10_isOver lk_X10_230 hM.md rfl ⟨Nat.le_of_ble_eq_true rfl, rfl⟩ rfl rfl (Nat.le_of_ble_eq_true rfl) ⟨Nat.le_of_ble_eq_true rfl, Nat.le_of_ble_eq_true rfl⟩ ⟨Nat.le_of_ble_eq_true rfl, Nat.le_of_ble_eq_true rfl⟩ (r_isOver hM c rfl hc40 (r32 (by decide) (by decide))) x_d (k_d0 ?_)
      refine j_iload_n 132 1 dX10_hang_131 rfl rfl ?_
      have hdh : s_isOver da c 11 = s_hang d c := by unfold s_hang; rw [hda, unm_all hI hr4b (by omega) (by omega)]
      exact j_iret dX10_hang_132 rfl (⟨_, rfl, rfl, rfl, by rw [hdh]; exact hRM.out⟩)
    · refine j_aload_n 68 2 dX10_hang_67 rfl rfl ?_
      refine j_getr 71 dX10_hang_68 rfl fl_X10_17 hM.md rfl (fun _ _ => rfl) rfl ?_
      refine j_sipush 74 dX10_hang_71 rfl (by decide) ?_
      refine j_iconst 75 dX10_hang_74 rfl ?_
      refine j_iload_n 76 0 dX10_hang_75 rfl rfl ?_
      refine j_imul 77 dX10_hang_76 rfl ?_
      refine j_iadd 78 dX10_hang_77 rfl ?_
      refine j_iconst 79 dX10_hang_78 rfl ?_
      refine j_iadd 80 dX10_hang_79 rfl ?_
      refine j_iald_d 81 (163 + 2 * k) dX10_hang_80 rfl hM.dat rfl (by omega) (show 163 + 2 * k < 729 by omega) (fun r_80 => ?_)
      refine j_top (y := (s_freeReg d c) (163 + 2 * k)) (hdk) ?_
      refine j_iload_n 82 3 dX10_hang_81 rfl rfl ?_
      refine j_icmp_eq 85 88 dX10_hang_82 rfl rfl (by rw [← hdk]; exact r_80) (r32 (by omega) (by omega)) (fun c_82 => ?_) (fun c_82 => ?_)
      · have hdn : ud (ud da (163 + 2 * k) (-1)) (164 + 2 * k) 0 = unmN (s_freeReg d c) c (k + 1) := by rw [unm_y c_82, hda]
        refine j_aload_n 89 2 dX10_hang_88 rfl rfl ?_
        refine j_getr 92 dX10_hang_89 rfl fl_X10_17 hM.md rfl (fun _ _ => rfl) rfl ?_
        refine j_sipush 95 dX10_hang_92 rfl (by decide) ?_
        refine j_iconst 96 dX10_hang_95 rfl ?_
        refine j_iload_n 97 0 dX10_hang_96 rfl rfl ?_
        refine j_imul 98 dX10_hang_97 rfl ?_
        refine j_iadd 99 dX10_hang_98 rfl ?_
        refine j_iconst 100 dX10_hang_99 rfl ?_
        refine j_iadd 101 dX10_hang_100 rfl ?_
        refine j_iconst 102 dX10_hang_101 rfl ?_
        refine j_iast_d 103 (163 + 2 * k) dX10_hang_102 rfl hM.dat rfl (by omega) (show 163 + 2 * k < 729 by omega) (r32 (by decide) (by decide)) ?_
        refine j_aload_n 104 2 dX10_hang_103 rfl rfl ?_
        refine j_getr 107 dX10_hang_104 rfl fl_X10_17 hM.md rfl (fun _ _ => rfl) rfl ?_
        refine j_sipush 110 dX10_hang_107 rfl (by decide) ?_
        refine j_iconst 111 dX10_hang_110 rfl ?_
        refine j_iload_n 112 0 dX10_hang_111 rfl rfl ?_
        refine j_imul 113 dX10_hang_112 rfl ?_
        refine j_iadd 114 dX10_hang_113 rfl ?_
        refine j_iconst 115 dX10_hang_114 rfl ?_
        refine j_iadd 116 dX10_hang_115 rfl ?_
        refine j_iconst 117 dX10_hang_116 rfl ?_
        refine j_iast_d 118 (164 + 2 * k) dX10_hang_117 rfl hM.dat rfl (by omega) (show 164 + 2 * k < 729 by omega) (r32 (by decide) (by decide)) ?_
        refine j_iinc 121 0 (y := ((k + 1 : Nat) : Int)) (L2 := [(3, .int (i32 (((k + 1 : Nat) : Int)))), (2, .int (i32 (d (173 + 14 * c)))), (0, .ref (m)), (1, .int (i32 ((c : Int))))]) dX10_hang_118 rfl rfl (by omega) (Nat.le_of_ble_eq_true rfl) rfl ?_
        refine j_goto 57 dX10_hang_121 rfl ?_
        exact ih_57 (k + 1) (ud (ud da (163 + 2 * k) (-1)) (164 + 2 * k) (0)) (by omega) (by omega) hdn
      · have hdn : da = unmN (s_freeReg d c) c (k + 1) := by rw [unm_n c_82]; exact hda
        refine j_goto 118 dX10_hang_85 rfl ?_
        refine j_iinc 121 0 (y := ((k + 1 : Nat) : Int)) (L2 := [(3, .int (i32 (((k + 1 : Nat) : Int)))), (2, .int (i32 (d (173 + 14 * c)))), (0, .ref (m)), (1, .int (i32 ((c : Int))))]) dX10_hang_118 rfl rfl (by omega) (Nat.le_of_ble_eq_true rfl) rfl ?_
        refine j_goto 57 dX10_hang_121 rfl ?_
        exact ih_57 (k + 1) da (by omega) (by omega) hdn

set_option maxRecDepth 20000 in
theorem r_hangS {w : Wd} {sh : Shp} {g : Mem} {d : Nat → Int} {m : Nat} (hM : MdS sh.1 m) (hP : PI d) {c : Nat} (hc : (c : Int) < d 5) (hc40 : c < 40) (hst : 6 ≤ d (173 + 14 * c)) : CT w mX10_hang [.ref (m), .int (i32 ((c : Int)))] sh (upR g (m + 2) d) (dQ (some (.int (i32 (0)))) sh (upR (up2 (up2 g m 0 0) m 0 2) (m + 2) d)) := by
  have hI := hP.1
  have hb := hI.1
  have hb0 := hb.1
  have hb1 := hb.2.1
  have hb2 := hb.2.2.1
  have hb3 := hb.2.2.2.1
  have hb4 := hb.2.2.2.2.1
  have hb5 := hb.2.2.2.2.2.1
  have hcc := hI.2.2.2.1 c hc
  have hr4 : d (179 + 14 * c) = -1 ∨ (0 ≤ d (179 + 14 * c) ∧ d (179 + 14 * c) < 4) := hcc.2.2.elim (fun q => Or.inl q.1) (fun ⟨r, r1, r2, r3⟩ => Or.inr (by omega))
  have hr4b : (d (179 + 14 * c)).toNat < 4 := by omega
  refine j_entry (by decide) rfl (Nat.le_of_ble_eq_true rfl) (fun h => by cases h) rfl ?_
  show J w mX10_hang 0 [(0, .ref (m)), (1, .int (i32 ((c : Int))))] [] sh (upR g (m + 2) d) 0 0 _
  refine j_aload_n 1 0 dX10_hang_0 rfl rfl ?_
  refine j_iconst 2 dX10_hang_1 rfl ?_
  refine j_puti 5 dX10_hang_2 rfl fl_X10_35 hM.md rfl rfl rfl (r32 (by decide) (by decide)) ?_
  refine j_mem (up2_upR_n (by omega)) ?_
  refine j_aload_n 6 0 dX10_hang_5 rfl rfl ?_
  refine j_iload_n 7 1 dX10_hang_6 rfl rfl ?_
  refine j_callV 10 (As := [.int (i32 ((c : Int)))]) (kc2 := 0) (ks2 := 0) dX10_hang_7 rfl mvX10_noCall lk_X10_288 hM.md rfl ⟨Nat.le_of_ble_eq_true rfl, rfl⟩ rfl rfl (Nat.le_of_ble_eq_true rfl) ⟨Nat.le_of_ble_eq_true rfl, Nat.le_of_ble_eq_true rfl⟩ ⟨Nat.le_of_ble_eq_true rfl, Nat.le_of_ble_eq_true rfl⟩ (r_noCall0 hM hI (r32 (by omega) (by omega)) up2_s (by omega)) x_d (k_d1 ?_)
  refine j_if_ne 13 37 dX10_hang_10 rfl rfl (r32 (by decide) (by decide)) (fun c_10 => absurd c_10 (by decide)) (fun c_10 => ?_)
  refine j_aload_n 14 0 dX10_hang_13 rfl rfl ?_
  refine j_aload_n 15 0 dX10_hang_14 rfl rfl ?_
  refine j_iload_n 16 1 dX10_hang_15 rfl rfl ?_
  refine j_iconst 17 dX10_hang_16 rfl ?_
  refine j_callV 20 (As := [.int (i32 ((c : Int))), .int (i32 (4))]) (kc2 := 0) (ks2 := 0) dX10_hang_17 rfl mvX10_of lk_X10_192 hM.md rfl ⟨Nat.le_of_ble_eq_true rfl, rfl⟩ rfl rfl (Nat.le_of_ble_eq_true rfl) ⟨Nat.le_of_ble_eq_true rfl, Nat.le_of_ble_eq_true rfl⟩ ⟨Nat.le_of_ble_eq_true rfl, Nat.le_of_ble_eq_true rfl⟩ (r_of hM c 4 (173 + 14 * c) rfl rfl (by omega) hc40 (by decide)) x_d (k_d1 ?_)
  refine j_bipush 22 dX10_hang_20 rfl (by decide) ?_
  refine j_icmp_lt 25 29 dX10_hang_22 rfl rfl ⟨by omega, by omega⟩ (r32 (by decide) (by decide)) (fun c_22 => absurd c_22 (by omega)) (fun c_22 => ?_)
  refine j_iconst 26 dX10_hang_25 rfl ?_
  refine j_goto 30 dX10_hang_26 rfl ?_
  refine j_iconst 31 dX10_hang_30 rfl ?_
  refine j_callV 34 (As := [.int (i32 (1)), .int (i32 (2))]) (kc2 := 0) (ks2 := 0) dX10_hang_31 rfl mvX10_fails lk_X10_176 hM.md rfl ⟨Nat.le_of_ble_eq_true rfl, rfl⟩ rfl rfl (Nat.le_of_ble_eq_true rfl) ⟨Nat.le_of_ble_eq_true rfl, Nat.le_of_ble_eq_true rfl⟩ ⟨Nat.le_of_ble_eq_true rfl, Nat.le_of_ble_eq_true rfl⟩ (r_fails1 hM 2 (by decide) (by decide) (by decide) up2_s) x_d (k_d1 ?_)
  refine j_if_eq 37 39 dX10_hang_34 rfl rfl (r32 (by decide) (by decide)) (fun c_34 => absurd c_34 (by decide)) (fun c_34 => ?_)
  refine j_iconst 38 dX10_hang_37 rfl ?_
  exact j_iret dX10_hang_38 rfl (⟨rfl, rfl, rfl⟩)

set_option maxRecDepth 20000 in
theorem r_hangB {w : Wd} {sh : Shp} {g : Mem} {d : Nat → Int} {m : Nat} (hM : MdS sh.1 m) (hP : PI d) {x : Int} (hx : R32 x) (h0 : ¬ (0 ≤ x ∧ x < d 5)) : CT w mX10_hang [.ref (m), .int (i32 (x))] sh (upR g (m + 2) d) (dQ (some (.int (i32 (0)))) sh (upR (up2 (up2 g m 0 0) m 0 1) (m + 2) d)) := by
  have hI := hP.1
  have hb := hI.1
  have hb0 := hb.1
  have hb1 := hb.2.1
  have hb2 := hb.2.2.1
  have hb3 := hb.2.2.2.1
  have hb4 := hb.2.2.2.2.1
  have hb5 := hb.2.2.2.2.2.1
  refine j_entry (by decide) rfl (Nat.le_of_ble_eq_true rfl) (fun h => by cases h) rfl ?_
  show J w mX10_hang 0 [(0, .ref (m)), (1, .int (i32 (x)))] [] sh (upR g (m + 2) d) 0 0 _
  refine j_aload_n 1 0 dX10_hang_0 rfl rfl ?_
  refine j_iconst 2 dX10_hang_1 rfl ?_
  refine j_puti 5 dX10_hang_2 rfl fl_X10_35 hM.md rfl rfl rfl (r32 (by decide) (by decide)) ?_
  refine j_mem (up2_upR_n (by omega)) ?_
  refine j_aload_n 6 0 dX10_hang_5 rfl rfl ?_
  refine j_iload_n 7 1 dX10_hang_6 rfl rfl ?_
  refine j_callV 10 (As := [.int (i32 (x))]) (kc2 := 0) (ks2 := 0) dX10_hang_7 rfl mvX10_noCall lk_X10_288 hM.md rfl ⟨Nat.le_of_ble_eq_true rfl, rfl⟩ rfl rfl (Nat.le_of_ble_eq_true rfl) ⟨Nat.le_of_ble_eq_true rfl, Nat.le_of_ble_eq_true rfl⟩ ⟨Nat.le_of_ble_eq_true rfl, Nat.le_of_ble_eq_true rfl⟩ (r_noCall1 hM hI hx up2_s (by omega)) x_d (k_d1 ?_)
  refine j_if_ne 13 37 dX10_hang_10 rfl rfl (r32 (by decide) (by decide)) (fun c_10 => ?_) (fun c_10 => absurd c_10 (by decide))
  refine j_iconst 38 dX10_hang_37 rfl ?_
  exact j_iret dX10_hang_38 rfl (⟨rfl, rfl, rfl⟩)
