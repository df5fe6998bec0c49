/-! history, reader, the class' object -/
theorem cl_X3_9 : Cond.classLink RX3 9 (f_C 1) ∈ lw_good := by decide +kernel
theorem cl_X8_9 : Cond.classLink RX8 9 (f_C 1) ∈ lw_good := by decide +kernel
theorem cl_X9_20 : Cond.classLink RX9 20 (f_C 1) ∈ lw_good := by decide +kernel
theorem cl_X9_30 : Cond.classLink RX9 30 (f_C 3) ∈ lw_good := by decide +kernel
theorem cl_X9_37 : Cond.classLink RX9 37 (f_C 7) ∈ lw_good := by decide +kernel
theorem ClrX.fr {g g2 : Mem} {e : Nat} (h : ClrX g e) (q : ∀ a, e ≤ a → a < e + 75 → g2 a = g a) : ClrX g2 e := by
  obtain ⟨h1, h2, h3, h4, h5⟩ := h
  exact ⟨h1.fr q, by rw [q e (by omega) (by omega)]; exact h2, fun r hr => by rw [q _ (by omega) (by omega)]; exact h3 r hr, fun r hr => by rw [q _ (by omega) (by omega)]; exact h4 r hr, fun r hr => by rw [q _ (by omega) (by omega)]; exact h5 r hr⟩
theorem kHs_put {h : Nat} : kdR (3, 0, kN) 0 (some (h + 1)) = kHs h := by
  have : (kdR (3, 0, kN) 0 (some (h + 1))).2.2 = (kHs h).2.2 := funext fun j => by
    match j with
    | 0 => rfl
    | _ + 1 => rfl
  exact Prod.ext rfl (Prod.ext rfl this)
theorem kRd_new {R t : Nat} : kdR (kdR (7, 0, kN) 0 (some (R + 1))) 3 (some t) = kRd R t := by
  have : (kdR (kdR (7, 0, kN) 0 (some (R + 1))) 3 (some t)).2.2 = (kRd R t).2.2 := funext fun j => by
    match j with
    | 0 => rfl | 1 => rfl | 2 => rfl | 3 => rfl
    | _ + 4 => rfl
  exact Prod.ext rfl (Prod.ext rfl this)
theorem kCx_new {B : Nat} : kdR (kdR (kdR (kdR (kdR (8, 0, kN) 0 (some (B + 1))) 3 (some (B + 2))) 4 (some (B + 77))) 5 (some (B + 152))) 6 (some (B + 754)) = kCx B := by
  have : (kdR (kdR (kdR (kdR (kdR (8, 0, kN) 0 (some (B + 1))) 3 (some (B + 2))) 4 (some (B + 77))) 5 (some (B + 152))) 6 (some (B + 754))).2.2 = (kCx B).2.2 := funext fun j => by
    match j with
    | 0 => rfl | 1 => rfl | 2 => rfl | 3 => rfl | 4 => rfl | 5 => rfl | 6 => rfl
    | _ + 7 => rfl
  exact Prod.ext rfl (Prod.ext rfl this)
theorem kMd_new {m : Nat} : kdR (kdR (kdR (kdR (kdR (9, 0, kN) 1 (some (m + 1))) 8 (some (m + 2))) 9 (some (m + 3))) 10 (some (m + 4))) 11 (some (m + 5)) = kMd m := by
  have : (kdR (kdR (kdR (kdR (kdR (9, 0, kN) 1 (some (m + 1))) 8 (some (m + 2))) 9 (some (m + 3))) 10 (some (m + 4))) 11 (some (m + 5))).2.2 = (kMd m).2.2 := funext fun j => by
    match j with
    | 0 => rfl | 1 => rfl | 2 => rfl | 3 => rfl | 4 => rfl | 5 => rfl | 6 => rfl | 7 => rfl | 8 => rfl | 9 => rfl | 10 => rfl | 11 => rfl
    | _ + 12 => rfl
  exact Prod.ext rfl (Prod.ext rfl this)
/-- k Exchanges lie in the history h -/
def FH (h : Nat) (sh : Shp) (g : Mem) (shk : Shp) (gk : Mem) (k : Nat) : Prop :=
  shk.2 = some (h + 2 + 75 * k) ∧ shk.1 (h + 1) = some (19, 8, fun j => if j < k then some (h + 2 + 75 * j) else none) ∧ (∀ a, a < h + 1 → shk.1 a = sh.1 a ∧ gk a = g a) ∧ ∀ i, i < k → ExS shk.1 (h + 2 + 75 * i) ∧ ClrX gk (h + 2 + 75 * i)
theorem FH.z2 {h : Nat} {sh : Shp} {g : Mem} {K : Kd} : FH h (shP sh h K) g (shP (shN sh (h + 1) (19, 8, kN)) h K) (gN g (h + 1)) 0 :=
  ⟨rfl, by rw [shP_o (by omega), shN_s]; congr 2, fun a ha => ⟨by
    by_cases z : a = h
    · subst z; rw [shP_s, shP_s]
    · rw [shP_o z, shN_o (by omega), shP_o z], gN_o (by omega)⟩, fun i hi => absurd hi (Nat.not_lt_zero i)⟩
theorem FH.s {h k : Nat} {sh shk sh1 : Shp} {g gk g1 : Mem} (F : FH h sh g shk gk k) (ha : sh1.2 = some (h + 2 + 75 * (k + 1))) (hb : ExS sh1.1 (h + 2 + 75 * k)) (hd : ClrX g1 (h + 2 + 75 * k)) (hg : Gr0 shk sh1 gk g1 (h + 2 + 75 * k)) :
    FH h sh g (shP sh1 (h + 1) (kdR (19, 8, fun j => if j < k then some (h + 2 + 75 * j) else none) k (some (h + 2 + 75 * k)))) g1 (k + 1) := by
  obtain ⟨h1, h2, h3, h4⟩ := F
  refine ⟨ha, shP_s.trans ?_, fun a h9 => ⟨by rw [shP_o (by omega), (hg a (by omega)).1]; exact (h3 a h9).1, by rw [(hg a (by omega)).2]; exact (h3 a h9).2⟩, fun i hi => ?_⟩
  · unfold kdR
    rw [fl_f (h + 2 + 75 * k) (fun j => h + 2 + 75 * j) rfl]
  · by_cases z : i = k
    · subst z; exact ⟨hb.same (fun a q1 q2 => shP_o (by omega)), hd⟩
    · exact ⟨(h4 i (by omega)).1.same (fun a q1 q2 => by rw [shP_o (by omega), (hg a (by omega)).1]), (h4 i (by omega)).2.fr (fun a q1 q2 => (hg a (by omega)).2)⟩
theorem n_X3 {w : Wd} {sh : Shp} {g : Mem} {a : Nat} (he : sh.1 a = some (3, 0, kN)) (hs : sh.2 = some (a + 1)) : CT w mX3_init [.ref a] sh g (kQ fun sh2 g2 => sh2.2 = some (a + 602) ∧ HsS sh2.1 a ∧ (∀ i, i < 8 → ClrX g2 (a + 2 + 75 * i)) ∧ g2 a 1 = 0 ∧ g2 a 2 = 0 ∧ Gr0 sh sh2 g g2 a) := by
  refine j_entry (by decide) rfl (Nat.le_of_ble_eq_true rfl) (fun _ => rfl) rfl ?_
  show J w mX3_init 0 [(0, .ref a)] [] sh g 601 5928 _
  refine j_aload_n 1 0 dX3_init_0 rfl rfl ?_
  refine j_objInit 4 dX3_init_1 rfl oi_X3 (Nat.le_of_ble_eq_true rfl) (Nat.le_of_ble_eq_true rfl) ?_
  refine j_aload_n 5 0 dX3_init_4 rfl rfl ?_
  refine j_bipush 7 dX3_init_5 rfl (by decide) ?_
  refine j_newq 10 (N := 8) (k := 19) (C9 := RX1) (kc2 := 600) (ks2 := 5920) dX3_init_7 rfl rfl (by decide) cl_X3_9 (by decide) ⟨by decide, fun _ => rfl⟩ hs ⟨Nat.le_of_ble_eq_true rfl, Nat.le_of_ble_eq_true rfl⟩ ?_
  refine j_putr 13 dX3_init_10 rfl fl_X3_11 (shN_o (by omega) |>.trans he) rfl (by first | exact Or.inl rfl | exact Or.inr ⟨rfl, rfl, rfl⟩) (Or.inr ⟨_, rfl⟩) ?_
  rw [kHs_put]
  refine j_iconst 14 dX3_init_13 rfl ?_
  refine j_istore_n 15 (L2 := [(1, .int (i32 0)), (0, .ref a)]) dX3_init_14 rfl rfl (Nat.le_of_ble_eq_true rfl) rfl ?_
  suffices lp : ∀ (n_ k : Nat) (shk : Shp) (gk : Mem), 8 - k < n_ → k ≤ 8 → FH a (shP sh a (kHs a)) g shk gk k → J w mX3_init 15 [(1, .int (i32 (k : Int))), (0, .ref a)] [] shk gk (75 * (8 - k)) (740 * (8 - k)) _ by
    refine j_widen (kc2 := 75 * (8 - 0)) (ks2 := 740 * (8 - 0)) (by omega) (by omega) ?_
    exact lp _ 0 _ _ (Nat.lt_succ_self _) (by omega) FH.z2
  intro n_
  induction n_ with
  | zero => intro k shk gk h_; exact absurd h_ (Nat.not_lt_zero _)
  | succ n_ ih_ =>
    intro k shk gk hn_ hk F
    have hKe : shk.1 a = some (kHs a) := (F.2.2.1 a (by omega)).1.trans shP_s
    refine j_iload_n 16 0 dX3_init_15 rfl rfl ?_
    refine j_aload_n 17 1 dX3_init_16 rfl rfl ?_
    refine j_getr 20 dX3_init_17 rfl fl_X3_11 hKe rfl (fun _ _ => rfl) rfl ?_
    refine j_alen 21 dX3_init_20 rfl F.2.1 (Nat.le_of_ble_eq_true rfl) rfl ?_
    refine j_top (y := 8) rfl ?_
    refine j_icmp_ge 24 43 dX3_init_21 rfl rfl (r32 (by omega) (by omega)) (r32 (by decide) (by decide)) (fun c_ => ?_) (fun c_ => ?_)
    rotate_left
    · refine j_aload_n 25 1 dX3_init_24 rfl rfl ?_
      refine j_getr 28 dX3_init_25 rfl fl_X3_11 hKe rfl (fun _ _ => rfl) rfl ?_
      refine j_iload_n 29 0 dX3_init_28 rfl rfl ?_
      refine j_new 32 (ci := 1) (kc2 := 75 * (8 - k) - 1) (ks2 := 740 * (8 - k) - 19) dX3_init_29 rfl (by decide) cl_X3_9 ni_1.1 ni_1.2 dv_1 F.1 ⟨by omega, (show _ + 19 ≤ _ by omega)⟩ ?_
      refine j_dup 33 dX3_init_32 rfl rfl ?_
      refine j_callI 36 (As := []) (kc2 := 75 * (8 - (k + 1))) (ks2 := 740 * (8 - (k + 1))) dX3_init_33 rfl miX1_init lk_X3_17 rfl rfl rfl (Nat.le_of_ble_eq_true rfl) ⟨Nat.le_of_ble_eq_true rfl, Nat.le_of_ble_eq_true rfl⟩ ⟨(show 74 + _ ≤ _ by omega), (show 721 + _ ≤ _ by omega)⟩ (n_X1 shN_s rfl) x_k (k_k fun sh9 g9 h9 => ?_)
      obtain ⟨q1, q2, q3, q4, q5, q6⟩ := h9
      have har : sh9.1 (a + 1) = some (19, 8, fun j => if j < k then some (a + 2 + 75 * j) else none) := by rw [(q6 _ (by omega)).1, shN_o (by omega)]; exact F.2.1
      refine j_aast 37 k (ci := 1) dX3_init_36 rfl har ⟨by decide, fun _ => rfl⟩ rfl (by omega) (by decide) q2.ex rfl (by decide) ?_
      have hst := F.s (sh1 := sh9) (g1 := g9) (by rw [q1]; congr 1) q2 q3 (fun b hb => ⟨by rw [(q6 b hb).1, shN_o (by omega)], by rw [(q6 b hb).2, gN_o (by omega)]⟩)
      refine j_iinc 40 0 (y := ((k + 1 : Nat) : Int)) (L2 := [(1, .int (i32 ((k + 1 : Nat) : Int))), (0, .ref a)]) dX3_init_37 rfl rfl (by omega) (Nat.le_of_ble_eq_true rfl) rfl ?_
      refine j_goto 15 dX3_init_40 rfl ?_
      exact ih_ (k + 1) _ _ (by omega) (by omega) hst
    have hkN : k = 8 := by omega
    subst hkN
    refine j_kd (f := fun i => some (a + 2 + 75 * i)) F.2.1 (show 14 ≤ 19 by decide) (fun j hj => (if_pos (show j < 8 from hj)).symm) ?_
    refine j_aload_n 44 1 dX3_init_43 rfl rfl ?_
    refine j_iconst 45 dX3_init_44 rfl ?_
    refine j_putF 48 dX3_init_45 rfl fl_X3_18 (shP_o (by omega) |>.trans hKe) rfl (by first | exact Or.inl rfl | exact Or.inr ⟨rfl, rfl, rfl⟩) rfl (r32 (by decide) (by decide)) ?_
    refine j_aload_n 49 1 dX3_init_48 rfl rfl ?_
    refine j_iconst 50 dX3_init_49 rfl ?_
    refine j_putF 53 dX3_init_50 rfl fl_X3_22 (shP_o (by omega) |>.trans hKe) rfl (by first | exact Or.inl rfl | exact Or.inr ⟨rfl, rfl, rfl⟩) rfl (r32 (by decide) (by decide)) ?_
    refine j_vret dX3_init_53 rfl ⟨rfl, F.1, ⟨by rw [shP_o (by omega)]; exact hKe, shP_s, fun i hi => (F.2.2.2 i hi).1.same (fun b h1 h2 => shP_o (by omega))⟩, fun i hi => (F.2.2.2 i hi).2.fr (fun b h1 h2 => by rw [up2_row (by omega), up2_row (by omega)]), ?_, up2_s, fun b hb => ⟨?_, ?_⟩⟩
    · rw [up2_k (by decide)]; exact up2_s
    · rw [shP_o (by omega), (F.2.2.1 b (by omega)).1, shP_o (by omega)]
    · rw [up2_row (by omega), up2_row (by omega)]; exact (F.2.2.1 b (by omega)).2
theorem n_X8 {w : Wd} {sh : Shp} {g : Mem} {a : Nat} (he : sh.1 a = some (7, 0, kN)) (hs : sh.2 = some (a + 1)) : CT w mX8_init [.ref a] sh g (kQ fun sh2 g2 => sh2.2 = some (a + 77) ∧ sh2.1 a = some (kRd a (a + 76)) ∧ ExS sh2.1 (a + 1) ∧ ExI g2 (a + 1) ∧ Gr0 sh sh2 g g2 a) := by
  refine j_entry (by decide) rfl (Nat.le_of_ble_eq_true rfl) (fun _ => rfl) rfl ?_
  show J w mX8_init 0 [(0, .ref a)] [] sh g 76 740 _
  refine j_aload_n 1 0 dX8_init_0 rfl rfl ?_
  refine j_objInit 4 dX8_init_1 rfl oi_X8 (Nat.le_of_ble_eq_true rfl) (Nat.le_of_ble_eq_true rfl) ?_
  refine j_aload_n 5 0 dX8_init_4 rfl rfl ?_
  refine j_new 8 (ci := 1) (kc2 := 75) (ks2 := 721) dX8_init_5 rfl (by decide) cl_X8_9 ni_1.1 ni_1.2 dv_1 hs ⟨Nat.le_of_ble_eq_true rfl, Nat.le_of_ble_eq_true rfl⟩ ?_
  refine j_dup 9 dX8_init_8 rfl rfl ?_
  refine j_callI 12 (As := []) (kc2 := 1) (ks2 := 0) dX8_init_9 rfl miX1_init lk_X8_11 rfl rfl rfl (Nat.le_of_ble_eq_true rfl) ⟨Nat.le_of_ble_eq_true rfl, Nat.le_of_ble_eq_true rfl⟩ ⟨Nat.le_of_ble_eq_true rfl, Nat.le_of_ble_eq_true rfl⟩ (n_X1 shN_s rfl) x_k (k_k fun sh9 g9 h9 => ?_)
  obtain ⟨q1, q2, q3, q4, q5, q6⟩ := h9
  have hK : sh9.1 a = some (7, 0, kN) := by rw [(q6 a (by omega)).1, shN_o (by omega)]; exact he
  refine j_putr 15 dX8_init_12 rfl fl_X8_12 hK rfl (by first | exact Or.inl rfl | exact Or.inr ⟨rfl, rfl, rfl⟩) (Or.inl ⟨_, rfl⟩) ?_
  refine j_aload_n 16 0 dX8_init_15 rfl rfl ?_
  refine j_iconst 17 dX8_init_16 rfl ?_
  refine j_newa 19 (a := a + 76) (N := 0) (kc2 := 0) (ks2 := 0) dX8_init_17 rfl rfl (by decide) na_byte (Or.inr ⟨rfl, rfl⟩) (by show sh9.2 = _; rw [q1]) ⟨Nat.le_of_ble_eq_true rfl, Nat.le_of_ble_eq_true rfl⟩ ?_
  refine j_putr 22 dX8_init_19 rfl fl_X8_18 (shN_o (by omega) |>.trans shP_s) rfl (by first | exact Or.inl rfl | exact Or.inr ⟨rfl, rfl, rfl⟩) (Or.inr ⟨_, rfl⟩) ?_
  rw [kRd_new]
  refine j_vret dX8_init_22 rfl ⟨rfl, rfl, shP_s, q2.same (fun b h1 h2 => by rw [shP_o (by omega), shN_o (by omega), shP_o (by omega)]), q3.1.fr (fun b h1 h2 => gN_o (by omega)), fun b hb => ⟨?_, ?_⟩⟩
  · rw [shP_o (by omega), shN_o (by omega), shP_o (by omega), (q6 b (by omega)).1, shN_o (by omega)]
  · rw [gN_o (by omega), (q6 b (by omega)).2, gN_o (by omega)]
set_option linter.constructorNameAsVariable false in
theorem n_X9 {w : Wd} {sh : Shp} {g : Mem} {a : Nat} (he : sh.1 a = some (8, 0, kN)) (hs : sh.2 = some (a + 1)) : CT w mX9_init [.ref a] sh g (kQ fun sh2 g2 => sh2.2 = some (a + 831) ∧ CxS sh2.1 a ∧ sh2.1 (a + 754) = some (kRd (a + 754) (a + 754 + 76)) ∧ ExS sh2.1 (a + 754 + 1) ∧ RelX g2 (a + 2) (row0 1 1) ∧ ExI g2 (a + 77) ∧ (∀ hist, HX g2 (a + 152) hist 0) ∧ ExI g2 (a + 754 + 1) ∧ g2 a 1 = 0 ∧ g2 a 2 = -1 ∧ Gr0 sh sh2 g g2 a) := by
  refine j_entry (by decide) rfl (Nat.le_of_ble_eq_true rfl) (fun _ => rfl) rfl ?_
  show J w mX9_init 0 [(0, .ref a)] [] sh g 830 8866 _
  refine j_aload_n 1 0 dX9_init_0 rfl rfl ?_
  refine j_objInit 4 dX9_init_1 rfl oi_X9 (Nat.le_of_ble_eq_true rfl) (Nat.le_of_ble_eq_true rfl) ?_
  refine j_aload_n 5 0 dX9_init_4 rfl rfl ?_
  refine j_sipush 8 dX9_init_5 rfl (by decide) ?_
  refine j_newa 10 (N := 700) (kc2 := 829) (ks2 := 8166) dX9_init_8 rfl rfl (by decide) na_byte (Or.inr ⟨rfl, rfl⟩) hs ⟨Nat.le_of_ble_eq_true rfl, Nat.le_of_ble_eq_true rfl⟩ ?_
  refine j_putr 13 dX9_init_10 rfl fl_X9_9 (shN_o (by omega) |>.trans he) rfl (by first | exact Or.inl rfl | exact Or.inr ⟨rfl, rfl, rfl⟩) (Or.inr ⟨_, rfl⟩) ?_
  refine j_aload_n 14 0 dX9_init_13 rfl rfl ?_
  refine j_iconst 15 dX9_init_14 rfl ?_
  refine j_putF 18 dX9_init_15 rfl fl_X9_13 shP_s rfl (by first | exact Or.inl rfl | exact Or.inr ⟨rfl, rfl, rfl⟩) rfl (r32 (by decide) (by decide)) ?_
  refine j_aload_n 19 0 dX9_init_18 rfl rfl ?_
  refine j_iconst 20 dX9_init_19 rfl ?_
  refine j_putF 23 dX9_init_20 rfl fl_X9_17 shP_s rfl (by first | exact Or.inl rfl | exact Or.inr ⟨rfl, rfl, rfl⟩) rfl (r32 (by decide) (by decide)) ?_
  refine j_shn (fun sh0 hsh0 => ?_)
  refine j_mn (fun g0 hg0 => ?_)
  have A0 : sh0.2 = some (a + 2) := by rw [hsh0]; rfl
  have K0 : sh0.1 a = some (kdR (8, 0, kN) 0 (some (a + 1))) := by rw [hsh0]; exact shP_s
  have N0 : sh0.1 (a + 1) = some (11, 700, kN) := by rw [hsh0, shP_o (by omega)]; exact shN_s
  have C0 : g0 a 1 = 0 ∧ g0 a 2 = -1 := by rw [hg0]; exact ⟨by rw [up2_k (by decide)]; exact up2_s, up2_s⟩
  have G0 : Gr0 sh sh0 g g0 a := fun b hb => ⟨by rw [hsh0, shP_o (by omega), shN_o (by omega)], by rw [hg0, up2_row (by omega), up2_row (by omega), gN_o (by omega)]⟩
  refine j_aload_n 24 0 dX9_init_23 rfl rfl ?_
  refine j_new 27 (ci := 1) (kc2 := 828) (ks2 := 8147) dX9_init_24 rfl (by decide) cl_X9_20 ni_1.1 ni_1.2 dv_1 A0 ⟨Nat.le_of_ble_eq_true rfl, Nat.le_of_ble_eq_true rfl⟩ ?_
  refine j_dup 28 dX9_init_27 rfl rfl ?_
  refine j_callI 31 (As := []) (kc2 := 754) (ks2 := 7426) dX9_init_28 rfl miX1_init lk_X9_22 rfl rfl rfl (Nat.le_of_ble_eq_true rfl) ⟨Nat.le_of_ble_eq_true rfl, Nat.le_of_ble_eq_true rfl⟩ ⟨Nat.le_of_ble_eq_true rfl, Nat.le_of_ble_eq_true rfl⟩ (n_X1 shN_s rfl) x_k (k_k fun sh1a g1 h1 => ?_)
  obtain ⟨q1_1, q2_1, q3_1, q4_1, q5_1, q6_1⟩ := h1
  have Ka1 : sh1a.1 a = some (kdR (8, 0, kN) 0 (some (a + 1))) := by rw [(q6_1 a (by omega)).1, shN_o (by omega)]; exact K0
  refine j_putr 34 dX9_init_31 rfl fl_X9_23 Ka1 rfl (by first | exact Or.inl rfl | exact Or.inr ⟨rfl, rfl, rfl⟩) (Or.inl ⟨_, rfl⟩) ?_
  refine j_shn (fun sh1 hsh1 => ?_)
  have A1 : sh1.2 = some (a + 77) := by rw [hsh1]; exact q1_1
  have K1 : sh1.1 a = some (kdR (kdR (8, 0, kN) 0 (some (a + 1))) 3 (some (a + 2))) := by rw [hsh1]; exact shP_s
  have P1 : ∀ b, b < a + 2 → (b ≠ a → sh1.1 b = sh0.1 b) ∧ g1 b = g0 b := fun b hb => ⟨fun h => by rw [hsh1, shP_o h, (q6_1 b (by omega)).1, shN_o (by omega)], by rw [(q6_1 b (by omega)).2, gN_o (by omega)]⟩
  have W1 : ∀ b, a + 2 ≤ b → sh1.1 b = sh1a.1 b := fun b hb => by rw [hsh1, shP_o (by omega)]
  refine j_aload_n 35 0 dX9_init_34 rfl rfl ?_
  refine j_new 38 (ci := 1) (kc2 := 753) (ks2 := 7407) dX9_init_35 rfl (by decide) cl_X9_20 ni_1.1 ni_1.2 dv_1 A1 ⟨Nat.le_of_ble_eq_true rfl, Nat.le_of_ble_eq_true rfl⟩ ?_
  refine j_dup 39 dX9_init_38 rfl rfl ?_
  refine j_callI 42 (As := []) (kc2 := 679) (ks2 := 6686) dX9_init_39 rfl miX1_init lk_X9_22 rfl rfl rfl (Nat.le_of_ble_eq_true rfl) ⟨Nat.le_of_ble_eq_true rfl, Nat.le_of_ble_eq_true rfl⟩ ⟨Nat.le_of_ble_eq_true rfl, Nat.le_of_ble_eq_true rfl⟩ (n_X1 shN_s rfl) x_k (k_k fun sh2a g2 h2 => ?_)
  obtain ⟨q1_2, q2_2, q3_2, q4_2, q5_2, q6_2⟩ := h2
  have Ka2 : sh2a.1 a = some (kdR (kdR (8, 0, kN) 0 (some (a + 1))) 3 (some (a + 2))) := by rw [(q6_2 a (by omega)).1, shN_o (by omega)]; exact K1
  refine j_putr 45 dX9_init_42 rfl fl_X9_27 Ka2 rfl (by first | exact Or.inl rfl | exact Or.inr ⟨rfl, rfl, rfl⟩) (Or.inl ⟨_, rfl⟩) ?_
  refine j_shn (fun sh2 hsh2 => ?_)
  have A2 : sh2.2 = some (a + 152) := by rw [hsh2]; exact q1_2
  have K2 : sh2.1 a = some (kdR (kdR (kdR (8, 0, kN) 0 (some (a + 1))) 3 (some (a + 2))) 4 (some (a + 77))) := by rw [hsh2]; exact shP_s
  have P2 : ∀ b, b < a + 77 → (b ≠ a → sh2.1 b = sh1.1 b) ∧ g2 b = g1 b := fun b hb => ⟨fun h => by rw [hsh2, shP_o h, (q6_2 b (by omega)).1, shN_o (by omega)], by rw [(q6_2 b (by omega)).2, gN_o (by omega)]⟩
  have W2 : ∀ b, a + 77 ≤ b → sh2.1 b = sh2a.1 b := fun b hb => by rw [hsh2, shP_o (by omega)]
  refine j_aload_n 46 0 dX9_init_45 rfl rfl ?_
  refine j_new 49 (ci := 3) (kc2 := 678) (ks2 := 6683) dX9_init_46 rfl (by decide) cl_X9_30 ni_3.1 ni_3.2 dv_3 A2 ⟨Nat.le_of_ble_eq_true rfl, Nat.le_of_ble_eq_true rfl⟩ ?_
  refine j_dup 50 dX9_init_49 rfl rfl ?_
  refine j_callI 53 (As := []) (kc2 := 77) (ks2 := 755) dX9_init_50 rfl miX3_init lk_X9_32 rfl rfl rfl (Nat.le_of_ble_eq_true rfl) ⟨Nat.le_of_ble_eq_true rfl, Nat.le_of_ble_eq_true rfl⟩ ⟨Nat.le_of_ble_eq_true rfl, Nat.le_of_ble_eq_true rfl⟩ (n_X3 shN_s rfl) x_k (k_k fun sh3a g3 h3 => ?_)
  obtain ⟨q1_3, q2_3, q3_3, q4_3, q5_3, q6_3⟩ := h3
  have Ka3 : sh3a.1 a = some (kdR (kdR (kdR (8, 0, kN) 0 (some (a + 1))) 3 (some (a + 2))) 4 (some (a + 77))) := by rw [(q6_3 a (by omega)).1, shN_o (by omega)]; exact K2
  refine j_putr 56 dX9_init_53 rfl fl_X9_33 Ka3 rfl (by first | exact Or.inl rfl | exact Or.inr ⟨rfl, rfl, rfl⟩) (Or.inl ⟨_, rfl⟩) ?_
  refine j_shn (fun sh3 hsh3 => ?_)
  have A3 : sh3.2 = some (a + 754) := by rw [hsh3]; exact q1_3
  have K3 : sh3.1 a = some (kdR (kdR (kdR (kdR (8, 0, kN) 0 (some (a + 1))) 3 (some (a + 2))) 4 (some (a + 77))) 5 (some (a + 152))) := by rw [hsh3]; exact shP_s
  have P3 : ∀ b, b < a + 152 → (b ≠ a → sh3.1 b = sh2.1 b) ∧ g3 b = g2 b := fun b hb => ⟨fun h => by rw [hsh3, shP_o h, (q6_3 b (by omega)).1, shN_o (by omega)], by rw [(q6_3 b (by omega)).2, gN_o (by omega)]⟩
  have W3 : ∀ b, a + 152 ≤ b → sh3.1 b = sh3a.1 b := fun b hb => by rw [hsh3, shP_o (by omega)]
  refine j_aload_n 57 0 dX9_init_56 rfl rfl ?_
  refine j_new 60 (ci := 7) (kc2 := 76) (ks2 := 740) dX9_init_57 rfl (by decide) cl_X9_37 ni_7.1 ni_7.2 dv_7 A3 ⟨Nat.le_of_ble_eq_true rfl, Nat.le_of_ble_eq_true rfl⟩ ?_
  refine j_dup 61 dX9_init_60 rfl rfl ?_
  refine j_callI 64 (As := []) (kc2 := 0) (ks2 := 0) dX9_init_61 rfl miX8_init lk_X9_39 rfl rfl rfl (Nat.le_of_ble_eq_true rfl) ⟨Nat.le_of_ble_eq_true rfl, Nat.le_of_ble_eq_true rfl⟩ ⟨Nat.le_of_ble_eq_true rfl, Nat.le_of_ble_eq_true rfl⟩ (n_X8 shN_s rfl) x_k (k_k fun sh4a g4 h4 => ?_)
  obtain ⟨q1_4, q2_4, q3_4, q4_4, q6_4⟩ := h4
  have Ka4 : sh4a.1 a = some (kdR (kdR (kdR (kdR (8, 0, kN) 0 (some (a + 1))) 3 (some (a + 2))) 4 (some (a + 77))) 5 (some (a + 152))) := by rw [(q6_4 a (by omega)).1, shN_o (by omega)]; exact K3
  refine j_putr 67 dX9_init_64 rfl fl_X9_40 Ka4 rfl (by first | exact Or.inl rfl | exact Or.inr ⟨rfl, rfl, rfl⟩) (Or.inl ⟨_, rfl⟩) ?_
  refine j_shn (fun sh4 hsh4 => ?_)
  have A4 : sh4.2 = some (a + 831) := by rw [hsh4]; exact q1_4
  have K4 : sh4.1 a = some (kdR (kdR (kdR (kdR (kdR (8, 0, kN) 0 (some (a + 1))) 3 (some (a + 2))) 4 (some (a + 77))) 5 (some (a + 152))) 6 (some (a + 754))) := by rw [hsh4]; exact shP_s
  have P4 : ∀ b, b < a + 754 → (b ≠ a → sh4.1 b = sh3.1 b) ∧ g4 b = g3 b := fun b hb => ⟨fun h => by rw [hsh4, shP_o h, (q6_4 b (by omega)).1, shN_o (by omega)], by rw [(q6_4 b (by omega)).2, gN_o (by omega)]⟩
  have W4 : ∀ b, a + 754 ≤ b → sh4.1 b = sh4a.1 b := fun b hb => by rw [hsh4, shP_o (by omega)]
  have Z3 : ∀ b, b < a + 754 → (b ≠ a → sh4.1 b = sh3.1 b) ∧ g4 b = g3 b := P4
  have Z2 : ∀ b, b < a + 152 → (b ≠ a → sh4.1 b = sh2.1 b) ∧ g4 b = g2 b := fun b hb => ⟨fun h => ((Z3 b (by omega)).1 h).trans ((P3 b hb).1 h), (Z3 b (by omega)).2.trans (P3 b hb).2⟩
  have Z1 : ∀ b, b < a + 77 → (b ≠ a → sh4.1 b = sh1.1 b) ∧ g4 b = g1 b := fun b hb => ⟨fun h => ((Z2 b (by omega)).1 h).trans ((P2 b hb).1 h), (Z2 b (by omega)).2.trans (P2 b hb).2⟩
  have Z0 : ∀ b, b < a + 2 → (b ≠ a → sh4.1 b = sh0.1 b) ∧ g4 b = g0 b := fun b hb => ⟨fun h => ((Z1 b (by omega)).1 h).trans ((P1 b hb).1 h), (Z1 b (by omega)).2.trans (P1 b hb).2⟩
  have hnow : ExS sh4.1 (a + 2) := q2_1.same (fun b h1 h2 => by rw [(Z1 b (by omega)).1 (by omega), W1 b (by omega)])
  have htri : ExS sh4.1 (a + 77) := q2_2.same (fun b h1 h2 => by rw [(Z2 b (by omega)).1 (by omega), W2 b (by omega)])
  have hhis : HsS sh4.1 (a + 152) := ⟨by rw [(Z3 _ (by omega)).1 (by omega), W3 _ (by omega)]; exact q2_3.1, by rw [(Z3 _ (by omega)).1 (by omega), W3 _ (by omega)]; exact q2_3.2.1, fun i hi => (q2_3.2.2 i hi).same (fun b h1 h2 => by rw [(Z3 b (by omega)).1 (by omega), W3 b (by omega)])⟩
  have hC1 : ClrX g4 (a + 2) := q3_1.fr (fun b h1 h2 => (Z1 b (by omega)).2)
  have hrel : RelX g4 (a + 2) (row0 1 1) := hC1.rel (by rw [(Z1 (a + 2) (by omega)).2]; exact q4_1) (by rw [(Z1 (a + 2) (by omega)).2]; exact q5_1)
  have hH : ∀ hist, HX g4 (a + 152) hist 0 := fun hist => ⟨by decide, by rw [(Z3 (a + 152) (by omega)).2]; exact q5_3, fun i hi => (q3_3 i hi).1.fr (fun b h1 h2 => (Z3 b (by omega)).2), 0, by decide, by rw [(Z3 (a + 152) (by omega)).2]; exact q4_3, fun j hj => absurd hj (Nat.not_lt_zero j)⟩
  refine j_vret dX9_init_67 rfl ⟨rfl, A4, ⟨by rw [K4, kCx_new], by rw [(Z0 _ (by omega)).1 (by omega)]; exact N0, hnow, htri, hhis⟩, by rw [W4 _ (by omega)]; exact q2_4, q3_4.same (fun b h1 h2 => by rw [W4 b (by omega)]), hrel, (q3_2.fr (fun b h1 h2 => (Z2 b (by omega)).2)).1, hH, q4_4, by rw [(Z0 a (by omega)).2]; exact C0.1, by rw [(Z0 a (by omega)).2]; exact C0.2, fun b hb => ⟨?_, ?_⟩⟩
  · rw [(Z0 b (by omega)).1 (by omega)]; exact (G0 b hb).1
  · rw [(Z0 b (by omega)).2]; exact (G0 b hb).2
