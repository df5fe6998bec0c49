/-! the reader of the class: rules -/
theorem wd_off {T : Tx} {q i j : Nat} (h : wdB T q i = true) (hl : st_len.getD i 0 ≠ st_len.getD j 0) : wdB T q j = false := by
  cases hw : wdB T q j
  · rfl
  · exact absurd ((wd_iff.mp h).1.symm.trans (wd_iff.mp hw).1) hl
theorem bo1 {b : Bool} (h : b = true) : b01 b = 1 := by rw [h]; rfl
theorem bo0 {b : Bool} (h : b = false) : b01 b = 0 := by rw [h]; rfl
def sTold (s : Nat → Bool) (i : Nat) : Nat → Bool := fun j => if j = i then true else s j
section CRF
variable {g g2 : Mem} {R tx q : Nat} {T : Tx} {d : Nat → Int} {s : Nat → Bool}
theorem CRd.flag {i : Nat} (hi : i < 3) (htx : tx < R ∨ R + 76 ≤ tx) (H : CRd g R tx T d s q) : CRd (up2 g R (6 + i) 1) R tx T d (sTold s i) q := by
  obtain ⟨a1, a2, a3, a4, a5, a6, a7, a8⟩ := H
  refine ⟨⟨a1.1, ?_, fun k hk => ?_, a1.2.2.2⟩, ?_, a3, ?_, a5, ⟨?_, ?_, ?_⟩, ?_, ?_⟩
  · rw [up2_k (by omega)]; exact a1.2.1
  · rw [up2_a (by omega)]; exact a1.2.2.1 k hk
  · unfold TokR
    rw [up2_k (by omega), up2_k (by omega), up2_k (by omega), up2_k (by omega), up2_k (by omega), up2_k (by omega), up2_k (by omega)]
    exact a2
  · exact a4.rows2 a5 (fun a h1 h2 => by rw [up2_row (by omega)])
  · unfold sTold
    by_cases z : i = 0
    · subst z; exact up2_s
    · rw [up2_k (by omega), if_neg (by omega)]; exact a6.1
  · unfold sTold
    by_cases z : i = 1
    · subst z; exact up2_s
    · rw [up2_k (by omega), if_neg (by omega)]; exact a6.2.1
  · unfold sTold
    by_cases z : i = 2
    · subst z; exact up2_s
    · rw [up2_k (by omega), if_neg (by omega)]; exact a6.2.2
  · rw [up2_k (by omega)]; exact a7
  · rw [up2_k (by omega)]; exact a8
theorem FrR.up {g1 : Mem} {k : Nat} {x : Int} (h : FrR g g1 R) : FrR g (up2 g1 R k x) R := fun a ha => by rw [up2_row (by omega)]; exact h a ha
end CRF
/-- the statements guard, timeout, work; or no statement -/
def P_rules (T : Tx) (d : Nat → Int) (s : Nat → Bool) (st : Nat) : PR :=
  if wdB T st 5 = true then P_rule T st d s (st + 5) 0 else if wdB T st 6 = true then P_rule T st d s (st + 7) 1 else
  if wdB T st 7 = true then P_rule T st d s (st + 4) 2 else .inr (-2, st)

set_option maxRecDepth 20000 in
theorem c_ruleNone {w : Wd} {sh : Shp} {g : Mem} {R tx : Nat} (hR : RdS sh.1 R tx) {T : Tx} {d : Nat → Int} {s : Nat → Bool} {st : Nat} (htx : tx < R ∨ R + 76 ≤ tx) (H0 : CRd g R tx T d s st) (w0 : wdB T st 5 = false) (w1 : wdB T st 6 = false) (w2 : wdB T st 7 = false) : CT w mX8_readRule [.ref (R)] sh g (iQ sh (CP g R tx T (P_rules T d s st))) := by
  have F0 : FrR g g R := FrR.rf
  have hX0 := H0.1
  have hk0 := H0.2.1
  have hq0 := H0.2.2.1
  have hR0 := H0.2.2.2.1
  have hP0 := H0.2.2.2.2.1
  have hT7 := hX0.1
  have hTb := hX0.2.2.2
  have hbb := hP0.1
  have hr0 := hk0.2.2.1
  have hb2 := hbb.2.2.1
  have hb3 := hbb.2.2.2.1
  have hb4 := hbb.2.2.2.2.1
  have hb5 := hbb.2.2.2.2.2.1
  refine j_entry (by decide) rfl (Nat.le_of_ble_eq_true rfl) (fun h => by cases h) rfl ?_
  show J w mX8_readRule 0 [(0, .ref (R))] [] sh g 0 0 _
  refine j_aload_n 1 0 dX8_readRule_0 rfl rfl ?_
  refine j_ldcS 3 (i := 5) dX8_readRule_1 rfl (tx := "guard") (by decide) ?_
  refine j_callV 6 (As := [.ref (w.2.1 (100 + 5))]) (kc2 := 0) (ks2 := 0) dX8_readRule_3 rfl mvX8_isWord lk_X8_63 hR.rd rfl ⟨Nat.le_of_ble_eq_true rfl, rfl⟩ rfl rfl (Nat.le_of_ble_eq_true rfl) ⟨Nat.le_of_ble_eq_true rfl, Nat.le_of_ble_eq_true rfl⟩ ⟨Nat.le_of_ble_eq_true rfl, Nat.le_of_ble_eq_true rfl⟩ (c_isWord hR hX0 hk0 hq0 (by decide)) x_d (k_d1 ?_)
  refine j_top (y := 0) (bo0 w0) ?_
  refine j_if_eq 9 27 dX8_readRule_6 rfl rfl (r32 (by decide) (by decide)) (fun c_6 => ?_) (fun c_6 => absurd c_6 (by decide))
  refine j_aload_n 28 0 dX8_readRule_27 rfl rfl ?_
  refine j_ldcS 30 (i := 6) dX8_readRule_28 rfl (tx := "timeout") (by decide) ?_
  refine j_callV 33 (As := [.ref (w.2.1 (100 + 6))]) (kc2 := 0) (ks2 := 0) dX8_readRule_30 rfl mvX8_isWord lk_X8_63 hR.rd rfl ⟨Nat.le_of_ble_eq_true rfl, rfl⟩ rfl rfl (Nat.le_of_ble_eq_true rfl) ⟨Nat.le_of_ble_eq_true rfl, Nat.le_of_ble_eq_true rfl⟩ ⟨Nat.le_of_ble_eq_true rfl, Nat.le_of_ble_eq_true rfl⟩ (c_isWord hR hX0 hk0 hq0 (by decide)) x_d (k_d1 ?_)
  refine j_top (y := 0) (bo0 w1) ?_
  refine j_if_eq 36 54 dX8_readRule_33 rfl rfl (r32 (by decide) (by decide)) (fun c_33 => ?_) (fun c_33 => absurd c_33 (by decide))
  refine j_aload_n 55 0 dX8_readRule_54 rfl rfl ?_
  refine j_ldcS 57 (i := 7) dX8_readRule_55 rfl (tx := "work") (by decide) ?_
  refine j_callV 60 (As := [.ref (w.2.1 (100 + 7))]) (kc2 := 0) (ks2 := 0) dX8_readRule_57 rfl mvX8_isWord lk_X8_63 hR.rd rfl ⟨Nat.le_of_ble_eq_true rfl, rfl⟩ rfl rfl (Nat.le_of_ble_eq_true rfl) ⟨Nat.le_of_ble_eq_true rfl, Nat.le_of_ble_eq_true rfl⟩ ⟨Nat.le_of_ble_eq_true rfl, Nat.le_of_ble_eq_true rfl⟩ (c_isWord hR hX0 hk0 hq0 (by decide)) x_d (k_d1 ?_)
  refine j_top (y := 0) (bo0 w2) ?_
  refine j_if_eq 63 81 dX8_readRule_60 rfl rfl (r32 (by decide) (by decide)) (fun c_60 => ?_) (fun c_60 => absurd c_60 (by decide))
  refine j_aload_n 82 0 dX8_readRule_81 rfl rfl ?_
  refine j_bipush 84 dX8_readRule_82 rfl (by decide) ?_
  refine j_callV 87 (As := [.int (i32 (-2))]) (kc2 := 0) (ks2 := 0) dX8_readRule_84 rfl mvX8_fail lk_X8_67 hR.rd rfl ⟨Nat.le_of_ble_eq_true rfl, rfl⟩ rfl rfl (Nat.le_of_ble_eq_true rfl) ⟨Nat.le_of_ble_eq_true rfl, Nat.le_of_ble_eq_true rfl⟩ ⟨Nat.le_of_ble_eq_true rfl, Nat.le_of_ble_eq_true rfl⟩ (c_fail hR (q := st) (by omega) hr0 (r32 (by decide) (by decide))) x_d (k_d1 ?_)
  exact j_zret dX8_readRule_87 rfl (Or.inl rfl) (⟨_, rfl, rfl, cp_bad F0 hR0.1 (by unfold P_rules; rw [if_neg (show ¬ wdB T st 5 = true by rw [w0]; decide), if_neg (show ¬ wdB T st 6 = true by rw [w1]; decide), if_neg (show ¬ wdB T st 7 = true by rw [w2]; decide)])⟩)

set_option maxRecDepth 20000 in
theorem c_ruleTold0 {w : Wd} {sh : Shp} {g : Mem} {R tx : Nat} (hR : RdS sh.1 R tx) {T : Tx} {d : Nat → Int} {s : Nat → Bool} {st : Nat} (htx : tx < R ∨ R + 76 ≤ tx) (H0 : CRd g R tx T d s st) (w0 : wdB T st 5 = true) (hsi : s 0 = true) : CT w mX8_readRule [.ref (R)] sh g (iQ sh (CP g R tx T (P_rules T d s st))) := by
  have F0 : FrR g g R := FrR.rf
  have hX0 := H0.1
  have hk0 := H0.2.1
  have hq0 := H0.2.2.1
  have hR0 := H0.2.2.2.1
  have hP0 := H0.2.2.2.2.1
  have hT7 := hX0.1
  have hTb := hX0.2.2.2
  have hbb := hP0.1
  have hr0 := hk0.2.2.1
  have hb2 := hbb.2.2.1
  have hb3 := hbb.2.2.2.1
  have hb4 := hbb.2.2.2.2.1
  have hb5 := hbb.2.2.2.2.2.1
  have w1 := wd_off (j := 6) w0 (by decide)
  have w2 := wd_off (j := 7) w0 (by decide)
  have hs0 := H0.2.2.2.2.2.1
  refine j_entry (by decide) rfl (Nat.le_of_ble_eq_true rfl) (fun h => by cases h) rfl ?_
  show J w mX8_readRule 0 [(0, .ref (R))] [] sh g 0 0 _
  refine j_aload_n 1 0 dX8_readRule_0 rfl rfl ?_
  refine j_ldcS 3 (i := 5) dX8_readRule_1 rfl (tx := "guard") (by decide) ?_
  refine j_callV 6 (As := [.ref (w.2.1 (100 + 5))]) (kc2 := 0) (ks2 := 0) dX8_readRule_3 rfl mvX8_isWord lk_X8_63 hR.rd rfl ⟨Nat.le_of_ble_eq_true rfl, rfl⟩ rfl rfl (Nat.le_of_ble_eq_true rfl) ⟨Nat.le_of_ble_eq_true rfl, Nat.le_of_ble_eq_true rfl⟩ ⟨Nat.le_of_ble_eq_true rfl, Nat.le_of_ble_eq_true rfl⟩ (c_isWord hR hX0 hk0 hq0 (by decide)) x_d (k_d1 ?_)
  refine j_top (y := 1) (bo1 w0) ?_
  refine j_if_eq 9 27 dX8_readRule_6 rfl rfl (r32 (by decide) (by decide)) (fun c_6 => absurd c_6 (by decide)) (fun c_6 => ?_)
  refine j_aload_n 10 0 dX8_readRule_9 rfl rfl ?_
  refine j_getz 13 dX8_readRule_10 rfl fl_X8_35 hR.rd rfl rfl (fun r_10 => ?_)
  refine j_top (y := 1) ((hs0.1.trans (bo1 hsi))) ?_
  refine j_if_ne 16 27 dX8_readRule_13 rfl rfl (r32 (by decide) (by decide)) (fun c_13 => ?_) (fun c_13 => absurd c_13 (by decide))
  refine j_aload_n 28 0 dX8_readRule_27 rfl rfl ?_
  refine j_ldcS 30 (i := 6) dX8_readRule_28 rfl (tx := "timeout") (by decide) ?_
  refine j_callV 33 (As := [.ref (w.2.1 (100 + 6))]) (kc2 := 0) (ks2 := 0) dX8_readRule_30 rfl mvX8_isWord lk_X8_63 hR.rd rfl ⟨Nat.le_of_ble_eq_true rfl, rfl⟩ rfl rfl (Nat.le_of_ble_eq_true rfl) ⟨Nat.le_of_ble_eq_true rfl, Nat.le_of_ble_eq_true rfl⟩ ⟨Nat.le_of_ble_eq_true rfl, Nat.le_of_ble_eq_true rfl⟩ (c_isWord hR hX0 hk0 hq0 (by decide)) x_d (k_d1 ?_)
  refine j_top (y := 0) (bo0 w1) ?_
  refine j_if_eq 36 54 dX8_readRule_33 rfl rfl (r32 (by decide) (by decide)) (fun c_33 => ?_) (fun c_33 => absurd c_33 (by decide))
  refine j_aload_n 55 0 dX8_readRule_54 rfl rfl ?_
  refine j_ldcS 57 (i := 7) dX8_readRule_55 rfl (tx := "work") (by decide) ?_
  refine j_callV 60 (As := [.ref (w.2.1 (100 + 7))]) (kc2 := 0) (ks2 := 0) dX8_readRule_57 rfl mvX8_isWord lk_X8_63 hR.rd rfl ⟨Nat.le_of_ble_eq_true rfl, rfl⟩ rfl rfl (Nat.le_of_ble_eq_true rfl) ⟨Nat.le_of_ble_eq_true rfl, Nat.le_of_ble_eq_true rfl⟩ ⟨Nat.le_of_ble_eq_true rfl, Nat.le_of_ble_eq_true rfl⟩ (c_isWord hR hX0 hk0 hq0 (by decide)) x_d (k_d1 ?_)
  refine j_top (y := 0) (bo0 w2) ?_
  refine j_if_eq 63 81 dX8_readRule_60 rfl rfl (r32 (by decide) (by decide)) (fun c_60 => ?_) (fun c_60 => absurd c_60 (by decide))
  refine j_aload_n 82 0 dX8_readRule_81 rfl rfl ?_
  refine j_bipush 84 dX8_readRule_82 rfl (by decide) ?_
  refine j_callV 87 (As := [.int (i32 (-2))]) (kc2 := 0) (ks2 := 0) dX8_readRule_84 rfl mvX8_fail lk_X8_67 hR.rd rfl ⟨Nat.le_of_ble_eq_true rfl, rfl⟩ rfl rfl (Nat.le_of_ble_eq_true rfl) ⟨Nat.le_of_ble_eq_true rfl, Nat.le_of_ble_eq_true rfl⟩ ⟨Nat.le_of_ble_eq_true rfl, Nat.le_of_ble_eq_true rfl⟩ (c_fail hR (q := st) (by omega) hr0 (r32 (by decide) (by decide))) x_d (k_d1 ?_)
  exact j_zret dX8_readRule_87 rfl (Or.inl rfl) (⟨_, rfl, rfl, cp_bad F0 hR0.1 (by unfold P_rules; rw [if_pos w0]; unfold P_rule; rw [if_pos hsi])⟩)

set_option maxRecDepth 20000 in
theorem c_ruleTold1 {w : Wd} {sh : Shp} {g : Mem} {R tx : Nat} (hR : RdS sh.1 R tx) {T : Tx} {d : Nat → Int} {s : Nat → Bool} {st : Nat} (htx : tx < R ∨ R + 76 ≤ tx) (H0 : CRd g R tx T d s st) (w1 : wdB T st 6 = true) (hsi : s 1 = true) : CT w mX8_readRule [.ref (R)] sh g (iQ sh (CP g R tx T (P_rules T d s st))) := by
  have F0 : FrR g g R := FrR.rf
  have hX0 := H0.1
  have hk0 := H0.2.1
  have hq0 := H0.2.2.1
  have hR0 := H0.2.2.2.1
  have hP0 := H0.2.2.2.2.1
  have hT7 := hX0.1
  have hTb := hX0.2.2.2
  have hbb := hP0.1
  have hr0 := hk0.2.2.1
  have hb2 := hbb.2.2.1
  have hb3 := hbb.2.2.2.1
  have hb4 := hbb.2.2.2.2.1
  have hb5 := hbb.2.2.2.2.2.1
  have w0 := wd_off (j := 5) w1 (by decide)
  have w2 := wd_off (j := 7) w1 (by decide)
  have hs0 := H0.2.2.2.2.2.1
  refine j_entry (by decide) rfl (Nat.le_of_ble_eq_true rfl) (fun h => by cases h) rfl ?_
  show J w mX8_readRule 0 [(0, .ref (R))] [] sh g 0 0 _
  refine j_aload_n 1 0 dX8_readRule_0 rfl rfl ?_
  refine j_ldcS 3 (i := 5) dX8_readRule_1 rfl (tx := "guard") (by decide) ?_
  refine j_callV 6 (As := [.ref (w.2.1 (100 + 5))]) (kc2 := 0) (ks2 := 0) dX8_readRule_3 rfl mvX8_isWord lk_X8_63 hR.rd rfl ⟨Nat.le_of_ble_eq_true rfl, rfl⟩ rfl rfl (Nat.le_of_ble_eq_true rfl) ⟨Nat.le_of_ble_eq_true rfl, Nat.le_of_ble_eq_true rfl⟩ ⟨Nat.le_of_ble_eq_true rfl, Nat.le_of_ble_eq_true rfl⟩ (c_isWord hR hX0 hk0 hq0 (by decide)) x_d (k_d1 ?_)
  refine j_top (y := 0) (bo0 w0) ?_
  refine j_if_eq 9 27 dX8_readRule_6 rfl rfl (r32 (by decide) (by decide)) (fun c_6 => ?_) (fun c_6 => absurd c_6 (by decide))
  refine j_aload_n 28 0 dX8_readRule_27 rfl rfl ?_
  refine j_ldcS 30 (i := 6) dX8_readRule_28 rfl (tx := "timeout") (by decide) ?_
  refine j_callV 33 (As := [.ref (w.2.1 (100 + 6))]) (kc2 := 0) (ks2 := 0) dX8_readRule_30 rfl mvX8_isWord lk_X8_63 hR.rd rfl ⟨Nat.le_of_ble_eq_true rfl, rfl⟩ rfl rfl (Nat.le_of_ble_eq_true rfl) ⟨Nat.le_of_ble_eq_true rfl, Nat.le_of_ble_eq_true rfl⟩ ⟨Nat.le_of_ble_eq_true rfl, Nat.le_of_ble_eq_true rfl⟩ (c_isWord hR hX0 hk0 hq0 (by decide)) x_d (k_d1 ?_)
  refine j_top (y := 1) (bo1 w1) ?_
  refine j_if_eq 36 54 dX8_readRule_33 rfl rfl (r32 (by decide) (by decide)) (fun c_33 => absurd c_33 (by decide)) (fun c_33 => ?_)
  refine j_aload_n 37 0 dX8_readRule_36 rfl rfl ?_
  refine j_getz 40 dX8_readRule_37 rfl fl_X8_39 hR.rd rfl rfl (fun r_37 => ?_)
  refine j_top (y := 1) ((hs0.2.1.trans (bo1 hsi))) ?_
  refine j_if_ne 43 54 dX8_readRule_40 rfl rfl (r32 (by decide) (by decide)) (fun c_40 => ?_) (fun c_40 => absurd c_40 (by decide))
  refine j_aload_n 55 0 dX8_readRule_54 rfl rfl ?_
  refine j_ldcS 57 (i := 7) dX8_readRule_55 rfl (tx := "work") (by decide) ?_
  refine j_callV 60 (As := [.ref (w.2.1 (100 + 7))]) (kc2 := 0) (ks2 := 0) dX8_readRule_57 rfl mvX8_isWord lk_X8_63 hR.rd rfl ⟨Nat.le_of_ble_eq_true rfl, rfl⟩ rfl rfl (Nat.le_of_ble_eq_true rfl) ⟨Nat.le_of_ble_eq_true rfl, Nat.le_of_ble_eq_true rfl⟩ ⟨Nat.le_of_ble_eq_true rfl, Nat.le_of_ble_eq_true rfl⟩ (c_isWord hR hX0 hk0 hq0 (by decide)) x_d (k_d1 ?_)
  refine j_top (y := 0) (bo0 w2) ?_
  refine j_if_eq 63 81 dX8_readRule_60 rfl rfl (r32 (by decide) (by decide)) (fun c_60 => ?_) (fun c_60 => absurd c_60 (by decide))
  refine j_aload_n 82 0 dX8_readRule_81 rfl rfl ?_
  refine j_bipush 84 dX8_readRule_82 rfl (by decide) ?_
  refine j_callV 87 (As := [.int (i32 (-2))]) (kc2 := 0) (ks2 := 0) dX8_readRule_84 rfl mvX8_fail lk_X8_67 hR.rd rfl ⟨Nat.le_of_ble_eq_true rfl, rfl⟩ rfl rfl (Nat.le_of_ble_eq_true rfl) ⟨Nat.le_of_ble_eq_true rfl, Nat.le_of_ble_eq_true rfl⟩ ⟨Nat.le_of_ble_eq_true rfl, Nat.le_of_ble_eq_true rfl⟩ (c_fail hR (q := st) (by omega) hr0 (r32 (by decide) (by decide))) x_d (k_d1 ?_)
  exact j_zret dX8_readRule_87 rfl (Or.inl rfl) (⟨_, rfl, rfl, cp_bad F0 hR0.1 (by unfold P_rules; rw [if_neg (show ¬ wdB T st 5 = true by rw [w0]; decide), if_pos w1]; unfold P_rule; rw [if_pos hsi])⟩)

set_option maxRecDepth 20000 in
theorem c_ruleTold2 {w : Wd} {sh : Shp} {g : Mem} {R tx : Nat} (hR : RdS sh.1 R tx) {T : Tx} {d : Nat → Int} {s : Nat → Bool} {st : Nat} (htx : tx < R ∨ R + 76 ≤ tx) (H0 : CRd g R tx T d s st) (w2 : wdB T st 7 = true) (hsi : s 2 = true) : CT w mX8_readRule [.ref (R)] sh g (iQ sh (CP g R tx T (P_rules T d s st))) := by
  have F0 : FrR g g R := FrR.rf
  have hX0 := H0.1
  have hk0 := H0.2.1
  have hq0 := H0.2.2.1
  have hR0 := H0.2.2.2.1
  have hP0 := H0.2.2.2.2.1
  have hT7 := hX0.1
  have hTb := hX0.2.2.2
  have hbb := hP0.1
  have hr0 := hk0.2.2.1
  have hb2 := hbb.2.2.1
  have hb3 := hbb.2.2.2.1
  have hb4 := hbb.2.2.2.2.1
  have hb5 := hbb.2.2.2.2.2.1
  have w0 := wd_off (j := 5) w2 (by decide)
  have w1 := wd_off (j := 6) w2 (by decide)
  have hs0 := H0.2.2.2.2.2.1
  refine j_entry (by decide) rfl (Nat.le_of_ble_eq_true rfl) (fun h => by cases h) rfl ?_
  show J w mX8_readRule 0 [(0, .ref (R))] [] sh g 0 0 _
  refine j_aload_n 1 0 dX8_readRule_0 rfl rfl ?_
  refine j_ldcS 3 (i := 5) dX8_readRule_1 rfl (tx := "guard") (by decide) ?_
  refine j_callV 6 (As := [.ref (w.2.1 (100 + 5))]) (kc2 := 0) (ks2 := 0) dX8_readRule_3 rfl mvX8_isWord lk_X8_63 hR.rd rfl ⟨Nat.le_of_ble_eq_true rfl, rfl⟩ rfl rfl (Nat.le_of_ble_eq_true rfl) ⟨Nat.le_of_ble_eq_true rfl, Nat.le_of_ble_eq_true rfl⟩ ⟨Nat.le_of_ble_eq_true rfl, Nat.le_of_ble_eq_true rfl⟩ (c_isWord hR hX0 hk0 hq0 (by decide)) x_d (k_d1 ?_)
  refine j_top (y := 0) (bo0 w0) ?_
  refine j_if_eq 9 27 dX8_readRule_6 rfl rfl (r32 (by decide) (by decide)) (fun c_6 => ?_) (fun c_6 => absurd c_6 (by decide))
  refine j_aload_n 28 0 dX8_readRule_27 rfl rfl ?_
  refine j_ldcS 30 (i := 6) dX8_readRule_28 rfl (tx := "timeout") (by decide) ?_
  refine j_callV 33 (As := [.ref (w.2.1 (100 + 6))]) (kc2 := 0) (ks2 := 0) dX8_readRule_30 rfl mvX8_isWord lk_X8_63 hR.rd rfl ⟨Nat.le_of_ble_eq_true rfl, rfl⟩ rfl rfl (Nat.le_of_ble_eq_true rfl) ⟨Nat.le_of_ble_eq_true rfl, Nat.le_of_ble_eq_true rfl⟩ ⟨Nat.le_of_ble_eq_true rfl, Nat.le_of_ble_eq_true rfl⟩ (c_isWord hR hX0 hk0 hq0 (by decide)) x_d (k_d1 ?_)
  refine j_top (y := 0) (bo0 w1) ?_
  refine j_if_eq 36 54 dX8_readRule_33 rfl rfl (r32 (by decide) (by decide)) (fun c_33 => ?_) (fun c_33 => absurd c_33 (by decide))
  refine j_aload_n 55 0 dX8_readRule_54 rfl rfl ?_
  refine j_ldcS 57 (i := 7) dX8_readRule_55 rfl (tx := "work") (by decide) ?_
  refine j_callV 60 (As := [.ref (w.2.1 (100 + 7))]) (kc2 := 0) (ks2 := 0) dX8_readRule_57 rfl mvX8_isWord lk_X8_63 hR.rd rfl ⟨Nat.le_of_ble_eq_true rfl, rfl⟩ rfl rfl (Nat.le_of_ble_eq_true rfl) ⟨Nat.le_of_ble_eq_true rfl, Nat.le_of_ble_eq_true rfl⟩ ⟨Nat.le_of_ble_eq_true rfl, Nat.le_of_ble_eq_true rfl⟩ (c_isWord hR hX0 hk0 hq0 (by decide)) x_d (k_d1 ?_)
  refine j_top (y := 1) (bo1 w2) ?_
  refine j_if_eq 63 81 dX8_readRule_60 rfl rfl (r32 (by decide) (by decide)) (fun c_60 => absurd c_60 (by decide)) (fun c_60 => ?_)
  refine j_aload_n 64 0 dX8_readRule_63 rfl rfl ?_
  refine j_getz 67 dX8_readRule_64 rfl fl_X8_42 hR.rd rfl rfl (fun r_64 => ?_)
  refine j_top (y := 1) ((hs0.2.2.trans (bo1 hsi))) ?_
  refine j_if_ne 70 81 dX8_readRule_67 rfl rfl (r32 (by decide) (by decide)) (fun c_67 => ?_) (fun c_67 => absurd c_67 (by decide))
  refine j_aload_n 82 0 dX8_readRule_81 rfl rfl ?_
  refine j_bipush 84 dX8_readRule_82 rfl (by decide) ?_
  refine j_callV 87 (As := [.int (i32 (-2))]) (kc2 := 0) (ks2 := 0) dX8_readRule_84 rfl mvX8_fail lk_X8_67 hR.rd rfl ⟨Nat.le_of_ble_eq_true rfl, rfl⟩ rfl rfl (Nat.le_of_ble_eq_true rfl) ⟨Nat.le_of_ble_eq_true rfl, Nat.le_of_ble_eq_true rfl⟩ ⟨Nat.le_of_ble_eq_true rfl, Nat.le_of_ble_eq_true rfl⟩ (c_fail hR (q := st) (by omega) hr0 (r32 (by decide) (by decide))) x_d (k_d1 ?_)
  exact j_zret dX8_readRule_87 rfl (Or.inl rfl) (⟨_, rfl, rfl, cp_bad F0 hR0.1 (by unfold P_rules; rw [if_neg (show ¬ wdB T st 5 = true by rw [w0]; decide), if_neg (show ¬ wdB T st 6 = true by rw [w1]; decide), if_pos w2]; unfold P_rule; rw [if_pos hsi])⟩)

set_option maxRecDepth 20000 in
theorem c_rule0r {w : Wd} {sh : Shp} {g : Mem} {R tx : Nat} (hR : RdS sh.1 R tx) {T : Tx} {d : Nat → Int} {s : Nat → Bool} {st : Nat} (htx : tx < R ∨ R + 76 ≤ tx) (H0 : CRd g R tx T d s st) (w0 : wdB T st 5 = true) (hsi : s 0 = false) : CT w mX8_readRule [.ref (R)] sh g (iQ sh (CP g R tx T (P_rules T d s st))) := by
  have F0 : FrR g g R := FrR.rf
  have hX0 := H0.1
  have hk0 := H0.2.1
  have hq0 := H0.2.2.1
  have hR0 := H0.2.2.2.1
  have hP0 := H0.2.2.2.2.1
  have hT7 := hX0.1
  have hTb := hX0.2.2.2
  have hbb := hP0.1
  have hr0 := hk0.2.2.1
  have hb2 := hbb.2.2.1
  have hb3 := hbb.2.2.2.1
  have hb4 := hbb.2.2.2.2.1
  have hb5 := hbb.2.2.2.2.2.1
  have w1 := wd_off (j := 6) w0 (by decide)
  have w2 := wd_off (j := 7) w0 (by decide)
  have hs0 := H0.2.2.2.2.2.1
  refine j_entry (by decide) rfl (Nat.le_of_ble_eq_true rfl) (fun h => by cases h) rfl ?_
  show J w mX8_readRule 0 [(0, .ref (R))] [] sh g 0 0 _
  refine j_aload_n 1 0 dX8_readRule_0 rfl rfl ?_
  refine j_ldcS 3 (i := 5) dX8_readRule_1 rfl (tx := "guard") (by decide) ?_
  refine j_callV 6 (As := [.ref (w.2.1 (100 + 5))]) (kc2 := 0) (ks2 := 0) dX8_readRule_3 rfl mvX8_isWord lk_X8_63 hR.rd rfl ⟨Nat.le_of_ble_eq_true rfl, rfl⟩ rfl rfl (Nat.le_of_ble_eq_true rfl) ⟨Nat.le_of_ble_eq_true rfl, Nat.le_of_ble_eq_true rfl⟩ ⟨Nat.le_of_ble_eq_true rfl, Nat.le_of_ble_eq_true rfl⟩ (c_isWord hR hX0 hk0 hq0 (by decide)) x_d (k_d1 ?_)
  refine j_top (y := 1) (bo1 w0) ?_
  refine j_if_eq 9 27 dX8_readRule_6 rfl rfl (r32 (by decide) (by decide)) (fun c_6 => absurd c_6 (by decide)) (fun c_6 => ?_)
  refine j_aload_n 10 0 dX8_readRule_9 rfl rfl ?_
  refine j_getz 13 dX8_readRule_10 rfl fl_X8_35 hR.rd rfl rfl (fun r_10 => ?_)
  refine j_top (y := 0) ((hs0.1.trans (bo0 hsi))) ?_
  refine j_if_ne 16 27 dX8_readRule_13 rfl rfl (r32 (by decide) (by decide)) (fun c_13 => absurd c_13 (by decide)) (fun c_13 => ?_)
  refine j_bipush 18 dX8_readRule_16 rfl (by decide) ?_
  refine j_istore_n 19 (L2 := [(1, .int (i32 (19))), (0, .ref (R))]) dX8_readRule_18 rfl rfl (Nat.le_of_ble_eq_true rfl) rfl ?_
  refine j_aload_n 20 1 dX8_readRule_19 rfl rfl ?_
  refine j_iconst 21 dX8_readRule_20 rfl ?_
  refine j_putz 24 dX8_readRule_21 rfl fl_X8_35 hR.rd rfl rfl rfl (Or.inr rfl) ?_
  refine j_mn (fun g_21 hg_21 => ?_)
  refine j_goto 88 dX8_readRule_24 rfl ?_
  have H1 : CRd g_21 R tx T d (sTold s 0) st := by rw [hg_21]; exact H0.flag (i := 0) (by decide) htx
  have F1 : FrR g g_21 R := by rw [hg_21]; exact FrR.rf.up
  have hz2 : szT T st = 5 := by have h1 : ln T st = 5 := (wd_iff.mp w0).1; rw [sz_L hTb (by omega)]; exact h1
  refine j_aload_n 89 1 dX8_readRule_88 rfl rfl ?_
  refine j_callV 92 (As := []) (kc2 := 0) (ks2 := 0) dX8_readRule_89 rfl mvX8_advance lk_X8_45 hR.rd rfl ⟨Nat.le_of_ble_eq_true rfl, rfl⟩ rfl rfl (Nat.le_of_ble_eq_true rfl) ⟨Nat.le_of_ble_eq_true rfl, Nat.le_of_ble_eq_true rfl⟩ ⟨Nat.le_of_ble_eq_true rfl, Nat.le_of_ble_eq_true rfl⟩ (c_adv hR htx H1 hz2) x_d (k_d0 ?_)
  refine j_mn (fun g2 hg2 => ?_)
  have H2 : CRd g2 R tx T d (sTold s 0) (sk T (st + 5)) := by rw [hg2]; exact H1.adv htx hz2
  have F2 : FrR g g2 R := by rw [hg2]; exact F1.adv
  obtain ⟨hX2, hk2, hq2, hR2, hP2, hs2, he2⟩ := id H2
  have hr2 := hk2.2.2.1
  refine j_aload_n 93 1 dX8_readRule_92 rfl rfl ?_
  refine j_iconst 94 dX8_readRule_93 rfl ?_
  refine j_iload_n 95 0 dX8_readRule_94 rfl rfl ?_
  refine j_callSN 98 (As := [.int (i32 (19))]) (kc2 := 0) (ks2 := 0) dX8_readRule_95 rfl msX9_mostOf rfl rfl rfl (Nat.le_of_ble_eq_true rfl) ⟨Nat.le_of_ble_eq_true rfl, Nat.le_of_ble_eq_true rfl⟩ ⟨Nat.le_of_ble_eq_true rfl, Nat.le_of_ble_eq_true rfl⟩ (c_mostOf (r32 (by decide) (by decide))) x_d (k_d1 ?_)
  refine j_top (y := most ((19 + 0 : Nat) : Int)) (rfl) ?_
  rcases numC T (sk T (st + 5)) (1) (most ((19 + 0 : Nat) : Int)) with hB | hB | hB
  ·
    refine j_callV 101 (As := [.int (i32 (1)), .int (i32 (most ((19 + 0 : Nat) : Int)))]) (kc2 := 0) (ks2 := 0) dX8_readRule_98 rfl mvX8_checkNumber lk_X8_71 hR.rd rfl ⟨Nat.le_of_ble_eq_true rfl, rfl⟩ rfl rfl (Nat.le_of_ble_eq_true rfl) ⟨Nat.le_of_ble_eq_true rfl, Nat.le_of_ble_eq_true rfl⟩ ⟨Nat.le_of_ble_eq_true rfl, Nat.le_of_ble_eq_true rfl⟩ (c_num1 hR hX2 hk2 hq2 (by first | decide | omega) (by first | decide | omega) (by first | decide | omega) (by first | decide | omega) hB.1 hB.2) x_d (k_d1 ?_)
    refine j_if_ne 104 106 dX8_readRule_101 rfl rfl (r32 (by decide) (by decide)) (fun c_101 => ?_) (fun c_101 => absurd c_101 (by decide))
    have hnu2 := num_of hTb hk2 hB.1
    have hz4 : szT T (sk T (st + 5)) = dn T (sk T (st + 5)) := sz_D hTb hB.1
    have hm9 : most ((19 + 0 : Nat) : Int) ≤ 999 := by decide
    refine j_aload_n 107 1 dX8_readRule_106 rfl rfl ?_
    refine j_getr 110 dX8_readRule_107 rfl fl_X8_12 hR.rd rfl (fun _ _ => rfl) rfl ?_
    refine j_iload_n 111 0 dX8_readRule_110 rfl rfl ?_
    refine j_aload_n 112 1 dX8_readRule_111 rfl rfl ?_
    refine j_geti 115 dX8_readRule_112 rfl fl_X8_75 hR.rd rfl rfl (fun r_112 => ?_)
    refine j_top (y := (nv T (sk T (st + 5)))) (hnu2.1 (by omega)) ?_
    refine j_callV 118 (As := [.int (i32 (19)), .int (i32 ((nv T (sk T (st + 5)))))]) (kc2 := 0) (ks2 := 0) dX8_readRule_115 rfl mvX1_setRule lk_X8_183 hR.told.ex rfl ⟨Nat.le_of_ble_eq_true rfl, rfl⟩ rfl rfl (Nat.le_of_ble_eq_true rfl) ⟨Nat.le_of_ble_eq_true rfl, Nat.le_of_ble_eq_true rfl⟩ ⟨Nat.le_of_ble_eq_true rfl, Nat.le_of_ble_eq_true rfl⟩ (c_setRule19 hR.told (r32 (by omega) (by omega))) x_d (k_d1 ?_)
    refine j_pop 119 dX8_readRule_118 rfl rfl ?_
    refine j_mn (fun g3 hg3 => ?_)
    have hE3 : RelX g3 (R + 1) (ud d (19 + 0) (nv T (sk T (st + 5)))) := by rw [hg3]; exact ((hP2.kx hR2).rule (q := 19 + 0) (by decide) hB.2.1 hB.2.2).1
    have H3 : CRd g3 R tx T (ud d (19 + 0) (nv T (sk T (st + 5)))) (sTold s 0) (sk T (st + 5)) := H2.upd (fun j => by rw [hg3]; repeat (first | rw [up2_row (by omega)] | rw [up2_a (by omega)])) (by rw [hg3]; repeat (first | rw [up2_row (by omega)] | rw [up2_a (by omega)])) hE3 (pinv_rule (q := 19 + 0) (by decide) hB.2.1 hB.2.2 hP2)
    have F3 : FrR g g3 R := F2.tr (fun a ha => by rw [hg3]; repeat (first | rw [up2_row (by omega)] | rw [up2_a (by omega)]))
    refine j_aload_n 120 1 dX8_readRule_119 rfl rfl ?_
    refine j_callV 123 (As := []) (kc2 := 0) (ks2 := 0) dX8_readRule_120 rfl mvX8_advance lk_X8_45 hR.rd rfl ⟨Nat.le_of_ble_eq_true rfl, rfl⟩ rfl rfl (Nat.le_of_ble_eq_true rfl) ⟨Nat.le_of_ble_eq_true rfl, Nat.le_of_ble_eq_true rfl⟩ ⟨Nat.le_of_ble_eq_true rfl, Nat.le_of_ble_eq_true rfl⟩ (c_adv hR htx H3 hz4) x_d (k_d0 ?_)
    refine j_mn (fun g4 hg4 => ?_)
    have H4 : CRd g4 R tx T (ud d (19 + 0) (nv T (sk T (st + 5)))) (sTold s 0) (sk T ((sk T (st + 5)) + dn T (sk T (st + 5)))) := by rw [hg4]; exact H3.adv htx hz4
    have F4 : FrR g g4 R := by rw [hg4]; exact F3.adv
    obtain ⟨hX4, hk4, hq4, hR4, hP4, hs4, he4⟩ := id H4
    have hr4 := hk4.2.2.1
    refine j_iconst 124 dX8_readRule_123 rfl ?_
    exact j_zret dX8_readRule_124 rfl (Or.inr rfl) (⟨_, rfl, rfl, cp_ok F4 H4 (p2 := (sk T (st + 5)) + dn T (sk T (st + 5))) rfl (by unfold P_rules; rw [if_pos w0]; unfold P_rule; rw [if_neg (show ¬ s 0 = true by rw [hsi]; decide), kNum_1 hB]; first | done | rfl)⟩)
  ·
    refine j_callV 101 (As := [.int (i32 (1)), .int (i32 (most ((19 + 0 : Nat) : Int)))]) (kc2 := 0) (ks2 := 0) dX8_readRule_98 rfl mvX8_checkNumber lk_X8_71 hR.rd rfl ⟨Nat.le_of_ble_eq_true rfl, rfl⟩ rfl rfl (Nat.le_of_ble_eq_true rfl) ⟨Nat.le_of_ble_eq_true rfl, Nat.le_of_ble_eq_true rfl⟩ ⟨Nat.le_of_ble_eq_true rfl, Nat.le_of_ble_eq_true rfl⟩ (c_num2 hR hX2 hk2 hq2 (by first | decide | omega) (by first | decide | omega) (by first | decide | omega) (by first | decide | omega) hB) x_d (k_d1 ?_)
    refine j_if_ne 104 106 dX8_readRule_101 rfl rfl (r32 (by decide) (by decide)) (fun c_101 => absurd c_101 (by decide)) (fun c_101 => ?_)
    refine j_iconst 105 dX8_readRule_104 rfl ?_
    exact j_zret dX8_readRule_105 rfl (Or.inl rfl) (⟨_, rfl, rfl, cp_bad F2 hR2.1 (by unfold P_rules; rw [if_pos w0]; unfold P_rule; rw [if_neg (show ¬ s 0 = true by rw [hsi]; decide), kNum_2 hB])⟩)
  ·
    refine j_callV 101 (As := [.int (i32 (1)), .int (i32 (most ((19 + 0 : Nat) : Int)))]) (kc2 := 0) (ks2 := 0) dX8_readRule_98 rfl mvX8_checkNumber lk_X8_71 hR.rd rfl ⟨Nat.le_of_ble_eq_true rfl, rfl⟩ rfl rfl (Nat.le_of_ble_eq_true rfl) ⟨Nat.le_of_ble_eq_true rfl, Nat.le_of_ble_eq_true rfl⟩ ⟨Nat.le_of_ble_eq_true rfl, Nat.le_of_ble_eq_true rfl⟩ (c_num3 hR hX2 hk2 hq2 (by first | decide | omega) (by first | decide | omega) (by first | decide | omega) (by first | decide | omega) hB.1 hB.2) x_d (k_d1 ?_)
    refine j_if_ne 104 106 dX8_readRule_101 rfl rfl (r32 (by decide) (by decide)) (fun c_101 => absurd c_101 (by decide)) (fun c_101 => ?_)
    refine j_iconst 105 dX8_readRule_104 rfl ?_
    exact j_zret dX8_readRule_105 rfl (Or.inl rfl) (⟨_, rfl, rfl, cp_bad F2 hR2.1 (by unfold P_rules; rw [if_pos w0]; unfold P_rule; rw [if_neg (show ¬ s 0 = true by rw [hsi]; decide), kNum_3 hB])⟩)

set_option maxRecDepth 20000 in
theorem c_rule1r {w : Wd} {sh : Shp} {g : Mem} {R tx : Nat} (hR : RdS sh.1 R tx) {T : Tx} {d : Nat → Int} {s : Nat → Bool} {st : Nat} (htx : tx < R ∨ R + 76 ≤ tx) (H0 : CRd g R tx T d s st) (w1 : wdB T st 6 = true) (hsi : s 1 = false) : CT w mX8_readRule [.ref (R)] sh g (iQ sh (CP g R tx T (P_rules T d s st))) := by
  have F0 : FrR g g R := FrR.rf
  have hX0 := H0.1
  have hk0 := H0.2.1
  have hq0 := H0.2.2.1
  have hR0 := H0.2.2.2.1
  have hP0 := H0.2.2.2.2.1
  have hT7 := hX0.1
  have hTb := hX0.2.2.2
  have hbb := hP0.1
  have hr0 := hk0.2.2.1
  have hb2 := hbb.2.2.1
  have hb3 := hbb.2.2.2.1
  have hb4 := hbb.2.2.2.2.1
  have hb5 := hbb.2.2.2.2.2.1
  have w0 := wd_off (j := 5) w1 (by decide)
  have w2 := wd_off (j := 7) w1 (by decide)
  have hs0 := H0.2.2.2.2.2.1
  refine j_entry (by decide) rfl (Nat.le_of_ble_eq_true rfl) (fun h => by cases h) rfl ?_
  show J w mX8_readRule 0 [(0, .ref (R))] [] sh g 0 0 _
  refine j_aload_n 1 0 dX8_readRule_0 rfl rfl ?_
  refine j_ldcS 3 (i := 5) dX8_readRule_1 rfl (tx := "guard") (by decide) ?_
  refine j_callV 6 (As := [.ref (w.2.1 (100 + 5))]) (kc2 := 0) (ks2 := 0) dX8_readRule_3 rfl mvX8_isWord lk_X8_63 hR.rd rfl ⟨Nat.le_of_ble_eq_true rfl, rfl⟩ rfl rfl (Nat.le_of_ble_eq_true rfl) ⟨Nat.le_of_ble_eq_true rfl, Nat.le_of_ble_eq_true rfl⟩ ⟨Nat.le_of_ble_eq_true rfl, Nat.le_of_ble_eq_true rfl⟩ (c_isWord hR hX0 hk0 hq0 (by decide)) x_d (k_d1 ?_)
  refine j_top (y := 0) (bo0 w0) ?_
  refine j_if_eq 9 27 dX8_readRule_6 rfl rfl (r32 (by decide) (by decide)) (fun c_6 => ?_) (fun c_6 => absurd c_6 (by decide))
  refine j_aload_n 28 0 dX8_readRule_27 rfl rfl ?_
  refine j_ldcS 30 (i := 6) dX8_readRule_28 rfl (tx := "timeout") (by decide) ?_
  refine j_callV 33 (As := [.ref (w.2.1 (100 + 6))]) (kc2 := 0) (ks2 := 0) dX8_readRule_30 rfl mvX8_isWord lk_X8_63 hR.rd rfl ⟨Nat.le_of_ble_eq_true rfl, rfl⟩ rfl rfl (Nat.le_of_ble_eq_true rfl) ⟨Nat.le_of_ble_eq_true rfl, Nat.le_of_ble_eq_true rfl⟩ ⟨Nat.le_of_ble_eq_true rfl, Nat.le_of_ble_eq_true rfl⟩ (c_isWord hR hX0 hk0 hq0 (by decide)) x_d (k_d1 ?_)
  refine j_top (y := 1) (bo1 w1) ?_
  refine j_if_eq 36 54 dX8_readRule_33 rfl rfl (r32 (by decide) (by decide)) (fun c_33 => absurd c_33 (by decide)) (fun c_33 => ?_)
  refine j_aload_n 37 0 dX8_readRule_36 rfl rfl ?_
  refine j_getz 40 dX8_readRule_37 rfl fl_X8_39 hR.rd rfl rfl (fun r_37 => ?_)
  refine j_top (y := 0) ((hs0.2.1.trans (bo0 hsi))) ?_
  refine j_if_ne 43 54 dX8_readRule_40 rfl rfl (r32 (by decide) (by decide)) (fun c_40 => absurd c_40 (by decide)) (fun c_40 => ?_)
  refine j_bipush 45 dX8_readRule_43 rfl (by decide) ?_
  refine j_istore_n 46 (L2 := [(1, .int (i32 (20))), (0, .ref (R))]) dX8_readRule_45 rfl rfl (Nat.le_of_ble_eq_true rfl) rfl ?_
  refine j_aload_n 47 1 dX8_readRule_46 rfl rfl ?_
  refine j_iconst 48 dX8_readRule_47 rfl ?_
  refine j_putz 51 dX8_readRule_48 rfl fl_X8_39 hR.rd rfl rfl rfl (Or.inr rfl) ?_
  refine j_mn (fun g_48 hg_48 => ?_)
  refine j_goto 88 dX8_readRule_51 rfl ?_
  have H1 : CRd g_48 R tx T d (sTold s 1) st := by rw [hg_48]; exact H0.flag (i := 1) (by decide) htx
  have F1 : FrR g g_48 R := by rw [hg_48]; exact FrR.rf.up
  have hz2 : szT T st = 7 := by have h1 : ln T st = 7 := (wd_iff.mp w1).1; rw [sz_L hTb (by omega)]; exact h1
  refine j_aload_n 89 1 dX8_readRule_88 rfl rfl ?_
  refine j_callV 92 (As := []) (kc2 := 0) (ks2 := 0) dX8_readRule_89 rfl mvX8_advance lk_X8_45 hR.rd rfl ⟨Nat.le_of_ble_eq_true rfl, rfl⟩ rfl rfl (Nat.le_of_ble_eq_true rfl) ⟨Nat.le_of_ble_eq_true rfl, Nat.le_of_ble_eq_true rfl⟩ ⟨Nat.le_of_ble_eq_true rfl, Nat.le_of_ble_eq_true rfl⟩ (c_adv hR htx H1 hz2) x_d (k_d0 ?_)
  refine j_mn (fun g2 hg2 => ?_)
  have H2 : CRd g2 R tx T d (sTold s 1) (sk T (st + 7)) := by rw [hg2]; exact H1.adv htx hz2
  have F2 : FrR g g2 R := by rw [hg2]; exact F1.adv
  obtain ⟨hX2, hk2, hq2, hR2, hP2, hs2, he2⟩ := id H2
  have hr2 := hk2.2.2.1
  refine j_aload_n 93 1 dX8_readRule_92 rfl rfl ?_
  refine j_iconst 94 dX8_readRule_93 rfl ?_
  refine j_iload_n 95 0 dX8_readRule_94 rfl rfl ?_
  refine j_callSN 98 (As := [.int (i32 (20))]) (kc2 := 0) (ks2 := 0) dX8_readRule_95 rfl msX9_mostOf rfl rfl rfl (Nat.le_of_ble_eq_true rfl) ⟨Nat.le_of_ble_eq_true rfl, Nat.le_of_ble_eq_true rfl⟩ ⟨Nat.le_of_ble_eq_true rfl, Nat.le_of_ble_eq_true rfl⟩ (c_mostOf (r32 (by decide) (by decide))) x_d (k_d1 ?_)
  refine j_top (y := most ((19 + 1 : Nat) : Int)) (rfl) ?_
  rcases numC T (sk T (st + 7)) (1) (most ((19 + 1 : Nat) : Int)) with hB | hB | hB
  ·
    refine j_callV 101 (As := [.int (i32 (1)), .int (i32 (most ((19 + 1 : Nat) : Int)))]) (kc2 := 0) (ks2 := 0) dX8_readRule_98 rfl mvX8_checkNumber lk_X8_71 hR.rd rfl ⟨Nat.le_of_ble_eq_true rfl, rfl⟩ rfl rfl (Nat.le_of_ble_eq_true rfl) ⟨Nat.le_of_ble_eq_true rfl, Nat.le_of_ble_eq_true rfl⟩ ⟨Nat.le_of_ble_eq_true rfl, Nat.le_of_ble_eq_true rfl⟩ (c_num1 hR hX2 hk2 hq2 (by first | decide | omega) (by first | decide | omega) (by first | decide | omega) (by first | decide | omega) hB.1 hB.2) x_d (k_d1 ?_)
    refine j_if_ne 104 106 dX8_readRule_101 rfl rfl (r32 (by decide) (by decide)) (fun c_101 => ?_) (fun c_101 => absurd c_101 (by decide))
    have hnu2 := num_of hTb hk2 hB.1
    have hz4 : szT T (sk T (st + 7)) = dn T (sk T (st + 7)) := sz_D hTb hB.1
    have hm9 : most ((19 + 1 : Nat) : Int) ≤ 999 := by decide
    refine j_aload_n 107 1 dX8_readRule_106 rfl rfl ?_
    refine j_getr 110 dX8_readRule_107 rfl fl_X8_12 hR.rd rfl (fun _ _ => rfl) rfl ?_
    refine j_iload_n 111 0 dX8_readRule_110 rfl rfl ?_
    refine j_aload_n 112 1 dX8_readRule_111 rfl rfl ?_
    refine j_geti 115 dX8_readRule_112 rfl fl_X8_75 hR.rd rfl rfl (fun r_112 => ?_)
    refine j_top (y := (nv T (sk T (st + 7)))) (hnu2.1 (by omega)) ?_
    refine j_callV 118 (As := [.int (i32 (20)), .int (i32 ((nv T (sk T (st + 7)))))]) (kc2 := 0) (ks2 := 0) dX8_readRule_115 rfl mvX1_setRule lk_X8_183 hR.told.ex rfl ⟨Nat.le_of_ble_eq_true rfl, rfl⟩ rfl rfl (Nat.le_of_ble_eq_true rfl) ⟨Nat.le_of_ble_eq_true rfl, Nat.le_of_ble_eq_true rfl⟩ ⟨Nat.le_of_ble_eq_true rfl, Nat.le_of_ble_eq_true rfl⟩ (c_setRule20 hR.told (r32 (by omega) (by omega))) x_d (k_d1 ?_)
    refine j_pop 119 dX8_readRule_118 rfl rfl ?_
    refine j_mn (fun g3 hg3 => ?_)
    have hE3 : RelX g3 (R + 1) (ud d (19 + 1) (nv T (sk T (st + 7)))) := by rw [hg3]; exact ((hP2.kx hR2).rule (q := 19 + 1) (by decide) hB.2.1 hB.2.2).1
    have H3 : CRd g3 R tx T (ud d (19 + 1) (nv T (sk T (st + 7)))) (sTold s 1) (sk T (st + 7)) := H2.upd (fun j => by rw [hg3]; repeat (first | rw [up2_row (by omega)] | rw [up2_a (by omega)])) (by rw [hg3]; repeat (first | rw [up2_row (by omega)] | rw [up2_a (by omega)])) hE3 (pinv_rule (q := 19 + 1) (by decide) hB.2.1 hB.2.2 hP2)
    have F3 : FrR g g3 R := F2.tr (fun a ha => by rw [hg3]; repeat (first | rw [up2_row (by omega)] | rw [up2_a (by omega)]))
    refine j_aload_n 120 1 dX8_readRule_119 rfl rfl ?_
    refine j_callV 123 (As := []) (kc2 := 0) (ks2 := 0) dX8_readRule_120 rfl mvX8_advance lk_X8_45 hR.rd rfl ⟨Nat.le_of_ble_eq_true rfl, rfl⟩ rfl rfl (Nat.le_of_ble_eq_true rfl) ⟨Nat.le_of_ble_eq_true rfl, Nat.le_of_ble_eq_true rfl⟩ ⟨Nat.le_of_ble_eq_true rfl, Nat.le_of_ble_eq_true rfl⟩ (c_adv hR htx H3 hz4) x_d (k_d0 ?_)
    refine j_mn (fun g4 hg4 => ?_)
    have H4 : CRd g4 R tx T (ud d (19 + 1) (nv T (sk T (st + 7)))) (sTold s 1) (sk T ((sk T (st + 7)) + dn T (sk T (st + 7)))) := by rw [hg4]; exact H3.adv htx hz4
    have F4 : FrR g g4 R := by rw [hg4]; exact F3.adv
    obtain ⟨hX4, hk4, hq4, hR4, hP4, hs4, he4⟩ := id H4
    have hr4 := hk4.2.2.1
    refine j_iconst 124 dX8_readRule_123 rfl ?_
    exact j_zret dX8_readRule_124 rfl (Or.inr rfl) (⟨_, rfl, rfl, cp_ok F4 H4 (p2 := (sk T (st + 7)) + dn T (sk T (st + 7))) rfl (by unfold P_rules; rw [if_neg (show ¬ wdB T st 5 = true by rw [w0]; decide), if_pos w1]; unfold P_rule; rw [if_neg (show ¬ s 1 = true by rw [hsi]; decide), kNum_1 hB]; first | done | rfl)⟩)
  ·
    refine j_callV 101 (As := [.int (i32 (1)), .int (i32 (most ((19 + 1 : Nat) : Int)))]) (kc2 := 0) (ks2 := 0) dX8_readRule_98 rfl mvX8_checkNumber lk_X8_71 hR.rd rfl ⟨Nat.le_of_ble_eq_true rfl, rfl⟩ rfl rfl (Nat.le_of_ble_eq_true rfl) ⟨Nat.le_of_ble_eq_true rfl, Nat.le_of_ble_eq_true rfl⟩ ⟨Nat.le_of_ble_eq_true rfl, Nat.le_of_ble_eq_true rfl⟩ (c_num2 hR hX2 hk2 hq2 (by first | decide | omega) (by first | decide | omega) (by first | decide | omega) (by first | decide | omega) hB) x_d (k_d1 ?_)
    refine j_if_ne 104 106 dX8_readRule_101 rfl rfl (r32 (by decide) (by decide)) (fun c_101 => absurd c_101 (by decide)) (fun c_101 => ?_)
    refine j_iconst 105 dX8_readRule_104 rfl ?_
    exact j_zret dX8_readRule_105 rfl (Or.inl rfl) (⟨_, rfl, rfl, cp_bad F2 hR2.1 (by unfold P_rules; rw [if_neg (show ¬ wdB T st 5 = true by rw [w0]; decide), if_pos w1]; unfold P_rule; rw [if_neg (show ¬ s 1 = true by rw [hsi]; decide), kNum_2 hB])⟩)
  ·
    refine j_callV 101 (As := [.int (i32 (1)), .int (i32 (most ((19 + 1 : Nat) : Int)))]) (kc2 := 0) (ks2 := 0) dX8_readRule_98 rfl mvX8_checkNumber lk_X8_71 hR.rd rfl ⟨Nat.le_of_ble_eq_true rfl, rfl⟩ rfl rfl (Nat.le_of_ble_eq_true rfl) ⟨Nat.le_of_ble_eq_true rfl, Nat.le_of_ble_eq_true rfl⟩ ⟨Nat.le_of_ble_eq_true rfl, Nat.le_of_ble_eq_true rfl⟩ (c_num3 hR hX2 hk2 hq2 (by first | decide | omega) (by first | decide | omega) (by first | decide | omega) (by first | decide | omega) hB.1 hB.2) x_d (k_d1 ?_)
    refine j_if_ne 104 106 dX8_readRule_101 rfl rfl (r32 (by decide) (by decide)) (fun c_101 => absurd c_101 (by decide)) (fun c_101 => ?_)
    refine j_iconst 105 dX8_readRule_104 rfl ?_
    exact j_zret dX8_readRule_105 rfl (Or.inl rfl) (⟨_, rfl, rfl, cp_bad F2 hR2.1 (by unfold P_rules; rw [if_neg (show ¬ wdB T st 5 = true by rw [w0]; decide), if_pos w1]; unfold P_rule; rw [if_neg (show ¬ s 1 = true by rw [hsi]; decide), kNum_3 hB])⟩)

set_option maxRecDepth 20000 in
theorem c_rule2r {w : Wd} {sh : Shp} {g : Mem} {R tx : Nat} (hR : RdS sh.1 R tx) {T : Tx} {d : Nat → Int} {s : Nat → Bool} {st : Nat} (htx : tx < R ∨ R + 76 ≤ tx) (H0 : CRd g R tx T d s st) (w2 : wdB T st 7 = true) (hsi : s 2 = false) : CT w mX8_readRule [.ref (R)] sh g (iQ sh (CP g R tx T (P_rules T d s st))) := by
  have F0 : FrR g g R := FrR.rf
  have hX0 := H0.1
  have hk0 := H0.2.1
  have hq0 := H0.2.2.1
  have hR0 := H0.2.2.2.1
  have hP0 := H0.2.2.2.2.1
  have hT7 := hX0.1
  have hTb := hX0.2.2.2
  have hbb := hP0.1
  have hr0 := hk0.2.2.1
  have hb2 := hbb.2.2.1
  have hb3 := hbb.2.2.2.1
  have hb4 := hbb.2.2.2.2.1
  have hb5 := hbb.2.2.2.2.2.1
  have w0 := wd_off (j := 5) w2 (by decide)
  have w1 := wd_off (j := 6) w2 (by decide)
  have hs0 := H0.2.2.2.2.2.1
  refine j_entry (by decide) rfl (Nat.le_of_ble_eq_true rfl) (fun h => by cases h) rfl ?_
  show J w mX8_readRule 0 [(0, .ref (R))] [] sh g 0 0 _
  refine j_aload_n 1 0 dX8_readRule_0 rfl rfl ?_
  refine j_ldcS 3 (i := 5) dX8_readRule_1 rfl (tx := "guard") (by decide) ?_
  refine j_callV 6 (As := [.ref (w.2.1 (100 + 5))]) (kc2 := 0) (ks2 := 0) dX8_readRule_3 rfl mvX8_isWord lk_X8_63 hR.rd rfl ⟨Nat.le_of_ble_eq_true rfl, rfl⟩ rfl rfl (Nat.le_of_ble_eq_true rfl) ⟨Nat.le_of_ble_eq_true rfl, Nat.le_of_ble_eq_true rfl⟩ ⟨Nat.le_of_ble_eq_true rfl, Nat.le_of_ble_eq_true rfl⟩ (c_isWord hR hX0 hk0 hq0 (by decide)) x_d (k_d1 ?_)
  refine j_top (y := 0) (bo0 w0) ?_
  refine j_if_eq 9 27 dX8_readRule_6 rfl rfl (r32 (by decide) (by decide)) (fun c_6 => ?_) (fun c_6 => absurd c_6 (by decide))
  refine j_aload_n 28 0 dX8_readRule_27 rfl rfl ?_
  refine j_ldcS 30 (i := 6) dX8_readRule_28 rfl (tx := "timeout") (by decide) ?_
  refine j_callV 33 (As := [.ref (w.2.1 (100 + 6))]) (kc2 := 0) (ks2 := 0) dX8_readRule_30 rfl mvX8_isWord lk_X8_63 hR.rd rfl ⟨Nat.le_of_ble_eq_true rfl, rfl⟩ rfl rfl (Nat.le_of_ble_eq_true rfl) ⟨Nat.le_of_ble_eq_true rfl, Nat.le_of_ble_eq_true rfl⟩ ⟨Nat.le_of_ble_eq_true rfl, Nat.le_of_ble_eq_true rfl⟩ (c_isWord hR hX0 hk0 hq0 (by decide)) x_d (k_d1 ?_)
  refine j_top (y := 0) (bo0 w1) ?_
  refine j_if_eq 36 54 dX8_readRule_33 rfl rfl (r32 (by decide) (by decide)) (fun c_33 => ?_) (fun c_33 => absurd c_33 (by decide))
  refine j_aload_n 55 0 dX8_readRule_54 rfl rfl ?_
  refine j_ldcS 57 (i := 7) dX8_readRule_55 rfl (tx := "work") (by decide) ?_
  refine j_callV 60 (As := [.ref (w.2.1 (100 + 7))]) (kc2 := 0) (ks2 := 0) dX8_readRule_57 rfl mvX8_isWord lk_X8_63 hR.rd rfl ⟨Nat.le_of_ble_eq_true rfl, rfl⟩ rfl rfl (Nat.le_of_ble_eq_true rfl) ⟨Nat.le_of_ble_eq_true rfl, Nat.le_of_ble_eq_true rfl⟩ ⟨Nat.le_of_ble_eq_true rfl, Nat.le_of_ble_eq_true rfl⟩ (c_isWord hR hX0 hk0 hq0 (by decide)) x_d (k_d1 ?_)
  refine j_top (y := 1) (bo1 w2) ?_
  refine j_if_eq 63 81 dX8_readRule_60 rfl rfl (r32 (by decide) (by decide)) (fun c_60 => absurd c_60 (by decide)) (fun c_60 => ?_)
  refine j_aload_n 64 0 dX8_readRule_63 rfl rfl ?_
  refine j_getz 67 dX8_readRule_64 rfl fl_X8_42 hR.rd rfl rfl (fun r_64 => ?_)
  refine j_top (y := 0) ((hs0.2.2.trans (bo0 hsi))) ?_
  refine j_if_ne 70 81 dX8_readRule_67 rfl rfl (r32 (by decide) (by decide)) (fun c_67 => absurd c_67 (by decide)) (fun c_67 => ?_)
  refine j_bipush 72 dX8_readRule_70 rfl (by decide) ?_
  refine j_istore_n 73 (L2 := [(1, .int (i32 (21))), (0, .ref (R))]) dX8_readRule_72 rfl rfl (Nat.le_of_ble_eq_true rfl) rfl ?_
  refine j_aload_n 74 1 dX8_readRule_73 rfl rfl ?_
  refine j_iconst 75 dX8_readRule_74 rfl ?_
  refine j_putz 78 dX8_readRule_75 rfl fl_X8_42 hR.rd rfl rfl rfl (Or.inr rfl) ?_
  refine j_mn (fun g_75 hg_75 => ?_)
  refine j_goto 88 dX8_readRule_78 rfl ?_
  have H1 : CRd g_75 R tx T d (sTold s 2) st := by rw [hg_75]; exact H0.flag (i := 2) (by decide) htx
  have F1 : FrR g g_75 R := by rw [hg_75]; exact FrR.rf.up
  have hz2 : szT T st = 4 := by have h1 : ln T st = 4 := (wd_iff.mp w2).1; rw [sz_L hTb (by omega)]; exact h1
  refine j_aload_n 89 1 dX8_readRule_88 rfl rfl ?_
  refine j_callV 92 (As := []) (kc2 := 0) (ks2 := 0) dX8_readRule_89 rfl mvX8_advance lk_X8_45 hR.rd rfl ⟨Nat.le_of_ble_eq_true rfl, rfl⟩ rfl rfl (Nat.le_of_ble_eq_true rfl) ⟨Nat.le_of_ble_eq_true rfl, Nat.le_of_ble_eq_true rfl⟩ ⟨Nat.le_of_ble_eq_true rfl, Nat.le_of_ble_eq_true rfl⟩ (c_adv hR htx H1 hz2) x_d (k_d0 ?_)
  refine j_mn (fun g2 hg2 => ?_)
  have H2 : CRd g2 R tx T d (sTold s 2) (sk T (st + 4)) := by rw [hg2]; exact H1.adv htx hz2
  have F2 : FrR g g2 R := by rw [hg2]; exact F1.adv
  obtain ⟨hX2, hk2, hq2, hR2, hP2, hs2, he2⟩ := id H2
  have hr2 := hk2.2.2.1
  refine j_aload_n 93 1 dX8_readRule_92 rfl rfl ?_
  refine j_iconst 94 dX8_readRule_93 rfl ?_
  refine j_iload_n 95 0 dX8_readRule_94 rfl rfl ?_
  refine j_callSN 98 (As := [.int (i32 (21))]) (kc2 := 0) (ks2 := 0) dX8_readRule_95 rfl msX9_mostOf rfl rfl rfl (Nat.le_of_ble_eq_true rfl) ⟨Nat.le_of_ble_eq_true rfl, Nat.le_of_ble_eq_true rfl⟩ ⟨Nat.le_of_ble_eq_true rfl, Nat.le_of_ble_eq_true rfl⟩ (c_mostOf (r32 (by decide) (by decide))) x_d (k_d1 ?_)
  refine j_top (y := most ((19 + 2 : Nat) : Int)) (rfl) ?_
  rcases numC T (sk T (st + 4)) (1) (most ((19 + 2 : Nat) : Int)) with hB | hB | hB
  ·
    refine j_callV 101 (As := [.int (i32 (1)), .int (i32 (most ((19 + 2 : Nat) : Int)))]) (kc2 := 0) (ks2 := 0) dX8_readRule_98 rfl mvX8_checkNumber lk_X8_71 hR.rd rfl ⟨Nat.le_of_ble_eq_true rfl, rfl⟩ rfl rfl (Nat.le_of_ble_eq_true rfl) ⟨Nat.le_of_ble_eq_true rfl, Nat.le_of_ble_eq_true rfl⟩ ⟨Nat.le_of_ble_eq_true rfl, Nat.le_of_ble_eq_true rfl⟩ (c_num1 hR hX2 hk2 hq2 (by first | decide | omega) (by first | decide | omega) (by first | decide | omega) (by first | decide | omega) hB.1 hB.2) x_d (k_d1 ?_)
    refine j_if_ne 104 106 dX8_readRule_101 rfl rfl (r32 (by decide) (by decide)) (fun c_101 => ?_) (fun c_101 => absurd c_101 (by decide))
    have hnu2 := num_of hTb hk2 hB.1
    have hz4 : szT T (sk T (st + 4)) = dn T (sk T (st + 4)) := sz_D hTb hB.1
    have hm9 : most ((19 + 2 : Nat) : Int) ≤ 999 := by decide
    refine j_aload_n 107 1 dX8_readRule_106 rfl rfl ?_
    refine j_getr 110 dX8_readRule_107 rfl fl_X8_12 hR.rd rfl (fun _ _ => rfl) rfl ?_
    refine j_iload_n 111 0 dX8_readRule_110 rfl rfl ?_
    refine j_aload_n 112 1 dX8_readRule_111 rfl rfl ?_
    refine j_geti 115 dX8_readRule_112 rfl fl_X8_75 hR.rd rfl rfl (fun r_112 => ?_)
    refine j_top (y := (nv T (sk T (st + 4)))) (hnu2.1 (by omega)) ?_
    refine j_callV 118 (As := [.int (i32 (21)), .int (i32 ((nv T (sk T (st + 4)))))]) (kc2 := 0) (ks2 := 0) dX8_readRule_115 rfl mvX1_setRule lk_X8_183 hR.told.ex rfl ⟨Nat.le_of_ble_eq_true rfl, rfl⟩ rfl rfl (Nat.le_of_ble_eq_true rfl) ⟨Nat.le_of_ble_eq_true rfl, Nat.le_of_ble_eq_true rfl⟩ ⟨Nat.le_of_ble_eq_true rfl, Nat.le_of_ble_eq_true rfl⟩ (c_setRule21 hR.told (r32 (by omega) (by omega))) x_d (k_d1 ?_)
    refine j_pop 119 dX8_readRule_118 rfl rfl ?_
    refine j_mn (fun g3 hg3 => ?_)
    have hE3 : RelX g3 (R + 1) (ud d (19 + 2) (nv T (sk T (st + 4)))) := by rw [hg3]; exact ((hP2.kx hR2).rule (q := 19 + 2) (by decide) hB.2.1 hB.2.2).1
    have H3 : CRd g3 R tx T (ud d (19 + 2) (nv T (sk T (st + 4)))) (sTold s 2) (sk T (st + 4)) := H2.upd (fun j => by rw [hg3]; repeat (first | rw [up2_row (by omega)] | rw [up2_a (by omega)])) (by rw [hg3]; repeat (first | rw [up2_row (by omega)] | rw [up2_a (by omega)])) hE3 (pinv_rule (q := 19 + 2) (by decide) hB.2.1 hB.2.2 hP2)
    have F3 : FrR g g3 R := F2.tr (fun a ha => by rw [hg3]; repeat (first | rw [up2_row (by omega)] | rw [up2_a (by omega)]))
    refine j_aload_n 120 1 dX8_readRule_119 rfl rfl ?_
    refine j_callV 123 (As := []) (kc2 := 0) (ks2 := 0) dX8_readRule_120 rfl mvX8_advance lk_X8_45 hR.rd rfl ⟨Nat.le_of_ble_eq_true rfl, rfl⟩ rfl rfl (Nat.le_of_ble_eq_true rfl) ⟨Nat.le_of_ble_eq_true rfl, Nat.le_of_ble_eq_true rfl⟩ ⟨Nat.le_of_ble_eq_true rfl, Nat.le_of_ble_eq_true rfl⟩ (c_adv hR htx H3 hz4) x_d (k_d0 ?_)
    refine j_mn (fun g4 hg4 => ?_)
    have H4 : CRd g4 R tx T (ud d (19 + 2) (nv T (sk T (st + 4)))) (sTold s 2) (sk T ((sk T (st + 4)) + dn T (sk T (st + 4)))) := by rw [hg4]; exact H3.adv htx hz4
    have F4 : FrR g g4 R := by rw [hg4]; exact F3.adv
    obtain ⟨hX4, hk4, hq4, hR4, hP4, hs4, he4⟩ := id H4
    have hr4 := hk4.2.2.1
    refine j_iconst 124 dX8_readRule_123 rfl ?_
    exact j_zret dX8_readRule_124 rfl (Or.inr rfl) (⟨_, rfl, rfl, cp_ok F4 H4 (p2 := (sk T (st + 4)) + dn T (sk T (st + 4))) rfl (by unfold P_rules; rw [if_neg (show ¬ wdB T st 5 = true by rw [w0]; decide), if_neg (show ¬ wdB T st 6 = true by rw [w1]; decide), if_pos w2]; unfold P_rule; rw [if_neg (show ¬ s 2 = true by rw [hsi]; decide), kNum_1 hB]; first | done | rfl)⟩)
  ·
    refine j_callV 101 (As := [.int (i32 (1)), .int (i32 (most ((19 + 2 : Nat) : Int)))]) (kc2 := 0) (ks2 := 0) dX8_readRule_98 rfl mvX8_checkNumber lk_X8_71 hR.rd rfl ⟨Nat.le_of_ble_eq_true rfl, rfl⟩ rfl rfl (Nat.le_of_ble_eq_true rfl) ⟨Nat.le_of_ble_eq_true rfl, Nat.le_of_ble_eq_true rfl⟩ ⟨Nat.le_of_ble_eq_true rfl, Nat.le_of_ble_eq_true rfl⟩ (c_num2 hR hX2 hk2 hq2 (by first | decide | omega) (by first | decide | omega) (by first | decide | omega) (by first | decide | omega) hB) x_d (k_d1 ?_)
    refine j_if_ne 104 106 dX8_readRule_101 rfl rfl (r32 (by decide) (by decide)) (fun c_101 => absurd c_101 (by decide)) (fun c_101 => ?_)
    refine j_iconst 105 dX8_readRule_104 rfl ?_
    exact j_zret dX8_readRule_105 rfl (Or.inl rfl) (⟨_, rfl, rfl, cp_bad F2 hR2.1 (by unfold P_rules; rw [if_neg (show ¬ wdB T st 5 = true by rw [w0]; decide), if_neg (show ¬ wdB T st 6 = true by rw [w1]; decide), if_pos w2]; unfold P_rule; rw [if_neg (show ¬ s 2 = true by rw [hsi]; decide), kNum_2 hB])⟩)
  ·
    refine j_callV 101 (As := [.int (i32 (1)), .int (i32 (most ((19 + 2 : Nat) : Int)))]) (kc2 := 0) (ks2 := 0) dX8_readRule_98 rfl mvX8_checkNumber lk_X8_71 hR.rd rfl ⟨Nat.le_of_ble_eq_true rfl, rfl⟩ rfl rfl (Nat.le_of_ble_eq_true rfl) ⟨Nat.le_of_ble_eq_true rfl, Nat.le_of_ble_eq_true rfl⟩ ⟨Nat.le_of_ble_eq_true rfl, Nat.le_of_ble_eq_true rfl⟩ (c_num3 hR hX2 hk2 hq2 (by first | decide | omega) (by first | decide | omega) (by first | decide | omega) (by first | decide | omega) hB.1 hB.2) x_d (k_d1 ?_)
    refine j_if_ne 104 106 dX8_readRule_101 rfl rfl (r32 (by decide) (by decide)) (fun c_101 => absurd c_101 (by decide)) (fun c_101 => ?_)
    refine j_iconst 105 dX8_readRule_104 rfl ?_
    exact j_zret dX8_readRule_105 rfl (Or.inl rfl) (⟨_, rfl, rfl, cp_bad F2 hR2.1 (by unfold P_rules; rw [if_neg (show ¬ wdB T st 5 = true by rw [w0]; decide), if_neg (show ¬ wdB T st 6 = true by rw [w1]; decide), if_pos w2]; unfold P_rule; rw [if_neg (show ¬ s 2 = true by rw [hsi]; decide), kNum_3 hB])⟩)

theorem c_readRule {w : Wd} {sh : Shp} {g : Mem} {R tx : Nat} (hR : RdS sh.1 R tx) {T : Tx} {d : Nat → Int} {s : Nat → Bool} {st : Nat} (htx : tx < R ∨ R + 76 ≤ tx) (H0 : CRd g R tx T d s st) : CT w mX8_readRule [.ref (R)] sh g (iQ sh (CP g R tx T (P_rules T d s st))) := by
  cases w0 : wdB T st 5 with
  | true => cases hsi : s 0 with
    | true => exact c_ruleTold0 hR htx H0 w0 hsi
    | false => exact c_rule0r hR htx H0 w0 hsi
  | false => cases w1 : wdB T st 6 with
    | true => cases hsi : s 1 with
      | true => exact c_ruleTold1 hR htx H0 w1 hsi
      | false => exact c_rule1r hR htx H0 w1 hsi
    | false => cases w2 : wdB T st 7 with
      | true => cases hsi : s 2 with
        | true => exact c_ruleTold2 hR htx H0 w2 hsi
        | false => exact c_rule2r hR htx H0 w2 hsi
      | false => exact c_ruleNone hR htx H0 w0 w1 w2
