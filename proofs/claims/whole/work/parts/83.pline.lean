/-! the reader of the class: statements -/
def CRd (g : Mem) (R tx : Nat) (T : Tx) (d : Nat → Int) (s : Nat → Bool) (q : Nat) : Prop := TxR g R tx T ∧ TokR g R T q ∧ q ≤ T.2 ∧ RelX g (R + 1) d ∧ PInv d ∧ (g R 6 = b01 (s 0) ∧ g R 7 = b01 (s 1) ∧ g R 8 = b01 (s 2)) ∧ g R 2 = 0 ∧ g R 1 = -1
def CBad (g : Mem) (R : Nat) (c : Int) (o : Nat) : Prop := g R 2 = c ∧ g R 1 = (o : Int) ∧ ExI g (R + 1)
def FrR (g g2 : Mem) (R : Nat) : Prop := ∀ a, (a < R ∨ R + 76 ≤ a) → g2 a = g a
/-- what a reading of a part comes to -/
def CP (g : Mem) (R tx : Nat) (T : Tx) (res : PR) : Int → Mem → Prop := fun z g2 => FrR g g2 R ∧ match res with
  | .inl r => z = 1 ∧ CRd g2 R tx T r.1 r.2.1 (sk T r.2.2)
  | .inr e => z = 0 ∧ CBad g2 R e.1 e.2
section CRS
variable {g g1 g2 : Mem} {R tx q p n : Nat} {T : Tx} {d d2 : Nat → Int} {s : Nat → Bool} {res : PR}
theorem FrR.rf : FrR g g R := fun _ _ => rfl
theorem FrR.adv (h : FrR g g1 R) : FrR g (advM g1 R T p) R := fun a ha => (tokM_o (by omega)).trans (h a ha)
theorem FrR.fl {c : Int} (h : FrR g g1 R) : FrR g (flM g1 R c q) R := fun a ha => by
  unfold flM
  rw [up2_row (by omega), up2_row (by omega)]
  exact h a ha
theorem FrR.tr (h : FrR g g1 R) (h2 : FrR g1 g2 R) : FrR g g2 R := fun a ha => (h2 a ha).trans (h a ha)
theorem RelX.rows2 (h : RelX g p d) (hP : PInv d) (hr : ∀ a, p ≤ a → a < p + 75 → g2 a = g a) : RelX g2 p d := ((hP.kx h).rows hr).1
theorem CRd.adv (H : CRd g R tx T d s q) (htx : tx < R ∨ R + 76 ≤ tx) (hz : szT T q = n) : CRd (advM g R T (q + n)) R tx T d s (sk T (q + n)) := by
  obtain ⟨h1, h2, h3, h4, h5, h6, h7, h8⟩ := H
  have hsz := szT_le h1.2.2.2 h3
  refine ⟨tokM_X h1 (by omega), adv_tok, sk_le (by omega), h4.rows2 h5 (fun a h1 h2 => tokM_o (by omega)), h5, ?_, ?_, ?_⟩
  · unfold advM; rw [tokM_at, tokM_at, tokM_at]; exact h6
  · unfold advM; rw [tokM_at]; exact h7
  · unfold advM; rw [tokM_at]; exact h8
theorem CRd.upd (H : CRd g R tx T d s q) (h1 : ∀ j, g2 R j = g R j) (ht : g2 tx = g tx) (hR : RelX g2 (R + 1) d2) (hP : PInv d2) : CRd g2 R tx T d2 s q := by
  obtain ⟨a1, a2, a3, a4, a5, a6, a7, a8⟩ := H
  refine ⟨⟨a1.1, by rw [h1]; exact a1.2.1, fun k hk => by rw [ht]; exact a1.2.2.1 k hk, a1.2.2.2⟩, a2.same (fun j _ => h1 j), a3, hR, hP, by rw [h1, h1, h1]; exact a6, by rw [h1]; exact a7, by rw [h1]; exact a8⟩
theorem fl_bad {c : Int} (h : ExI g1 (R + 1)) : CBad (flM g1 R c q) R c q := by
  refine ⟨by unfold flM; rw [up2_k (by decide)]; exact up2_s, up2_s, h.same (fun a h1 h2 => ?_)⟩
  unfold flM
  rw [up2_a (by omega), up2_a (by omega)]
theorem cp_bad {c : Int} (hF : FrR g g1 R) (hI : ExI g1 (R + 1)) (h : res = .inr (c, q)) : CP g R tx T res 0 (flM g1 R c q) := by
  subst h
  exact ⟨hF.fl, rfl, fl_bad hI⟩
theorem cp_ok (hF : FrR g g1 R) (H : CRd g1 R tx T d s q) {p2 : Nat} (hq : sk T p2 = q) (h : res = .inl (d, s, p2)) : CP g R tx T res 1 g1 := by
  subst h
  refine ⟨hF, rfl, ?_⟩
  show CRd g1 R tx T d s (sk T p2)
  rw [hq]
  exact H
theorem digC (T : Tx) (q most : Nat) : (dn T q ≠ 0 ∧ dn T q ≤ most) ∨ dn T q = 0 ∨ (dn T q ≠ 0 ∧ ¬ dn T q ≤ most) := by omega
theorem numC (T : Tx) (q : Nat) (lo hi : Int) : (dn T q ≠ 0 ∧ lo ≤ nv T q ∧ nv T q ≤ hi) ∨ dn T q = 0 ∨ (dn T q ≠ 0 ∧ ¬ (lo ≤ nv T q ∧ nv T q ≤ hi)) := by omega
theorem namC (T : Tx) (q : Nat) : (ln T q ≠ 0 ∧ ln T q ≤ 8) ∨ ln T q = 0 ∨ (ln T q ≠ 0 ∧ ¬ ln T q ≤ 8) := by omega
theorem kNum_1 {lo hi : Int} {k : Int → Nat → PR} (h : dn T (sk T p) ≠ 0 ∧ lo ≤ nv T (sk T p) ∧ nv T (sk T p) ≤ hi) : kNum T p lo hi k = k (nv T (sk T p)) (sk T p + dn T (sk T p)) := by unfold kNum; rw [if_neg h.1, if_pos h.2]
theorem kNum_2 {lo hi : Int} {k : Int → Nat → PR} (h : dn T (sk T p) = 0) : kNum T p lo hi k = .inr (-2, sk T p) := if_pos h
theorem kNum_3 {lo hi : Int} {k : Int → Nat → PR} (h : dn T (sk T p) ≠ 0 ∧ ¬ (lo ≤ nv T (sk T p) ∧ nv T (sk T p) ≤ hi)) : kNum T p lo hi k = .inr (-3, sk T p) := by unfold kNum; rw [if_neg h.1, if_neg h.2]
theorem kDig_1 {most : Nat} {k : Nat → Int → Nat → PR} (h : dn T (sk T p) ≠ 0 ∧ dn T (sk T p) ≤ most) : kDig T p most k = k (dn T (sk T p)) (bv (fT T (sk T p)) (dn T (sk T p))) (sk T p + dn T (sk T p)) := by unfold kDig; rw [if_neg h.1, if_pos h.2]
theorem kDig_2 {most : Nat} {k : Nat → Int → Nat → PR} (h : dn T (sk T p) = 0) : kDig T p most k = .inr (-2, sk T p) := if_pos h
theorem kDig_3 {most : Nat} {k : Nat → Int → Nat → PR} (h : dn T (sk T p) ≠ 0 ∧ ¬ dn T (sk T p) ≤ most) : kDig T p most k = .inr (-3, sk T p) := by unfold kDig; rw [if_neg h.1, if_neg h.2]
theorem kNam_1 {k : Int → Int → Nat → PR} (h : ln T (sk T p) ≠ 0 ∧ ln T (sk T p) ≤ 8) : kNam T p k = k (nmH T (sk T p)) (nmT T (sk T p)) (sk T p + ln T (sk T p)) := by unfold kNam; rw [if_neg h.1, if_pos h.2]
theorem kNam_2 {k : Int → Int → Nat → PR} (h : ln T (sk T p) = 0) : kNam T p k = .inr (-2, sk T p) := if_pos h
theorem kNam_3 {k : Int → Int → Nat → PR} (h : ln T (sk T p) ≠ 0 ∧ ¬ ln T (sk T p) ≤ 8) : kNam T p k = .inr (-3, sk T p) := by unfold kNam; rw [if_neg h.1, if_neg h.2]
end CRS
theorem c_adv {w : Wd} {sh : Shp} {g : Mem} {R tx q n : Nat} {T : Tx} {d : Nat → Int} {s : Nat → Bool} (hR : RdS sh.1 R tx) (htx : tx < R ∨ R + 76 ≤ tx) (H : CRd g R tx T d s q) (hz : szT T q = n) : CT w mX8_advance [.ref R] sh g (dQ none sh (advM g R T (q + n))) := by
  subst hz
  exact c_advance hR H.1 H.2.1.1 (szT_le H.1.2.2.2 H.2.2.1) (by omega)

set_option maxRecDepth 20000 in
theorem c_readLine {w : Wd} {sh : Shp} {g : Mem} {R tx : Nat} (hR : RdS sh.1 R tx) {T : Tx} {d : Nat → Int} {s : Nat → Bool} {st : Nat} (htx : tx < R ∨ R + 76 ≤ tx) (H0 : CRd g R tx T d s st)  : CT w mX8_readLine [.ref (R)] sh g (iQ sh (CP g R tx T (P_line T st d s (st + szT T st)))) := by
  have F0 : FrR g g R := FrR.rf
  have hX0 := H0.1
  have hk0 := H0.2.1
  have hq0 := H0.2.2.1
  have hR0 := H0.2.2.2.1
  have hP0 := H0.2.2.2.2.1
  have hT7 := hX0.1
  have hTb := hX0.2.2.2
  have hbb := hP0.1
  have hr0 := hk0.2.2.1
  have hb2 := hbb.2.2.1
  have hb3 := hbb.2.2.2.1
  have hb4 := hbb.2.2.2.2.1
  have hb5 := hbb.2.2.2.2.2.1
  refine j_entry (by decide) rfl (Nat.le_of_ble_eq_true rfl) (fun h => by cases h) rfl ?_
  show J w mX8_readLine 0 [(0, .ref (R))] [] sh g 0 0 _
  refine j_aload_n 1 0 dX8_readLine_0 rfl rfl ?_
  refine j_getr 4 dX8_readLine_1 rfl fl_X8_12 hR.rd rfl (fun _ _ => rfl) rfl ?_
  refine j_geti 7 dX8_readLine_4 rfl fl_X8_105 hR.told.ex rfl rfl (fun r_4 => ?_)
  refine j_top (y := d 2) (hR0.2.1.2.2.1) ?_
  refine j_bipush 9 dX8_readLine_7 rfl (by decide) ?_
  refine j_icmp_lt 12 19 dX8_readLine_9 rfl rfl ⟨by omega, by omega⟩ (r32 (by decide) (by decide)) (fun c_9 => ?_) (fun c_9 => ?_)
  · obtain ⟨c, hc⟩ := Int.eq_ofNat_of_zero_le hbb.2.2.1.1
    have hz1 : szT T st = szT T st := rfl
    refine j_aload_n 20 0 dX8_readLine_19 rfl rfl ?_
    refine j_callV 23 (As := []) (kc2 := 0) (ks2 := 0) dX8_readLine_20 rfl mvX8_advance lk_X8_45 hR.rd rfl ⟨Nat.le_of_ble_eq_true rfl, rfl⟩ rfl rfl (Nat.le_of_ble_eq_true rfl) ⟨Nat.le_of_ble_eq_true rfl, Nat.le_of_ble_eq_true rfl⟩ ⟨Nat.le_of_ble_eq_true rfl, Nat.le_of_ble_eq_true rfl⟩ (c_adv hR htx H0 hz1) x_d (k_d0 ?_)
    refine j_mn (fun g1 hg1 => ?_)
    have H1 : CRd g1 R tx T d s (sk T (st + szT T st)) := by rw [hg1]; exact H0.adv htx hz1
    have F1 : FrR g g1 R := by rw [hg1]; exact F0.adv
    obtain ⟨hX1, hk1, hq1, hR1, hP1, hs1, he1⟩ := id H1
    have hr1 := hk1.2.2.1
    refine j_aload_n 24 0 dX8_readLine_23 rfl rfl ?_
    refine j_bipush 26 dX8_readLine_24 rfl (by decide) ?_
    rcases digC T (sk T (st + szT T st)) 6 with hA | hA | hA
    ·
      refine j_callV 29 (As := [.int (i32 (6))]) (kc2 := 0) (ks2 := 0) dX8_readLine_26 rfl mvX8_checkDigits lk_X8_108 hR.rd rfl ⟨Nat.le_of_ble_eq_true rfl, rfl⟩ rfl rfl (Nat.le_of_ble_eq_true rfl) ⟨Nat.le_of_ble_eq_true rfl, Nat.le_of_ble_eq_true rfl⟩ ⟨Nat.le_of_ble_eq_true rfl, Nat.le_of_ble_eq_true rfl⟩ (c_dig1 hR hX1 hk1 hq1 (by decide) hA.1 hA.2) x_d (k_d1 ?_)
      refine j_if_ne 32 34 dX8_readLine_29 rfl rfl (r32 (by decide) (by decide)) (fun c_29 => ?_) (fun c_29 => absurd c_29 (by decide))
      have hrow := row_of hTb hk1 hA.1
      have hdb := bv_rng (bd_of (T := T) (q := (sk T (st + szT T st))) _ (Nat.le_refl _))
      have hro : g1 R 13 = enc ((dn T (sk T (st + szT T st)) : Nat) : Int) (bv (fT T (sk T (st + szT T st))) (dn T (sk T (st + szT T st)))) := hrow.1 hA.2
      refine j_aload_n 35 0 dX8_readLine_34 rfl rfl ?_
      refine j_getr 38 dX8_readLine_35 rfl fl_X8_12 hR.rd rfl (fun _ _ => rfl) rfl ?_
      refine j_aload_n 39 0 dX8_readLine_38 rfl rfl ?_
      refine j_geti 42 dX8_readLine_39 rfl fl_X8_111 hR.rd rfl rfl (fun r_39 => ?_)
      refine j_top (y := enc ((dn T (sk T (st + szT T st)) : Nat) : Int) (bv (fT T (sk T (st + szT T st))) (dn T (sk T (st + szT T st))))) (hro) ?_
      refine j_callV 45 (As := [.int (i32 (enc ((dn T (sk T (st + szT T st)) : Nat) : Int) (bv (fT T (sk T (st + szT T st))) (dn T (sk T (st + szT T st))))))]) (kc2 := 0) (ks2 := 0) dX8_readLine_42 rfl mvX1_lineWith lk_X8_114 hR.told.ex rfl ⟨Nat.le_of_ble_eq_true rfl, rfl⟩ rfl rfl (Nat.le_of_ble_eq_true rfl) ⟨Nat.le_of_ble_eq_true rfl, Nat.le_of_ble_eq_true rfl⟩ ⟨Nat.le_of_ble_eq_true rfl, Nat.le_of_ble_eq_true rfl⟩ (c_lineWith hR.told (by rw [hR1.2.1.2.2.1]; omega) (by rw [← hro]; exact ⟨by omega, by omega⟩)) x_d (k_d1 ?_)
      refine j_top (y := s_lineOf d ((dn T (sk T (st + szT T st)) : Nat) : Int) (bv (fT T (sk T (st + szT T st))) (dn T (sk T (st + szT T st))))) (rel_lineWith hR1 hP1.2.1 hdb.1 hdb.2) ?_
      refine j_iconst 46 dX8_readLine_45 rfl ?_
      refine j_icmp_eq 49 56 dX8_readLine_46 rfl rfl (fst_r32 _ (by decide)) (r32 (by decide) (by decide)) (fun c_46 => ?_) (fun c_46 => ?_)
      · refine j_aload_n 57 0 dX8_readLine_56 rfl rfl ?_
        refine j_getr 60 dX8_readLine_57 rfl fl_X8_12 hR.rd rfl (fun _ _ => rfl) rfl ?_
        refine j_aload_n 61 0 dX8_readLine_60 rfl rfl ?_
        refine j_geti 64 dX8_readLine_61 rfl fl_X8_111 hR.rd rfl rfl (fun r_61 => ?_)
        refine j_top (y := enc ((dn T (sk T (st + szT T st)) : Nat) : Int) (bv (fT T (sk T (st + szT T st))) (dn T (sk T (st + szT T st))))) (hro) ?_
        refine j_callV 67 (As := [.int (i32 (enc ((dn T (sk T (st + szT T st)) : Nat) : Int) (bv (fT T (sk T (st + szT T st))) (dn T (sk T (st + szT T st))))))]) (kc2 := 0) (ks2 := 0) dX8_readLine_64 rfl mvX1_tellLine lk_X8_118 hR.told.ex rfl ⟨Nat.le_of_ble_eq_true rfl, rfl⟩ rfl rfl (Nat.le_of_ble_eq_true rfl) ⟨Nat.le_of_ble_eq_true rfl, Nat.le_of_ble_eq_true rfl⟩ ⟨Nat.le_of_ble_eq_true rfl, Nat.le_of_ble_eq_true rfl⟩ (c_tellLine hR.told (c := c) (by rw [← hc]; exact hR1.2.1.2.2.1) (by omega) (by rw [← hro]; exact ⟨by omega, by omega⟩)) x_d (k_d0 ?_)
        refine j_mn (fun g2 hg2 => ?_)
        have hE2 : RelX g2 (R + 1) (a_line d (dn T (sk T (st + szT T st))) (bv (fT T (sk T (st + szT T st))) (dn T (sk T (st + szT T st))))) := by rw [hg2]; exact rel_line2 (e := R + 1) hc (by omega) ⟨by omega, hA.2⟩ hdb hR1 hP1
        have H2 : CRd g2 R tx T (a_line d (dn T (sk T (st + szT T st))) (bv (fT T (sk T (st + szT T st))) (dn T (sk T (st + szT T st))))) s (sk T (st + szT T st)) := H1.upd (fun j => by rw [hg2]; repeat (first | rw [up2_row (by omega)] | rw [up2_a (by omega)])) (by rw [hg2]; repeat (first | rw [up2_row (by omega)] | rw [up2_a (by omega)])) hE2 (pinv_line hc (by omega) ⟨by omega, hA.2⟩ hdb hP1)
        have F2 : FrR g g2 R := F1.tr (fun a ha => by rw [hg2]; repeat (first | rw [up2_row (by omega)] | rw [up2_a (by omega)]))
        have hz3 : szT T (sk T (st + szT T st)) = dn T (sk T (st + szT T st)) := sz_D hTb hA.1
        refine j_aload_n 68 0 dX8_readLine_67 rfl rfl ?_
        refine j_callV 71 (As := []) (kc2 := 0) (ks2 := 0) dX8_readLine_68 rfl mvX8_advance lk_X8_45 hR.rd rfl ⟨Nat.le_of_ble_eq_true rfl, rfl⟩ rfl rfl (Nat.le_of_ble_eq_true rfl) ⟨Nat.le_of_ble_eq_true rfl, Nat.le_of_ble_eq_true rfl⟩ ⟨Nat.le_of_ble_eq_true rfl, Nat.le_of_ble_eq_true rfl⟩ (c_adv hR htx H2 hz3) x_d (k_d0 ?_)
        refine j_mn (fun g3 hg3 => ?_)
        have H3 : CRd g3 R tx T (a_line d (dn T (sk T (st + szT T st))) (bv (fT T (sk T (st + szT T st))) (dn T (sk T (st + szT T st))))) s (sk T ((sk T (st + szT T st)) + dn T (sk T (st + szT T st)))) := by rw [hg3]; exact H2.adv htx hz3
        have F3 : FrR g g3 R := by rw [hg3]; exact F2.adv
        obtain ⟨hX3, hk3, hq3, hR3, hP3, hs3, he3⟩ := id H3
        have hr3 := hk3.2.2.1
        refine j_iconst 72 dX8_readLine_71 rfl ?_
        exact j_zret dX8_readLine_72 rfl (Or.inr rfl) (⟨_, rfl, rfl, cp_ok F3 H3 (p2 := (sk T (st + szT T st)) + dn T (sk T (st + szT T st))) rfl (by unfold P_line; rw [if_neg (show ¬ 12 ≤ d 2 by omega), kDig_1 hA, if_pos c_46])⟩)
      · refine j_aload_n 50 0 dX8_readLine_49 rfl rfl ?_
        refine j_bipush 52 dX8_readLine_50 rfl (by decide) ?_
        refine j_callV 55 (As := [.int (i32 (-4))]) (kc2 := 0) (ks2 := 0) dX8_readLine_52 rfl mvX8_fail lk_X8_67 hR.rd rfl ⟨Nat.le_of_ble_eq_true rfl, rfl⟩ rfl rfl (Nat.le_of_ble_eq_true rfl) ⟨Nat.le_of_ble_eq_true rfl, Nat.le_of_ble_eq_true rfl⟩ ⟨Nat.le_of_ble_eq_true rfl, Nat.le_of_ble_eq_true rfl⟩ (c_fail hR (q := (sk T (st + szT T st))) (by omega) hr1 (r32 (by decide) (by decide))) x_d (k_d1 ?_)
        exact j_zret dX8_readLine_55 rfl (Or.inl rfl) (⟨_, rfl, rfl, cp_bad F1 hR1.1 (by unfold P_line; rw [if_neg (show ¬ 12 ≤ d 2 by omega), kDig_1 hA, if_neg c_46])⟩)
    ·
      refine j_callV 29 (As := [.int (i32 (6))]) (kc2 := 0) (ks2 := 0) dX8_readLine_26 rfl mvX8_checkDigits lk_X8_108 hR.rd rfl ⟨Nat.le_of_ble_eq_true rfl, rfl⟩ rfl rfl (Nat.le_of_ble_eq_true rfl) ⟨Nat.le_of_ble_eq_true rfl, Nat.le_of_ble_eq_true rfl⟩ ⟨Nat.le_of_ble_eq_true rfl, Nat.le_of_ble_eq_true rfl⟩ (c_dig2 hR hX1 hk1 hq1 (by decide) hA) x_d (k_d1 ?_)
      refine j_if_ne 32 34 dX8_readLine_29 rfl rfl (r32 (by decide) (by decide)) (fun c_29 => absurd c_29 (by decide)) (fun c_29 => ?_)
      refine j_iconst 33 dX8_readLine_32 rfl ?_
      exact j_zret dX8_readLine_33 rfl (Or.inl rfl) (⟨_, rfl, rfl, cp_bad F1 hR1.1 (by unfold P_line; rw [if_neg (show ¬ 12 ≤ d 2 by omega), kDig_2 hA])⟩)
    ·
      refine j_callV 29 (As := [.int (i32 (6))]) (kc2 := 0) (ks2 := 0) dX8_readLine_26 rfl mvX8_checkDigits lk_X8_108 hR.rd rfl ⟨Nat.le_of_ble_eq_true rfl, rfl⟩ rfl rfl (Nat.le_of_ble_eq_true rfl) ⟨Nat.le_of_ble_eq_true rfl, Nat.le_of_ble_eq_true rfl⟩ ⟨Nat.le_of_ble_eq_true rfl, Nat.le_of_ble_eq_true rfl⟩ (c_dig3 hR hX1 hk1 hq1 (by decide) hA.1 hA.2) x_d (k_d1 ?_)
      refine j_if_ne 32 34 dX8_readLine_29 rfl rfl (r32 (by decide) (by decide)) (fun c_29 => absurd c_29 (by decide)) (fun c_29 => ?_)
      refine j_iconst 33 dX8_readLine_32 rfl ?_
      exact j_zret dX8_readLine_33 rfl (Or.inl rfl) (⟨_, rfl, rfl, cp_bad F1 hR1.1 (by unfold P_line; rw [if_neg (show ¬ 12 ≤ d 2 by omega), kDig_3 hA])⟩)
  · refine j_aload_n 13 0 dX8_readLine_12 rfl rfl ?_
    refine j_bipush 15 dX8_readLine_13 rfl (by decide) ?_
    refine j_callV 18 (As := [.int (i32 (-5))]) (kc2 := 0) (ks2 := 0) dX8_readLine_15 rfl mvX8_fail lk_X8_67 hR.rd rfl ⟨Nat.le_of_ble_eq_true rfl, rfl⟩ rfl rfl (Nat.le_of_ble_eq_true rfl) ⟨Nat.le_of_ble_eq_true rfl, Nat.le_of_ble_eq_true rfl⟩ ⟨Nat.le_of_ble_eq_true rfl, Nat.le_of_ble_eq_true rfl⟩ (c_fail hR (q := st) (by omega) hr0 (r32 (by decide) (by decide))) x_d (k_d1 ?_)
    exact j_zret dX8_readLine_18 rfl (Or.inl rfl) (⟨_, rfl, rfl, cp_bad F0 hR0.1 (by unfold P_line; exact if_pos (by omega))⟩)
