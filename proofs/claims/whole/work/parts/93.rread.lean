/-! the reference's reader: its text, its place, its error -/
def MT (g : Mem) (m : Nat) (T : Tx) : Prop := T.2 ≤ 700 ∧ g m 3 = (T.2 : Int) ∧ (∀ k, k < T.2 → g (m + 1) k = T.1 k) ∧ ∀ k, 0 ≤ T.1 k ∧ T.1 k ≤ 255
def RG (g : Mem) (m : Nat) (T : Tx) (p : Nat) : Prop := MT g m T ∧ g m 4 = (p : Int) ∧ p ≤ T.2 ∧ g m 5 = 0 ∧ g m 6 = -1
def RE (g : Mem) (m : Nat) (T : Tx) (e : PE) : Prop := MT g m T ∧ (∃ p : Nat, g m 4 = (p : Int) ∧ p ≤ T.2) ∧ g m 5 = e.1 ∧ g m 6 = (e.2 : Int) ∧ e.1 < 0
/-- nothing has changed but the reader's own cells -/
def FM (g g2 : Mem) (m : Nat) : Prop := (∀ a, a ≠ m → g2 a = g a) ∧ ∀ j, (j < 4 ∨ (7 ≤ j ∧ j ≤ 12) ∨ j = 14) → g2 m j = g m j
/-- a place, or an error -/
abbrev Sx : Type := Nat ⊕ PE
def RS (g : Mem) (m : Nat) (T : Tx) : Sx → Prop
  | .inl p => RG g m T p
  | .inr e => RE g m T e
section RMS
variable {g g1 g2 : Mem} {m p q : Nat} {T : Tx} {x : Int} {j : Nat} {st : Sx} {e : PE}
theorem FM.rf : FM g g m := ⟨fun _ _ => rfl, fun _ _ => rfl⟩
theorem FM.tr (h : FM g g1 m) (h2 : FM g1 g2 m) : FM g g2 m := ⟨fun a ha => (h2.1 a ha).trans (h.1 a ha), fun j hj => (h2.2 j hj).trans (h.2 j hj)⟩
theorem FM.up (h : FM g g1 m) (hj : ¬ (j < 4 ∨ (7 ≤ j ∧ j ≤ 12) ∨ j = 14)) : FM g (up2 g1 m j x) m := ⟨fun a ha => by rw [up2_row ha]; exact h.1 a ha, fun k hk => by rw [up2_k (by omega)]; exact h.2 k hk⟩
theorem MT.up (h : MT g m T) (hj : j ≠ 3) : MT (up2 g m j x) m T := ⟨h.1, by rw [up2_k (by omega)]; exact h.2.1, fun k hk => by rw [up2_a (by omega)]; exact h.2.2.1 k hk, h.2.2.2⟩
theorem MT.fm (h : MT g m T) (hF : FM g g2 m) : MT g2 m T := ⟨h.1, by rw [hF.2 3 (by decide)]; exact h.2.1, fun k hk => by rw [hF.1 _ (by omega)]; exact h.2.2.1 k hk, h.2.2.2⟩
theorem RG.up (h : RG g m T p) (hj : j ≠ 3 ∧ j ≠ 4 ∧ j ≠ 5 ∧ j ≠ 6) : RG (up2 g m j x) m T p := ⟨h.1.up (by omega), by rw [up2_k (by omega)]; exact h.2.1, h.2.2.1, by rw [up2_k (by omega)]; exact h.2.2.2.1, by rw [up2_k (by omega)]; exact h.2.2.2.2⟩
theorem RE.up (h : RE g m T e) (hj : j ≠ 3 ∧ j ≠ 4 ∧ j ≠ 5 ∧ j ≠ 6) : RE (up2 g m j x) m T e := by
  obtain ⟨h1, ⟨p, h2, h3⟩, h4, h5, h6⟩ := h
  exact ⟨h1.up (by omega), ⟨p, by rw [up2_k (by omega)]; exact h2, h3⟩, by rw [up2_k (by omega)]; exact h4, by rw [up2_k (by omega)]; exact h5, h6⟩
theorem RG.mv (h : RG g m T p) (hq : q ≤ T.2) : RG (up2 g m 4 (q : Int)) m T q := ⟨h.1.up (by decide), up2_s, hq, by rw [up2_k (by decide)]; exact h.2.2.2.1, by rw [up2_k (by decide)]; exact h.2.2.2.2⟩
theorem RE.mv (h : RE g m T e) (hq : q ≤ T.2) : RE (up2 g m 4 (q : Int)) m T e := by
  obtain ⟨h1, -, h4, h5, h6⟩ := h
  exact ⟨h1.up (by decide), ⟨q, up2_s, hq⟩, by rw [up2_k (by decide)]; exact h4, by rw [up2_k (by decide)]; exact h5, h6⟩
theorem RG.err (h : RG g m T p) {c : Int} {o : Nat} (hc : c < 0) : RE (up2 (up2 g m 5 c) m 6 (o : Int)) m T (c, o) :=
  ⟨(h.1.up (by decide)).up (by decide), ⟨p, by rw [up2_k (by decide), up2_k (by decide)]; exact h.2.1, h.2.2.1⟩, by rw [up2_k (by decide)]; exact up2_s, up2_s, hc⟩
theorem RS.mt (h : RS g m T st) : MT g m T := by
  cases st with
  | inl p => exact h.1
  | inr e => exact h.1
theorem RS.pos (h : RS g m T st) : ∃ p : Nat, g m 4 = (p : Int) ∧ p ≤ T.2 := by
  cases st with
  | inl p => exact ⟨p, h.2.1, h.2.2.1⟩
  | inr e => exact h.2.1
end RMS

set_option maxRecDepth 20000 in
theorem rp_byteAt {w : Wd} {sh : Shp} {g : Mem} {m : Nat} (hM : MdS sh.1 m) {T : Tx} (hX : MT g m T) {k : Nat} (hk : k ≤ 2000) : CT w mX10_byteAt [.ref (m), .int (i32 ((k : Int)))] sh g (dQ (some (.int (i32 (byT T k)))) sh g) := by
  have h7 := hX.1
  refine j_entry (by decide) rfl (Nat.le_of_ble_eq_true rfl) (fun h => by cases h) rfl ?_
  show J w mX10_byteAt 0 [(0, .ref (m)), (1, .int (i32 ((k : Int))))] [] sh g 0 0 _
  refine j_iload_n 1 1 dX10_byteAt_0 rfl rfl ?_
  refine j_aload_n 2 0 dX10_byteAt_1 rfl rfl ?_
  refine j_geti 5 dX10_byteAt_2 rfl fl_X10_41 hM.md rfl rfl (fun r_2 => ?_)
  refine j_top (y := (T.2 : Int)) (hX.2.1) ?_
  refine j_icmp_ge 8 17 dX10_byteAt_5 rfl rfl (r32 (by omega) (by omega)) (r32 (by omega) (by omega)) (fun c_5 => ?_) (fun c_5 => ?_)
  · refine j_iconst 18 dX10_byteAt_17 rfl ?_
    exact j_iret dX10_byteAt_18 rfl (q_i (by unfold byT; first | rw [if_pos (by omega)]; exact hX.2.2.1 k (by omega) | rw [if_neg (by omega)]))
  · refine j_aload_n 9 0 dX10_byteAt_8 rfl rfl ?_
    refine j_getr 12 dX10_byteAt_9 rfl fl_X10_9 hM.md rfl (fun _ _ => rfl) rfl ?_
    refine j_iload_n 13 1 dX10_byteAt_12 rfl rfl ?_
    refine j_iald 14 k dX10_byteAt_13 rfl hM.buf rfl rfl (show k < 700 by have := hX.1; omega) (fun r_13 => ?_)
    refine j_goto 18 dX10_byteAt_14 rfl ?_
    exact j_iret dX10_byteAt_18 rfl (q_i (by unfold byT; first | rw [if_pos (by omega)]; exact hX.2.2.1 k (by omega) | rw [if_neg (by omega)]))

theorem byT_r {T : Tx} (hT : ∀ k, 0 ≤ T.1 k ∧ T.1 k ≤ 255) (k : Nat) : -1 ≤ byT T k ∧ byT T k ≤ 255 := by
  unfold byT
  split
  · have := hT k; omega
  · omega

set_option maxRecDepth 20000 in
theorem rp_ahead {w : Wd} {sh : Shp} {g : Mem} {m : Nat} (hM : MdS sh.1 m) {T : Tx} (hX : MT g m T) {p : Nat} (h4 : g m 4 = (p : Int)) (hp : p ≤ T.2) : CT w mX10_ahead [.ref (m)] sh g (dQ (some (.int (i32 (byT T (sk T p))))) sh (up2 g m 4 ((sk T p : Nat) : Int))) := by
  have h7 := hX.1
  refine j_entry (by decide) rfl (Nat.le_of_ble_eq_true rfl) (fun h => by cases h) rfl ?_
  show J w mX10_ahead 0 [(0, .ref (m))] [] sh g 0 0 _
  refine j_mem (up2_id h4).symm ?_
  suffices lp_0 : ∀ (n_0 : Nat) (p2 : Nat), T.2 - p2 < n_0 → p2 ≤ T.2 → sk T p2 = sk T p → J w mX10_ahead 0 [(0, .ref (m))] [] sh (up2 g m 4 ((p2 : Nat) : Int)) 0 0 (dQ (some (.int (i32 (byT T (sk T p))))) sh (up2 g m 4 ((sk T p : Nat) : Int))) by
    exact lp_0 _ p (Nat.lt_succ_self _) hp rfl
  intro n_0
  induction n_0 with
  | zero => intro p2 h_; exact absurd h_ (Nat.not_lt_zero _)
  | succ n_0 ih_0 =>
    intro p2 hn_0 hp2 hsk
    refine j_aload_n 1 0 dX10_ahead_0 rfl rfl ?_
    refine j_aload_n 2 0 dX10_ahead_1 rfl rfl ?_
    refine j_geti 5 dX10_ahead_2 rfl fl_X10_44 hM.md rfl rfl (fun r_2 => ?_)
    refine j_top (y := ((p2 : Nat) : Int)) (up2_s) ?_
    refine j_callV 8 (As := [.int (i32 (((p2 : Nat) : Int)))]) (kc2 := 0) (ks2 := 0) dX10_ahead_5 rfl mvX10_byteAt lk_X10_47 hM.md rfl ⟨Nat.le_of_ble_eq_true rfl, rfl⟩ rfl rfl (Nat.le_of_ble_eq_true rfl) ⟨Nat.le_of_ble_eq_true rfl, Nat.le_of_ble_eq_true rfl⟩ ⟨Nat.le_of_ble_eq_true rfl, Nat.le_of_ble_eq_true rfl⟩ (rp_byteAt hM (hX.up (by decide)) (k := p2) (by omega)) x_d (k_d1 ?_)
    refine j_bipush 10 dX10_ahead_8 rfl (by decide) ?_
    refine j_icmp_ne 13 26 dX10_ahead_10 rfl rfl (by have := byT_r hX.2.2.2 (p2); exact ⟨by omega, by omega⟩) (r32 (by decide) (by decide)) (fun c_10 => ?_) (fun c_10 => ?_)
    · refine j_aload_n 27 0 dX10_ahead_26 rfl rfl ?_
      refine j_aload_n 28 0 dX10_ahead_27 rfl rfl ?_
      refine j_geti 31 dX10_ahead_28 rfl fl_X10_44 hM.md rfl rfl (fun r_28 => ?_)
      refine j_top (y := ((p2 : Nat) : Int)) (up2_s) ?_
      refine j_callV 34 (As := [.int (i32 (((p2 : Nat) : Int)))]) (kc2 := 0) (ks2 := 0) dX10_ahead_31 rfl mvX10_byteAt lk_X10_47 hM.md rfl ⟨Nat.le_of_ble_eq_true rfl, rfl⟩ rfl rfl (Nat.le_of_ble_eq_true rfl) ⟨Nat.le_of_ble_eq_true rfl, Nat.le_of_ble_eq_true rfl⟩ ⟨Nat.le_of_ble_eq_true rfl, Nat.le_of_ble_eq_true rfl⟩ (rp_byteAt hM (hX.up (by decide)) (k := p2) (by omega)) x_d (k_d1 ?_)
      exact j_iret dX10_ahead_34 rfl (q_gi (by rw [← hsk, sk_n c_10]) (by rw [← hsk, sk_n c_10]))
    · have hlt := by_lt c_10 (by decide)
      refine j_aload_n 14 0 dX10_ahead_13 rfl rfl ?_
      refine j_dup 15 dX10_ahead_14 rfl rfl ?_
      refine j_geti 18 dX10_ahead_15 rfl fl_X10_44 hM.md rfl rfl (fun r_15 => ?_)
      refine j_top (y := ((p2 : Nat) : Int)) (up2_s) ?_
      refine j_iconst 19 dX10_ahead_18 rfl ?_
      refine j_iadd 20 dX10_ahead_19 rfl ?_
      refine j_top (y := ((p2 + 1 : Nat) : Int)) (by omega) ?_
      refine j_puti 23 dX10_ahead_20 rfl fl_X10_44 hM.md rfl rfl rfl (r32 (by omega) (by omega)) ?_
      refine j_mem up2_up2 ?_
      refine j_goto 0 dX10_ahead_23 rfl ?_
      exact ih_0 (p2 + 1) (by omega) (by omega) ((sk_s c_10).symm.trans hsk)

set_option maxRecDepth 20000 in
theorem rp_isGood {w : Wd} {sh : Shp} {g : Mem} {m : Nat} (hM : MdS sh.1 m)  : CT w mX10_isGood [.ref (m)] sh g (dQ (some (.int (i32 (b01 (decide (g m 5 = 0)))))) sh g) := by
  refine j_entry (by decide) rfl (Nat.le_of_ble_eq_true rfl) (fun h => by cases h) rfl ?_
  show J w mX10_isGood 0 [(0, .ref (m))] [] sh g 0 0 _
  refine j_aload_n 1 0 dX10_isGood_0 rfl rfl ?_
  refine j_geti 4 dX10_isGood_1 rfl fl_X10_51 hM.md rfl rfl (fun r_1 => ?_)
  refine j_if_ne 7 11 dX10_isGood_4 rfl rfl r_1 (fun c_4 => ?_) (fun c_4 => ?_)
  · refine j_iconst 12 dX10_isGood_11 rfl ?_
    exact j_zret dX10_isGood_12 rfl (Or.inl rfl) (q_i (by first | rw [decide_eq_true c_4]; rfl | rw [decide_eq_false c_4]; rfl))
  · refine j_iconst 8 dX10_isGood_7 rfl ?_
    refine j_goto 12 dX10_isGood_8 rfl ?_
    exact j_zret dX10_isGood_12 rfl (Or.inr rfl) (q_i (by first | rw [decide_eq_true c_4]; rfl | rw [decide_eq_false c_4]; rfl))

set_option maxRecDepth 20000 in
theorem rp_report0 {w : Wd} {sh : Shp} {g : Mem} {m : Nat} (hM : MdS sh.1 m) (h5 : g m 5 = 0) {c o : Int} (hc : R32 c) (ho : R32 o) : CT w mX10_report [.ref (m), .int (i32 (c)), .int (i32 (o))] sh g (dQ none sh (up2 (up2 g m 5 c) m 6 o)) := by
  refine j_entry (by decide) rfl (Nat.le_of_ble_eq_true rfl) (fun h => by cases h) rfl ?_
  show J w mX10_report 0 [(0, .ref (m)), (1, .int (i32 (c))), (2, .int (i32 (o)))] [] sh g 0 0 _
  refine j_aload_n 1 0 dX10_report_0 rfl rfl ?_
  refine j_geti 4 dX10_report_1 rfl fl_X10_51 hM.md rfl rfl (fun r_1 => ?_)
  refine j_top (y := 0) (h5) ?_
  refine j_if_eq 7 8 dX10_report_4 rfl rfl (r32 (by decide) (by decide)) (fun c_4 => ?_) (fun c_4 => absurd c_4 (by decide))
  refine j_aload_n 9 0 dX10_report_8 rfl rfl ?_
  refine j_iload_n 10 1 dX10_report_9 rfl rfl ?_
  refine j_puti 13 dX10_report_10 rfl fl_X10_51 hM.md rfl rfl rfl hc ?_
  refine j_mn (fun g_10 hg_10 => ?_)
  refine j_aload_n 14 0 dX10_report_13 rfl rfl ?_
  refine j_iload_n 15 2 dX10_report_14 rfl rfl ?_
  refine j_puti 18 dX10_report_15 rfl fl_X10_54 hM.md rfl rfl rfl ho ?_
  refine j_mn (fun g_15 hg_15 => ?_)
  exact j_vret dX10_report_18 rfl (q_m (by rw [hg_15, hg_10]))

set_option maxRecDepth 20000 in
theorem rp_report1 {w : Wd} {sh : Shp} {g : Mem} {m : Nat} (hM : MdS sh.1 m) (h5 : g m 5 < 0) {c o : Int} (hc : R32 c) (ho : R32 o) : CT w mX10_report [.ref (m), .int (i32 (c)), .int (i32 (o))] sh g (dQ none sh g) := by
  refine j_entry (by decide) rfl (Nat.le_of_ble_eq_true rfl) (fun h => by cases h) rfl ?_
  show J w mX10_report 0 [(0, .ref (m)), (1, .int (i32 (c))), (2, .int (i32 (o)))] [] sh g 0 0 _
  refine j_aload_n 1 0 dX10_report_0 rfl rfl ?_
  refine j_geti 4 dX10_report_1 rfl fl_X10_51 hM.md rfl rfl (fun r_1 => ?_)
  refine j_if_eq 7 8 dX10_report_4 rfl rfl r_1 (fun c_4 => absurd c_4 (by omega)) (fun c_4 => ?_)
  exact j_vret dX10_report_7 rfl (⟨rfl, rfl, rfl⟩)

set_option maxRecDepth 20000 in
theorem rp_isDigit {w : Wd} {sh : Shp} {g : Mem} {x : Int} (hx : R32 x) : CT w mX10_isDigit [.int (i32 (x))] sh g (dQ (some (.int (i32 (b01 (isD x))))) sh g) := by
  refine j_entry (by decide) rfl (Nat.le_of_ble_eq_true rfl) (fun h => by cases h) rfl ?_
  show J w mX10_isDigit 0 [(0, .int (i32 (x)))] [] sh g 0 0 _
  refine j_iload_n 1 0 dX10_isDigit_0 rfl rfl ?_
  refine j_bipush 3 dX10_isDigit_1 rfl (by decide) ?_
  refine j_bipush 5 dX10_isDigit_3 rfl (by decide) ?_
  refine j_callS 8 (As := [.int (i32 (x)), .int (i32 (48)), .int (i32 (57))]) (kc2 := 0) (ks2 := 0) dX10_isDigit_5 rfl msX10_in lk_X10_57 rfl rfl (Nat.le_of_ble_eq_true rfl) ⟨Nat.le_of_ble_eq_true rfl, Nat.le_of_ble_eq_true rfl⟩ ⟨Nat.le_of_ble_eq_true rfl, Nat.le_of_ble_eq_true rfl⟩ (r_in hx (r32 (by decide) (by decide)) (r32 (by decide) (by decide))) x_d (k_d1 ?_)
  refine j_top (y := b01 (isD x)) (rfl) ?_
  exact j_zret dX10_isDigit_8 rfl (b01_r _) (⟨rfl, rfl, rfl⟩)

theorem wd_good {T : Tx} {q i : Nat} (hi : i < 8) (h : ∀ j, j < st_len.getD i 0 → byT T (q + j) = sc i j) : wdB T q i = !isL (byT T (q + st_len.getD i 0)) := by
  cases hl : isL (byT T (q + st_len.getD i 0)) with
  | false =>
    refine wd_iff.mpr ⟨rn_at hL (fun j hj => ?_) hl, h⟩
    rw [h j hj]
    have := sc_r i hi j hj
    exact decide_eq_true this
  | true =>
    cases hw : wdB T q i
    · rfl
    · have h1 := (wd_iff.mp hw).1
      have h2 := (rn_spec (T := T) hL q).2
      have h3 : rn isL T q = st_len.getD i 0 := h1
      rw [h3, hl] at h2
      cases h2
/-- behind a word, or not -/
def wdS (T : Tx) (p i : Nat) : Nat := if wdB T (sk T p) i = true then sk T p + st_len.getD i 0 else sk T p

set_option maxRecDepth 20000 in
theorem rp_takeWord {w : Wd} {sh : Shp} {g : Mem} {m : Nat} (hM : MdS sh.1 m) {T : Tx} {p i : Nat} (h0 : RG g m T p) (hi : i < 8) : CT w mX10_takeWord [.ref (m), .ref (w.2.1 (100 + i))] sh g (dQ (some (.int (i32 (b01 (wdB T (sk T p) i))))) sh (up2 g m 4 ((wdS T p i : Nat) : Int))) := by
  have hX := h0.1
  have h7 := hX.1
  have hl8 := st_len_r hi
  have hl4 : 4 ≤ st_len.getD i 0 := (by decide : ∀ i, i < 8 → 4 ≤ st_len.getD i 0) i hi
  have hsk2 := sk_le h0.2.2.1
  refine j_entry (by decide) rfl (Nat.le_of_ble_eq_true rfl) (fun h => by cases h) rfl ?_
  show J w mX10_takeWord 0 [(0, .ref (m)), (1, .ref (w.2.1 (100 + i)))] [] sh g 0 0 _
  refine j_aload_n 1 0 dX10_takeWord_0 rfl rfl ?_
  refine j_callV 4 (As := []) (kc2 := 0) (ks2 := 0) dX10_takeWord_1 rfl mvX10_isGood lk_X10_61 hM.md rfl ⟨Nat.le_of_ble_eq_true rfl, rfl⟩ rfl rfl (Nat.le_of_ble_eq_true rfl) ⟨Nat.le_of_ble_eq_true rfl, Nat.le_of_ble_eq_true rfl⟩ ⟨Nat.le_of_ble_eq_true rfl, Nat.le_of_ble_eq_true rfl⟩ (rp_isGood hM) x_d (k_d1 ?_)
  refine j_top (y := 1) (by rw [decide_eq_true h0.2.2.2.1]; rfl) ?_
  refine j_if_ne 7 9 dX10_takeWord_4 rfl rfl (r32 (by decide) (by decide)) (fun c_4 => ?_) (fun c_4 => absurd c_4 (by decide))
  refine j_aload_n 10 0 dX10_takeWord_9 rfl rfl ?_
  refine j_callV 13 (As := []) (kc2 := 0) (ks2 := 0) dX10_takeWord_10 rfl mvX10_ahead lk_X10_65 hM.md rfl ⟨Nat.le_of_ble_eq_true rfl, rfl⟩ rfl rfl (Nat.le_of_ble_eq_true rfl) ⟨Nat.le_of_ble_eq_true rfl, Nat.le_of_ble_eq_true rfl⟩ ⟨Nat.le_of_ble_eq_true rfl, Nat.le_of_ble_eq_true rfl⟩ (rp_ahead hM hX h0.2.1 h0.2.2.1) x_d (k_d1 ?_)
  refine j_pop 14 dX10_takeWord_13 rfl rfl ?_
  refine j_iconst 15 dX10_takeWord_14 rfl ?_
  refine j_istore_n 16 (L2 := [(2, .int (i32 (0))), (0, .ref (m)), (1, .ref (w.2.1 (100 + i)))]) dX10_takeWord_15 rfl rfl (Nat.le_of_ble_eq_true rfl) rfl ?_
  suffices lp_16 : ∀ (n_16 : Nat) (k : Nat), st_len.getD i 0 - k < n_16 → k ≤ st_len.getD i 0 → (∀ j, j < k → byT T (sk T p + j) = sc i j) → J w mX10_takeWord 16 [(2, .int (i32 ((k : Int)))), (0, .ref (m)), (1, .ref (w.2.1 (100 + i)))] [] sh (up2 g m 4 ((sk T p : Nat) : Int)) 0 0 (dQ (some (.int (i32 (b01 (wdB T (sk T p) i))))) sh (up2 g m 4 ((wdS T p i : Nat) : Int))) by
    exact lp_16 _ 0 (Nat.lt_succ_self _) (by omega) (fun j hj => absurd hj (Nat.not_lt_zero j))
  intro n_16
  induction n_16 with
  | zero => intro k h_; exact absurd h_ (Nat.not_lt_zero _)
  | succ n_16 ih_16 =>
    intro k hn_16 hki hp
    refine j_iload_n 17 0 dX10_takeWord_16 rfl rfl ?_
    refine j_aload_n 18 2 dX10_takeWord_17 rfl rfl ?_
    refine j_callT 21 (i := i) (As := []) (kc2 := 0) (ks2 := 0) dX10_takeWord_18 rfl mvJ0_length_8abf5 lk_X10_69 hi rfl rfl rfl (Nat.le_of_ble_eq_true rfl) ⟨Nat.le_of_ble_eq_true rfl, Nat.le_of_ble_eq_true rfl⟩ ⟨Nat.le_of_ble_eq_true rfl, Nat.le_of_ble_eq_true rfl⟩ (t_length hi) x_d (k_d1 ?_)
    refine j_icmp_ge 24 48 dX10_takeWord_21 rfl rfl (r32 (by omega) (by omega)) (by have := st_len_r hi; exact ⟨by omega, by omega⟩) (fun c_21 => ?_) (fun c_21 => ?_)
    · have hk : k = st_len.getD i 0 := by omega
      refine j_iload_n 49 0 dX10_takeWord_48 rfl rfl ?_
      refine j_aload_n 50 2 dX10_takeWord_49 rfl rfl ?_
      refine j_callT 53 (i := i) (As := []) (kc2 := 0) (ks2 := 0) dX10_takeWord_50 rfl mvJ0_length_8abf5 lk_X10_69 hi rfl rfl rfl (Nat.le_of_ble_eq_true rfl) ⟨Nat.le_of_ble_eq_true rfl, Nat.le_of_ble_eq_true rfl⟩ ⟨Nat.le_of_ble_eq_true rfl, Nat.le_of_ble_eq_true rfl⟩ (t_length hi) x_d (k_d1 ?_)
      refine j_icmp_lt 56 76 dX10_takeWord_53 rfl rfl (r32 (by omega) (by omega)) (by have := st_len_r hi; exact ⟨by omega, by omega⟩) (fun c_53 => absurd c_53 (by omega)) (fun c_53 => ?_)
      subst hk
      have hwg := wd_good hi hp
      refine j_aload_n 57 1 dX10_takeWord_56 rfl rfl ?_
      refine j_aload_n 58 1 dX10_takeWord_57 rfl rfl ?_
      refine j_geti 61 dX10_takeWord_58 rfl fl_X10_44 hM.md rfl rfl (fun r_58 => ?_)
      refine j_top (y := ((sk T p : Nat) : Int)) (up2_s) ?_
      refine j_iload_n 62 0 dX10_takeWord_61 rfl rfl ?_
      refine j_iadd 63 dX10_takeWord_62 rfl ?_
      refine j_top (y := ((sk T p + st_len.getD i 0 : Nat) : Int)) (by omega) ?_
      refine j_callV 66 (As := [.int (i32 (((sk T p + st_len.getD i 0 : Nat) : Int)))]) (kc2 := 0) (ks2 := 0) dX10_takeWord_63 rfl mvX10_byteAt lk_X10_47 hM.md rfl ⟨Nat.le_of_ble_eq_true rfl, rfl⟩ rfl rfl (Nat.le_of_ble_eq_true rfl) ⟨Nat.le_of_ble_eq_true rfl, Nat.le_of_ble_eq_true rfl⟩ ⟨Nat.le_of_ble_eq_true rfl, Nat.le_of_ble_eq_true rfl⟩ (rp_byteAt hM (hX.up (by decide)) (k := sk T p + st_len.getD i 0) (by omega)) x_d (k_d1 ?_)
      refine j_bipush 68 dX10_takeWord_66 rfl (by decide) ?_
      refine j_bipush 70 dX10_takeWord_68 rfl (by decide) ?_
      refine j_callS 73 (As := [.int (i32 (byT T (sk T p + st_len.getD i 0))), .int (i32 (97)), .int (i32 (122))]) (kc2 := 0) (ks2 := 0) dX10_takeWord_70 rfl msX10_in lk_X10_57 rfl rfl (Nat.le_of_ble_eq_true rfl) ⟨Nat.le_of_ble_eq_true rfl, Nat.le_of_ble_eq_true rfl⟩ ⟨Nat.le_of_ble_eq_true rfl, Nat.le_of_ble_eq_true rfl⟩ (r_in (by have := byT_r hX.2.2.2 (sk T p + st_len.getD i 0); exact ⟨by omega, by omega⟩) (r32 (by decide) (by decide)) (r32 (by decide) (by decide))) x_d (k_d1 ?_)
      refine j_top (y := b01 (isL (byT T (sk T p + st_len.getD i 0)))) (rfl) ?_
      refine j_if_eq 76 78 dX10_takeWord_73 rfl rfl (r01 (b01_r _)) (fun c_73 => ?_) (fun c_73 => ?_)
      · have hz : wdB T (sk T p) i = true := by rw [hwg]; cases hl : isL (byT T (sk T p + st_len.getD i 0)); rfl; rw [hl] at c_73; cases c_73
        have hle := wd_end (by omega) hz hsk2
        refine j_aload_n 79 1 dX10_takeWord_78 rfl rfl ?_
        refine j_dup 80 dX10_takeWord_79 rfl rfl ?_
        refine j_geti 83 dX10_takeWord_80 rfl fl_X10_44 hM.md rfl rfl (fun r_80 => ?_)
        refine j_top (y := ((sk T p : Nat) : Int)) (up2_s) ?_
        refine j_iload_n 84 0 dX10_takeWord_83 rfl rfl ?_
        refine j_iadd 85 dX10_takeWord_84 rfl ?_
        refine j_top (y := ((sk T p + st_len.getD i 0 : Nat) : Int)) (by omega) ?_
        refine j_puti 88 dX10_takeWord_85 rfl fl_X10_44 hM.md rfl rfl rfl (r32 (by omega) (by omega)) ?_
        refine j_mn (fun g_85 hg_85 => ?_)
        refine j_iconst 89 dX10_takeWord_88 rfl ?_
        exact j_zret dX10_takeWord_89 rfl (Or.inr rfl) (q_gi (by rw [hz]; rfl) (by unfold wdS; rw [hg_85, if_pos hz, up2_up2]))
      · have hz : wdB T (sk T p) i = false := by rw [hwg]; cases hl : isL (byT T (sk T p + st_len.getD i 0)); rw [hl] at c_73; exact absurd rfl c_73; rfl
        refine j_iconst 77 dX10_takeWord_76 rfl ?_
        exact j_zret dX10_takeWord_77 rfl (Or.inl rfl) (q_gi (by rw [hz]; rfl) (by unfold wdS; rw [hz]; rfl))
    · refine j_aload_n 25 1 dX10_takeWord_24 rfl rfl ?_
      refine j_aload_n 26 1 dX10_takeWord_25 rfl rfl ?_
      refine j_geti 29 dX10_takeWord_26 rfl fl_X10_44 hM.md rfl rfl (fun r_26 => ?_)
      refine j_top (y := ((sk T p : Nat) : Int)) (up2_s) ?_
      refine j_iload_n 30 0 dX10_takeWord_29 rfl rfl ?_
      refine j_iadd 31 dX10_takeWord_30 rfl ?_
      refine j_top (y := ((sk T p + k : Nat) : Int)) (by omega) ?_
      refine j_callV 34 (As := [.int (i32 (((sk T p + k : Nat) : Int)))]) (kc2 := 0) (ks2 := 0) dX10_takeWord_31 rfl mvX10_byteAt lk_X10_47 hM.md rfl ⟨Nat.le_of_ble_eq_true rfl, rfl⟩ rfl rfl (Nat.le_of_ble_eq_true rfl) ⟨Nat.le_of_ble_eq_true rfl, Nat.le_of_ble_eq_true rfl⟩ ⟨Nat.le_of_ble_eq_true rfl, Nat.le_of_ble_eq_true rfl⟩ (rp_byteAt hM (hX.up (by decide)) (k := sk T p + k) (by omega)) x_d (k_d1 ?_)
      refine j_aload_n 35 2 dX10_takeWord_34 rfl rfl ?_
      refine j_iload_n 36 0 dX10_takeWord_35 rfl rfl ?_
      refine j_callT 39 (i := i) (As := [.int (i32 ((k : Int)))]) (kc2 := 0) (ks2 := 0) dX10_takeWord_36 rfl mvJ0_charAt_5068e lk_X10_74 hi rfl rfl rfl (Nat.le_of_ble_eq_true rfl) ⟨Nat.le_of_ble_eq_true rfl, Nat.le_of_ble_eq_true rfl⟩ ⟨Nat.le_of_ble_eq_true rfl, Nat.le_of_ble_eq_true rfl⟩ (t_charAt hi (show k < st_len.getD i 0 by omega)) x_d (k_d1 ?_)
      refine j_icmp_ne 42 48 dX10_takeWord_39 rfl rfl (by have := byT_r hX.2.2.2 (sk T p + k); exact ⟨by omega, by omega⟩) (by have := sc_r i hi k (show k < st_len.getD i 0 by omega); exact ⟨by omega, by omega⟩) (fun c_39 => ?_) (fun c_39 => ?_)
      · have hz : wdB T (sk T p) i = false := by cases hw : wdB T (sk T p) i; rfl; exact absurd ((wd_iff.mp hw).2 k (by omega)) c_39
        refine j_iload_n 49 0 dX10_takeWord_48 rfl rfl ?_
        refine j_aload_n 50 2 dX10_takeWord_49 rfl rfl ?_
        refine j_callT 53 (i := i) (As := []) (kc2 := 0) (ks2 := 0) dX10_takeWord_50 rfl mvJ0_length_8abf5 lk_X10_69 hi rfl rfl rfl (Nat.le_of_ble_eq_true rfl) ⟨Nat.le_of_ble_eq_true rfl, Nat.le_of_ble_eq_true rfl⟩ ⟨Nat.le_of_ble_eq_true rfl, Nat.le_of_ble_eq_true rfl⟩ (t_length hi) x_d (k_d1 ?_)
        refine j_icmp_lt 56 76 dX10_takeWord_53 rfl rfl (r32 (by omega) (by omega)) (by have := st_len_r hi; exact ⟨by omega, by omega⟩) (fun c_53 => ?_) (fun c_53 => absurd c_53 (by omega))
        refine j_iconst 77 dX10_takeWord_76 rfl ?_
        exact j_zret dX10_takeWord_77 rfl (Or.inl rfl) (q_gi (by rw [hz]; rfl) (by unfold wdS; rw [hz]; rfl))
      · refine j_iinc 45 0 (y := ((k + 1 : Nat) : Int)) (L2 := [(2, .int (i32 (((k + 1 : Nat) : Int)))), (0, .ref (m)), (1, .ref (w.2.1 (100 + i)))]) dX10_takeWord_42 rfl rfl (by omega) (Nat.le_of_ble_eq_true rfl) rfl ?_
        refine j_goto 16 dX10_takeWord_45 rfl ?_
        exact ih_16 (k + 1) (by omega) (by omega) (lt_step hp c_39)
