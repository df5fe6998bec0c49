theorem ud_at {a b : Nat → Int} {i j : Nat} {x : Int} (h : a i = b i) : ud a j x i = ud b j x i := by
  unfold ud
  split
  · rfl
  · exact h
theorem talks_add {e : Nat → Int} {c x what : Nat} {l y v : Int} (hx : x < 5) (hw : what < 9) : s_addGroup (s_talks e c l y) x what v = s_talks (s_addGroup e x what v) c l y := by
  unfold s_addGroup s_talks
  rw [ud_n (show 50 + 9 * x + what ≠ 178 + 14 * c by omega), ud_n (show 50 + 9 * x + what ≠ 176 + 14 * c by omega), ud_n (show 50 + 9 * x + what ≠ 175 + 14 * c by omega), ud_n (show 50 + 9 * x + what ≠ 174 + 14 * c by omega), ud_n (show 50 + 9 * x + what ≠ 173 + 14 * c by omega), ud_n (show 6 ≠ 50 + 9 * x + what by omega), ud_n (show 171 + 14 * c ≠ 50 + 9 * x + what by omega)]
  funext i
  by_cases q : i = 50 + 9 * x + what
  · subst q
    rw [ud_s, ud_n (by omega), ud_n (by omega), ud_n (by omega), ud_n (by omega), ud_n (by omega), ud_s]
  · rw [ud_n q]
    exact ud_at (ud_at (ud_at (ud_at (ud_at (ud_n q).symm))))
theorem sm_flip {f h : Nat → Int} {x : Nat} (q : ∀ k, k ≠ x → h k = f k) : ∀ n, sm h n = sm f n + if x < n then h x - f x else 0
  | 0 => by rw [if_neg (by omega)]; rfl
  | n + 1 => by
    show sm h n + h n = sm f n + f n + _
    rw [sm_flip q n]
    by_cases e1 : n = x
    · subst e1; rw [if_neg (by omega), if_pos (by omega)]; omega
    · rw [q n e1]
      by_cases e2 : x < n
      · rw [if_pos e2, if_pos (by omega)]; omega
      · rw [if_neg e2, if_neg (by omega)]; omega
section TT
variable {g : Mem} {e c x r : Nat} {d : Nat → Int}

theorem rel_grp3 (h : RelX g e d) (hb : RB d) (hx : x < 5) (h3 : (x : Int) < d 3) {v : Int} : RelX (up2 g (e + 3 + x) 4 v) e (ud d (50 + 9 * x + 3) v) := by
  have G := h.2.2.2.1 x h3
  exact h.grp hb (Sta.rf.ud (kp_grp hx (by decide) (by decide))) hx (fun a ha => funext fun j => up2_a ha) (up2_k (by decide)) (fun i hi _ => ud_n (by omega)) (fun _ => ⟨by rw [up2_k (by decide), ud_n (by omega)]; exact G.1, by rw [up2_k (by decide), ud_n (by omega)]; exact G.2.1, by rw [up2_s, show 53 + 9 * x = 50 + 9 * x + 3 by omega, ud_s], by rw [up2_k (by decide), ud_n (by omega)]; exact G.2.2.2.1, by rw [up2_k (by decide), ud_n (by omega)]; exact G.2.2.2.2.1, by rw [up2_k (by decide), ud_n (by omega)]; exact G.2.2.2.2.2.1, by rw [up2_k (by decide), ud_n (by omega), ud_n (by omega)]; exact G.2.2.2.2.2.2⟩)
theorem rel_grp4 (h : RelX g e d) (hb : RB d) (hx : x < 5) (h3 : (x : Int) < d 3) {v : Int} : RelX (up2 g (e + 3 + x) 5 v) e (ud d (50 + 9 * x + 4) v) := by
  have G := h.2.2.2.1 x h3
  exact h.grp hb (Sta.rf.ud (kp_grp hx (by decide) (by decide))) hx (fun a ha => funext fun j => up2_a ha) (up2_k (by decide)) (fun i hi _ => ud_n (by omega)) (fun _ => ⟨by rw [up2_k (by decide), ud_n (by omega)]; exact G.1, by rw [up2_k (by decide), ud_n (by omega)]; exact G.2.1, by rw [up2_k (by decide), ud_n (by omega)]; exact G.2.2.1, by rw [up2_s, show 54 + 9 * x = 50 + 9 * x + 4 by omega, ud_s], by rw [up2_k (by decide), ud_n (by omega)]; exact G.2.2.2.2.1, by rw [up2_k (by decide), ud_n (by omega)]; exact G.2.2.2.2.2.1, by rw [up2_k (by decide), ud_n (by omega), ud_n (by omega)]; exact G.2.2.2.2.2.2⟩)
theorem rel_grp5 (h : RelX g e d) (hb : RB d) (hx : x < 5) (h3 : (x : Int) < d 3) {v : Int} : RelX (up2 g (e + 3 + x) 6 v) e (ud d (50 + 9 * x + 5) v) := by
  have G := h.2.2.2.1 x h3
  exact h.grp hb (Sta.rf.ud (kp_grp hx (by decide) (by decide))) hx (fun a ha => funext fun j => up2_a ha) (up2_k (by decide)) (fun i hi _ => ud_n (by omega)) (fun _ => ⟨by rw [up2_k (by decide), ud_n (by omega)]; exact G.1, by rw [up2_k (by decide), ud_n (by omega)]; exact G.2.1, by rw [up2_k (by decide), ud_n (by omega)]; exact G.2.2.1, by rw [up2_k (by decide), ud_n (by omega)]; exact G.2.2.2.1, by rw [up2_s, show 55 + 9 * x = 50 + 9 * x + 5 by omega, ud_s], by rw [up2_k (by decide), ud_n (by omega)]; exact G.2.2.2.2.2.1, by rw [up2_k (by decide), ud_n (by omega), ud_n (by omega)]; exact G.2.2.2.2.2.2⟩)
theorem rel_23 (h : RelX g e d) (hb : RB d) {v : Int} : RelX g e (ud d 23 v) := h.scal hb (Sta.rf.ud kp_23.1) (fun _ _ => rfl) (fun i hi _ => ud_n (by omega)) (h.2.1.cong (fun i h1 h2 => ud_n h2))
theorem po_ov (h : PO d) (hx : x < 5) (h3 : (x : Int) < d 3) : PO (ud (s_addGroup d x 3 1) 23 (bm ((s_addGroup d x 3 1) 23 + 1))) := by
  unfold s_addGroup
  refine ⟨fun c hc h4 => ?_, ?_⟩
  · rw [ud_n (by omega), ud_n (by omega)] at hc h4
    rw [ud_n (by omega), ud_n (by omega), ud_n (by omega), ud_n (by omega)]
    exact h.1 c hc h4
  · have h1 := sm_flip (f := fun (k : Nat) => if (k : Int) < d 3 then d (53 + 9 * k) else 0) (h := fun (k : Nat) => if (k : Int) < (ud (ud d (50 + 9 * x + 3) (bm (d (50 + 9 * x + 3) + 1))) 23 (bm ((ud d (50 + 9 * x + 3) (bm (d (50 + 9 * x + 3) + 1))) 23 + 1))) 3 then (ud (ud d (50 + 9 * x + 3) (bm (d (50 + 9 * x + 3) + 1))) 23 (bm ((ud d (50 + 9 * x + 3) (bm (d (50 + 9 * x + 3) + 1))) 23 + 1))) (53 + 9 * k) else 0) (x := x) (fun k hk => by
      show (if _ then _ else _) = (if _ then _ else _)
      rw [ud_n (show 3 ≠ 23 by decide), ud_n (show 3 ≠ 50 + 9 * x + 3 by omega), ud_n (show 53 + 9 * k ≠ 23 by omega), ud_n (show 53 + 9 * k ≠ 50 + 9 * x + 3 by omega)]) 5
    have h2 := h.2
    unfold sO at h2 ⊢
    rw [h1, if_pos hx]
    show (_ + ((if _ then _ else _) - (if _ then _ else _)) - _) % _ = _
    rw [ud_n (show 3 ≠ 23 by decide), ud_n (show 3 ≠ 50 + 9 * x + 3 by omega), if_pos h3, if_pos h3, ud_n (show 53 + 9 * x ≠ 23 by omega), show 53 + 9 * x = 50 + 9 * x + 3 by omega, ud_s, ud_s, ud_n (show 23 ≠ 50 + 9 * x + 3 by omega)]
    unfold bm
    omega
theorem po_add (h : PO d) (hx : x < 5) {what : Nat} {v : Int} (hw : what = 4 ∨ what = 5) : PO (s_addGroup d x what v) := by
  unfold s_addGroup
  exact h.up (ud_n (by omega)) (ud_n (by omega)) (ud_n (by omega)) (fun y hy => ud_n (by omega)) (fun c _ => Or.inl ⟨ud_n (by omega), ud_n (by omega), ud_n (by omega)⟩)
theorem po_talks (h : PO d) {l y : Int} : PO (s_talks d c l y) := by
  unfold s_talks
  refine h.up (by rw [ud_n (by omega), ud_n (by omega), ud_n (by omega), ud_n (by omega), ud_n (by omega)]) (by rw [ud_n (by omega), ud_n (by omega), ud_n (by omega), ud_n (by omega), ud_n (by omega)]) (by rw [ud_n (by omega), ud_n (by omega), ud_n (by omega), ud_n (by omega), ud_n (by omega)]) (fun x hx => by rw [ud_n (by omega), ud_n (by omega), ud_n (by omega), ud_n (by omega), ud_n (by omega)]) (fun c2 hc2 => ?_)
  by_cases q : c2 = c
  · subst q
    refine Or.inr (fun h4 => ?_)
    rw [ud_n (by omega), ud_n (by omega), ud_n (by omega), ud_n (by omega), ud_s] at h4
    omega
  · refine Or.inl ⟨?_, ?_, ?_⟩ <;> rw [ud_n (by omega), ud_n (by omega), ud_n (by omega), ud_n (by omega), ud_n (by omega)]
theorem ovF_s (k : Nat) : s_ovF d r (k + 1) = ud (s_addGroup (s_ovF d r k) ((s_ovF d r k) (99 + 7 * r + k)).toNat 3 1) 23 (bm ((s_addGroup (s_ovF d r k) ((s_ovF d r k) (99 + 7 * r + k)).toNat 3 1) 23 + 1)) := rfl
theorem rel_ov (h : RelX g e d) (hb : RB d) (hx : x < 5) (h3 : (x : Int) < d 3) {v : Int} (hv : v = bm (g (e + 3 + x) 4 + 1)) : RelX (up2 g (e + 3 + x) 4 v) e (ud (s_addGroup d x 3 1) 23 (bm ((s_addGroup d x 3 1) 23 + 1))) := by
  have G := h.2.2.2.1 x h3
  subst hv
  have h1 := rel_grp3 h hb hx h3 (v := bm (g (e + 3 + x) 4 + 1))
  rw [G.2.2.1, show 53 + 9 * x = 50 + 9 * x + 3 by omega] at h1 ⊢
  exact rel_23 h1 (hb.sta (Sta.rf.ud (kp_grp hx (by decide) (by decide))))
end TT

theorem ovF_call {d : Nat → Int} {r c : Nat} (hr : r < 8) (hb : RB d) : ∀ k : Nat, (k : Int) ≤ d (98 + 7 * r) → (s_ovF d r k) (173 + 14 * c) = d (173 + 14 * c)
  | 0, _ => rfl
  | k + 1, hk => by
    have hS := sta_ovF hr hb k (by omega)
    have h9 : (s_ovF d r k) (99 + 7 * r + k) = d (99 + 7 * r + k) := hS _ (by have := (hb.2.2.2.2.2.2.1 r hr); unfold kpI; omega)
    have := hb.2.2.2.2.2.2.2.1 r k hr (by omega)
    rw [ovF_s, h9]
    unfold s_addGroup
    rw [ud_n (by omega), ud_n (by omega)]
    exact ovF_call hr hb k (by omega)

set_option maxRecDepth 20000 in
theorem c_takeTrunk {w : Wd} {sh : Shp} {g : Mem} {e r c : Nat} {d : Nat → Int} (hE : ExS sh.1 e) (hR : RelX g e d) (hb : RB d) (hb2 : RB2 d) (hP : PO d) (hr4 : (r : Int) < d 4) (hr8 : r < 8) (hc5 : (c : Int) < d 5) (hc40 : c < 40) (hst4 : d (173 + 14 * c) ≤ 4)  : CT w mX1_takeTrunk [.ref (e), .ref (e + 35 + c), .ref (e + 9 + 2 * r), .int (i32 (s_fc d r))] sh g (vQ sh (fun g2 => RelX g2 e (s_way (s_ovF d r (s_choiceOf d r)) c r (s_choiceOf d r)) ∧ PO (s_way (s_ovF d r (s_choiceOf d r)) c r (s_choiceOf d r)) ∧ Fr g g2 e ∧ g2 e 12 = g e 12)) := by
  have hb3 := hb.2.2.2.2.2.2.1 r hr8
  have hd3 := hb.2.2.2.1
  have hcl := s_chF_le d r (d (98 + 7 * r)).toNat 0
  have hco : s_choiceOf d r ≤ (d (98 + 7 * r)).toNat := by unfold s_choiceOf; omega
  have hfr : R32 (s_fc d r) := by unfold s_fc; split <;> exact ⟨by omega, by omega⟩
  refine j_entry (by decide) rfl (Nat.le_of_ble_eq_true rfl) (fun h => by cases h) rfl ?_
  show J w mX1_takeTrunk 0 [(0, .ref (e)), (1, .ref (e + 35 + c)), (2, .ref (e + 9 + 2 * r)), (3, .int (i32 (s_fc d r)))] [] sh g 0 0 _
  refine j_iload_n 1 3 dX1_takeTrunk_0 rfl rfl ?_
  refine j_iconst 2 dX1_takeTrunk_1 rfl ?_
  refine j_icmp_ne 5 12 dX1_takeTrunk_2 rfl rfl hfr (r32 (by decide) (by decide)) (fun c_2 => ?_) (fun c_2 => ?_)
  · have hne : s_choiceOf d r ≠ (d (98 + 7 * r)).toNat := fun q => c_2 (if_pos q)
    have hfc : s_fc d r = (s_choiceOf d r : Int) := if_neg hne
    refine j_iload_n 13 3 dX1_takeTrunk_12 rfl rfl ?_
    refine j_top (y := (s_choiceOf d r : Int)) (by omega) ?_
    refine j_istore 15 (L2 := [(4, .int (i32 ((s_choiceOf d r : Int)))), (0, .ref (e)), (1, .ref (e + 35 + c)), (2, .ref (e + 9 + 2 * r)), (3, .int (i32 (s_fc d r)))]) dX1_takeTrunk_13 rfl (Nat.le_of_ble_eq_true rfl) rfl ?_
    refine j_iconst 16 dX1_takeTrunk_15 rfl ?_
    refine j_istore 18 (L2 := [(5, .int (i32 (0))), (4, .int (i32 ((s_choiceOf d r : Int)))), (0, .ref (e)), (1, .ref (e + 35 + c)), (2, .ref (e + 9 + 2 * r)), (3, .int (i32 (s_fc d r)))]) dX1_takeTrunk_16 rfl (Nat.le_of_ble_eq_true rfl) rfl ?_
    suffices lp_18 : ∀ (n_18 : Nat) (k : Nat) (da : Nat → Int) (ga : Mem), s_choiceOf d r - k < n_18 → k ≤ s_choiceOf d r → da = s_ovF d r k → RelX ga e da → PO da → Fr g ga e → ga e 12 = g e 12 → J w mX1_takeTrunk 18 [(5, .int (i32 ((k : Int)))), (4, .int (i32 ((s_choiceOf d r : Int)))), (0, .ref (e)), (1, .ref (e + 35 + c)), (2, .ref (e + 9 + 2 * r)), (3, .int (i32 (s_fc d r)))] [] sh ga 0 0 (vQ sh (fun g2 => RelX g2 e (s_way (s_ovF d r (s_choiceOf d r)) c r (s_choiceOf d r)) ∧ PO (s_way (s_ovF d r (s_choiceOf d r)) c r (s_choiceOf d r)) ∧ Fr g g2 e ∧ g2 e 12 = g e 12)) by
      exact lp_18 _ 0 d g (Nat.lt_succ_self _) (by omega) rfl hR hP Fr.rf rfl
    intro n_18
    induction n_18 with
    | zero => intro k da ga h_; exact absurd h_ (Nat.not_lt_zero _)
    | succ n_18 ih_18 =>
      intro k da ga hn_18 hk hd hRa hPa hF hg
      have hS : Sta d da := by rw [hd]; exact sta_ovF hr8 hb k (by omega)
      have hba : RB da := hb.sta hS
      have hb2a : RB2 da := hb2.sta hb hS
      have hrt := hRa.2.2.2.2.1 r (by rw [hS 4 (Or.inl (by decide))]; exact hr4)
      obtain ⟨T1, T2, T3, T4⟩ := hrt
      rw [hS (98 + 7 * r) (by unfold kpI; omega)] at T3 T4
      have hg3 : ga e 3 = d 3 := hRa.2.1.2.2.2.1.trans (hS 3 (Or.inl (by decide)))
      have hda3 : da 3 = d 3 := hS 3 (Or.inl (by decide))
      have hda5 : da 5 = d 5 := hS 5 (Or.inl (by decide))
      refine j_iload 20 0 dX1_takeTrunk_18 rfl rfl ?_
      refine j_iload 22 1 dX1_takeTrunk_20 rfl rfl ?_
      refine j_icmp_ge 25 59 dX1_takeTrunk_22 rfl rfl (r32 (by omega) (by omega)) (r32 (by omega) (by omega)) (fun c_22 => ?_) (fun c_22 => ?_)
      · have hk0 : k = s_choiceOf d r := by omega
        subst hk0
        have hst : da (173 + 14 * c) = d (173 + 14 * c) := by rw [hd]; exact ovF_call hr8 hb _ (by omega)
        refine j_aload_n 60 2 dX1_takeTrunk_59 rfl rfl ?_
        refine j_aload_n 61 4 dX1_takeTrunk_60 rfl rfl ?_
        refine j_iload_n 62 5 dX1_takeTrunk_61 rfl rfl ?_
        refine j_callV 65 (As := [.int (i32 (s_fc d r))]) (kc2 := 0) (ks2 := 0) dX1_takeTrunk_62 rfl mvX6_choiceAt lk_X1_166 (hE.rt r hr8) rfl ⟨Nat.le_of_ble_eq_true rfl, rfl⟩ rfl rfl (Nat.le_of_ble_eq_true rfl) ⟨Nat.le_of_ble_eq_true rfl, Nat.le_of_ble_eq_true rfl⟩ ⟨Nat.le_of_ble_eq_true rfl, Nat.le_of_ble_eq_true rfl⟩ (c_choiceAt (hE.rt r hr8) (hE.ch r hr8) (by omega) hfr) x_d (k_d1 ?_)
        have hkn : (s_choiceOf d r : Int) < d (98 + 7 * r) := by omega
        have T5 := T4 (s_choiceOf d r) hkn
        have h99 := hb.2.2.2.2.2.2.2.1 r (s_choiceOf d r) hr8 hkn
        have h993 := hb2.2.2.2.1 r (s_choiceOf d r) hr4 hkn
        have h9s : da (99 + 7 * r + s_choiceOf d r) = d (99 + 7 * r + s_choiceOf d r) := hS _ (by unfold kpI; omega)
        rw [h9s] at T5
        refine j_top (y := d (99 + 7 * r + s_choiceOf d r)) (by rw [if_pos (by omega), hfc, Int.toNat_natCast]; exact T5) ?_
        refine j_callV 68 (As := [.int (i32 (d (99 + 7 * r + s_choiceOf d r)))]) (kc2 := 0) (ks2 := 0) dX1_takeTrunk_65 rfl mvX1_groupAt lk_X1_280 hE.ex rfl ⟨Nat.le_of_ble_eq_true rfl, rfl⟩ rfl rfl (Nat.le_of_ble_eq_true rfl) ⟨Nat.le_of_ble_eq_true rfl, Nat.le_of_ble_eq_true rfl⟩ ⟨Nat.le_of_ble_eq_true rfl, Nat.le_of_ble_eq_true rfl⟩ (c_groupAt1 hE (by omega) (r32 (by omega) (by omega)) (by omega)) x_d (k_d1 ?_)
        refine j_astore 70 (L2 := [(5, .ref (e + 3 + (d (99 + 7 * r + s_choiceOf d r)).toNat)), (4, .int (i32 ((s_choiceOf d r : Int)))), (0, .ref (e)), (1, .ref (e + 35 + c)), (2, .ref (e + 9 + 2 * r)), (3, .int (i32 (s_fc d r)))]) dX1_takeTrunk_68 rfl (Nat.le_of_ble_eq_true rfl) rfl ?_
        refine j_aload 72 0 dX1_takeTrunk_70 rfl rfl ?_
        refine j_ifnonnull 88 dX1_takeTrunk_72 rfl ?_
        refine j_aload 90 0 dX1_takeTrunk_88 rfl rfl ?_
        refine j_dup 91 dX1_takeTrunk_90 rfl rfl ?_
        refine j_geti 94 dX1_takeTrunk_91 rfl fl_X1_284 (hE.gr (d (99 + 7 * r + s_choiceOf d r)).toNat (show (d (99 + 7 * r + s_choiceOf d r)).toNat < 5 by omega)) rfl rfl (fun r_91 => ?_)
        refine j_iconst 95 dX1_takeTrunk_94 rfl ?_
        refine j_iadd 96 dX1_takeTrunk_95 rfl ?_
        refine j_nb ?_
        refine j_puti 99 dX1_takeTrunk_96 rfl fl_X1_284 (hE.gr (d (99 + 7 * r + s_choiceOf d r)).toNat (show (d (99 + 7 * r + s_choiceOf d r)).toNat < 5 by omega)) rfl rfl rfl (bm_r _) ?_
        refine j_mn (fun g_96 hg_96 => ?_)
        refine j_mem hg_96 ?_
        refine j_aload 101 0 dX1_takeTrunk_99 rfl rfl ?_
        refine j_dup 102 dX1_takeTrunk_101 rfl rfl ?_
        refine j_geti 105 dX1_takeTrunk_102 rfl fl_X1_287 (hE.gr (d (99 + 7 * r + s_choiceOf d r)).toNat (show (d (99 + 7 * r + s_choiceOf d r)).toNat < 5 by omega)) rfl rfl (fun r_102 => ?_)
        refine j_top (y := ga (e + 3 + (d (99 + 7 * r + s_choiceOf d r)).toNat) 6) (up2_k (by decide)) ?_
        refine j_iload_n 106 5 dX1_takeTrunk_105 rfl rfl ?_
        refine j_if_le 109 113 dX1_takeTrunk_106 rfl rfl hfr (fun c_106 => ?_) (fun c_106 => ?_)
        · refine j_iconst 114 dX1_takeTrunk_113 rfl ?_
          refine j_iadd 115 dX1_takeTrunk_114 rfl ?_
          refine j_nb ?_
          refine j_puti 118 dX1_takeTrunk_115 rfl fl_X1_287 (hE.gr (d (99 + 7 * r + s_choiceOf d r)).toNat (show (d (99 + 7 * r + s_choiceOf d r)).toNat < 5 by omega)) rfl rfl rfl (bm_r _) ?_
          refine j_mn (fun g_115 hg_115 => ?_)
          refine j_mem hg_115 ?_
          refine j_aload_n 119 3 dX1_takeTrunk_118 rfl rfl ?_
          refine j_aload 121 0 dX1_takeTrunk_119 rfl rfl ?_
          refine j_geti 124 dX1_takeTrunk_121 rfl fl_X1_133 (hE.gr (d (99 + 7 * r + s_choiceOf d r)).toNat (show (d (99 + 7 * r + s_choiceOf d r)).toNat < 5 by omega)) rfl rfl (fun r_121 => ?_)
          refine j_top (y := ((d (99 + 7 * r + s_choiceOf d r)).toNat : Int)) (by rw [up2_k (by decide), up2_k (by decide)]; exact hRa.1.1 _ (by omega)) ?_
          refine j_puti 127 dX1_takeTrunk_124 rfl fl_X1_187 (hE.cl c hc40) rfl rfl rfl (r32 (by omega) (by omega)) ?_
          refine j_mn (fun g_124 hg_124 => ?_)
          refine j_mem hg_124 ?_
          refine j_aload_n 128 3 dX1_takeTrunk_127 rfl rfl ?_
          refine j_aload_n 129 2 dX1_takeTrunk_128 rfl rfl ?_
          refine j_geti 132 dX1_takeTrunk_129 rfl fl_X1_74 hE.ex rfl rfl (fun r_129 => ?_)
          refine j_callV 135 (As := [.int (i32 ((up2 (up2 (up2 ga (e + 3 + (d (99 + 7 * r + s_choiceOf d r)).toNat) 5 (bm (ga (e + 3 + (d (99 + 7 * r + s_choiceOf d r)).toNat) 5 + 1))) (e + 3 + (d (99 + 7 * r + s_choiceOf d r)).toNat) 6 (bm (ga (e + 3 + (d (99 + 7 * r + s_choiceOf d r)).toNat) 6 + 0))) (e + 35 + c) 9 ((d (99 + 7 * r + s_choiceOf d r)).toNat : Int)) (e) 6))]) (kc2 := 0) (ks2 := 0) dX1_takeTrunk_132 rfl mvX0_beginToTalk lk_X1_260 (hE.cl c hc40) rfl ⟨Nat.le_of_ble_eq_true rfl, rfl⟩ rfl rfl (Nat.le_of_ble_eq_true rfl) ⟨Nat.le_of_ble_eq_true rfl, Nat.le_of_ble_eq_true rfl⟩ ⟨Nat.le_of_ble_eq_true rfl, Nat.le_of_ble_eq_true rfl⟩ (c_talk (hE.cl c hc40) r_129) x_d (k_d0 ?_)
          have hx5 : (d (99 + 7 * r + s_choiceOf d r)).toNat < 5 := by omega
          have hx3 : (((d (99 + 7 * r + s_choiceOf d r)).toNat : Nat) : Int) < da 3 := by omega
          have hxx : (((d (99 + 7 * r + s_choiceOf d r)).toNat : Nat) : Int) = d (99 + 7 * r + s_choiceOf d r) := by omega
          have hw : s_way da c r (s_choiceOf d r) = s_talks (s_addGroup (s_addGroup da (d (99 + 7 * r + s_choiceOf d r)).toNat 4 1) (d (99 + 7 * r + s_choiceOf d r)).toNat 5 0) c (-1) ((d (99 + 7 * r + s_choiceOf d r)).toNat : Int) := by unfold s_way; rw [if_neg (by rw [hS (98 + 7 * r) (by unfold kpI; omega)]; omega), h9s, if_neg (by omega), talks_add hx5 (by decide), talks_add hx5 (by decide), hxx]
          have G := hRa.2.2.2.1 (d (99 + 7 * r + s_choiceOf d r)).toNat hx3
          have hS4 : Sta da (s_addGroup da (d (99 + 7 * r + s_choiceOf d r)).toNat 4 1) := sta_addGroup Sta.rf hx5 (by decide) (by decide)
          have hS5 : Sta (s_addGroup da (d (99 + 7 * r + s_choiceOf d r)).toNat 4 1) (s_addGroup (s_addGroup da (d (99 + 7 * r + s_choiceOf d r)).toNat 4 1) (d (99 + 7 * r + s_choiceOf d r)).toNat 5 0) := sta_addGroup Sta.rf hx5 (by decide) (by decide)
          have hR4 : RelX (up2 ga (e + 3 + (d (99 + 7 * r + s_choiceOf d r)).toNat) 5 (bm (ga (e + 3 + (d (99 + 7 * r + s_choiceOf d r)).toNat) 5 + 1))) e (s_addGroup da (d (99 + 7 * r + s_choiceOf d r)).toNat 4 1) := by unfold s_addGroup; rw [G.2.2.2.1, show 54 + 9 * (d (99 + 7 * r + s_choiceOf d r)).toNat = 50 + 9 * (d (99 + 7 * r + s_choiceOf d r)).toNat + 4 by omega]; exact rel_grp4 hRa hba hx5 hx3
          have hv5 : ga (e + 3 + (d (99 + 7 * r + s_choiceOf d r)).toNat) 6 = (s_addGroup da (d (99 + 7 * r + s_choiceOf d r)).toNat 4 1) (50 + 9 * (d (99 + 7 * r + s_choiceOf d r)).toNat + 5) := by rw [G.2.2.2.2.1]; unfold s_addGroup; rw [ud_n (by omega), show 55 + 9 * (d (99 + 7 * r + s_choiceOf d r)).toNat = 50 + 9 * (d (99 + 7 * r + s_choiceOf d r)).toNat + 5 by omega]
          have hR5 : RelX (up2 (up2 ga (e + 3 + (d (99 + 7 * r + s_choiceOf d r)).toNat) 5 (bm (ga (e + 3 + (d (99 + 7 * r + s_choiceOf d r)).toNat) 5 + 1))) (e + 3 + (d (99 + 7 * r + s_choiceOf d r)).toNat) 6 (bm (ga (e + 3 + (d (99 + 7 * r + s_choiceOf d r)).toNat) 6 + 0))) e (s_addGroup (s_addGroup da (d (99 + 7 * r + s_choiceOf d r)).toNat 4 1) (d (99 + 7 * r + s_choiceOf d r)).toNat 5 0) := by rw [hv5]; unfold s_addGroup; exact rel_grp5 hR4 (hba.sta hS4) hx5 (by rw [hS4 3 (Or.inl (by decide))]; exact hx3)
          have h4l := hPa.1 c (by omega) (by rw [hst]; exact hst4)
          have h85 : (s_addGroup (s_addGroup da (d (99 + 7 * r + s_choiceOf d r)).toNat 4 1) (d (99 + 7 * r + s_choiceOf d r)).toNat 5 0) (174 + 14 * c) = -1 := by unfold s_addGroup; rw [ud_n (by omega), ud_n (by omega)]; exact h4l.1
          have hRF : RelX (up2 (up2 (up2 (up2 (up2 (up2 ga (e + 3 + (d (99 + 7 * r + s_choiceOf d r)).toNat) 5 (bm (ga (e + 3 + (d (99 + 7 * r + s_choiceOf d r)).toNat) 5 + 1))) (e + 3 + (d (99 + 7 * r + s_choiceOf d r)).toNat) 6 (bm (ga (e + 3 + (d (99 + 7 * r + s_choiceOf d r)).toNat) 6 + 0))) (e + 35 + c) 9 ((d (99 + 7 * r + s_choiceOf d r)).toNat : Int)) (e + 35 + c) 1 5) (e + 35 + c) 10 ((up2 (up2 (up2 ga (e + 3 + (d (99 + 7 * r + s_choiceOf d r)).toNat) 5 (bm (ga (e + 3 + (d (99 + 7 * r + s_choiceOf d r)).toNat) 5 + 1))) (e + 3 + (d (99 + 7 * r + s_choiceOf d r)).toNat) 6 (bm (ga (e + 3 + (d (99 + 7 * r + s_choiceOf d r)).toNat) 6 + 0))) (e + 35 + c) 9 ((d (99 + 7 * r + s_choiceOf d r)).toNat : Int)) e 6)) (e + 35 + c) 12 ((up2 (up2 (up2 ga (e + 3 + (d (99 + 7 * r + s_choiceOf d r)).toNat) 5 (bm (ga (e + 3 + (d (99 + 7 * r + s_choiceOf d r)).toNat) 5 + 1))) (e + 3 + (d (99 + 7 * r + s_choiceOf d r)).toNat) 6 (bm (ga (e + 3 + (d (99 + 7 * r + s_choiceOf d r)).toNat) 6 + 0))) (e + 35 + c) 9 ((d (99 + 7 * r + s_choiceOf d r)).toNat : Int)) (e + 35 + c) 4)) e (s_way da c r (s_choiceOf d r)) := by rw [hw, up2_k (k := 9) (j := 4) (by decide)]; exact rel_talkG hR5 ((hba.sta hS4).sta hS5) (by rw [hS5 5 (Or.inl (by decide)), hS4 5 (Or.inl (by decide))]; omega) (by rw [up2_a (by omega)]; exact hR5.2.1.2.2.2.2.2.2.1) h85
          have hPF : PO (s_way da c r (s_choiceOf d r)) := by rw [hw]; exact po_talks (po_add (po_add hPa hx5 (Or.inl rfl)) hx5 (Or.inr rfl))
          have hFF : Fr g (up2 (up2 (up2 (up2 (up2 (up2 ga (e + 3 + (d (99 + 7 * r + s_choiceOf d r)).toNat) 5 (bm (ga (e + 3 + (d (99 + 7 * r + s_choiceOf d r)).toNat) 5 + 1))) (e + 3 + (d (99 + 7 * r + s_choiceOf d r)).toNat) 6 (bm (ga (e + 3 + (d (99 + 7 * r + s_choiceOf d r)).toNat) 6 + 0))) (e + 35 + c) 9 ((d (99 + 7 * r + s_choiceOf d r)).toNat : Int)) (e + 35 + c) 1 5) (e + 35 + c) 10 ((up2 (up2 (up2 ga (e + 3 + (d (99 + 7 * r + s_choiceOf d r)).toNat) 5 (bm (ga (e + 3 + (d (99 + 7 * r + s_choiceOf d r)).toNat) 5 + 1))) (e + 3 + (d (99 + 7 * r + s_choiceOf d r)).toNat) 6 (bm (ga (e + 3 + (d (99 + 7 * r + s_choiceOf d r)).toNat) 6 + 0))) (e + 35 + c) 9 ((d (99 + 7 * r + s_choiceOf d r)).toNat : Int)) e 6)) (e + 35 + c) 12 ((up2 (up2 (up2 ga (e + 3 + (d (99 + 7 * r + s_choiceOf d r)).toNat) 5 (bm (ga (e + 3 + (d (99 + 7 * r + s_choiceOf d r)).toNat) 5 + 1))) (e + 3 + (d (99 + 7 * r + s_choiceOf d r)).toNat) 6 (bm (ga (e + 3 + (d (99 + 7 * r + s_choiceOf d r)).toNat) 6 + 0))) (e + 35 + c) 9 ((d (99 + 7 * r + s_choiceOf d r)).toNat : Int)) (e + 35 + c) 4)) e := (((hF.up (by omega) (by omega)).up (by omega) (by omega)).up (by omega) (by omega)).end hc40
          have hF12 : (up2 (up2 (up2 (up2 (up2 (up2 ga (e + 3 + (d (99 + 7 * r + s_choiceOf d r)).toNat) 5 (bm (ga (e + 3 + (d (99 + 7 * r + s_choiceOf d r)).toNat) 5 + 1))) (e + 3 + (d (99 + 7 * r + s_choiceOf d r)).toNat) 6 (bm (ga (e + 3 + (d (99 + 7 * r + s_choiceOf d r)).toNat) 6 + 0))) (e + 35 + c) 9 ((d (99 + 7 * r + s_choiceOf d r)).toNat : Int)) (e + 35 + c) 1 5) (e + 35 + c) 10 ((up2 (up2 (up2 ga (e + 3 + (d (99 + 7 * r + s_choiceOf d r)).toNat) 5 (bm (ga (e + 3 + (d (99 + 7 * r + s_choiceOf d r)).toNat) 5 + 1))) (e + 3 + (d (99 + 7 * r + s_choiceOf d r)).toNat) 6 (bm (ga (e + 3 + (d (99 + 7 * r + s_choiceOf d r)).toNat) 6 + 0))) (e + 35 + c) 9 ((d (99 + 7 * r + s_choiceOf d r)).toNat : Int)) e 6)) (e + 35 + c) 12 ((up2 (up2 (up2 ga (e + 3 + (d (99 + 7 * r + s_choiceOf d r)).toNat) 5 (bm (ga (e + 3 + (d (99 + 7 * r + s_choiceOf d r)).toNat) 5 + 1))) (e + 3 + (d (99 + 7 * r + s_choiceOf d r)).toNat) 6 (bm (ga (e + 3 + (d (99 + 7 * r + s_choiceOf d r)).toNat) 6 + 0))) (e + 35 + c) 9 ((d (99 + 7 * r + s_choiceOf d r)).toNat : Int)) (e + 35 + c) 4)) e 12 = g e 12 := by rw [up2_a (by omega), up2_a (by omega), up2_a (by omega), up2_a (by omega), up2_a (by omega), up2_a (by omega)]; exact hg
          exact j_vret dX1_takeTrunk_135 rfl (⟨rfl, rfl, by rw [hd] at hRF hPF; exact ⟨hRF, hPF, hFF, hF12⟩⟩)
        · refine j_iconst 110 dX1_takeTrunk_109 rfl ?_
          refine j_goto 114 dX1_takeTrunk_110 rfl ?_
          refine j_iadd 115 dX1_takeTrunk_114 rfl ?_
          refine j_nb ?_
          refine j_puti 118 dX1_takeTrunk_115 rfl fl_X1_287 (hE.gr (d (99 + 7 * r + s_choiceOf d r)).toNat (show (d (99 + 7 * r + s_choiceOf d r)).toNat < 5 by omega)) rfl rfl rfl (bm_r _) ?_
          refine j_mn (fun g_115 hg_115 => ?_)
          refine j_mem hg_115 ?_
          refine j_aload_n 119 3 dX1_takeTrunk_118 rfl rfl ?_
          refine j_aload 121 0 dX1_takeTrunk_119 rfl rfl ?_
          refine j_geti 124 dX1_takeTrunk_121 rfl fl_X1_133 (hE.gr (d (99 + 7 * r + s_choiceOf d r)).toNat (show (d (99 + 7 * r + s_choiceOf d r)).toNat < 5 by omega)) rfl rfl (fun r_121 => ?_)
          refine j_top (y := ((d (99 + 7 * r + s_choiceOf d r)).toNat : Int)) (by rw [up2_k (by decide), up2_k (by decide)]; exact hRa.1.1 _ (by omega)) ?_
          refine j_puti 127 dX1_takeTrunk_124 rfl fl_X1_187 (hE.cl c hc40) rfl rfl rfl (r32 (by omega) (by omega)) ?_
          refine j_mn (fun g_124 hg_124 => ?_)
          refine j_mem hg_124 ?_
          refine j_aload_n 128 3 dX1_takeTrunk_127 rfl rfl ?_
          refine j_aload_n 129 2 dX1_takeTrunk_128 rfl rfl ?_
          refine j_geti 132 dX1_takeTrunk_129 rfl fl_X1_74 hE.ex rfl rfl (fun r_129 => ?_)
          refine j_callV 135 (As := [.int (i32 ((up2 (up2 (up2 ga (e + 3 + (d (99 + 7 * r + s_choiceOf d r)).toNat) 5 (bm (ga (e + 3 + (d (99 + 7 * r + s_choiceOf d r)).toNat) 5 + 1))) (e + 3 + (d (99 + 7 * r + s_choiceOf d r)).toNat) 6 (bm (ga (e + 3 + (d (99 + 7 * r + s_choiceOf d r)).toNat) 6 + 1))) (e + 35 + c) 9 ((d (99 + 7 * r + s_choiceOf d r)).toNat : Int)) (e) 6))]) (kc2 := 0) (ks2 := 0) dX1_takeTrunk_132 rfl mvX0_beginToTalk lk_X1_260 (hE.cl c hc40) rfl ⟨Nat.le_of_ble_eq_true rfl, rfl⟩ rfl rfl (Nat.le_of_ble_eq_true rfl) ⟨Nat.le_of_ble_eq_true rfl, Nat.le_of_ble_eq_true rfl⟩ ⟨Nat.le_of_ble_eq_true rfl, Nat.le_of_ble_eq_true rfl⟩ (c_talk (hE.cl c hc40) r_129) x_d (k_d0 ?_)
          have hx5 : (d (99 + 7 * r + s_choiceOf d r)).toNat < 5 := by omega
          have hx3 : (((d (99 + 7 * r + s_choiceOf d r)).toNat : Nat) : Int) < da 3 := by omega
          have hxx : (((d (99 + 7 * r + s_choiceOf d r)).toNat : Nat) : Int) = d (99 + 7 * r + s_choiceOf d r) := by omega
          have hw : s_way da c r (s_choiceOf d r) = s_talks (s_addGroup (s_addGroup da (d (99 + 7 * r + s_choiceOf d r)).toNat 4 1) (d (99 + 7 * r + s_choiceOf d r)).toNat 5 1) c (-1) ((d (99 + 7 * r + s_choiceOf d r)).toNat : Int) := by unfold s_way; rw [if_neg (by rw [hS (98 + 7 * r) (by unfold kpI; omega)]; omega), h9s, if_pos (by omega), talks_add hx5 (by decide), talks_add hx5 (by decide), hxx]
          have G := hRa.2.2.2.1 (d (99 + 7 * r + s_choiceOf d r)).toNat hx3
          have hS4 : Sta da (s_addGroup da (d (99 + 7 * r + s_choiceOf d r)).toNat 4 1) := sta_addGroup Sta.rf hx5 (by decide) (by decide)
          have hS5 : Sta (s_addGroup da (d (99 + 7 * r + s_choiceOf d r)).toNat 4 1) (s_addGroup (s_addGroup da (d (99 + 7 * r + s_choiceOf d r)).toNat 4 1) (d (99 + 7 * r + s_choiceOf d r)).toNat 5 1) := sta_addGroup Sta.rf hx5 (by decide) (by decide)
          have hR4 : RelX (up2 ga (e + 3 + (d (99 + 7 * r + s_choiceOf d r)).toNat) 5 (bm (ga (e + 3 + (d (99 + 7 * r + s_choiceOf d r)).toNat) 5 + 1))) e (s_addGroup da (d (99 + 7 * r + s_choiceOf d r)).toNat 4 1) := by unfold s_addGroup; rw [G.2.2.2.1, show 54 + 9 * (d (99 + 7 * r + s_choiceOf d r)).toNat = 50 + 9 * (d (99 + 7 * r + s_choiceOf d r)).toNat + 4 by omega]; exact rel_grp4 hRa hba hx5 hx3
          have hv5 : ga (e + 3 + (d (99 + 7 * r + s_choiceOf d r)).toNat) 6 = (s_addGroup da (d (99 + 7 * r + s_choiceOf d r)).toNat 4 1) (50 + 9 * (d (99 + 7 * r + s_choiceOf d r)).toNat + 5) := by rw [G.2.2.2.2.1]; unfold s_addGroup; rw [ud_n (by omega), show 55 + 9 * (d (99 + 7 * r + s_choiceOf d r)).toNat = 50 + 9 * (d (99 + 7 * r + s_choiceOf d r)).toNat + 5 by omega]
          have hR5 : RelX (up2 (up2 ga (e + 3 + (d (99 + 7 * r + s_choiceOf d r)).toNat) 5 (bm (ga (e + 3 + (d (99 + 7 * r + s_choiceOf d r)).toNat) 5 + 1))) (e + 3 + (d (99 + 7 * r + s_choiceOf d r)).toNat) 6 (bm (ga (e + 3 + (d (99 + 7 * r + s_choiceOf d r)).toNat) 6 + 1))) e (s_addGroup (s_addGroup da (d (99 + 7 * r + s_choiceOf d r)).toNat 4 1) (d (99 + 7 * r + s_choiceOf d r)).toNat 5 1) := by rw [hv5]; unfold s_addGroup; exact rel_grp5 hR4 (hba.sta hS4) hx5 (by rw [hS4 3 (Or.inl (by decide))]; exact hx3)
          have h4l := hPa.1 c (by omega) (by rw [hst]; exact hst4)
          have h85 : (s_addGroup (s_addGroup da (d (99 + 7 * r + s_choiceOf d r)).toNat 4 1) (d (99 + 7 * r + s_choiceOf d r)).toNat 5 1) (174 + 14 * c) = -1 := by unfold s_addGroup; rw [ud_n (by omega), ud_n (by omega)]; exact h4l.1
          have hRF : RelX (up2 (up2 (up2 (up2 (up2 (up2 ga (e + 3 + (d (99 + 7 * r + s_choiceOf d r)).toNat) 5 (bm (ga (e + 3 + (d (99 + 7 * r + s_choiceOf d r)).toNat) 5 + 1))) (e + 3 + (d (99 + 7 * r + s_choiceOf d r)).toNat) 6 (bm (ga (e + 3 + (d (99 + 7 * r + s_choiceOf d r)).toNat) 6 + 1))) (e + 35 + c) 9 ((d (99 + 7 * r + s_choiceOf d r)).toNat : Int)) (e + 35 + c) 1 5) (e + 35 + c) 10 ((up2 (up2 (up2 ga (e + 3 + (d (99 + 7 * r + s_choiceOf d r)).toNat) 5 (bm (ga (e + 3 + (d (99 + 7 * r + s_choiceOf d r)).toNat) 5 + 1))) (e + 3 + (d (99 + 7 * r + s_choiceOf d r)).toNat) 6 (bm (ga (e + 3 + (d (99 + 7 * r + s_choiceOf d r)).toNat) 6 + 1))) (e + 35 + c) 9 ((d (99 + 7 * r + s_choiceOf d r)).toNat : Int)) e 6)) (e + 35 + c) 12 ((up2 (up2 (up2 ga (e + 3 + (d (99 + 7 * r + s_choiceOf d r)).toNat) 5 (bm (ga (e + 3 + (d (99 + 7 * r + s_choiceOf d r)).toNat) 5 + 1))) (e + 3 + (d (99 + 7 * r + s_choiceOf d r)).toNat) 6 (bm (ga (e + 3 + (d (99 + 7 * r + s_choiceOf d r)).toNat) 6 + 1))) (e + 35 + c) 9 ((d (99 + 7 * r + s_choiceOf d r)).toNat : Int)) (e + 35 + c) 4)) e (s_way da c r (s_choiceOf d r)) := by rw [hw, up2_k (k := 9) (j := 4) (by decide)]; exact rel_talkG hR5 ((hba.sta hS4).sta hS5) (by rw [hS5 5 (Or.inl (by decide)), hS4 5 (Or.inl (by decide))]; omega) (by rw [up2_a (by omega)]; exact hR5.2.1.2.2.2.2.2.2.1) h85
          have hPF : PO (s_way da c r (s_choiceOf d r)) := by rw [hw]; exact po_talks (po_add (po_add hPa hx5 (Or.inl rfl)) hx5 (Or.inr rfl))
          have hFF : Fr g (up2 (up2 (up2 (up2 (up2 (up2 ga (e + 3 + (d (99 + 7 * r + s_choiceOf d r)).toNat) 5 (bm (ga (e + 3 + (d (99 + 7 * r + s_choiceOf d r)).toNat) 5 + 1))) (e + 3 + (d (99 + 7 * r + s_choiceOf d r)).toNat) 6 (bm (ga (e + 3 + (d (99 + 7 * r + s_choiceOf d r)).toNat) 6 + 1))) (e + 35 + c) 9 ((d (99 + 7 * r + s_choiceOf d r)).toNat : Int)) (e + 35 + c) 1 5) (e + 35 + c) 10 ((up2 (up2 (up2 ga (e + 3 + (d (99 + 7 * r + s_choiceOf d r)).toNat) 5 (bm (ga (e + 3 + (d (99 + 7 * r + s_choiceOf d r)).toNat) 5 + 1))) (e + 3 + (d (99 + 7 * r + s_choiceOf d r)).toNat) 6 (bm (ga (e + 3 + (d (99 + 7 * r + s_choiceOf d r)).toNat) 6 + 1))) (e + 35 + c) 9 ((d (99 + 7 * r + s_choiceOf d r)).toNat : Int)) e 6)) (e + 35 + c) 12 ((up2 (up2 (up2 ga (e + 3 + (d (99 + 7 * r + s_choiceOf d r)).toNat) 5 (bm (ga (e + 3 + (d (99 + 7 * r + s_choiceOf d r)).toNat) 5 + 1))) (e + 3 + (d (99 + 7 * r + s_choiceOf d r)).toNat) 6 (bm (ga (e + 3 + (d (99 + 7 * r + s_choiceOf d r)).toNat) 6 + 1))) (e + 35 + c) 9 ((d (99 + 7 * r + s_choiceOf d r)).toNat : Int)) (e + 35 + c) 4)) e := (((hF.up (by omega) (by omega)).up (by omega) (by omega)).up (by omega) (by omega)).end hc40
          have hF12 : (up2 (up2 (up2 (up2 (up2 (up2 ga (e + 3 + (d (99 + 7 * r + s_choiceOf d r)).toNat) 5 (bm (ga (e + 3 + (d (99 + 7 * r + s_choiceOf d r)).toNat) 5 + 1))) (e + 3 + (d (99 + 7 * r + s_choiceOf d r)).toNat) 6 (bm (ga (e + 3 + (d (99 + 7 * r + s_choiceOf d r)).toNat) 6 + 1))) (e + 35 + c) 9 ((d (99 + 7 * r + s_choiceOf d r)).toNat : Int)) (e + 35 + c) 1 5) (e + 35 + c) 10 ((up2 (up2 (up2 ga (e + 3 + (d (99 + 7 * r + s_choiceOf d r)).toNat) 5 (bm (ga (e + 3 + (d (99 + 7 * r + s_choiceOf d r)).toNat) 5 + 1))) (e + 3 + (d (99 + 7 * r + s_choiceOf d r)).toNat) 6 (bm (ga (e + 3 + (d (99 + 7 * r + s_choiceOf d r)).toNat) 6 + 1))) (e + 35 + c) 9 ((d (99 + 7 * r + s_choiceOf d r)).toNat : Int)) e 6)) (e + 35 + c) 12 ((up2 (up2 (up2 ga (e + 3 + (d (99 + 7 * r + s_choiceOf d r)).toNat) 5 (bm (ga (e + 3 + (d (99 + 7 * r + s_choiceOf d r)).toNat) 5 + 1))) (e + 3 + (d (99 + 7 * r + s_choiceOf d r)).toNat) 6 (bm (ga (e + 3 + (d (99 + 7 * r + s_choiceOf d r)).toNat) 6 + 1))) (e + 35 + c) 9 ((d (99 + 7 * r + s_choiceOf d r)).toNat : Int)) (e + 35 + c) 4)) e 12 = g e 12 := by rw [up2_a (by omega), up2_a (by omega), up2_a (by omega), up2_a (by omega), up2_a (by omega), up2_a (by omega)]; exact hg
          exact j_vret dX1_takeTrunk_135 rfl (⟨rfl, rfl, by rw [hd] at hRF hPF; exact ⟨hRF, hPF, hFF, hF12⟩⟩)
      · have hkn : (k : Int) < d (98 + 7 * r) := by omega
        have T5 := T4 k hkn
        have h99 := hb.2.2.2.2.2.2.2.1 r k hr8 hkn
        have h993 := hb2.2.2.2.1 r k hr4 hkn
        have h9s : da (99 + 7 * r + k) = d (99 + 7 * r + k) := hS _ (by unfold kpI; omega)
        rw [h9s] at T5
        refine j_aload_n 26 2 dX1_takeTrunk_25 rfl rfl ?_
        refine j_aload_n 27 4 dX1_takeTrunk_26 rfl rfl ?_
        refine j_iload 29 0 dX1_takeTrunk_27 rfl rfl ?_
        refine j_callV 32 (As := [.int (i32 ((k : Int)))]) (kc2 := 0) (ks2 := 0) dX1_takeTrunk_29 rfl mvX6_choiceAt lk_X1_166 (hE.rt r hr8) rfl ⟨Nat.le_of_ble_eq_true rfl, rfl⟩ rfl rfl (Nat.le_of_ble_eq_true rfl) ⟨Nat.le_of_ble_eq_true rfl, Nat.le_of_ble_eq_true rfl⟩ ⟨Nat.le_of_ble_eq_true rfl, Nat.le_of_ble_eq_true rfl⟩ (c_choiceAt (hE.rt r hr8) (hE.ch r hr8) (by omega) (r32 (by omega) (by omega))) x_d (k_d1 ?_)
        refine j_top (y := d (99 + 7 * r + k)) (by rw [if_pos (by omega), Int.toNat_natCast]; exact T5) ?_
        refine j_callV 35 (As := [.int (i32 (d (99 + 7 * r + k)))]) (kc2 := 0) (ks2 := 0) dX1_takeTrunk_32 rfl mvX1_groupAt lk_X1_280 hE.ex rfl ⟨Nat.le_of_ble_eq_true rfl, rfl⟩ rfl rfl (Nat.le_of_ble_eq_true rfl) ⟨Nat.le_of_ble_eq_true rfl, Nat.le_of_ble_eq_true rfl⟩ ⟨Nat.le_of_ble_eq_true rfl, Nat.le_of_ble_eq_true rfl⟩ (c_groupAt1 hE (by omega) (r32 (by omega) (by omega)) (by omega)) x_d (k_d1 ?_)
        refine j_astore 37 (L2 := [(6, .ref (e + 3 + (d (99 + 7 * r + k)).toNat)), (5, .int (i32 ((k : Int)))), (4, .int (i32 ((s_choiceOf d r : Int)))), (0, .ref (e)), (1, .ref (e + 35 + c)), (2, .ref (e + 9 + 2 * r)), (3, .int (i32 (s_fc d r)))]) dX1_takeTrunk_35 rfl (Nat.le_of_ble_eq_true rfl) rfl ?_
        refine j_aload 39 0 dX1_takeTrunk_37 rfl rfl ?_
        refine j_ifnull 42 dX1_takeTrunk_39 rfl ?_
        refine j_aload 44 0 dX1_takeTrunk_42 rfl rfl ?_
        refine j_dup 45 dX1_takeTrunk_44 rfl rfl ?_
        refine j_geti 48 dX1_takeTrunk_45 rfl fl_X1_190 (hE.gr (d (99 + 7 * r + k)).toNat (show (d (99 + 7 * r + k)).toNat < 5 by omega)) rfl rfl (fun r_45 => ?_)
        refine j_iconst 49 dX1_takeTrunk_48 rfl ?_
        refine j_iadd 50 dX1_takeTrunk_49 rfl ?_
        refine j_nb ?_
        refine j_puti 53 dX1_takeTrunk_50 rfl fl_X1_190 (hE.gr (d (99 + 7 * r + k)).toNat (show (d (99 + 7 * r + k)).toNat < 5 by omega)) rfl rfl rfl (bm_r _) ?_
        refine j_mn (fun g_50 hg_50 => ?_)
        refine j_mem hg_50 ?_
        have hRn : RelX (up2 ga (e + 3 + (d (99 + 7 * r + k)).toNat) 4 (bm (ga (e + 3 + (d (99 + 7 * r + k)).toNat) 4 + 1))) e (s_ovF d r (k + 1)) := by rw [ovF_s, ← hd, h9s]; exact rel_ov hRa hba (by omega) (by omega) rfl
        have hPn : PO (s_ovF d r (k + 1)) := by rw [ovF_s, ← hd, h9s]; exact po_ov hPa (by omega) (by omega)
        have hFn : Fr g (up2 ga (e + 3 + (d (99 + 7 * r + k)).toNat) 4 (bm (ga (e + 3 + (d (99 + 7 * r + k)).toNat) 4 + 1))) e := hF.up (by omega) (by omega)
        have hgn : (up2 ga (e + 3 + (d (99 + 7 * r + k)).toNat) 4 (bm (ga (e + 3 + (d (99 + 7 * r + k)).toNat) 4 + 1))) e 12 = g e 12 := by rw [up2_a (by omega)]; exact hg
        refine j_iinc 56 1 (y := ((k + 1 : Nat) : Int)) (L2 := [(5, .int (i32 (((k + 1 : Nat) : Int)))), (6, .ref (e + 3 + (d (99 + 7 * r + k)).toNat)), (4, .int (i32 ((s_choiceOf d r : Int)))), (0, .ref (e)), (1, .ref (e + 35 + c)), (2, .ref (e + 9 + 2 * r)), (3, .int (i32 (s_fc d r)))]) dX1_takeTrunk_53 rfl rfl (by omega) (Nat.le_of_ble_eq_true rfl) rfl ?_
        refine j_goto 18 dX1_takeTrunk_56 rfl ?_
        refine j_sub [0, 2, 3, 4, 5, 6] rfl ?_
        exact ih_18 (k + 1) _ _ (by omega) (by omega) rfl hRn hPn hFn hgn
  · have heq : s_choiceOf d r = (d (98 + 7 * r)).toNat := Classical.byContradiction (fun q => by unfold s_fc at c_2; rw [if_neg q] at c_2; omega)
    have hfc : s_fc d r = -1 := if_pos heq
    refine j_aload_n 6 2 dX1_takeTrunk_5 rfl rfl ?_
    refine j_geti 9 dX1_takeTrunk_6 rfl fl_X1_277 (hE.rt r hr8) rfl rfl (fun r_6 => ?_)
    refine j_top (y := d (98 + 7 * r)) ((hR.2.2.2.2.1 r hr4).2.2.1) ?_
    refine j_goto 13 dX1_takeTrunk_9 rfl ?_
    refine j_top (y := (s_choiceOf d r : Int)) (by omega) ?_
    refine j_istore 15 (L2 := [(4, .int (i32 ((s_choiceOf d r : Int)))), (0, .ref (e)), (1, .ref (e + 35 + c)), (2, .ref (e + 9 + 2 * r)), (3, .int (i32 (s_fc d r)))]) dX1_takeTrunk_13 rfl (Nat.le_of_ble_eq_true rfl) rfl ?_
    refine j_iconst 16 dX1_takeTrunk_15 rfl ?_
    refine j_istore 18 (L2 := [(5, .int (i32 (0))), (4, .int (i32 ((s_choiceOf d r : Int)))), (0, .ref (e)), (1, .ref (e + 35 + c)), (2, .ref (e + 9 + 2 * r)), (3, .int (i32 (s_fc d r)))]) dX1_takeTrunk_16 rfl (Nat.le_of_ble_eq_true rfl) rfl ?_
    suffices lp_18 : ∀ (n_18 : Nat) (k : Nat) (da : Nat → Int) (ga : Mem), s_choiceOf d r - k < n_18 → k ≤ s_choiceOf d r → da = s_ovF d r k → RelX ga e da → PO da → Fr g ga e → ga e 12 = g e 12 → J w mX1_takeTrunk 18 [(5, .int (i32 ((k : Int)))), (4, .int (i32 ((s_choiceOf d r : Int)))), (0, .ref (e)), (1, .ref (e + 35 + c)), (2, .ref (e + 9 + 2 * r)), (3, .int (i32 (s_fc d r)))] [] sh ga 0 0 (vQ sh (fun g2 => RelX g2 e (s_way (s_ovF d r (s_choiceOf d r)) c r (s_choiceOf d r)) ∧ PO (s_way (s_ovF d r (s_choiceOf d r)) c r (s_choiceOf d r)) ∧ Fr g g2 e ∧ g2 e 12 = g e 12)) by
      exact lp_18 _ 0 d g (Nat.lt_succ_self _) (by omega) rfl hR hP Fr.rf rfl
    intro n_18
    induction n_18 with
    | zero => intro k da ga h_; exact absurd h_ (Nat.not_lt_zero _)
    | succ n_18 ih_18 =>
      intro k da ga hn_18 hk hd hRa hPa hF hg
      have hS : Sta d da := by rw [hd]; exact sta_ovF hr8 hb k (by omega)
      have hba : RB da := hb.sta hS
      have hb2a : RB2 da := hb2.sta hb hS
      have hrt := hRa.2.2.2.2.1 r (by rw [hS 4 (Or.inl (by decide))]; exact hr4)
      obtain ⟨T1, T2, T3, T4⟩ := hrt
      rw [hS (98 + 7 * r) (by unfold kpI; omega)] at T3 T4
      have hg3 : ga e 3 = d 3 := hRa.2.1.2.2.2.1.trans (hS 3 (Or.inl (by decide)))
      have hda3 : da 3 = d 3 := hS 3 (Or.inl (by decide))
      have hda5 : da 5 = d 5 := hS 5 (Or.inl (by decide))
      refine j_iload 20 0 dX1_takeTrunk_18 rfl rfl ?_
      refine j_iload 22 1 dX1_takeTrunk_20 rfl rfl ?_
      refine j_icmp_ge 25 59 dX1_takeTrunk_22 rfl rfl (r32 (by omega) (by omega)) (r32 (by omega) (by omega)) (fun c_22 => ?_) (fun c_22 => ?_)
      · have hk0 : k = s_choiceOf d r := by omega
        subst hk0
        have hst : da (173 + 14 * c) = d (173 + 14 * c) := by rw [hd]; exact ovF_call hr8 hb _ (by omega)
        refine j_aload_n 60 2 dX1_takeTrunk_59 rfl rfl ?_
        refine j_aload_n 61 4 dX1_takeTrunk_60 rfl rfl ?_
        refine j_iload_n 62 5 dX1_takeTrunk_61 rfl rfl ?_
        refine j_callV 65 (As := [.int (i32 (s_fc d r))]) (kc2 := 0) (ks2 := 0) dX1_takeTrunk_62 rfl mvX6_choiceAt lk_X1_166 (hE.rt r hr8) rfl ⟨Nat.le_of_ble_eq_true rfl, rfl⟩ rfl rfl (Nat.le_of_ble_eq_true rfl) ⟨Nat.le_of_ble_eq_true rfl, Nat.le_of_ble_eq_true rfl⟩ ⟨Nat.le_of_ble_eq_true rfl, Nat.le_of_ble_eq_true rfl⟩ (c_choiceAt (hE.rt r hr8) (hE.ch r hr8) (by omega) hfr) x_d (k_d1 ?_)
        refine j_top (y := -1) (by rw [if_neg (by omega)]) ?_
        refine j_callV 68 (As := [.int (i32 (-1))]) (kc2 := 0) (ks2 := 0) dX1_takeTrunk_65 rfl mvX1_groupAt lk_X1_280 hE.ex rfl ⟨Nat.le_of_ble_eq_true rfl, rfl⟩ rfl rfl (Nat.le_of_ble_eq_true rfl) ⟨Nat.le_of_ble_eq_true rfl, Nat.le_of_ble_eq_true rfl⟩ ⟨Nat.le_of_ble_eq_true rfl, Nat.le_of_ble_eq_true rfl⟩ (c_groupAt0 hE (by omega) (r32 (by decide) (by decide)) (by omega)) x_d (k_d1 ?_)
        refine j_astoreN 70 (L2 := [(5, .null), (4, .int (i32 ((s_choiceOf d r : Int)))), (0, .ref (e)), (1, .ref (e + 35 + c)), (2, .ref (e + 9 + 2 * r)), (3, .int (i32 (s_fc d r)))]) dX1_takeTrunk_68 rfl (Nat.le_of_ble_eq_true rfl) rfl ?_
        refine j_aloadN 72 0 dX1_takeTrunk_70 rfl rfl ?_
        refine j_ifnonnullN 75 dX1_takeTrunk_72 rfl ?_
        refine j_aload_n 76 3 dX1_takeTrunk_75 rfl rfl ?_
        refine j_bipush 78 dX1_takeTrunk_76 rfl (by decide) ?_
        refine j_aload_n 79 2 dX1_takeTrunk_78 rfl rfl ?_
        refine j_geti 82 dX1_takeTrunk_79 rfl fl_X1_74 hE.ex rfl rfl (fun r_79 => ?_)
        refine j_callV 85 (As := [.int (i32 (8)), .int (i32 (ga (e) 6))]) (kc2 := 0) (ks2 := 0) dX1_takeTrunk_82 rfl mvX0_end lk_X1_204 (hE.cl c hc40) rfl ⟨Nat.le_of_ble_eq_true rfl, rfl⟩ rfl rfl (Nat.le_of_ble_eq_true rfl) ⟨Nat.le_of_ble_eq_true rfl, Nat.le_of_ble_eq_true rfl⟩ ⟨Nat.le_of_ble_eq_true rfl, Nat.le_of_ble_eq_true rfl⟩ (c_end (hE.cl c hc40) (r32 (by decide) (by decide)) r_79) x_d (k_d0 ?_)
        have hw : s_way da c r (s_choiceOf d r) = s_isOver da c 8 := by unfold s_way; rw [if_pos (by rw [hS (98 + 7 * r) (by unfold kpI; omega)]; omega)]
        have hRF : RelX (up2 (up2 (up2 ga (e + 35 + c) 1 8) (e + 35 + c) 11 (ga e 6)) (e + 35 + c) 12 0) e (s_way da c r (s_choiceOf d r)) := by rw [hw]; exact rel_over hRa hba (by omega) hRa.2.1.2.2.2.2.2.2.1
        have hPF : PO (s_way da c r (s_choiceOf d r)) := by rw [hw]; exact po_over hPa (by decide)
        have hFF : Fr g (up2 (up2 (up2 ga (e + 35 + c) 1 8) (e + 35 + c) 11 (ga e 6)) (e + 35 + c) 12 0) e := hF.end hc40
        have hF12 : (up2 (up2 (up2 ga (e + 35 + c) 1 8) (e + 35 + c) 11 (ga e 6)) (e + 35 + c) 12 0) e 12 = g e 12 := by rw [up2_a (by omega), up2_a (by omega), up2_a (by omega)]; exact hg
        refine j_goto 135 dX1_takeTrunk_85 rfl ?_
        exact j_vret dX1_takeTrunk_135 rfl (⟨rfl, rfl, by rw [hd] at hRF hPF; exact ⟨hRF, hPF, hFF, hF12⟩⟩)
      · have hkn : (k : Int) < d (98 + 7 * r) := by omega
        have T5 := T4 k hkn
        have h99 := hb.2.2.2.2.2.2.2.1 r k hr8 hkn
        have h993 := hb2.2.2.2.1 r k hr4 hkn
        have h9s : da (99 + 7 * r + k) = d (99 + 7 * r + k) := hS _ (by unfold kpI; omega)
        rw [h9s] at T5
        refine j_aload_n 26 2 dX1_takeTrunk_25 rfl rfl ?_
        refine j_aload_n 27 4 dX1_takeTrunk_26 rfl rfl ?_
        refine j_iload 29 0 dX1_takeTrunk_27 rfl rfl ?_
        refine j_callV 32 (As := [.int (i32 ((k : Int)))]) (kc2 := 0) (ks2 := 0) dX1_takeTrunk_29 rfl mvX6_choiceAt lk_X1_166 (hE.rt r hr8) rfl ⟨Nat.le_of_ble_eq_true rfl, rfl⟩ rfl rfl (Nat.le_of_ble_eq_true rfl) ⟨Nat.le_of_ble_eq_true rfl, Nat.le_of_ble_eq_true rfl⟩ ⟨Nat.le_of_ble_eq_true rfl, Nat.le_of_ble_eq_true rfl⟩ (c_choiceAt (hE.rt r hr8) (hE.ch r hr8) (by omega) (r32 (by omega) (by omega))) x_d (k_d1 ?_)
        refine j_top (y := d (99 + 7 * r + k)) (by rw [if_pos (by omega), Int.toNat_natCast]; exact T5) ?_
        refine j_callV 35 (As := [.int (i32 (d (99 + 7 * r + k)))]) (kc2 := 0) (ks2 := 0) dX1_takeTrunk_32 rfl mvX1_groupAt lk_X1_280 hE.ex rfl ⟨Nat.le_of_ble_eq_true rfl, rfl⟩ rfl rfl (Nat.le_of_ble_eq_true rfl) ⟨Nat.le_of_ble_eq_true rfl, Nat.le_of_ble_eq_true rfl⟩ ⟨Nat.le_of_ble_eq_true rfl, Nat.le_of_ble_eq_true rfl⟩ (c_groupAt1 hE (by omega) (r32 (by omega) (by omega)) (by omega)) x_d (k_d1 ?_)
        refine j_astore 37 (L2 := [(6, .ref (e + 3 + (d (99 + 7 * r + k)).toNat)), (5, .int (i32 ((k : Int)))), (4, .int (i32 ((s_choiceOf d r : Int)))), (0, .ref (e)), (1, .ref (e + 35 + c)), (2, .ref (e + 9 + 2 * r)), (3, .int (i32 (s_fc d r)))]) dX1_takeTrunk_35 rfl (Nat.le_of_ble_eq_true rfl) rfl ?_
        refine j_aload 39 0 dX1_takeTrunk_37 rfl rfl ?_
        refine j_ifnull 42 dX1_takeTrunk_39 rfl ?_
        refine j_aload 44 0 dX1_takeTrunk_42 rfl rfl ?_
        refine j_dup 45 dX1_takeTrunk_44 rfl rfl ?_
        refine j_geti 48 dX1_takeTrunk_45 rfl fl_X1_190 (hE.gr (d (99 + 7 * r + k)).toNat (show (d (99 + 7 * r + k)).toNat < 5 by omega)) rfl rfl (fun r_45 => ?_)
        refine j_iconst 49 dX1_takeTrunk_48 rfl ?_
        refine j_iadd 50 dX1_takeTrunk_49 rfl ?_
        refine j_nb ?_
        refine j_puti 53 dX1_takeTrunk_50 rfl fl_X1_190 (hE.gr (d (99 + 7 * r + k)).toNat (show (d (99 + 7 * r + k)).toNat < 5 by omega)) rfl rfl rfl (bm_r _) ?_
        refine j_mn (fun g_50 hg_50 => ?_)
        refine j_mem hg_50 ?_
        have hRn : RelX (up2 ga (e + 3 + (d (99 + 7 * r + k)).toNat) 4 (bm (ga (e + 3 + (d (99 + 7 * r + k)).toNat) 4 + 1))) e (s_ovF d r (k + 1)) := by rw [ovF_s, ← hd, h9s]; exact rel_ov hRa hba (by omega) (by omega) rfl
        have hPn : PO (s_ovF d r (k + 1)) := by rw [ovF_s, ← hd, h9s]; exact po_ov hPa (by omega) (by omega)
        have hFn : Fr g (up2 ga (e + 3 + (d (99 + 7 * r + k)).toNat) 4 (bm (ga (e + 3 + (d (99 + 7 * r + k)).toNat) 4 + 1))) e := hF.up (by omega) (by omega)
        have hgn : (up2 ga (e + 3 + (d (99 + 7 * r + k)).toNat) 4 (bm (ga (e + 3 + (d (99 + 7 * r + k)).toNat) 4 + 1))) e 12 = g e 12 := by rw [up2_a (by omega)]; exact hg
        refine j_iinc 56 1 (y := ((k + 1 : Nat) : Int)) (L2 := [(5, .int (i32 (((k + 1 : Nat) : Int)))), (6, .ref (e + 3 + (d (99 + 7 * r + k)).toNat)), (4, .int (i32 ((s_choiceOf d r : Int)))), (0, .ref (e)), (1, .ref (e + 35 + c)), (2, .ref (e + 9 + 2 * r)), (3, .int (i32 (s_fc d r)))]) dX1_takeTrunk_53 rfl rfl (by omega) (Nat.le_of_ble_eq_true rfl) rfl ?_
        refine j_goto 18 dX1_takeTrunk_56 rfl ?_
        refine j_sub [0, 2, 3, 4, 5, 6] rfl ?_
        exact ih_18 (k + 1) _ _ (by omega) (by omega) rfl hRn hPn hFn hgn
