/-! hanging up: register and markers are freed, the call is over -/
def unmN (d : Nat → Int) (c : Nat) (n : Nat) : Nat → Int := fun j => if 163 ≤ j ∧ j < 163 + 2 * n ∧ d (163 + 2 * ((j - 163) / 2)) = (c : Int) then (if (j - 163) % 2 = 0 then -1 else 0) else d j
def s_hang (d : Nat → Int) (c : Nat) : Nat → Int := s_isOver (unmN (s_freeReg d c) c 3) c 11
section HANG
variable {d : Nat → Int} {c : Nat}
theorem unm_0 : unmN d c 0 = d := funext fun j => by unfold unmN; rw [if_neg (by omega)]
theorem unm_out {n j : Nat} (h : j < 163 ∨ 163 + 2 * n ≤ j) : unmN d c n j = d j := by unfold unmN; rw [if_neg (by omega)]
theorem unm_y {k : Nat} (h : d (163 + 2 * k) = (c : Int)) : unmN d c (k + 1) = ud (ud (unmN d c k) (163 + 2 * k) (-1)) (164 + 2 * k) 0 := funext fun j => by
  by_cases h1 : j = 164 + 2 * k
  · subst h1; rw [ud_s]; unfold unmN; rw [if_pos ⟨by omega, by omega, by rw [show (164 + 2 * k - 163) / 2 = k by omega]; exact h⟩, if_neg (by omega)]
  · rw [ud_n h1]
    by_cases h2 : j = 163 + 2 * k
    · subst h2; rw [ud_s]; unfold unmN; rw [if_pos ⟨by omega, by omega, by rw [show (163 + 2 * k - 163) / 2 = k by omega]; exact h⟩, if_pos (by omega)]
    · rw [ud_n h2]
      unfold unmN
      by_cases h3 : 163 ≤ j ∧ j < 163 + 2 * k ∧ d (163 + 2 * ((j - 163) / 2)) = (c : Int)
      · rw [if_pos h3, if_pos ⟨h3.1, by omega, h3.2.2⟩]
      · rw [if_neg h3, if_neg (fun q => h3 ⟨q.1, by omega, q.2.2⟩)]
theorem unm_n {k : Nat} (h : ¬ d (163 + 2 * k) = (c : Int)) : unmN d c (k + 1) = unmN d c k := funext fun j => by
  unfold unmN
  by_cases h3 : 163 ≤ j ∧ j < 163 + 2 * k ∧ d (163 + 2 * ((j - 163) / 2)) = (c : Int)
  · rw [if_pos h3, if_pos ⟨h3.1, by omega, h3.2.2⟩]
  · rw [if_neg h3, if_neg]
    intro q
    have : (j - 163) / 2 = k := by omega
    rw [this] at q
    exact h q.2.2
theorem sta_unm {n : Nat} (hn : n ≤ 3) : Sta d (unmN d c n) := fun i hi => by
  refine unm_out ?_
  unfold kpI at hi
  omega
theorem po_unm {n : Nat} (hn : n ≤ 3) (h : PO d) : PO (unmN d c n) :=
  h.up (unm_out (by omega)) (unm_out (by omega)) (unm_out (by omega)) (fun x hx => unm_out (by omega)) (fun c2 hc2 => Or.inl ⟨unm_out (by omega), unm_out (by omega), unm_out (by omega)⟩)
theorem freeReg_n {i : Nat} (hr : (d (179 + 14 * c)).toNat < 4) (h : i < 151 ∨ 163 ≤ i) (h2 : i ≠ 179 + 14 * c) : s_freeReg d c i = d i := by
  unfold s_freeReg
  split
  · rfl
  · rw [ud_n h2, ud_n (by omega), ud_n (by omega), ud_n (by omega)]
theorem Inv.hang (h : Inv d) (hc5 : (c : Int) < d 5) : Inv (s_hang d c) := by
  have hI := h
  obtain ⟨hb, hb2, gr, gc, gm, gu⟩ := h
  obtain ⟨a1, a2, a3⟩ := gc c hc5
  have hr4 : (d (179 + 14 * c)).toNat < 4 := by
    rcases a3 with q | ⟨r, r1, r2, r3⟩
    · rw [q.1]; decide
    · rw [r2, Int.toNat_natCast]; exact r1
  have hn : ∀ i, (i < 151 ∨ 169 ≤ i) → i ≠ 173 + 14 * c → i ≠ 177 + 14 * c → i ≠ 178 + 14 * c → i ≠ 179 + 14 * c → s_hang d c i = d i := fun i h1 h2 h3 h4 h5 => by
    unfold s_hang
    rw [isOver_n h2 h3 h4, unm_out (by omega), freeReg_n hr4 (by omega) h5]
  have h4 : s_hang d c (173 + 14 * c) = 11 := isOver_4
  have h9 : s_hang d c (178 + 14 * c) = 0 := by unfold s_hang s_isOver; exact ud_s
  have h10 : s_hang d c (179 + 14 * c) = -1 := by
    unfold s_hang
    rw [isOver_n (by omega) (by omega) (by omega), unm_out (by omega)]
    unfold s_freeReg
    split
    · next q => exact q
    · exact ud_s
  have hS : Sta d (s_hang d c) := sta_isOver ((sta_freeReg Sta.rf hr4).tr (sta_unm (by omega)))
  refine hI.release (c0 := c) hS (fun r hr => ?_) (fun k hk => ?_) (fun c2 hc2 => ⟨hn _ (by omega) (by omega) (by omega) (by omega) (by omega), hn _ (by omega) (by omega) (by omega) (by omega) (by omega), hn _ (by omega) (by omega) (by omega) (by omega) (by omega)⟩) h10 (by rw [h4]; decide) (by rw [h4]; decide) (by rw [h4]; intro q; exact absurd q (by decide))
  · have e1 : ∀ i, 151 ≤ i → i < 163 → s_hang d c i = s_freeReg d c i := fun i h1 h2 => by
      unfold s_hang
      rw [isOver_n (by omega) (by omega) (by omega), unm_out (by omega)]
    rw [e1 _ (by omega) (by omega), e1 _ (by omega) (by omega), e1 _ (by omega) (by omega)]
    rcases a3 with q | ⟨r2, r1, r3, r4⟩
    · refine Or.inr ⟨(hI.nowhere q.2).1 r hr, ?_⟩
      unfold s_freeReg
      rw [if_pos q.1]
      exact ⟨rfl, rfl, rfl⟩
    · rw [freeReg_spec r3]
      by_cases e : r = r2
      · subst e
        refine Or.inl ⟨r4, ?_, ?_, ?_⟩
        · rw [ud_n (by omega), ud_n (by omega), ud_n (by omega), ud_s]
        · rw [ud_n (by omega), ud_n (by omega), ud_s]
        · rw [ud_n (by omega), ud_s]
      · refine Or.inr ⟨fun q => ?_, ?_, ?_, ?_⟩
        · rcases gr r hr with z | ⟨c3, z1, z2⟩
          · omega
          · have e3 : c3 = c := by omega
            subst e3
            have := z2.2.2.1
            omega
        · rw [ud_n (by omega), ud_n (by omega), ud_n (by omega), ud_n (by omega)]
        · rw [ud_n (by omega), ud_n (by omega), ud_n (by omega), ud_n (by omega)]
        · rw [ud_n (by omega), ud_n (by omega), ud_n (by omega), ud_n (by omega)]
  · have e1 : ∀ i, 163 ≤ i → i < 169 → s_freeReg d c i = d i := fun i h1 h2 => freeReg_n hr4 (by omega) (by omega)
    have e2 : s_hang d c (163 + 2 * k) = unmN (s_freeReg d c) c 3 (163 + 2 * k) := by unfold s_hang; rw [isOver_n (by omega) (by omega) (by omega)]
    have e3 : s_hang d c (164 + 2 * k) = unmN (s_freeReg d c) c 3 (164 + 2 * k) := by unfold s_hang; rw [isOver_n (by omega) (by omega) (by omega)]
    rw [e2, e3]
    unfold unmN
    rw [show (163 + 2 * k - 163) / 2 = k by omega, show (164 + 2 * k - 163) / 2 = k by omega, e1 (163 + 2 * k) (by omega) (by omega), e1 (164 + 2 * k) (by omega) (by omega)]
    by_cases q : d (163 + 2 * k) = (c : Int)
    · exact Or.inl ⟨q, by rw [if_pos ⟨by omega, by omega, q⟩, if_pos (by omega)], by rw [if_pos ⟨by omega, by omega, q⟩, if_neg (by omega)]⟩
    · exact Or.inr ⟨q, by rw [if_neg (fun z => q z.2.2)], by rw [if_neg (fun z => q z.2.2)]⟩
theorem rel_unm {g : Mem} {e k : Nat} {d1 : Nat → Int} (h : RelX g e d1) (hb : RB d1) (hk : k < 3) : RelX (up2 (up2 g (e + 31 + k) 1 (-1)) (e + 31 + k) 2 0) e (ud (ud d1 (163 + 2 * k) (-1)) (164 + 2 * k) 0) := by
  refine h.mark hb ((Sta.rf.ud (kp_reg (by omega) (by omega))).ud (kp_reg (by omega) (by omega))) hk (fun a ha => funext fun j => by rw [up2_a ha, up2_a ha]) (by rw [up2_k (by decide), up2_k (by decide)]) (fun i hi _ => by rw [ud_n (by omega), ud_n (by omega)]) ⟨?_, ?_⟩
  · rw [up2_k (by decide), up2_s, ud_n (by omega), ud_s]
  · rw [up2_s, ud_s]
end HANG

set_option maxRecDepth 20000 in
theorem c_hangUp0 {w : Wd} {sh : Shp} {g : Mem} {e c : Nat} {d : Nat → Int} (hE : ExS sh.1 e) (hK : KX g e d) (hc5 : (c : Int) < d 5) (hc40 : c < 40) (h9 : d (179 + 14 * c) = -1) : CT w mX1_hangUp [.ref (e), .ref (e + 35 + c)] sh g (vQ sh (fun g2 => KX g2 e (s_hang d c) ∧ Fr g g2 e ∧ g2 e 12 = g e 12)) := by
  obtain ⟨hX, hI, hP⟩ := hK
  have hb := hI.1
  have hb2 := hI.2.1
  have hci : g (e + 35 + c) 0 = (c : Int) := hX.1.2.2.2.2 c hc40
  have hg0 : g e 0 = d 0 := hX.2.1.1
  have hd0 := hb.1
  refine j_entry (by decide) rfl (Nat.le_of_ble_eq_true rfl) (fun h => by cases h) rfl ?_
  show J w mX1_hangUp 0 [(0, .ref (e)), (1, .ref (e + 35 + c))] [] sh g 0 0 _
  refine j_aload_n 1 0 dX1_hangUp_0 rfl rfl ?_
  refine j_aload_n 2 1 dX1_hangUp_1 rfl rfl ?_
  refine j_callV 5 (As := [.ref (e + 35 + c)]) (kc2 := 0) (ks2 := 0) dX1_hangUp_2 rfl mvX1_freeRegisterOf lk_X1_200 hE.ex rfl ⟨Nat.le_of_ble_eq_true rfl, rfl⟩ rfl rfl (Nat.le_of_ble_eq_true rfl) ⟨Nat.le_of_ble_eq_true rfl, Nat.le_of_ble_eq_true rfl⟩ ⟨Nat.le_of_ble_eq_true rfl, Nat.le_of_ble_eq_true rfl⟩ (c_freeRegisterOf0 hE hX.1 (hE.cl c hc40) (by omega) (by rw [hci, rel_registerOf hX hI hc5]; exact h9)) x_d (k_d0 ?_)
  have hd1 : (s_freeReg d c) = d := if_pos h9
  have hS1 : Sta d (s_freeReg d c) := by rw [hd1]; exact Sta.rf
  have hR1 : RelX g e (s_freeReg d c) := by rw [hd1]; exact hX
  have hP1 : PO (s_freeReg d c) := by rw [hd1]; exact hP
  have hF1 : Fr g g e := Fr.rf
  have hF12 : g e 12 = g e 12 := rfl
  refine j_aload_n 6 0 dX1_hangUp_5 rfl rfl ?_
  refine j_getr 9 dX1_hangUp_6 rfl fl_X1_40 hE.ex rfl (fun _ _ => rfl) rfl ?_
  refine j_astore_n 10 (L2 := [(2, .ref (e + 30)), (0, .ref (e)), (1, .ref (e + 35 + c))]) dX1_hangUp_9 rfl rfl (Nat.le_of_ble_eq_true rfl) rfl ?_
  refine j_aload_n 11 0 dX1_hangUp_10 rfl rfl ?_
  refine j_alen 12 dX1_hangUp_11 rfl hE.mks (Nat.le_of_ble_eq_true rfl) rfl ?_
  refine j_top (y := 3) rfl ?_
  refine j_istore_n 13 (L2 := [(3, .int (i32 (3))), (2, .ref (e + 30)), (0, .ref (e)), (1, .ref (e + 35 + c))]) dX1_hangUp_12 rfl rfl (Nat.le_of_ble_eq_true rfl) rfl ?_
  refine j_iconst 14 dX1_hangUp_13 rfl ?_
  refine j_istore 16 (L2 := [(4, .int (i32 (0))), (3, .int (i32 (3))), (2, .ref (e + 30)), (0, .ref (e)), (1, .ref (e + 35 + c))]) dX1_hangUp_14 rfl (Nat.le_of_ble_eq_true rfl) rfl ?_
  suffices lp_16 : ∀ (n_16 : Nat) (k : Nat) (ga : Mem), 3 - k < n_16 → k ≤ 3 → RelX ga e (unmN (s_freeReg d c) c k) → Fr g ga e → ga e 12 = g e 12 → J w mX1_hangUp 16 [(4, .int (i32 ((k : Int)))), (3, .int (i32 (3))), (2, .ref (e + 30)), (0, .ref (e)), (1, .ref (e + 35 + c))] [] sh ga 0 0 (vQ sh (fun g2 => KX g2 e (s_hang d c) ∧ Fr g g2 e ∧ g2 e 12 = g e 12)) by
    exact lp_16 _ 0 g (Nat.lt_succ_self _) (by omega) (by rw [unm_0]; exact hR1) hF1 hF12
  intro n_16
  induction n_16 with
  | zero => intro k ga h_; exact absurd h_ (Nat.not_lt_zero _)
  | succ n_16 ih_16 =>
    intro k ga hn_16 hk hRa hFa h12
    have hca : ga (e + 35 + c) 0 = (c : Int) := hRa.1.2.2.2.2 c hc40
    have hSa : Sta d (unmN (s_freeReg d c) c k) := hS1.tr (sta_unm hk)
    have hba := hb.sta hSa
    refine j_iload 18 0 dX1_hangUp_16 rfl rfl ?_
    refine j_iload_n 19 1 dX1_hangUp_18 rfl rfl ?_
    refine j_icmp_ge 22 53 dX1_hangUp_19 rfl rfl (r32 (by omega) (by omega)) (r32 (by decide) (by decide)) (fun c_19 => ?_) (fun c_19 => ?_)
    · refine j_aload_n 54 4 dX1_hangUp_53 rfl rfl ?_
      refine j_bipush 56 dX1_hangUp_54 rfl (by decide) ?_
      refine j_aload_n 57 3 dX1_hangUp_56 rfl rfl ?_
      refine j_geti 60 dX1_hangUp_57 rfl fl_X1_74 hE.ex rfl rfl (fun r_57 => ?_)
      refine j_callV 63 (As := [.int (i32 (11)), .int (i32 (ga (e) 6))]) (kc2 := 0) (ks2 := 0) dX1_hangUp_60 rfl mvX0_end lk_X1_204 (hE.cl c hc40) rfl ⟨Nat.le_of_ble_eq_true rfl, rfl⟩ rfl rfl (Nat.le_of_ble_eq_true rfl) ⟨Nat.le_of_ble_eq_true rfl, Nat.le_of_ble_eq_true rfl⟩ ⟨Nat.le_of_ble_eq_true rfl, Nat.le_of_ble_eq_true rfl⟩ (c_end (hE.cl c hc40) (r32 (by decide) (by decide)) r_57) x_d (k_d0 ?_)
      exact j_vret dX1_hangUp_63 rfl (⟨rfl, rfl, ⟨by have h3 : k = 3 := (by omega); subst h3; exact rel_over hRa hba (by rw [hSa 5 (Or.inl (by decide))]; exact hc5) hRa.2.1.2.2.2.2.2.2.1, hI.hang hc5, po_over (po_unm (by omega) hP1) (by decide)⟩, (hFa.end hc40), by rw [up2_a (by omega), up2_a (by omega), up2_a (by omega)]; exact h12⟩)
    · refine j_aload_n 23 2 dX1_hangUp_22 rfl rfl ?_
      refine j_iload 25 0 dX1_hangUp_23 rfl rfl ?_
      refine j_aald 26 k dX1_hangUp_25 rfl hE.mks (Nat.le_of_ble_eq_true rfl) rfl rfl rfl (show k < 3 by omega) rfl ?_
      refine j_astore 28 (L2 := [(5, .ref (e + 31 + k)), (4, .int (i32 ((k : Int)))), (3, .int (i32 (3))), (2, .ref (e + 30)), (0, .ref (e)), (1, .ref (e + 35 + c))]) dX1_hangUp_26 rfl (Nat.le_of_ble_eq_true rfl) rfl ?_
      refine j_aload 30 0 dX1_hangUp_28 rfl rfl ?_
      refine j_geti 33 dX1_hangUp_30 rfl fl_X1_203 (hE.mk k (show k < 3 by omega)) rfl rfl (fun r_30 => ?_)
      refine j_aload_n 34 5 dX1_hangUp_33 rfl rfl ?_
      refine j_geti 37 dX1_hangUp_34 rfl fl_X1_130 (hE.cl c hc40) rfl rfl (fun r_34 => ?_)
      have hMk := (hRa.2.2.2.2.2.2.1 k (by omega)).1
      have hmo : unmN (s_freeReg d c) c k (163 + 2 * k) = (s_freeReg d c) (163 + 2 * k) := unm_out (by omega)
      refine j_icmp_ne 40 47 dX1_hangUp_37 rfl rfl r_30 r_34 (fun c_37 => ?_) (fun c_37 => ?_)
      · have hRn : RelX ga e (unmN (s_freeReg d c) c (k + 1)) := by rw [unm_n (by omega)]; exact hRa
        have hFn := hFa
        have h12n := h12
        refine j_iinc 50 1 (y := ((k + 1 : Nat) : Int)) (L2 := [(4, .int (i32 (((k + 1 : Nat) : Int)))), (5, .ref (e + 31 + k)), (3, .int (i32 (3))), (2, .ref (e + 30)), (0, .ref (e)), (1, .ref (e + 35 + c))]) dX1_hangUp_47 rfl rfl (by omega) (Nat.le_of_ble_eq_true rfl) rfl ?_
        refine j_goto 16 dX1_hangUp_50 rfl ?_
        refine j_sub [0, 2, 3, 4, 5] rfl ?_
        exact ih_16 (k + 1) _ (by omega) (by omega) hRn hFn h12n
      · refine j_aload 42 0 dX1_hangUp_40 rfl rfl ?_
        refine j_iconst 43 dX1_hangUp_42 rfl ?_
        refine j_iconst 44 dX1_hangUp_43 rfl ?_
        refine j_callV 47 (As := [.int (i32 (-1)), .int (i32 (0))]) (kc2 := 0) (ks2 := 0) dX1_hangUp_44 rfl mvX4_serve lk_X1_99 (hE.mk k (show k < 3 by omega)) rfl ⟨Nat.le_of_ble_eq_true rfl, rfl⟩ rfl rfl (Nat.le_of_ble_eq_true rfl) ⟨Nat.le_of_ble_eq_true rfl, Nat.le_of_ble_eq_true rfl⟩ ⟨Nat.le_of_ble_eq_true rfl, Nat.le_of_ble_eq_true rfl⟩ (c_serveM (hE.mk k (by omega)) (r32 (by decide) (by decide)) (r32 (by decide) (by decide))) x_d (k_d0 ?_)
        have hRn : RelX (up2 (up2 ga (e + 31 + k) 1 (-1)) (e + 31 + k) 2 0) e (unmN (s_freeReg d c) c (k + 1)) := by rw [unm_y (by omega)]; exact rel_unm hRa hba (by omega)
        have hFn : Fr g (up2 (up2 ga (e + 31 + k) 1 (-1)) (e + 31 + k) 2 0) e := (hFa.up (by omega) (by omega)).up (by omega) (by omega)
        have h12n : (up2 (up2 ga (e + 31 + k) 1 (-1)) (e + 31 + k) 2 0) e 12 = g e 12 := by rw [up2_a (by omega), up2_a (by omega)]; exact h12
        refine j_iinc 50 1 (y := ((k + 1 : Nat) : Int)) (L2 := [(4, .int (i32 (((k + 1 : Nat) : Int)))), (5, .ref (e + 31 + k)), (3, .int (i32 (3))), (2, .ref (e + 30)), (0, .ref (e)), (1, .ref (e + 35 + c))]) dX1_hangUp_47 rfl rfl (by omega) (Nat.le_of_ble_eq_true rfl) rfl ?_
        refine j_goto 16 dX1_hangUp_50 rfl ?_
        refine j_sub [0, 2, 3, 4, 5] rfl ?_
        exact ih_16 (k + 1) _ (by omega) (by omega) hRn hFn h12n

set_option maxRecDepth 20000 in
theorem c_hangUp1 {w : Wd} {sh : Shp} {g : Mem} {e c : Nat} {d : Nat → Int} (hE : ExS sh.1 e) (hK : KX g e d) (hc5 : (c : Int) < d 5) (hc40 : c < 40) {r : Nat} (hr : r < 4) (hr0 : (r : Int) < d 0) (h9 : d (179 + 14 * c) = (r : Int)) : CT w mX1_hangUp [.ref (e), .ref (e + 35 + c)] sh g (vQ sh (fun g2 => KX g2 e (s_hang d c) ∧ Fr g g2 e ∧ g2 e 12 = g e 12)) := by
  obtain ⟨hX, hI, hP⟩ := hK
  have hb := hI.1
  have hb2 := hI.2.1
  have hci : g (e + 35 + c) 0 = (c : Int) := hX.1.2.2.2.2 c hc40
  have hg0 : g e 0 = d 0 := hX.2.1.1
  have hd0 := hb.1
  have hro : x_registerOf g e (g (e + 35 + c) 0) = (r : Int) := by rw [hci, rel_registerOf hX hI hc5]; exact h9
  refine j_entry (by decide) rfl (Nat.le_of_ble_eq_true rfl) (fun h => by cases h) rfl ?_
  show J w mX1_hangUp 0 [(0, .ref (e)), (1, .ref (e + 35 + c))] [] sh g 0 0 _
  refine j_aload_n 1 0 dX1_hangUp_0 rfl rfl ?_
  refine j_aload_n 2 1 dX1_hangUp_1 rfl rfl ?_
  refine j_callV 5 (As := [.ref (e + 35 + c)]) (kc2 := 0) (ks2 := 0) dX1_hangUp_2 rfl mvX1_freeRegisterOf lk_X1_200 hE.ex rfl ⟨Nat.le_of_ble_eq_true rfl, rfl⟩ rfl rfl (Nat.le_of_ble_eq_true rfl) ⟨Nat.le_of_ble_eq_true rfl, Nat.le_of_ble_eq_true rfl⟩ ⟨Nat.le_of_ble_eq_true rfl, Nat.le_of_ble_eq_true rfl⟩ ((by have h := c_freeRegisterOf1 (w := w) hE hX.1 (hE.cl c hc40) (by omega) (by rw [hro]; omega); rw [hro, Int.toNat_natCast] at h; exact h)) x_d (k_d0 ?_)
  have hS1 : Sta d (s_freeReg d c) := sta_freeReg Sta.rf (by rw [h9, Int.toNat_natCast]; exact hr)
  have hR1 : RelX (up2 (up2 (up2 g (e + 26 + r) 1 (-1)) (e + 26 + r) 2 1) (e + 26 + r) 3 0) e (s_freeReg d c) := rel_free hX hb hr h9
  have hP1 : PO (s_freeReg d c) := po_free hP (by rw [h9, Int.toNat_natCast]; exact hr)
  have hF1 : Fr g (up2 (up2 (up2 g (e + 26 + r) 1 (-1)) (e + 26 + r) 2 1) (e + 26 + r) 3 0) e := (Fr.rf).end26 hr
  have hF12 : (up2 (up2 (up2 g (e + 26 + r) 1 (-1)) (e + 26 + r) 2 1) (e + 26 + r) 3 0) e 12 = g e 12 := by rw [up2_a (by omega), up2_a (by omega), up2_a (by omega)]
  refine j_aload_n 6 0 dX1_hangUp_5 rfl rfl ?_
  refine j_getr 9 dX1_hangUp_6 rfl fl_X1_40 hE.ex rfl (fun _ _ => rfl) rfl ?_
  refine j_astore_n 10 (L2 := [(2, .ref (e + 30)), (0, .ref (e)), (1, .ref (e + 35 + c))]) dX1_hangUp_9 rfl rfl (Nat.le_of_ble_eq_true rfl) rfl ?_
  refine j_aload_n 11 0 dX1_hangUp_10 rfl rfl ?_
  refine j_alen 12 dX1_hangUp_11 rfl hE.mks (Nat.le_of_ble_eq_true rfl) rfl ?_
  refine j_top (y := 3) rfl ?_
  refine j_istore_n 13 (L2 := [(3, .int (i32 (3))), (2, .ref (e + 30)), (0, .ref (e)), (1, .ref (e + 35 + c))]) dX1_hangUp_12 rfl rfl (Nat.le_of_ble_eq_true rfl) rfl ?_
  refine j_iconst 14 dX1_hangUp_13 rfl ?_
  refine j_istore 16 (L2 := [(4, .int (i32 (0))), (3, .int (i32 (3))), (2, .ref (e + 30)), (0, .ref (e)), (1, .ref (e + 35 + c))]) dX1_hangUp_14 rfl (Nat.le_of_ble_eq_true rfl) rfl ?_
  suffices lp_16 : ∀ (n_16 : Nat) (k : Nat) (ga : Mem), 3 - k < n_16 → k ≤ 3 → RelX ga e (unmN (s_freeReg d c) c k) → Fr g ga e → ga e 12 = g e 12 → J w mX1_hangUp 16 [(4, .int (i32 ((k : Int)))), (3, .int (i32 (3))), (2, .ref (e + 30)), (0, .ref (e)), (1, .ref (e + 35 + c))] [] sh ga 0 0 (vQ sh (fun g2 => KX g2 e (s_hang d c) ∧ Fr g g2 e ∧ g2 e 12 = g e 12)) by
    exact lp_16 _ 0 (up2 (up2 (up2 g (e + 26 + r) 1 (-1)) (e + 26 + r) 2 1) (e + 26 + r) 3 0) (Nat.lt_succ_self _) (by omega) (by rw [unm_0]; exact hR1) hF1 hF12
  intro n_16
  induction n_16 with
  | zero => intro k ga h_; exact absurd h_ (Nat.not_lt_zero _)
  | succ n_16 ih_16 =>
    intro k ga hn_16 hk hRa hFa h12
    have hca : ga (e + 35 + c) 0 = (c : Int) := hRa.1.2.2.2.2 c hc40
    have hSa : Sta d (unmN (s_freeReg d c) c k) := hS1.tr (sta_unm hk)
    have hba := hb.sta hSa
    refine j_iload 18 0 dX1_hangUp_16 rfl rfl ?_
    refine j_iload_n 19 1 dX1_hangUp_18 rfl rfl ?_
    refine j_icmp_ge 22 53 dX1_hangUp_19 rfl rfl (r32 (by omega) (by omega)) (r32 (by decide) (by decide)) (fun c_19 => ?_) (fun c_19 => ?_)
    · refine j_aload_n 54 4 dX1_hangUp_53 rfl rfl ?_
      refine j_bipush 56 dX1_hangUp_54 rfl (by decide) ?_
      refine j_aload_n 57 3 dX1_hangUp_56 rfl rfl ?_
      refine j_geti 60 dX1_hangUp_57 rfl fl_X1_74 hE.ex rfl rfl (fun r_57 => ?_)
      refine j_callV 63 (As := [.int (i32 (11)), .int (i32 (ga (e) 6))]) (kc2 := 0) (ks2 := 0) dX1_hangUp_60 rfl mvX0_end lk_X1_204 (hE.cl c hc40) rfl ⟨Nat.le_of_ble_eq_true rfl, rfl⟩ rfl rfl (Nat.le_of_ble_eq_true rfl) ⟨Nat.le_of_ble_eq_true rfl, Nat.le_of_ble_eq_true rfl⟩ ⟨Nat.le_of_ble_eq_true rfl, Nat.le_of_ble_eq_true rfl⟩ (c_end (hE.cl c hc40) (r32 (by decide) (by decide)) r_57) x_d (k_d0 ?_)
      exact j_vret dX1_hangUp_63 rfl (⟨rfl, rfl, ⟨by have h3 : k = 3 := (by omega); subst h3; exact rel_over hRa hba (by rw [hSa 5 (Or.inl (by decide))]; exact hc5) hRa.2.1.2.2.2.2.2.2.1, hI.hang hc5, po_over (po_unm (by omega) hP1) (by decide)⟩, (hFa.end hc40), by rw [up2_a (by omega), up2_a (by omega), up2_a (by omega)]; exact h12⟩)
    · refine j_aload_n 23 2 dX1_hangUp_22 rfl rfl ?_
      refine j_iload 25 0 dX1_hangUp_23 rfl rfl ?_
      refine j_aald 26 k dX1_hangUp_25 rfl hE.mks (Nat.le_of_ble_eq_true rfl) rfl rfl rfl (show k < 3 by omega) rfl ?_
      refine j_astore 28 (L2 := [(5, .ref (e + 31 + k)), (4, .int (i32 ((k : Int)))), (3, .int (i32 (3))), (2, .ref (e + 30)), (0, .ref (e)), (1, .ref (e + 35 + c))]) dX1_hangUp_26 rfl (Nat.le_of_ble_eq_true rfl) rfl ?_
      refine j_aload 30 0 dX1_hangUp_28 rfl rfl ?_
      refine j_geti 33 dX1_hangUp_30 rfl fl_X1_203 (hE.mk k (show k < 3 by omega)) rfl rfl (fun r_30 => ?_)
      refine j_aload_n 34 5 dX1_hangUp_33 rfl rfl ?_
      refine j_geti 37 dX1_hangUp_34 rfl fl_X1_130 (hE.cl c hc40) rfl rfl (fun r_34 => ?_)
      have hMk := (hRa.2.2.2.2.2.2.1 k (by omega)).1
      have hmo : unmN (s_freeReg d c) c k (163 + 2 * k) = (s_freeReg d c) (163 + 2 * k) := unm_out (by omega)
      refine j_icmp_ne 40 47 dX1_hangUp_37 rfl rfl r_30 r_34 (fun c_37 => ?_) (fun c_37 => ?_)
      · have hRn : RelX ga e (unmN (s_freeReg d c) c (k + 1)) := by rw [unm_n (by omega)]; exact hRa
        have hFn := hFa
        have h12n := h12
        refine j_iinc 50 1 (y := ((k + 1 : Nat) : Int)) (L2 := [(4, .int (i32 (((k + 1 : Nat) : Int)))), (5, .ref (e + 31 + k)), (3, .int (i32 (3))), (2, .ref (e + 30)), (0, .ref (e)), (1, .ref (e + 35 + c))]) dX1_hangUp_47 rfl rfl (by omega) (Nat.le_of_ble_eq_true rfl) rfl ?_
        refine j_goto 16 dX1_hangUp_50 rfl ?_
        refine j_sub [0, 2, 3, 4, 5] rfl ?_
        exact ih_16 (k + 1) _ (by omega) (by omega) hRn hFn h12n
      · refine j_aload 42 0 dX1_hangUp_40 rfl rfl ?_
        refine j_iconst 43 dX1_hangUp_42 rfl ?_
        refine j_iconst 44 dX1_hangUp_43 rfl ?_
        refine j_callV 47 (As := [.int (i32 (-1)), .int (i32 (0))]) (kc2 := 0) (ks2 := 0) dX1_hangUp_44 rfl mvX4_serve lk_X1_99 (hE.mk k (show k < 3 by omega)) rfl ⟨Nat.le_of_ble_eq_true rfl, rfl⟩ rfl rfl (Nat.le_of_ble_eq_true rfl) ⟨Nat.le_of_ble_eq_true rfl, Nat.le_of_ble_eq_true rfl⟩ ⟨Nat.le_of_ble_eq_true rfl, Nat.le_of_ble_eq_true rfl⟩ (c_serveM (hE.mk k (by omega)) (r32 (by decide) (by decide)) (r32 (by decide) (by decide))) x_d (k_d0 ?_)
        have hRn : RelX (up2 (up2 ga (e + 31 + k) 1 (-1)) (e + 31 + k) 2 0) e (unmN (s_freeReg d c) c (k + 1)) := by rw [unm_y (by omega)]; exact rel_unm hRa hba (by omega)
        have hFn : Fr g (up2 (up2 ga (e + 31 + k) 1 (-1)) (e + 31 + k) 2 0) e := (hFa.up (by omega) (by omega)).up (by omega) (by omega)
        have h12n : (up2 (up2 ga (e + 31 + k) 1 (-1)) (e + 31 + k) 2 0) e 12 = g e 12 := by rw [up2_a (by omega), up2_a (by omega)]; exact h12
        refine j_iinc 50 1 (y := ((k + 1 : Nat) : Int)) (L2 := [(4, .int (i32 (((k + 1 : Nat) : Int)))), (5, .ref (e + 31 + k)), (3, .int (i32 (3))), (2, .ref (e + 30)), (0, .ref (e)), (1, .ref (e + 35 + c))]) dX1_hangUp_47 rfl rfl (by omega) (Nat.le_of_ble_eq_true rfl) rfl ?_
        refine j_goto 16 dX1_hangUp_50 rfl ?_
        refine j_sub [0, 2, 3, 4, 5] rfl ?_
        exact ih_16 (k + 1) _ (by omega) (by omega) hRn hFn h12n

theorem c_hangUp {w : Wd} {sh : Shp} {g : Mem} {e c : Nat} {d : Nat → Int} (hE : ExS sh.1 e) (hK : KX g e d) (hc5 : (c : Int) < d 5) (hc40 : c < 40) : CT w mX1_hangUp [.ref e, .ref (e + 35 + c)] sh g (vQ sh (fun g2 => KX g2 e (s_hang d c) ∧ Fr g g2 e ∧ g2 e 12 = g e 12)) := by
  rcases (hK.2.1.2.2.2.1 c hc5).2.2 with q | ⟨r, r1, r2, r3⟩
  · exact c_hangUp0 hE hK hc5 hc40 q.1
  · have hr0 : (r : Int) < d 0 := by
      rcases hK.2.1.2.2.1 r r1 with z | ⟨c2, z1, z2⟩
      · omega
      · exact z2.2.1
    exact c_hangUp1 hE hK hc5 hc40 r1 hr0 r2
