theorem c_first0 {w : Wd} {sh : Shp} {g : Mem} {e : Nat} (hE : ExS sh.1 e) {x : Int} (hx : R32 x) (h : x_firstWaiting g e x = none) : CT w mX1_firstWaiting [.ref e, .int (i32 x)] sh g (dQ (some .null) sh g) := by
  have h2 := c_firstWaiting (w := w) hE (g := g) hx
  rw [h] at h2
  exact h2
theorem c_first1 {w : Wd} {sh : Shp} {g : Mem} {e : Nat} (hE : ExS sh.1 e) {x : Int} (hx : R32 x) {r : Nat} (h : x_firstWaiting g e x = some r) : CT w mX1_firstWaiting [.ref e, .int (i32 x)] sh g (dQ (some (.ref (e + 35 + r))) sh g) := by
  have h2 := c_firstWaiting (w := w) hE (g := g) hx
  rw [h] at h2
  exact h2
theorem first_none {g : Mem} {e : Nat} {d : Nat → Int} (h : RelX g e d) {x : Int} (hx : x ≠ -1) (h2 : x_firstWaiting g e x = none) : s_foremost d x = -1 := by
  rw [rel_firstWaiting h hx] at h2
  by_cases q : s_foremost d x = -1
  · exact q
  · rw [if_neg q] at h2; cases h2
theorem first_some {g : Mem} {e r : Nat} {d : Nat → Int} (h : RelX g e d) {x : Int} (hx : x ≠ -1) (h2 : x_firstWaiting g e x = some r) : s_foremost d x = (r : Int) ∧ r < 40 ∧ (r : Int) < d 5 ∧ d (173 + 14 * r) = x := by
  rw [rel_firstWaiting h hx] at h2
  by_cases q : s_foremost d x = -1
  · rw [if_pos q] at h2; cases h2
  · rw [if_neg q] at h2
    cases h2
    have h3 := (s_foremost_rng d x).resolve_left q
    exact ⟨by omega, by omega, by omega, h3.2.2.2⟩
theorem po_state {d : Nat → Int} {c : Nat} {y : Int} (h : PO d) (h5 : (c : Int) < d 5) (hy : d (173 + 14 * c) ≤ 4) : PO (ud d (173 + 14 * c) y) := by
  refine h.up (ud_n (by omega)) (ud_n (by omega)) (ud_n (by omega)) (fun x hx => ud_n (by omega)) (fun c2 hc2 => ?_)
  by_cases q : c2 = c
  · subst q
    refine Or.inr (fun _ => ?_)
    rw [ud_n (by omega), ud_n (by omega)]
    exact h.1 c2 h5 hy
  · exact Or.inl ⟨ud_n (by omega), ud_n (by omega), ud_n (by omega)⟩
section TK
variable {g : Mem} {e k r : Nat} {d : Nat → Int}
theorem rel_serveM (h : RelX g e d) (hb : RB d) (hk : k < 3) {x y : Int} : RelX (up2 (up2 g (e + 31 + k) 1 x) (e + 31 + k) 2 y) e (ud (ud d (163 + 2 * k) x) (164 + 2 * k) y) := by
  refine h.mark hb ((Sta.rf.ud (kp_reg (by omega) (by omega))).ud (kp_reg (by omega) (by omega))) hk (fun a ha => funext fun j => ?_) ?_ (fun i hi _ => ?_) ⟨?_, ?_⟩
  · rw [up2_a ha, up2_a ha]
  · rw [up2_k (by decide), up2_k (by decide)]
  · rw [ud_n (by omega), ud_n (by omega)]
  · rw [up2_k (by decide), up2_s, ud_n (by omega), ud_s]
  · rw [up2_s, ud_s]
theorem rel_serveR (h : RelX g e d) (hb : RB d) (hr : r < 4) {x : Int} {d2 : Nat → Int} (h1 : d2 (151 + 3 * r) = x) (h2 : d2 (152 + 3 * r) = 0) (h3 : d2 (153 + 3 * r) = 0) (hS : Sta d d2) (hd : ∀ i, ¬ (151 + 3 * r ≤ i ∧ i < 154 + 3 * r) → ¬ fre i → d2 i = d i) (hz : ¬ x = -1 → 0 ≤ d (180 + 14 * x.toNat) ∧ d (180 + 14 * x.toNat) < pw (d (170 + 14 * x.toNat)).toNat) : RelX (up2 (up2 (up2 g (e + 26 + r) 1 x) (e + 26 + r) 2 1) (e + 26 + r) 3 0) e d2 := by
  refine h.reg hb hS hr (fun a ha => funext fun j => ?_) ?_ hd ⟨?_, ?_, ?_⟩
  · rw [up2_a ha, up2_a ha, up2_a ha]
  · rw [up2_k (by decide), up2_k (by decide), up2_k (by decide)]
  · rw [up2_k (by decide), up2_k (by decide), up2_s, h1]
  · rw [up2_s, h3]
  · rw [up2_k (by decide), up2_s, h1, h2]
    split
    · rfl
    · next q =>
      rw [dv_sta hS]
      unfold enc s_dv
      obtain ⟨z1, z2⟩ := hz q
      rw [show ((0 : Int).toNat) = 0 from rfl, Nat.sub_zero, Int.ediv_eq_zero_of_lt z1 z2]
      rfl
theorem kx_takeM (h : KX g e d) (hk : k < 3) (hk1 : (k : Int) < d 1) (h1 : d (163 + 2 * k) = -1) (hr : s_foremost d 3 = (r : Int)) (h5 : (r : Int) < d 5) (hr3 : d (173 + 14 * r) = 3) {y : Int} (hy : y = d 21) : KX (up2 (up2 (up2 g (e + 31 + k) 1 (r : Int)) (e + 31 + k) 2 y) (e + 35 + r) 1 4) e (s_takesMarker d k) := by
  subst hy
  have hI := inv_takeMark h.2.1 hk hk1
  have hf : s_takesMarker d k = ud (ud (ud d (163 + 2 * k) (r : Int)) (164 + 2 * k) (d 21)) (173 + 14 * r) 4 := by
    unfold s_takesMarker
    rw [if_pos ⟨h1, by omega⟩, hr]
    rfl
  rw [hf] at hI ⊢
  have hS : Sta d (ud (ud d (163 + 2 * k) (r : Int)) (164 + 2 * k) (d 21)) := (Sta.rf.ud (kp_reg (by omega) (by omega))).ud (kp_reg (by omega) (by omega))
  have h5' : (r : Int) < (ud (ud d (163 + 2 * k) (r : Int)) (164 + 2 * k) (d 21)) 5 := by rw [ud_n (by omega), ud_n (by omega)]; exact h5
  exact ⟨rel_state (rel_serveM h.1 h.2.1.1 hk) (h.2.1.1.sta hS) h5', hI, po_state (po_ud (po_ud h.2.2 (by omega) (by omega) (by omega)) (by omega) (by omega) (by omega)) h5' (by rw [ud_n (by omega), ud_n (by omega), hr3]; decide)⟩
theorem kx_takeR (h : KX g e d) (hk : k < 4) (hk0 : (k : Int) < d 0) (h1 : d (151 + 3 * k) = -1) (hr : s_foremost d 1 = (r : Int)) (h5 : (r : Int) < d 5) (hr1 : d (173 + 14 * r) = 1) : KX (up2 (up2 (up2 (up2 g (e + 26 + k) 1 (r : Int)) (e + 26 + k) 2 1) (e + 26 + k) 3 0) (e + 35 + r) 1 2) e (s_takesRegister d k) := by
  have hI := inv_takeReg h.2.1 hk hk0
  have hf : s_takesRegister d k = ud (ud (ud d (151 + 3 * k) (r : Int)) (173 + 14 * r) 2) (179 + 14 * r) (k : Int) := by
    unfold s_takesRegister
    rw [if_pos ⟨h1, by omega⟩, hr]
    rfl
  rw [hf] at hI ⊢
  have hz := (h.2.1.2.2.1 k hk).resolve_right (fun ⟨c, q, _⟩ => by omega)
  have hc := h.2.1.2.1.2.2.2.2.1 r h5
  have hc0 := h.2.1.1.2.2.2.2.2.2.2.2.2 r (by have := h.2.1.1.2.2.2.2.2.1; omega)
  have hS0 : Sta d (ud (ud d (151 + 3 * k) (r : Int)) (179 + 14 * r) (k : Int)) := (Sta.rf.ud (kp_reg (by omega) (by omega))).ud (by unfold kpI; omega)
  have h5' : (r : Int) < (ud (ud d (151 + 3 * k) (r : Int)) (179 + 14 * r) (k : Int)) 5 := by rw [ud_n (by omega), ud_n (by omega)]; exact h5
  have hR := rel_serveR h.1 h.2.1.1 hk (x := (r : Int)) (d2 := ud (ud d (151 + 3 * k) (r : Int)) (179 + 14 * r) (k : Int)) (by rw [ud_n (by omega), ud_s]) (by rw [ud_n (by omega), ud_n (by omega)]; exact hz.2.1) (by rw [ud_n (by omega), ud_n (by omega)]; exact hz.2.2) hS0 (fun i hi hf => by
    rw [ud_n (fun q => hf (Or.inr (by omega))), ud_n (by omega)]) (fun _ => by rw [Int.toNat_natCast]; exact ⟨hc0.2.2, hc.2.2.2.2.2⟩)
  have hR2 := rel_state (v := 2) hR (h.2.1.1.sta hS0) h5'
  have he : ud (ud (ud d (151 + 3 * k) (r : Int)) (179 + 14 * r) (k : Int)) (173 + 14 * r) 2 = ud (ud (ud d (151 + 3 * k) (r : Int)) (173 + 14 * r) 2) (179 + 14 * r) (k : Int) := by
    funext i
    unfold ud
    by_cases q1 : i = 173 + 14 * r
    · rw [if_pos q1, if_neg (by omega), if_pos q1]
    · rw [if_neg q1]
      by_cases q2 : i = 179 + 14 * r
      · rw [if_pos q2, if_pos q2]
      · rw [if_neg q2, if_neg q2, if_neg q1]
  rw [he] at hR2
  exact ⟨hR2, hI, po_ud (po_state (po_ud h.2.2 (by omega) (by omega) (by omega)) (by rw [ud_n (by omega)]; exact h5) (by rw [ud_n (by omega), hr1]; decide)) (by omega) (by omega) (by omega)⟩
end TK

theorem sta_itrN {f : (Nat → Int) → Nat → (Nat → Int)} {d : Nat → Int} {N : Nat} (h : ∀ e k, k < N → Sta e (f e k)) : ∀ n, n ≤ N → Sta d (itr f d n)
  | 0, _ => Sta.rf
  | n + 1, hn => (sta_itrN h n (by omega)).tr (h _ n (by omega))

set_option maxRecDepth 20000 in
theorem c_giveMarkers {w : Wd} {sh : Shp} {g : Mem} {e : Nat} {d : Nat → Int} (hE : ExS sh.1 e) (hK0 : KX g e d) : CT w mX1_giveMarkers [.ref (e)] sh g (vQ sh (fun g2 => KX g2 e (s_t6 d) ∧ Fr g g2 e ∧ g2 e 12 = g e 12)) := by
  refine j_entry (by decide) rfl (Nat.le_of_ble_eq_true rfl) (fun h => by cases h) rfl ?_
  show J w mX1_giveMarkers 0 [(0, .ref (e))] [] sh g 0 0 _
  refine j_aload_n 1 0 dX1_giveMarkers_0 rfl rfl ?_
  refine j_getr 4 dX1_giveMarkers_1 rfl fl_X1_40 hE.ex rfl (fun _ _ => rfl) rfl ?_
  refine j_astore_n 5 (L2 := [(1, .ref (e + 30)), (0, .ref (e))]) dX1_giveMarkers_4 rfl rfl (Nat.le_of_ble_eq_true rfl) rfl ?_
  refine j_aload_n 6 0 dX1_giveMarkers_5 rfl rfl ?_
  refine j_alen 7 dX1_giveMarkers_6 rfl hE.mks (Nat.le_of_ble_eq_true rfl) rfl ?_
  refine j_top (y := 3) rfl ?_
  refine j_istore_n 8 (L2 := [(2, .int (i32 (3))), (1, .ref (e + 30)), (0, .ref (e))]) dX1_giveMarkers_7 rfl rfl (Nat.le_of_ble_eq_true rfl) rfl ?_
  refine j_iconst 9 dX1_giveMarkers_8 rfl ?_
  refine j_istore_n 10 (L2 := [(3, .int (i32 (0))), (2, .int (i32 (3))), (1, .ref (e + 30)), (0, .ref (e))]) dX1_giveMarkers_9 rfl rfl (Nat.le_of_ble_eq_true rfl) rfl ?_
  suffices lp_10 : ∀ (n_10 : Nat) (k : Nat) (da : Nat → Int) (ga : Mem), 3 - k < n_10 → k ≤ 3 → da = itr s_takesMarker d (min k (d 1).toNat) → KX ga e da → Fr g ga e → Sta d da → ga e 12 = g e 12 → J w mX1_giveMarkers 10 [(3, .int (i32 ((k : Int)))), (2, .int (i32 (3))), (1, .ref (e + 30)), (0, .ref (e))] [] sh ga 0 0 (vQ sh (fun g2 => KX g2 e (s_t6 d) ∧ Fr g g2 e ∧ g2 e 12 = g e 12)) by
    exact lp_10 _ 0 d g (Nat.lt_succ_self _) (by omega) (by rw [Nat.zero_min]; rfl) hK0 Fr.rf Sta.rf rfl
  intro n_10
  induction n_10 with
  | zero => intro k da ga h_; exact absurd h_ (Nat.not_lt_zero _)
  | succ n_10 ih_10 =>
    intro k da ga hn_10 hk hd hK hF hS hg
    have hns : da 1 = d 1 := hS 1 (Or.inl (by decide))
    refine j_iload_n 11 0 dX1_giveMarkers_10 rfl rfl ?_
    refine j_iload_n 12 1 dX1_giveMarkers_11 rfl rfl ?_
    refine j_icmp_ge 15 79 dX1_giveMarkers_12 rfl rfl (r32 (by omega) (by omega)) (r32 (by decide) (by decide)) (fun c_12 => ?_) (fun c_12 => ?_)
    · exact j_vret dX1_giveMarkers_79 rfl (⟨rfl, rfl, by have h40 := hK.2.1.1; rw [show min k (d 1).toNat = (d 1).toNat by have := h40.1; have := h40.2.1; omega] at hd; rw [hd] at hK; exact ⟨hK, hF, hg⟩⟩)
    · have hkN : k < 3 := by omega
      have hrow : ga (e + 31 + k) 1 = da (163 + 2 * k) := (hK.1.2.2.2.2.2.2.1 k hkN).1
      have hcnt : ga e 1 = da 1 := hK.1.2.1.2.1
      refine j_aload_n 16 2 dX1_giveMarkers_15 rfl rfl ?_
      refine j_iload_n 17 0 dX1_giveMarkers_16 rfl rfl ?_
      refine j_aald 18 k dX1_giveMarkers_17 rfl hE.mks (Nat.le_of_ble_eq_true rfl) rfl rfl rfl (show k < 3 by omega) rfl ?_
      refine j_astore 20 (L2 := [(4, .ref (e + 31 + k)), (3, .int (i32 ((k : Int)))), (2, .int (i32 (3))), (1, .ref (e + 30)), (0, .ref (e))]) dX1_giveMarkers_18 rfl (Nat.le_of_ble_eq_true rfl) rfl ?_
      cases hfw : x_firstWaiting ga e 3 with
      | none =>
        refine j_aload_n 21 4 dX1_giveMarkers_20 rfl rfl ?_
        refine j_iconst 22 dX1_giveMarkers_21 rfl ?_
        refine j_callV 25 (As := [.int (i32 (3))]) (kc2 := 0) (ks2 := 0) dX1_giveMarkers_22 rfl mvX1_firstWaiting lk_X1_314 hE.ex rfl ⟨Nat.le_of_ble_eq_true rfl, rfl⟩ rfl rfl (Nat.le_of_ble_eq_true rfl) ⟨Nat.le_of_ble_eq_true rfl, Nat.le_of_ble_eq_true rfl⟩ ⟨Nat.le_of_ble_eq_true rfl, Nat.le_of_ble_eq_true rfl⟩ (c_first0 hE (r32 (by decide) (by decide)) hfw) x_d (k_d1 ?_)
        refine j_astoreN 27 (L2 := [(5, .null), (4, .ref (e + 31 + k)), (3, .int (i32 ((k : Int)))), (2, .int (i32 (3))), (1, .ref (e + 30)), (0, .ref (e))]) dX1_giveMarkers_25 rfl (Nat.le_of_ble_eq_true rfl) rfl ?_
        refine j_aloadN 29 0 dX1_giveMarkers_27 rfl rfl ?_
        have hfm := first_none hK.1 (by decide) hfw
        have hfs : k < (d 1).toNat → s_takesMarker da k = da := fun q => by unfold s_takesMarker; rw [if_neg]; intro h; exact h.2 hfm
        have hda2 : da = itr s_takesMarker d (min (k + 1) (d 1).toNat) := itr_min hd (fun q => (hfs q).symm) (fun _ => rfl)
        have hK2 : KX ga e da := hK
        have hF2 : Fr g ga e := hF
        have hg2 : ga e 12 = g e 12 := hg
        refine j_ifnullN 73 dX1_giveMarkers_29 rfl ?_
        refine j_iinc 76 2 (y := ((k + 1 : Nat) : Int)) (L2 := [(3, .int (i32 (((k + 1 : Nat) : Int)))), (5, .null), (4, .ref (e + 31 + k)), (2, .int (i32 (3))), (1, .ref (e + 30)), (0, .ref (e))]) dX1_giveMarkers_73 rfl rfl (by omega) (Nat.le_of_ble_eq_true rfl) rfl ?_
        refine j_goto 10 dX1_giveMarkers_76 rfl ?_
        refine j_sub [0, 3, 4, 5] rfl ?_
        exact ih_10 (k + 1) _ _ (by omega) (by omega) hda2 hK2 hF2 (by rw [hda2]; exact (sta_itrN (N := 3) (fun _ _ h => sta_takeM h) _ (by omega))) hg2
      | some r =>
        refine j_aload_n 21 4 dX1_giveMarkers_20 rfl rfl ?_
        refine j_iconst 22 dX1_giveMarkers_21 rfl ?_
        refine j_callV 25 (As := [.int (i32 (3))]) (kc2 := 0) (ks2 := 0) dX1_giveMarkers_22 rfl mvX1_firstWaiting lk_X1_314 hE.ex rfl ⟨Nat.le_of_ble_eq_true rfl, rfl⟩ rfl rfl (Nat.le_of_ble_eq_true rfl) ⟨Nat.le_of_ble_eq_true rfl, Nat.le_of_ble_eq_true rfl⟩ ⟨Nat.le_of_ble_eq_true rfl, Nat.le_of_ble_eq_true rfl⟩ (c_first1 hE (r32 (by decide) (by decide)) hfw) x_d (k_d1 ?_)
        refine j_astore 27 (L2 := [(5, .ref (e + 35 + r)), (4, .ref (e + 31 + k)), (3, .int (i32 ((k : Int)))), (2, .int (i32 (3))), (1, .ref (e + 30)), (0, .ref (e))]) dX1_giveMarkers_25 rfl (Nat.le_of_ble_eq_true rfl) rfl ?_
        refine j_aload 29 0 dX1_giveMarkers_27 rfl rfl ?_
        refine j_ifnull 32 dX1_giveMarkers_29 rfl ?_
        refine j_aload 34 1 dX1_giveMarkers_32 rfl rfl ?_
        refine j_geti 37 dX1_giveMarkers_34 rfl fl_X1_317 (hE.mk k (show k < 3 by omega)) rfl rfl (fun r_34 => ?_)
        refine j_top (y := (k : Int)) (hK.1.1.2.2.2.1 k hkN) ?_
        refine j_aload_n 38 5 dX1_giveMarkers_37 rfl rfl ?_
        refine j_geti 41 dX1_giveMarkers_38 rfl fl_X1_59 hE.ex rfl rfl (fun r_38 => ?_)
        refine j_icmp_ge 44 73 dX1_giveMarkers_41 rfl rfl (r32 (by omega) (by omega)) r_38 (fun c_41 => ?_) (fun c_41 => ?_)
        · have hfs : k < (d 1).toNat → s_takesMarker da k = da := fun q => by unfold s_takesMarker; rw [if_neg]; intro h; omega
          have hda2 : da = itr s_takesMarker d (min (k + 1) (d 1).toNat) := itr_min hd (fun q => (hfs q).symm) (fun _ => rfl)
          have hK2 : KX ga e da := hK
          have hF2 : Fr g ga e := hF
          have hg2 : ga e 12 = g e 12 := hg
          refine j_iinc 76 2 (y := ((k + 1 : Nat) : Int)) (L2 := [(3, .int (i32 (((k + 1 : Nat) : Int)))), (5, .ref (e + 35 + r)), (4, .ref (e + 31 + k)), (2, .int (i32 (3))), (1, .ref (e + 30)), (0, .ref (e))]) dX1_giveMarkers_73 rfl rfl (by omega) (Nat.le_of_ble_eq_true rfl) rfl ?_
          refine j_goto 10 dX1_giveMarkers_76 rfl ?_
          refine j_sub [0, 3, 4, 5] rfl ?_
          exact ih_10 (k + 1) _ _ (by omega) (by omega) hda2 hK2 hF2 (by rw [hda2]; exact (sta_itrN (N := 3) (fun _ _ h => sta_takeM h) _ (by omega))) hg2
        · refine j_aload 46 1 dX1_giveMarkers_44 rfl rfl ?_
          refine j_geti 49 dX1_giveMarkers_46 rfl fl_X1_203 (hE.mk k (show k < 3 by omega)) rfl rfl (fun r_46 => ?_)
          refine j_iconst 50 dX1_giveMarkers_49 rfl ?_
          refine j_icmp_ne 53 73 dX1_giveMarkers_50 rfl rfl r_46 (r32 (by decide) (by decide)) (fun c_50 => ?_) (fun c_50 => ?_)
          · have hfs : k < (d 1).toNat → s_takesMarker da k = da := fun q => by unfold s_takesMarker; rw [if_neg]; intro h; omega
            have hda2 : da = itr s_takesMarker d (min (k + 1) (d 1).toNat) := itr_min hd (fun q => (hfs q).symm) (fun _ => rfl)
            have hK2 : KX ga e da := hK
            have hF2 : Fr g ga e := hF
            have hg2 : ga e 12 = g e 12 := hg
            refine j_iinc 76 2 (y := ((k + 1 : Nat) : Int)) (L2 := [(3, .int (i32 (((k + 1 : Nat) : Int)))), (5, .ref (e + 35 + r)), (4, .ref (e + 31 + k)), (2, .int (i32 (3))), (1, .ref (e + 30)), (0, .ref (e))]) dX1_giveMarkers_73 rfl rfl (by omega) (Nat.le_of_ble_eq_true rfl) rfl ?_
            refine j_goto 10 dX1_giveMarkers_76 rfl ?_
            refine j_sub [0, 3, 4, 5] rfl ?_
            exact ih_10 (k + 1) _ _ (by omega) (by omega) hda2 hK2 hF2 (by rw [hda2]; exact (sta_itrN (N := 3) (fun _ _ h => sta_takeM h) _ (by omega))) hg2
          · obtain ⟨hr1, hr2, hr3, hr4⟩ := first_some hK.1 (by decide) hfw
            have hK2 : KX (up2 (up2 (up2 ga (e + 31 + k) 1 (r : Int)) (e + 31 + k) 2 (da 21)) (e + 35 + r) 1 4) e (s_takesMarker da k) := kx_takeM hK hkN (by omega) (by omega) hr1 hr3 hr4 rfl
            have hF2 : Fr g (up2 (up2 (up2 ga (e + 31 + k) 1 (r : Int)) (e + 31 + k) 2 (da 21)) (e + 35 + r) 1 4) e := ((hF.up (by omega) (by omega)).up (by omega) (by omega)).up (by omega) (by omega)
            have hda2 : s_takesMarker da k = itr s_takesMarker d (min (k + 1) (d 1).toNat) := itr_min hd (fun _ => rfl) (fun q => by omega)
            have hg2 : (up2 (up2 (up2 ga (e + 31 + k) 1 (r : Int)) (e + 31 + k) 2 (da 21)) (e + 35 + r) 1 4) e 12 = g e 12 := by rw [up2_a (by omega), up2_a (by omega), up2_a (by omega)]; exact hg
            refine j_aload 55 1 dX1_giveMarkers_53 rfl rfl ?_
            refine j_aload 57 0 dX1_giveMarkers_55 rfl rfl ?_
            refine j_geti 60 dX1_giveMarkers_57 rfl fl_X1_130 (hE.cl r (first_some hK.1 (by decide) hfw).2.1) rfl rfl (fun r_57 => ?_)
            refine j_top (y := (r : Int)) (hK.1.1.2.2.2.2 r hr2) ?_
            refine j_aload_n 61 5 dX1_giveMarkers_60 rfl rfl ?_
            refine j_geti 64 dX1_giveMarkers_61 rfl fl_X1_83 hE.ex rfl rfl (fun r_61 => ?_)
            refine j_top (y := da 21) (hK.1.2.1.2.2.2.2.2.2.2.2.2.1) ?_
            refine j_callV 67 (As := [.int (i32 ((r : Int))), .int (i32 (da 21))]) (kc2 := 0) (ks2 := 0) dX1_giveMarkers_64 rfl mvX4_serve lk_X1_99 (hE.mk k (show k < 3 by omega)) rfl ⟨Nat.le_of_ble_eq_true rfl, rfl⟩ rfl rfl (Nat.le_of_ble_eq_true rfl) ⟨Nat.le_of_ble_eq_true rfl, Nat.le_of_ble_eq_true rfl⟩ ⟨Nat.le_of_ble_eq_true rfl, Nat.le_of_ble_eq_true rfl⟩ (c_serveM (hE.mk k hkN) (r32 (by omega) (by omega)) (r32 (by have := hK.2.1.2.1.1; omega) (by have := hK.2.1.2.1.1; omega))) x_d (k_d0 ?_)
            refine j_aload 69 0 dX1_giveMarkers_67 rfl rfl ?_
            refine j_iconst 70 dX1_giveMarkers_69 rfl ?_
            refine j_puti 73 dX1_giveMarkers_70 rfl fl_X1_102 (hE.cl r (first_some hK.1 (by decide) hfw).2.1) rfl rfl rfl (r32 (by decide) (by decide)) ?_
            refine j_mn (fun g_70 hg_70 => ?_)
            refine j_mem hg_70 ?_
            refine j_iinc 76 2 (y := ((k + 1 : Nat) : Int)) (L2 := [(3, .int (i32 (((k + 1 : Nat) : Int)))), (5, .ref (e + 35 + r)), (4, .ref (e + 31 + k)), (2, .int (i32 (3))), (1, .ref (e + 30)), (0, .ref (e))]) dX1_giveMarkers_73 rfl rfl (by omega) (Nat.le_of_ble_eq_true rfl) rfl ?_
            refine j_goto 10 dX1_giveMarkers_76 rfl ?_
            refine j_sub [0, 3, 4, 5] rfl ?_
            exact ih_10 (k + 1) _ _ (by omega) (by omega) hda2 hK2 hF2 (by rw [hda2]; exact (sta_itrN (N := 3) (fun _ _ h => sta_takeM h) _ (by omega))) hg2

set_option maxRecDepth 20000 in
theorem c_giveRegisters {w : Wd} {sh : Shp} {g : Mem} {e : Nat} {d : Nat → Int} (hE : ExS sh.1 e) (hK0 : KX g e d) : CT w mX1_giveRegisters [.ref (e)] sh g (vQ sh (fun g2 => KX g2 e (s_t7 d) ∧ Fr g g2 e ∧ g2 e 12 = g e 12)) := by
  refine j_entry (by decide) rfl (Nat.le_of_ble_eq_true rfl) (fun h => by cases h) rfl ?_
  show J w mX1_giveRegisters 0 [(0, .ref (e))] [] sh g 0 0 _
  refine j_aload_n 1 0 dX1_giveRegisters_0 rfl rfl ?_
  refine j_getr 4 dX1_giveRegisters_1 rfl fl_X1_33 hE.ex rfl (fun _ _ => rfl) rfl ?_
  refine j_astore_n 5 (L2 := [(1, .ref (e + 25)), (0, .ref (e))]) dX1_giveRegisters_4 rfl rfl (Nat.le_of_ble_eq_true rfl) rfl ?_
  refine j_aload_n 6 0 dX1_giveRegisters_5 rfl rfl ?_
  refine j_alen 7 dX1_giveRegisters_6 rfl hE.rgs (Nat.le_of_ble_eq_true rfl) rfl ?_
  refine j_top (y := 4) rfl ?_
  refine j_istore_n 8 (L2 := [(2, .int (i32 (4))), (1, .ref (e + 25)), (0, .ref (e))]) dX1_giveRegisters_7 rfl rfl (Nat.le_of_ble_eq_true rfl) rfl ?_
  refine j_iconst 9 dX1_giveRegisters_8 rfl ?_
  refine j_istore_n 10 (L2 := [(3, .int (i32 (0))), (2, .int (i32 (4))), (1, .ref (e + 25)), (0, .ref (e))]) dX1_giveRegisters_9 rfl rfl (Nat.le_of_ble_eq_true rfl) rfl ?_
  suffices lp_10 : ∀ (n_10 : Nat) (k : Nat) (da : Nat → Int) (ga : Mem), 4 - k < n_10 → k ≤ 4 → da = itr s_takesRegister d (min k (d 0).toNat) → KX ga e da → Fr g ga e → Sta d da → ga e 12 = g e 12 → J w mX1_giveRegisters 10 [(3, .int (i32 ((k : Int)))), (2, .int (i32 (4))), (1, .ref (e + 25)), (0, .ref (e))] [] sh ga 0 0 (vQ sh (fun g2 => KX g2 e (s_t7 d) ∧ Fr g g2 e ∧ g2 e 12 = g e 12)) by
    exact lp_10 _ 0 d g (Nat.lt_succ_self _) (by omega) (by rw [Nat.zero_min]; rfl) hK0 Fr.rf Sta.rf rfl
  intro n_10
  induction n_10 with
  | zero => intro k da ga h_; exact absurd h_ (Nat.not_lt_zero _)
  | succ n_10 ih_10 =>
    intro k da ga hn_10 hk hd hK hF hS hg
    have hns : da 0 = d 0 := hS 0 (Or.inl (by decide))
    refine j_iload_n 11 0 dX1_giveRegisters_10 rfl rfl ?_
    refine j_iload_n 12 1 dX1_giveRegisters_11 rfl rfl ?_
    refine j_icmp_ge 15 75 dX1_giveRegisters_12 rfl rfl (r32 (by omega) (by omega)) (r32 (by decide) (by decide)) (fun c_12 => ?_) (fun c_12 => ?_)
    · exact j_vret dX1_giveRegisters_75 rfl (⟨rfl, rfl, by have h40 := hK.2.1.1; rw [show min k (d 0).toNat = (d 0).toNat by have := h40.1; have := h40.2.1; omega] at hd; rw [hd] at hK; exact ⟨hK, hF, hg⟩⟩)
    · have hkN : k < 4 := by omega
      have hrow : ga (e + 26 + k) 1 = da (151 + 3 * k) := (hK.1.2.2.2.2.2.1 k hkN).1
      have hcnt : ga e 0 = da 0 := hK.1.2.1.1
      refine j_aload_n 16 2 dX1_giveRegisters_15 rfl rfl ?_
      refine j_iload_n 17 0 dX1_giveRegisters_16 rfl rfl ?_
      refine j_aald 18 k dX1_giveRegisters_17 rfl hE.rgs (Nat.le_of_ble_eq_true rfl) rfl rfl rfl (show k < 4 by omega) rfl ?_
      refine j_astore 20 (L2 := [(4, .ref (e + 26 + k)), (3, .int (i32 ((k : Int)))), (2, .int (i32 (4))), (1, .ref (e + 25)), (0, .ref (e))]) dX1_giveRegisters_18 rfl (Nat.le_of_ble_eq_true rfl) rfl ?_
      cases hfw : x_firstWaiting ga e 1 with
      | none =>
        refine j_aload_n 21 4 dX1_giveRegisters_20 rfl rfl ?_
        refine j_iconst 22 dX1_giveRegisters_21 rfl ?_
        refine j_callV 25 (As := [.int (i32 (1))]) (kc2 := 0) (ks2 := 0) dX1_giveRegisters_22 rfl mvX1_firstWaiting lk_X1_314 hE.ex rfl ⟨Nat.le_of_ble_eq_true rfl, rfl⟩ rfl rfl (Nat.le_of_ble_eq_true rfl) ⟨Nat.le_of_ble_eq_true rfl, Nat.le_of_ble_eq_true rfl⟩ ⟨Nat.le_of_ble_eq_true rfl, Nat.le_of_ble_eq_true rfl⟩ (c_first0 hE (r32 (by decide) (by decide)) hfw) x_d (k_d1 ?_)
        refine j_astoreN 27 (L2 := [(5, .null), (4, .ref (e + 26 + k)), (3, .int (i32 ((k : Int)))), (2, .int (i32 (4))), (1, .ref (e + 25)), (0, .ref (e))]) dX1_giveRegisters_25 rfl (Nat.le_of_ble_eq_true rfl) rfl ?_
        refine j_aloadN 29 0 dX1_giveRegisters_27 rfl rfl ?_
        have hfm := first_none hK.1 (by decide) hfw
        have hfs : k < (d 0).toNat → s_takesRegister da k = da := fun q => by unfold s_takesRegister; rw [if_neg]; intro h; exact h.2 hfm
        have hda2 : da = itr s_takesRegister d (min (k + 1) (d 0).toNat) := itr_min hd (fun q => (hfs q).symm) (fun _ => rfl)
        have hK2 : KX ga e da := hK
        have hF2 : Fr g ga e := hF
        have hg2 : ga e 12 = g e 12 := hg
        refine j_ifnullN 69 dX1_giveRegisters_29 rfl ?_
        refine j_iinc 72 2 (y := ((k + 1 : Nat) : Int)) (L2 := [(3, .int (i32 (((k + 1 : Nat) : Int)))), (5, .null), (4, .ref (e + 26 + k)), (2, .int (i32 (4))), (1, .ref (e + 25)), (0, .ref (e))]) dX1_giveRegisters_69 rfl rfl (by omega) (Nat.le_of_ble_eq_true rfl) rfl ?_
        refine j_goto 10 dX1_giveRegisters_72 rfl ?_
        refine j_sub [0, 3, 4, 5] rfl ?_
        exact ih_10 (k + 1) _ _ (by omega) (by omega) hda2 hK2 hF2 (by rw [hda2]; exact (sta_itrN (N := 4) (fun _ _ h => sta_takeR h) _ (by omega))) hg2
      | some r =>
        refine j_aload_n 21 4 dX1_giveRegisters_20 rfl rfl ?_
        refine j_iconst 22 dX1_giveRegisters_21 rfl ?_
        refine j_callV 25 (As := [.int (i32 (1))]) (kc2 := 0) (ks2 := 0) dX1_giveRegisters_22 rfl mvX1_firstWaiting lk_X1_314 hE.ex rfl ⟨Nat.le_of_ble_eq_true rfl, rfl⟩ rfl rfl (Nat.le_of_ble_eq_true rfl) ⟨Nat.le_of_ble_eq_true rfl, Nat.le_of_ble_eq_true rfl⟩ ⟨Nat.le_of_ble_eq_true rfl, Nat.le_of_ble_eq_true rfl⟩ (c_first1 hE (r32 (by decide) (by decide)) hfw) x_d (k_d1 ?_)
        refine j_astore 27 (L2 := [(5, .ref (e + 35 + r)), (4, .ref (e + 26 + k)), (3, .int (i32 ((k : Int)))), (2, .int (i32 (4))), (1, .ref (e + 25)), (0, .ref (e))]) dX1_giveRegisters_25 rfl (Nat.le_of_ble_eq_true rfl) rfl ?_
        refine j_aload 29 0 dX1_giveRegisters_27 rfl rfl ?_
        refine j_ifnull 32 dX1_giveRegisters_29 rfl ?_
        refine j_aload 34 1 dX1_giveRegisters_32 rfl rfl ?_
        refine j_geti 37 dX1_giveRegisters_34 rfl fl_X1_196 (hE.rg k (show k < 4 by omega)) rfl rfl (fun r_34 => ?_)
        refine j_top (y := (k : Int)) (hK.1.1.2.2.1 k hkN) ?_
        refine j_aload_n 38 5 dX1_giveRegisters_37 rfl rfl ?_
        refine j_geti 41 dX1_giveRegisters_38 rfl fl_X1_55 hE.ex rfl rfl (fun r_38 => ?_)
        refine j_icmp_ge 44 69 dX1_giveRegisters_41 rfl rfl (r32 (by omega) (by omega)) r_38 (fun c_41 => ?_) (fun c_41 => ?_)
        · have hfs : k < (d 0).toNat → s_takesRegister da k = da := fun q => by unfold s_takesRegister; rw [if_neg]; intro h; omega
          have hda2 : da = itr s_takesRegister d (min (k + 1) (d 0).toNat) := itr_min hd (fun q => (hfs q).symm) (fun _ => rfl)
          have hK2 : KX ga e da := hK
          have hF2 : Fr g ga e := hF
          have hg2 : ga e 12 = g e 12 := hg
          refine j_iinc 72 2 (y := ((k + 1 : Nat) : Int)) (L2 := [(3, .int (i32 (((k + 1 : Nat) : Int)))), (5, .ref (e + 35 + r)), (4, .ref (e + 26 + k)), (2, .int (i32 (4))), (1, .ref (e + 25)), (0, .ref (e))]) dX1_giveRegisters_69 rfl rfl (by omega) (Nat.le_of_ble_eq_true rfl) rfl ?_
          refine j_goto 10 dX1_giveRegisters_72 rfl ?_
          refine j_sub [0, 3, 4, 5] rfl ?_
          exact ih_10 (k + 1) _ _ (by omega) (by omega) hda2 hK2 hF2 (by rw [hda2]; exact (sta_itrN (N := 4) (fun _ _ h => sta_takeR h) _ (by omega))) hg2
        · refine j_aload 46 1 dX1_giveRegisters_44 rfl rfl ?_
          refine j_geti 49 dX1_giveRegisters_46 rfl fl_X1_193 (hE.rg k (show k < 4 by omega)) rfl rfl (fun r_46 => ?_)
          refine j_iconst 50 dX1_giveRegisters_49 rfl ?_
          refine j_icmp_ne 53 69 dX1_giveRegisters_50 rfl rfl r_46 (r32 (by decide) (by decide)) (fun c_50 => ?_) (fun c_50 => ?_)
          · have hfs : k < (d 0).toNat → s_takesRegister da k = da := fun q => by unfold s_takesRegister; rw [if_neg]; intro h; omega
            have hda2 : da = itr s_takesRegister d (min (k + 1) (d 0).toNat) := itr_min hd (fun q => (hfs q).symm) (fun _ => rfl)
            have hK2 : KX ga e da := hK
            have hF2 : Fr g ga e := hF
            have hg2 : ga e 12 = g e 12 := hg
            refine j_iinc 72 2 (y := ((k + 1 : Nat) : Int)) (L2 := [(3, .int (i32 (((k + 1 : Nat) : Int)))), (5, .ref (e + 35 + r)), (4, .ref (e + 26 + k)), (2, .int (i32 (4))), (1, .ref (e + 25)), (0, .ref (e))]) dX1_giveRegisters_69 rfl rfl (by omega) (Nat.le_of_ble_eq_true rfl) rfl ?_
            refine j_goto 10 dX1_giveRegisters_72 rfl ?_
            refine j_sub [0, 3, 4, 5] rfl ?_
            exact ih_10 (k + 1) _ _ (by omega) (by omega) hda2 hK2 hF2 (by rw [hda2]; exact (sta_itrN (N := 4) (fun _ _ h => sta_takeR h) _ (by omega))) hg2
          · obtain ⟨hr1, hr2, hr3, hr4⟩ := first_some hK.1 (by decide) hfw
            have hK2 : KX (up2 (up2 (up2 (up2 ga (e + 26 + k) 1 (r : Int)) (e + 26 + k) 2 1) (e + 26 + k) 3 0) (e + 35 + r) 1 2) e (s_takesRegister da k) := kx_takeR hK hkN (by omega) (by omega) hr1 hr3 hr4
            have hF2 : Fr g (up2 (up2 (up2 (up2 ga (e + 26 + k) 1 (r : Int)) (e + 26 + k) 2 1) (e + 26 + k) 3 0) (e + 35 + r) 1 2) e := (((hF.up (by omega) (by omega)).up (by omega) (by omega)).up (by omega) (by omega)).up (by omega) (by omega)
            have hda2 : s_takesRegister da k = itr s_takesRegister d (min (k + 1) (d 0).toNat) := itr_min hd (fun _ => rfl) (fun q => by omega)
            have hg2 : (up2 (up2 (up2 (up2 ga (e + 26 + k) 1 (r : Int)) (e + 26 + k) 2 1) (e + 26 + k) 3 0) (e + 35 + r) 1 2) e 12 = g e 12 := by rw [up2_a (by omega), up2_a (by omega), up2_a (by omega), up2_a (by omega)]; exact hg
            refine j_aload 55 1 dX1_giveRegisters_53 rfl rfl ?_
            refine j_aload 57 0 dX1_giveRegisters_55 rfl rfl ?_
            refine j_geti 60 dX1_giveRegisters_57 rfl fl_X1_130 (hE.cl r (first_some hK.1 (by decide) hfw).2.1) rfl rfl (fun r_57 => ?_)
            refine j_top (y := (r : Int)) (hK.1.1.2.2.2.2 r hr2) ?_
            refine j_callV 63 (As := [.int (i32 ((r : Int)))]) (kc2 := 0) (ks2 := 0) dX1_giveRegisters_60 rfl mvX5_serve lk_X1_96 (hE.rg k (show k < 4 by omega)) rfl ⟨Nat.le_of_ble_eq_true rfl, rfl⟩ rfl rfl (Nat.le_of_ble_eq_true rfl) ⟨Nat.le_of_ble_eq_true rfl, Nat.le_of_ble_eq_true rfl⟩ ⟨Nat.le_of_ble_eq_true rfl, Nat.le_of_ble_eq_true rfl⟩ (c_serveR (hE.rg k hkN) (r32 (by omega) (by omega))) x_d (k_d0 ?_)
            refine j_aload 65 0 dX1_giveRegisters_63 rfl rfl ?_
            refine j_iconst 66 dX1_giveRegisters_65 rfl ?_
            refine j_puti 69 dX1_giveRegisters_66 rfl fl_X1_102 (hE.cl r (first_some hK.1 (by decide) hfw).2.1) rfl rfl rfl (r32 (by decide) (by decide)) ?_
            refine j_mn (fun g_66 hg_66 => ?_)
            refine j_mem hg_66 ?_
            refine j_iinc 72 2 (y := ((k + 1 : Nat) : Int)) (L2 := [(3, .int (i32 (((k + 1 : Nat) : Int)))), (5, .ref (e + 35 + r)), (4, .ref (e + 26 + k)), (2, .int (i32 (4))), (1, .ref (e + 25)), (0, .ref (e))]) dX1_giveRegisters_69 rfl rfl (by omega) (Nat.le_of_ble_eq_true rfl) rfl ?_
            refine j_goto 10 dX1_giveRegisters_72 rfl ?_
            refine j_sub [0, 3, 4, 5] rfl ?_
            exact ih_10 (k + 1) _ _ (by omega) (by omega) hda2 hK2 hF2 (by rw [hda2]; exact (sta_itrN (N := 4) (fun _ _ h => sta_takeR h) _ (by omega))) hg2
