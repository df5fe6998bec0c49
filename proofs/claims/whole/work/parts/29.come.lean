theorem itr_min {f : (Nat → Int) → Nat → (Nat → Int)} {d da db : Nat → Int} {k n : Nat} (hd : da = itr f d (min k n)) (h : k < n → db = f da k) (h2 : ¬ k < n → db = da) : db = itr f d (min (k + 1) n) := by
  by_cases q : k < n
  · rw [h q, hd, show min (k + 1) n = min k n + 1 by omega]
    show f _ k = f (itr f d (min k n)) (min k n)
    rw [show min k n = k by omega]
  · rw [h2 q, hd, show min (k + 1) n = min k n by omega]
theorem cnt_flip {p q : Nat → Bool} {c : Nat} (h : ∀ j, j ≠ c → q j = p j) (hp : p c = false) (hq : q c = true) : ∀ n, cnt q n = cnt p n + if c < n then 1 else 0
  | 0 => by rw [if_neg (by omega)]; rfl
  | n + 1 => by
    have ih := cnt_flip h hp hq n
    by_cases e1 : n = c
    · subst e1
      rw [cnt_y hq, cnt_n hp, ih, if_neg (by omega), if_pos (by omega)]
    · by_cases e2 : p n = true
      · rw [cnt_y ((h n e1).trans e2), cnt_y e2, ih]
        by_cases e3 : c < n
        · rw [if_pos e3, if_pos (by omega)]
        · rw [if_neg e3, if_neg (by omega)]
      · have e4 : p n = false := by cases hh : p n <;> simp_all
        rw [cnt_n ((h n e1).trans e4), cnt_n e4, ih]
        by_cases e3 : c < n
        · rw [if_pos e3, if_pos (by omega)]
        · rw [if_neg e3, if_neg (by omega)]
theorem cnt_up {d d' : Nat → Int} {c : Nat} {x : Int} (h5 : d' 5 = d 5) (h : ∀ j : Nat, j ≠ c → d' (173 + 14 * j) = d (173 + 14 * j)) (hc : (c : Int) < d 5) (hc4 : c < 40) (h1 : d (173 + 14 * c) ≠ x) (h2 : d' (173 + 14 * c) = x) : s_cnt d' x = s_cnt d x + 1 := by
  have h3 := cnt_flip (p := fun (c : Nat) => decide ((c : Int) < d 5) && decide (d (173 + 14 * c) = x)) (q := fun (c : Nat) => decide ((c : Int) < d' 5) && decide (d' (173 + 14 * c) = x)) (c := c) (fun j hj => by
    show (decide ((j : Int) < d' 5) && decide (d' (173 + 14 * j) = x)) = (decide ((j : Int) < d 5) && decide (d (173 + 14 * j) = x))
    rw [h5, h j hj]) (by show (_ && decide (d (173 + 14 * c) = x)) = false; rw [decide_eq_false h1, Bool.and_false]) (by show (decide ((c : Int) < d' 5) && decide (d' (173 + 14 * c) = x)) = true; rw [h5, decide_eq_true hc, decide_eq_true h2]; rfl) 40
  rw [if_pos hc4] at h3
  exact h3
theorem cnt_same {d d' : Nat → Int} {c : Nat} {x : Int} (h5 : d' 5 = d 5) (h : ∀ j : Nat, j ≠ c → d' (173 + 14 * j) = d (173 + 14 * j)) (h1 : d (173 + 14 * c) ≠ x) (h2 : d' (173 + 14 * c) ≠ x) : s_cnt d' x = s_cnt d x := cnt_cong (fun j hj => by
  by_cases e1 : j = c
  · subst e1
    rw [decide_eq_false h1, decide_eq_false h2, Bool.and_false, Bool.and_false]
  · rw [h5, h j e1])
theorem isBusy_cong {d d' : Nat → Int} {x : Int} (h5 : d' 5 = d 5) (h : ∀ c : Nat, d' (169 + 14 * c) = d (169 + 14 * c) ∧ d' (173 + 14 * c) = d (173 + 14 * c) ∧ d' (174 + 14 * c) = d (174 + 14 * c)) : s_isBusy d' x = s_isBusy d x := by
  unfold s_isBusy
  rw [show s_callBy d' x = s_callBy d x from fst_cong (fun c _ => by rw [h5, (h c).1, (h c).2.1]), show s_callTo d' x = s_callTo d x from fst_cong (fun c _ => by rw [h5, (h c).2.1, (h c).2.2])]
theorem po_over {d : Nat → Int} {c : Nat} {y : Int} (h : PO d) (hy : 5 < y) : PO (s_isOver d c y) := by
  unfold s_isOver
  refine h.up (by rw [ud_n (by omega), ud_n (by omega), ud_n (by omega)]) (by rw [ud_n (by omega), ud_n (by omega), ud_n (by omega)]) (by rw [ud_n (by omega), ud_n (by omega), ud_n (by omega)]) (fun x hx => by rw [ud_n (by omega), ud_n (by omega), ud_n (by omega)]) (fun c2 hc2 => ?_)
  by_cases q : c2 = c
  · subst q
    refine Or.inr (fun h4 => ?_)
    rw [ud_n (by omega), ud_n (by omega), ud_s] at h4
    omega
  · refine Or.inl ⟨?_, ?_, ?_⟩ <;> rw [ud_n (by omega), ud_n (by omega), ud_n (by omega)]
theorem po_waits {d : Nat → Int} {c : Nat} {y : Int} (h : PO d) (h5 : (c : Int) < d 5) (hy : d (173 + 14 * c) ≤ 4) : PO (s_waits d c y) := by
  unfold s_waits
  refine h.up (by rw [ud_n (by omega), ud_n (by omega), ud_n (by omega)]) (by rw [ud_n (by omega), ud_n (by omega), ud_n (by omega)]) (by rw [ud_n (by omega), ud_n (by omega), ud_n (by omega)]) (fun x hx => by rw [ud_n (by omega), ud_n (by omega), ud_n (by omega)]) (fun c2 hc2 => ?_)
  by_cases q : c2 = c
  · subst q
    refine Or.inr (fun h4 => ?_)
    rw [ud_n (by omega), ud_n (by omega), ud_n (by omega), ud_n (by omega), ud_n (by omega), ud_n (by omega)]
    exact h.1 c2 h5 hy
  · refine Or.inl ⟨?_, ?_, ?_⟩ <;> rw [ud_n (by omega), ud_n (by omega), ud_n (by omega)]
theorem po_ud {d : Nat → Int} {i : Nat} {v : Int} (h : PO d) (h1 : i ≠ 5 ∧ i ≠ 3 ∧ i ≠ 23) (h2 : ¬ (50 ≤ i ∧ i < 95)) (h3 : i < 169 ∨ ((i - 169) % 14 ≠ 4 ∧ (i - 169) % 14 ≠ 5 ∧ (i - 169) % 14 ≠ 6)) : PO (ud d i v) :=
  h.up (ud_n (by omega)) (ud_n (by omega)) (ud_n (by omega)) (fun x hx => ud_n (by omega)) (fun c _ => Or.inl ⟨ud_n (by omega), ud_n (by omega), ud_n (by omega)⟩)
section CM
variable {g : Mem} {e k : Nat} {d : Nat → Int}
theorem kx_came (h : KX g e d) (h5 : (k : Int) < d 5) {v : Int} : KX (up2 (up2 g (e + 35 + k) 6 1) e 12 v) e (ud d (182 + 14 * k) 1) :=
  KX.set12 ⟨rel_came h.1 h.2.1.1 h5, h.2.1.cong (fun i hi => ud_n (fun q => by subst q; unfold inI kpI at hi; omega)), po_ud h.2.2 (by omega) (by omega) (by omega)⟩
theorem kx_end (h : KX g e d) (h5 : (k : Int) < d 5) {y t : Int} (hy : 5 < y) (ht : t = g e 6) (hI : Inv (s_isOver d k y)) : KX (up2 (up2 (up2 g (e + 35 + k) 1 y) (e + 35 + k) 11 t) (e + 35 + k) 12 0) e (s_isOver d k y) :=
  ⟨rel_over h.1 h.2.1.1 h5 (ht.trans h.1.2.1.2.2.2.2.2.2.1), hI, po_over h.2.2 hy⟩
theorem kx_wait (h : KX g e d) (h5 : (k : Int) < d 5) {y v : Int} (hy : d (173 + 14 * k) ≤ 4) (hv : v = bm (g e 11 + 1)) (hI : Inv (s_waits d k y)) : KX (up2 (up2 (up2 g e 11 v) (e + 35 + k) 7 v) (e + 35 + k) 1 y) e (s_waits d k y) :=
  ⟨rel_waits h.1 h.2.1.1 h5 (hv.trans (by rw [h.1.2.1.2.2.2.2.2.2.2.2.2.2.2])), hI, po_waits h.2.2 h5 hy⟩
theorem Fr.end {g0 : Mem} (h : Fr g0 g e) (hk : k < 40) {y t z : Int} {j1 j2 j3 : Nat} : Fr g0 (up2 (up2 (up2 g (e + 35 + k) j1 y) (e + 35 + k) j2 t) (e + 35 + k) j3 z) e := ((h.up (by omega) (by omega)).up (by omega) (by omega)).up (by omega) (by omega)
theorem f_come_over (hs : d (173 + 14 * k) = 0) (hc : d (172 + 14 * k) = d 6) (h : s_isBusy d (d (169 + 14 * k)) = true ∨ d 19 ≤ (s_cnt d 1 : Int)) : f_come d k = s_isOver (ud d (182 + 14 * k) 1) k 10 := by
  unfold f_come s_comes
  rw [if_pos ⟨hs, hc⟩, if_pos h]
theorem f_come_wait (hs : d (173 + 14 * k) = 0) (hc : d (172 + 14 * k) = d 6) (h : ¬ (s_isBusy d (d (169 + 14 * k)) = true ∨ d 19 ≤ (s_cnt d 1 : Int))) : f_come d k = s_waits (ud d (182 + 14 * k) 1) k 1 := by
  unfold f_come s_comes
  rw [if_pos ⟨hs, hc⟩, if_neg h]
theorem cnt_come_over (hs : d (173 + 14 * k) = 0) (hc : d (172 + 14 * k) = d 6) (h : s_isBusy d (d (169 + 14 * k)) = true ∨ d 19 ≤ (s_cnt d 1 : Int)) : s_cnt (f_come d k) 1 = s_cnt d 1 := by
  rw [f_come_over hs hc h]
  unfold s_isOver
  refine cnt_same (c := k) (by rw [ud_n (by omega), ud_n (by omega), ud_n (by omega), ud_n (by omega)]) (fun j hj => by rw [ud_n (by omega), ud_n (by omega), ud_n (by omega), ud_n (by omega)]) (by omega) (by rw [ud_n (by omega), ud_n (by omega), ud_s]; decide)
theorem cnt_come_wait (h5 : (k : Int) < d 5) (hk : k < 40) (hs : d (173 + 14 * k) = 0) (hc : d (172 + 14 * k) = d 6) (h : ¬ (s_isBusy d (d (169 + 14 * k)) = true ∨ d 19 ≤ (s_cnt d 1 : Int))) : s_cnt (f_come d k) 1 = s_cnt d 1 + 1 := by
  rw [f_come_wait hs hc h]
  unfold s_waits
  refine cnt_up (c := k) (by rw [ud_n (by omega), ud_n (by omega), ud_n (by omega), ud_n (by omega)]) (fun j hj => by rw [ud_n (by omega), ud_n (by omega), ud_n (by omega), ud_n (by omega)]) h5 hk (by omega) (by rw [ud_n (by omega), ud_n (by omega), ud_s])
end CM
/-- whether the guard has refused a call -/
def gF (d : Nat → Int) (b : Int) : Nat → Int
  | 0 => b
  | c + 1 => if (itr f_come d c) (173 + 14 * c) = 0 ∧ (itr f_come d c) (172 + 14 * c) = (itr f_come d c) 6 ∧ (itr f_come d c) 19 ≤ (s_cnt (itr f_come d c) 1 : Int) then 1 else gF d b c
def s_gr (d : Nat → Int) (b : Int) : Int := gF d b (d 5).toNat
theorem gF_min {d da : Nat → Int} {b y : Int} {k n : Nat} (hd : da = itr f_come d (min k n)) (h : k < n → y = if da (173 + 14 * k) = 0 ∧ da (172 + 14 * k) = da 6 ∧ da 19 ≤ (s_cnt da 1 : Int) then 1 else gF d b (min k n)) (h2 : ¬ k < n → y = gF d b (min k n)) : y = gF d b (min (k + 1) n) := by
  by_cases q : k < n
  · rw [h q, hd, show min (k + 1) n = min k n + 1 by omega]
    conv => rhs; unfold gF
    rw [show min k n = k by omega]
  · rw [h2 q, show min (k + 1) n = min k n by omega]

theorem sta_itr_come {d : Nat → Int} : ∀ n, Sta d (itr f_come d n)
  | 0 => Sta.rf
  | n + 1 => (sta_itr_come n).tr sta_fcome

set_option maxRecDepth 20000 in
theorem c_letCallsCome {w : Wd} {sh : Shp} {g : Mem} {e : Nat} {d : Nat → Int} (hE : ExS sh.1 e) (hK0 : KX g e d) : CT w mX1_letCallsCome [.ref (e)] sh g (vQ sh (fun g2 => KX g2 e (s_t2 d) ∧ Fr g g2 e ∧ g2 e 12 = s_gr d (g e 12))) := by
  refine j_entry (by decide) rfl (Nat.le_of_ble_eq_true rfl) (fun h => by cases h) rfl ?_
  show J w mX1_letCallsCome 0 [(0, .ref (e))] [] sh g 0 0 _
  refine j_aload_n 1 0 dX1_letCallsCome_0 rfl rfl ?_
  refine j_iconst 2 dX1_letCallsCome_1 rfl ?_
  refine j_callV 5 (As := [.int (i32 (1))]) (kc2 := 0) (ks2 := 0) dX1_letCallsCome_2 rfl mvX1_countIn lk_X1_235 hE.ex rfl ⟨Nat.le_of_ble_eq_true rfl, rfl⟩ rfl rfl (Nat.le_of_ble_eq_true rfl) ⟨Nat.le_of_ble_eq_true rfl, Nat.le_of_ble_eq_true rfl⟩ ⟨Nat.le_of_ble_eq_true rfl, Nat.le_of_ble_eq_true rfl⟩ (c_countIn hE (r32 (by decide) (by decide))) x_d (k_d1 ?_)
  refine j_istore_n 6 (L2 := [(1, .int (i32 ((x_countIn g e 1 : Int)))), (0, .ref (e))]) dX1_letCallsCome_5 rfl rfl (Nat.le_of_ble_eq_true rfl) rfl ?_
  refine j_aload_n 7 1 dX1_letCallsCome_6 rfl rfl ?_
  refine j_getr 10 dX1_letCallsCome_7 rfl fl_X1_47 hE.ex rfl (fun _ _ => rfl) rfl ?_
  refine j_astore_n 11 (L2 := [(2, .ref (e + 34)), (1, .int (i32 ((x_countIn g e 1 : Int)))), (0, .ref (e))]) dX1_letCallsCome_10 rfl rfl (Nat.le_of_ble_eq_true rfl) rfl ?_
  refine j_aload_n 12 0 dX1_letCallsCome_11 rfl rfl ?_
  refine j_alen 13 dX1_letCallsCome_12 rfl hE.cls (Nat.le_of_ble_eq_true rfl) rfl ?_
  refine j_top (y := 40) rfl ?_
  refine j_istore_n 14 (L2 := [(3, .int (i32 (40))), (2, .ref (e + 34)), (1, .int (i32 ((x_countIn g e 1 : Int)))), (0, .ref (e))]) dX1_letCallsCome_13 rfl rfl (Nat.le_of_ble_eq_true rfl) rfl ?_
  refine j_iconst 15 dX1_letCallsCome_14 rfl ?_
  refine j_istore 17 (L2 := [(4, .int (i32 (0))), (3, .int (i32 (40))), (2, .ref (e + 34)), (1, .int (i32 ((x_countIn g e 1 : Int)))), (0, .ref (e))]) dX1_letCallsCome_15 rfl (Nat.le_of_ble_eq_true rfl) rfl ?_
  suffices lp_17 : ∀ (n_17 : Nat) (k : Nat) (c : Int) (da : Nat → Int) (ga : Mem), 40 - k < n_17 → k ≤ 40 → da = itr f_come d (min k (d 5).toNat) → KX ga e da → Fr g ga e → c = (s_cnt da 1 : Int) → Sta d da → ga e 12 = gF d (g e 12) (min k (d 5).toNat) → J w mX1_letCallsCome 17 [(4, .int (i32 ((k : Int)))), (3, .int (i32 (40))), (2, .ref (e + 34)), (1, .int (i32 (c))), (0, .ref (e))] [] sh ga 0 0 (vQ sh (fun g2 => KX g2 e (s_t2 d) ∧ Fr g g2 e ∧ g2 e 12 = s_gr d (g e 12))) by
    exact lp_17 _ 0 _ d g (Nat.lt_succ_self _) (by omega) (by rw [Nat.zero_min]; rfl) hK0 Fr.rf (by rw [rel_countIn hK0.1 (by decide)]) Sta.rf (by rw [Nat.zero_min]; rfl)
  intro n_17
  induction n_17 with
  | zero => intro k c da ga h_; exact absurd h_ (Nat.not_lt_zero _)
  | succ n_17 ih_17 =>
    intro k c da ga hn_17 hk hd hK hF hc hS hg
    have hn5 : da 5 = d 5 := hS 5 (Or.inl (by decide))
    have hcl : c ≤ 40 := by rw [hc]; have := cnt_le (fun (c : Nat) => decide ((c : Int) < da 5) && decide (da (173 + 14 * c) = 1)) 40; unfold s_cnt; omega
    have hc0 : 0 ≤ c := by rw [hc]; omega
    refine j_iload 19 0 dX1_letCallsCome_17 rfl rfl ?_
    refine j_iload_n 20 1 dX1_letCallsCome_19 rfl rfl ?_
    refine j_icmp_ge 23 138 dX1_letCallsCome_20 rfl rfl (r32 (by omega) (by omega)) (r32 (by decide) (by decide)) (fun c_20 => ?_) (fun c_20 => ?_)
    · exact j_vret dX1_letCallsCome_138 rfl (⟨rfl, rfl, by have h40 := hK.2.1.1.2.2.2.2.2.1; rw [show min k (d 5).toNat = (d 5).toNat by omega] at hd hg; rw [hd] at hK; exact ⟨hK, hF, hg⟩⟩)
    · have hk40 : k < 40 := by omega
      have hst := hK.1.st hk40
      refine j_aload_n 24 2 dX1_letCallsCome_23 rfl rfl ?_
      refine j_iload 26 0 dX1_letCallsCome_24 rfl rfl ?_
      refine j_aald 27 k dX1_letCallsCome_26 rfl hE.cls (Nat.le_of_ble_eq_true rfl) rfl rfl rfl (show k < 40 by omega) rfl ?_
      refine j_astore 29 (L2 := [(5, .ref (e + 35 + k)), (4, .int (i32 ((k : Int)))), (3, .int (i32 (40))), (2, .ref (e + 34)), (1, .int (i32 (c))), (0, .ref (e))]) dX1_letCallsCome_27 rfl (Nat.le_of_ble_eq_true rfl) rfl ?_
      refine j_aload 31 0 dX1_letCallsCome_29 rfl rfl ?_
      refine j_geti 34 dX1_letCallsCome_31 rfl fl_X1_102 (hE.cl k (show k < 40 by omega)) rfl rfl (fun r_31 => ?_)
      refine j_if_ne 37 132 dX1_letCallsCome_34 rfl rfl r_31 (fun c_34 => ?_) (fun c_34 => ?_)
      · have hfs : k < (d 5).toNat → f_come da k = da := fun q => by unfold f_come; rw [if_neg]; intro h; (have h5 : (k : Int) < da 5 := by omega); rw [if_pos h5] at hst; exact c_34 (hst.trans h.1)
        have hda2 : da = itr f_come d (min (k + 1) (d 5).toNat) := itr_min hd (fun q => (hfs q).symm) (fun _ => rfl)
        have hgr2 : ga e 12 = gF d (g e 12) (min (k + 1) (d 5).toNat) := gF_min hd (fun q => by rw [if_neg (fun h => by (have h5 : (k : Int) < da 5 := by omega); rw [if_pos h5] at hst; exact c_34 (hst.trans h.1)), hg]) (fun q => hg)
        have hK2 : KX ga e da := hK
        have hF2 : Fr g ga e := hF
        have hc2 : c = (s_cnt da 1 : Int) := hc
        refine j_iinc 135 1 (y := ((k + 1 : Nat) : Int)) (L2 := [(4, .int (i32 (((k + 1 : Nat) : Int)))), (5, .ref (e + 35 + k)), (3, .int (i32 (40))), (2, .ref (e + 34)), (1, .int (i32 (c))), (0, .ref (e))]) dX1_letCallsCome_132 rfl rfl (by omega) (Nat.le_of_ble_eq_true rfl) rfl ?_
        refine j_goto 17 dX1_letCallsCome_135 rfl ?_
        refine j_sub [0, 2, 3, 4, 5] rfl ?_
        exact ih_17 (k + 1) _ _ _ (by omega) (by omega) hda2 hK2 hF2 hc2 (by rw [hda2]; exact sta_itr_come _) hgr2
      · have h5 : (k : Int) < da 5 := by
          rcases Int.lt_or_le (k : Int) (da 5) with q | q
          · exact q
          · rw [if_neg (by omega)] at hst; omega
        rw [if_pos h5] at hst
        have hst0 : da (173 + 14 * k) = 0 := by omega
        have T := hK.1.tl hk40 h5
        have hcm5 : ga (e + 35 + k) 5 = da (172 + 14 * k) := T.2.2.2.2.1
        have htm : ga e 6 = da 6 := hK.1.2.1.2.2.2.2.2.2.1
        refine j_aload 39 0 dX1_letCallsCome_37 rfl rfl ?_
        refine j_geti 42 dX1_letCallsCome_39 rfl fl_X1_238 (hE.cl k (show k < 40 by omega)) rfl rfl (fun r_39 => ?_)
        refine j_aload_n 43 5 dX1_letCallsCome_42 rfl rfl ?_
        refine j_geti 46 dX1_letCallsCome_43 rfl fl_X1_74 hE.ex rfl rfl (fun r_43 => ?_)
        refine j_icmp_ne 49 132 dX1_letCallsCome_46 rfl rfl r_39 r_43 (fun c_46 => ?_) (fun c_46 => ?_)
        · have hfs : k < (d 5).toNat → f_come da k = da := fun q => by unfold f_come; rw [if_neg]; intro h; first | exact c_46 (hcm5.trans (h.2.trans htm.symm)) | exact c_46 (hcm5.trans (h.2.1.trans htm.symm))
          have hda2 : da = itr f_come d (min (k + 1) (d 5).toNat) := itr_min hd (fun q => (hfs q).symm) (fun _ => rfl)
          have hgr2 : ga e 12 = gF d (g e 12) (min (k + 1) (d 5).toNat) := gF_min hd (fun q => by rw [if_neg (fun h => by first | exact c_46 (hcm5.trans (h.2.trans htm.symm)) | exact c_46 (hcm5.trans (h.2.1.trans htm.symm))), hg]) (fun q => hg)
          have hK2 : KX ga e da := hK
          have hF2 : Fr g ga e := hF
          have hc2 : c = (s_cnt da 1 : Int) := hc
          refine j_iinc 135 1 (y := ((k + 1 : Nat) : Int)) (L2 := [(4, .int (i32 (((k + 1 : Nat) : Int)))), (5, .ref (e + 35 + k)), (3, .int (i32 (40))), (2, .ref (e + 34)), (1, .int (i32 (c))), (0, .ref (e))]) dX1_letCallsCome_132 rfl rfl (by omega) (Nat.le_of_ble_eq_true rfl) rfl ?_
          refine j_goto 17 dX1_letCallsCome_135 rfl ?_
          refine j_sub [0, 2, 3, 4, 5] rfl ?_
          exact ih_17 (k + 1) _ _ _ (by omega) (by omega) hda2 hK2 hF2 hc2 (by rw [hda2]; exact sta_itr_come _) hgr2
        · have hcm : da (172 + 14 * k) = da 6 := by omega
          have hgd : ga e 7 = da 19 := hK.1.2.1.2.2.2.2.2.2.2.1
          refine j_aload 51 0 dX1_letCallsCome_49 rfl rfl ?_
          refine j_iconst 52 dX1_letCallsCome_51 rfl ?_
          refine j_putz 55 dX1_letCallsCome_52 rfl fl_X1_184 (hE.cl k (show k < 40 by omega)) rfl rfl rfl (by omega) ?_
          refine j_mn (fun g_52 hg_52 => ?_)
          refine j_iload_n 56 4 dX1_letCallsCome_55 rfl rfl ?_
          refine j_aload_n 57 5 dX1_letCallsCome_56 rfl rfl ?_
          refine j_geti 60 dX1_letCallsCome_57 rfl fl_X1_77 hE.ex rfl rfl (fun r_57 => ?_)
          refine j_top (y := da 19) (by rw [hg_52, up2_a (by omega)]; exact hgd) ?_
          refine j_icmp_lt 63 67 dX1_letCallsCome_60 rfl rfl (r32 (by omega) (by omega)) (r32 (by have := hK.2.1.2.1.1; omega) (by have := hK.2.1.2.1.1; omega)) (fun c_60 => ?_) (fun c_60 => ?_)
          · refine j_iconst 68 dX1_letCallsCome_67 rfl ?_
            refine j_istore 70 (L2 := [(6, .int (i32 (0))), (5, .ref (e + 35 + k)), (4, .int (i32 ((k : Int)))), (3, .int (i32 (40))), (2, .ref (e + 34)), (1, .int (i32 (c))), (0, .ref (e))]) dX1_letCallsCome_68 rfl (Nat.le_of_ble_eq_true rfl) rfl ?_
            refine j_aload_n 71 6 dX1_letCallsCome_70 rfl rfl ?_
            refine j_aload_n 72 6 dX1_letCallsCome_71 rfl rfl ?_
            refine j_getz 75 dX1_letCallsCome_72 rfl fl_X1_92 hE.ex rfl rfl (fun r_72 => ?_)
            refine j_top (y := ga e 12) (by rw [hg_52, up2_a (by omega)]) ?_
            have hg12 : g_52 e 12 = ga e 12 := by rw [hg_52, up2_a (by omega)]
            refine j_if_ne 78 83 dX1_letCallsCome_75 rfl rfl (by have h := r_72; rw [hg_52, up2_a (by omega)] at h; exact r01 h) (fun c_75 => ?_) (fun c_75 => ?_)
            · refine j_iconst 84 dX1_letCallsCome_83 rfl ?_
              refine j_goto 88 dX1_letCallsCome_84 rfl ?_
              refine j_putz 91 dX1_letCallsCome_88 rfl fl_X1_92 hE.ex rfl rfl rfl (by omega) ?_
              refine j_mn (fun g_88 hg_88 => ?_)
              have hK1 : KX g_88 e (ud da (182 + 14 * k) 1) := by rw [hg_88, hg_52]; exact kx_came hK h5
              have hF1 : Fr g g_88 e := by rw [hg_88, hg_52]; exact (hF.up (by omega) (by omega)).up (by omega) (by omega)
              refine j_iload 93 0 dX1_letCallsCome_91 rfl rfl ?_
              refine j_if_ne 96 108 dX1_letCallsCome_93 rfl rfl (r32 (by decide) (by decide)) (fun c_93 => absurd c_93 (by decide)) (fun c_93 => ?_)
              refine j_aload_n 97 6 dX1_letCallsCome_96 rfl rfl ?_
              refine j_aload 99 1 dX1_letCallsCome_97 rfl rfl ?_
              refine j_geti 102 dX1_letCallsCome_99 rfl fl_X1_169 (hE.cl k (show k < 40 by omega)) rfl rfl (fun r_99 => ?_)
              refine j_top (y := da (169 + 14 * k)) (by rw [hg_88, up2_a (by omega), hg_52, up2_k (by decide)]; exact T.2.1) ?_
              refine j_callV 105 (As := [.int (i32 (da (169 + 14 * k)))]) (kc2 := 0) (ks2 := 0) dX1_letCallsCome_102 rfl mvX1_isBusy lk_X1_181 hE.ex rfl ⟨Nat.le_of_ble_eq_true rfl, rfl⟩ rfl rfl (Nat.le_of_ble_eq_true rfl) ⟨Nat.le_of_ble_eq_true rfl, Nat.le_of_ble_eq_true rfl⟩ ⟨Nat.le_of_ble_eq_true rfl, Nat.le_of_ble_eq_true rfl⟩ (c_isBusy hE hK1.1.1 (by have h := r_99; rw [hg_88, up2_a (by omega), hg_52, up2_k (by decide)] at h; rw [← T.2.1]; exact h)) x_d (k_d1 ?_)
              refine j_if_eq 108 122 dX1_letCallsCome_105 rfl rfl (r01 (b01_r _)) (fun c_105 => ?_) (fun c_105 => ?_)
              · have hbz : s_isBusy da (da (169 + 14 * k)) = false := by rw [← isBusy_cong (d' := ud da (182 + 14 * k) 1) (ud_n (by omega)) (fun c => ⟨ud_n (by omega), ud_n (by omega), ud_n (by omega)⟩), ← rel_isBusy hK1.1]; exact b01_0 c_105
                refine j_aload_n 123 6 dX1_letCallsCome_122 rfl rfl ?_
                refine j_aload 125 1 dX1_letCallsCome_123 rfl rfl ?_
                refine j_iconst 126 dX1_letCallsCome_125 rfl ?_
                refine j_callV 129 (As := [.ref (e + 35 + k), .int (i32 (1))]) (kc2 := 0) (ks2 := 0) dX1_letCallsCome_126 rfl mvX1_queueUp lk_X1_241 hE.ex rfl ⟨Nat.le_of_ble_eq_true rfl, rfl⟩ rfl rfl (Nat.le_of_ble_eq_true rfl) ⟨Nat.le_of_ble_eq_true rfl, Nat.le_of_ble_eq_true rfl⟩ ⟨Nat.le_of_ble_eq_true rfl, Nat.le_of_ble_eq_true rfl⟩ (c_queueUp hE (hE.cl k hk40) (r32 (by decide) (by decide))) x_d (k_d0 ?_)
                have hor : ¬ (s_isBusy da (da (169 + 14 * k)) = true ∨ da 19 ≤ (s_cnt da 1 : Int)) := fun h => h.elim (fun h1 => by rw [h1] at hbz; cases hbz) (fun h2 => by omega)
                have hfo := f_come_wait hst0 hcm hor
                have hIo : Inv (f_come da k) := inv_come hK.2.1 h5
                have hK2 : KX (up2 (up2 (up2 g_88 e 11 (bm (g_88 e 11 + 1))) (e + 35 + k) 7 (bm (g_88 e 11 + 1))) (e + 35 + k) 1 1) e (f_come da k) := by rw [hfo]; exact kx_wait hK1 (by rw [ud_n (by omega)]; exact h5) (by rw [ud_n (by omega)]; omega) rfl (by rw [← hfo]; exact hIo)
                have hF2 : Fr g (up2 (up2 (up2 g_88 e 11 (bm (g_88 e 11 + 1))) (e + 35 + k) 7 (bm (g_88 e 11 + 1))) (e + 35 + k) 1 1) e := ((hF1.up (by omega) (by omega)).up (by omega) (by omega)).up (by omega) (by omega)
                have hda2 : f_come da k = itr f_come d (min (k + 1) (d 5).toNat) := itr_min hd (fun _ => rfl) (fun q => by omega)
                have hc2 : c + 1 = (s_cnt (f_come da k) 1 : Int) := by rw [cnt_come_wait h5 hk40 hst0 hcm hor]; omega
                have hgr2 : (up2 (up2 (up2 g_88 e 11 (bm (g_88 e 11 + 1))) (e + 35 + k) 7 (bm (g_88 e 11 + 1))) (e + 35 + k) 1 1) e 12 = gF d (g e 12) (min (k + 1) (d 5).toNat) := gF_min hd (fun q => by rw [up2_a (by omega), up2_a (by omega), up2_k (by decide), hg_88, up2_s]; rw [if_neg (fun h => by omega), ← hg]; omega) (fun q => by omega)
                refine j_iinc 132 5 (y := c + 1) (L2 := [(1, .int (i32 (c + 1))), (6, .int (i32 (0))), (5, .ref (e + 35 + k)), (4, .int (i32 ((k : Int)))), (3, .int (i32 (40))), (2, .ref (e + 34)), (0, .ref (e))]) dX1_letCallsCome_129 rfl rfl (by omega) (Nat.le_of_ble_eq_true rfl) rfl ?_
                refine j_iinc 135 3 (y := ((k + 1 : Nat) : Int)) (L2 := [(4, .int (i32 (((k + 1 : Nat) : Int)))), (1, .int (i32 (c + 1))), (6, .int (i32 (0))), (5, .ref (e + 35 + k)), (3, .int (i32 (40))), (2, .ref (e + 34)), (0, .ref (e))]) dX1_letCallsCome_132 rfl rfl (by omega) (Nat.le_of_ble_eq_true rfl) rfl ?_
                refine j_goto 17 dX1_letCallsCome_135 rfl ?_
                refine j_sub [0, 4, 5, 1, 6] rfl ?_
                exact ih_17 (k + 1) _ _ _ (by omega) (by omega) hda2 hK2 hF2 hc2 (by rw [hda2]; exact sta_itr_come _) hgr2
              · have hbz : s_isBusy da (da (169 + 14 * k)) = true := by rw [← isBusy_cong (d' := ud da (182 + 14 * k) 1) (ud_n (by omega)) (fun c => ⟨ud_n (by omega), ud_n (by omega), ud_n (by omega)⟩), ← rel_isBusy hK1.1]; exact b01_1 c_105
                refine j_aload 110 1 dX1_letCallsCome_108 rfl rfl ?_
                refine j_bipush 112 dX1_letCallsCome_110 rfl (by decide) ?_
                refine j_aload_n 113 6 dX1_letCallsCome_112 rfl rfl ?_
                refine j_geti 116 dX1_letCallsCome_113 rfl fl_X1_74 hE.ex rfl rfl (fun r_113 => ?_)
                refine j_callV 119 (As := [.int (i32 (10)), .int (i32 (g_88 (e) 6))]) (kc2 := 0) (ks2 := 0) dX1_letCallsCome_116 rfl mvX0_end lk_X1_204 (hE.cl k (show k < 40 by omega)) rfl ⟨Nat.le_of_ble_eq_true rfl, rfl⟩ rfl rfl (Nat.le_of_ble_eq_true rfl) ⟨Nat.le_of_ble_eq_true rfl, Nat.le_of_ble_eq_true rfl⟩ ⟨Nat.le_of_ble_eq_true rfl, Nat.le_of_ble_eq_true rfl⟩ (c_end (hE.cl k hk40) (r32 (by decide) (by decide)) r_113) x_d (k_d0 ?_)
                have hor : s_isBusy da (da (169 + 14 * k)) = true ∨ da 19 ≤ (s_cnt da 1 : Int) := by first | exact Or.inl hbz | exact Or.inr (by omega)
                have hfo := f_come_over hst0 hcm hor
                have hIo : Inv (f_come da k) := inv_come hK.2.1 h5
                have hK2 : KX (up2 (up2 (up2 g_88 (e + 35 + k) 1 10) (e + 35 + k) 11 (g_88 e 6)) (e + 35 + k) 12 0) e (f_come da k) := by rw [hfo]; exact kx_end hK1 (by rw [ud_n (by omega)]; exact h5) (by decide) rfl (by rw [← hfo]; exact hIo)
                have hF2 : Fr g (up2 (up2 (up2 g_88 (e + 35 + k) 1 10) (e + 35 + k) 11 (g_88 e 6)) (e + 35 + k) 12 0) e := hF1.end hk40
                have hda2 : f_come da k = itr f_come d (min (k + 1) (d 5).toNat) := itr_min hd (fun _ => rfl) (fun q => by omega)
                have hc2 : c = (s_cnt (f_come da k) 1 : Int) := by rw [cnt_come_over hst0 hcm hor]; exact hc
                have hgr2 : (up2 (up2 (up2 g_88 (e + 35 + k) 1 10) (e + 35 + k) 11 (g_88 e 6)) (e + 35 + k) 12 0) e 12 = gF d (g e 12) (min (k + 1) (d 5).toNat) := gF_min hd (fun q => by rw [up2_a (by omega), up2_a (by omega), up2_a (by omega), hg_88, up2_s]; first | rw [if_pos ⟨hst0, hcm, by omega⟩] | (rw [if_neg (fun h => by omega), ← hg]; omega)) (fun q => by omega)
                refine j_goto 132 dX1_letCallsCome_119 rfl ?_
                refine j_iinc 135 2 (y := ((k + 1 : Nat) : Int)) (L2 := [(4, .int (i32 (((k + 1 : Nat) : Int)))), (6, .int (i32 (0))), (5, .ref (e + 35 + k)), (3, .int (i32 (40))), (2, .ref (e + 34)), (1, .int (i32 (c))), (0, .ref (e))]) dX1_letCallsCome_132 rfl rfl (by omega) (Nat.le_of_ble_eq_true rfl) rfl ?_
                refine j_goto 17 dX1_letCallsCome_135 rfl ?_
                refine j_sub [0, 3, 4, 5, 6] rfl ?_
                exact ih_17 (k + 1) _ _ _ (by omega) (by omega) hda2 hK2 hF2 hc2 (by rw [hda2]; exact sta_itr_come _) hgr2
            · refine j_iload 80 0 dX1_letCallsCome_78 rfl rfl ?_
              refine j_if_eq 83 87 dX1_letCallsCome_80 rfl rfl (r32 (by decide) (by decide)) (fun c_80 => ?_) (fun c_80 => absurd c_80 (by decide))
              refine j_iconst 88 dX1_letCallsCome_87 rfl ?_
              refine j_putz 91 dX1_letCallsCome_88 rfl fl_X1_92 hE.ex rfl rfl rfl (by omega) ?_
              refine j_mn (fun g_88 hg_88 => ?_)
              have hK1 : KX g_88 e (ud da (182 + 14 * k) 1) := by rw [hg_88, hg_52]; exact kx_came hK h5
              have hF1 : Fr g g_88 e := by rw [hg_88, hg_52]; exact (hF.up (by omega) (by omega)).up (by omega) (by omega)
              refine j_iload 93 0 dX1_letCallsCome_91 rfl rfl ?_
              refine j_if_ne 96 108 dX1_letCallsCome_93 rfl rfl (r32 (by decide) (by decide)) (fun c_93 => absurd c_93 (by decide)) (fun c_93 => ?_)
              refine j_aload_n 97 6 dX1_letCallsCome_96 rfl rfl ?_
              refine j_aload 99 1 dX1_letCallsCome_97 rfl rfl ?_
              refine j_geti 102 dX1_letCallsCome_99 rfl fl_X1_169 (hE.cl k (show k < 40 by omega)) rfl rfl (fun r_99 => ?_)
              refine j_top (y := da (169 + 14 * k)) (by rw [hg_88, up2_a (by omega), hg_52, up2_k (by decide)]; exact T.2.1) ?_
              refine j_callV 105 (As := [.int (i32 (da (169 + 14 * k)))]) (kc2 := 0) (ks2 := 0) dX1_letCallsCome_102 rfl mvX1_isBusy lk_X1_181 hE.ex rfl ⟨Nat.le_of_ble_eq_true rfl, rfl⟩ rfl rfl (Nat.le_of_ble_eq_true rfl) ⟨Nat.le_of_ble_eq_true rfl, Nat.le_of_ble_eq_true rfl⟩ ⟨Nat.le_of_ble_eq_true rfl, Nat.le_of_ble_eq_true rfl⟩ (c_isBusy hE hK1.1.1 (by have h := r_99; rw [hg_88, up2_a (by omega), hg_52, up2_k (by decide)] at h; rw [← T.2.1]; exact h)) x_d (k_d1 ?_)
              refine j_if_eq 108 122 dX1_letCallsCome_105 rfl rfl (r01 (b01_r _)) (fun c_105 => ?_) (fun c_105 => ?_)
              · have hbz : s_isBusy da (da (169 + 14 * k)) = false := by rw [← isBusy_cong (d' := ud da (182 + 14 * k) 1) (ud_n (by omega)) (fun c => ⟨ud_n (by omega), ud_n (by omega), ud_n (by omega)⟩), ← rel_isBusy hK1.1]; exact b01_0 c_105
                refine j_aload_n 123 6 dX1_letCallsCome_122 rfl rfl ?_
                refine j_aload 125 1 dX1_letCallsCome_123 rfl rfl ?_
                refine j_iconst 126 dX1_letCallsCome_125 rfl ?_
                refine j_callV 129 (As := [.ref (e + 35 + k), .int (i32 (1))]) (kc2 := 0) (ks2 := 0) dX1_letCallsCome_126 rfl mvX1_queueUp lk_X1_241 hE.ex rfl ⟨Nat.le_of_ble_eq_true rfl, rfl⟩ rfl rfl (Nat.le_of_ble_eq_true rfl) ⟨Nat.le_of_ble_eq_true rfl, Nat.le_of_ble_eq_true rfl⟩ ⟨Nat.le_of_ble_eq_true rfl, Nat.le_of_ble_eq_true rfl⟩ (c_queueUp hE (hE.cl k hk40) (r32 (by decide) (by decide))) x_d (k_d0 ?_)
                have hor : ¬ (s_isBusy da (da (169 + 14 * k)) = true ∨ da 19 ≤ (s_cnt da 1 : Int)) := fun h => h.elim (fun h1 => by rw [h1] at hbz; cases hbz) (fun h2 => by omega)
                have hfo := f_come_wait hst0 hcm hor
                have hIo : Inv (f_come da k) := inv_come hK.2.1 h5
                have hK2 : KX (up2 (up2 (up2 g_88 e 11 (bm (g_88 e 11 + 1))) (e + 35 + k) 7 (bm (g_88 e 11 + 1))) (e + 35 + k) 1 1) e (f_come da k) := by rw [hfo]; exact kx_wait hK1 (by rw [ud_n (by omega)]; exact h5) (by rw [ud_n (by omega)]; omega) rfl (by rw [← hfo]; exact hIo)
                have hF2 : Fr g (up2 (up2 (up2 g_88 e 11 (bm (g_88 e 11 + 1))) (e + 35 + k) 7 (bm (g_88 e 11 + 1))) (e + 35 + k) 1 1) e := ((hF1.up (by omega) (by omega)).up (by omega) (by omega)).up (by omega) (by omega)
                have hda2 : f_come da k = itr f_come d (min (k + 1) (d 5).toNat) := itr_min hd (fun _ => rfl) (fun q => by omega)
                have hc2 : c + 1 = (s_cnt (f_come da k) 1 : Int) := by rw [cnt_come_wait h5 hk40 hst0 hcm hor]; omega
                have hgr2 : (up2 (up2 (up2 g_88 e 11 (bm (g_88 e 11 + 1))) (e + 35 + k) 7 (bm (g_88 e 11 + 1))) (e + 35 + k) 1 1) e 12 = gF d (g e 12) (min (k + 1) (d 5).toNat) := gF_min hd (fun q => by rw [up2_a (by omega), up2_a (by omega), up2_k (by decide), hg_88, up2_s]; rw [if_neg (fun h => by omega), ← hg]; omega) (fun q => by omega)
                refine j_iinc 132 5 (y := c + 1) (L2 := [(1, .int (i32 (c + 1))), (6, .int (i32 (0))), (5, .ref (e + 35 + k)), (4, .int (i32 ((k : Int)))), (3, .int (i32 (40))), (2, .ref (e + 34)), (0, .ref (e))]) dX1_letCallsCome_129 rfl rfl (by omega) (Nat.le_of_ble_eq_true rfl) rfl ?_
                refine j_iinc 135 3 (y := ((k + 1 : Nat) : Int)) (L2 := [(4, .int (i32 (((k + 1 : Nat) : Int)))), (1, .int (i32 (c + 1))), (6, .int (i32 (0))), (5, .ref (e + 35 + k)), (3, .int (i32 (40))), (2, .ref (e + 34)), (0, .ref (e))]) dX1_letCallsCome_132 rfl rfl (by omega) (Nat.le_of_ble_eq_true rfl) rfl ?_
                refine j_goto 17 dX1_letCallsCome_135 rfl ?_
                refine j_sub [0, 4, 5, 1, 6] rfl ?_
                exact ih_17 (k + 1) _ _ _ (by omega) (by omega) hda2 hK2 hF2 hc2 (by rw [hda2]; exact sta_itr_come _) hgr2
              · have hbz : s_isBusy da (da (169 + 14 * k)) = true := by rw [← isBusy_cong (d' := ud da (182 + 14 * k) 1) (ud_n (by omega)) (fun c => ⟨ud_n (by omega), ud_n (by omega), ud_n (by omega)⟩), ← rel_isBusy hK1.1]; exact b01_1 c_105
                refine j_aload 110 1 dX1_letCallsCome_108 rfl rfl ?_
                refine j_bipush 112 dX1_letCallsCome_110 rfl (by decide) ?_
                refine j_aload_n 113 6 dX1_letCallsCome_112 rfl rfl ?_
                refine j_geti 116 dX1_letCallsCome_113 rfl fl_X1_74 hE.ex rfl rfl (fun r_113 => ?_)
                refine j_callV 119 (As := [.int (i32 (10)), .int (i32 (g_88 (e) 6))]) (kc2 := 0) (ks2 := 0) dX1_letCallsCome_116 rfl mvX0_end lk_X1_204 (hE.cl k (show k < 40 by omega)) rfl ⟨Nat.le_of_ble_eq_true rfl, rfl⟩ rfl rfl (Nat.le_of_ble_eq_true rfl) ⟨Nat.le_of_ble_eq_true rfl, Nat.le_of_ble_eq_true rfl⟩ ⟨Nat.le_of_ble_eq_true rfl, Nat.le_of_ble_eq_true rfl⟩ (c_end (hE.cl k hk40) (r32 (by decide) (by decide)) r_113) x_d (k_d0 ?_)
                have hor : s_isBusy da (da (169 + 14 * k)) = true ∨ da 19 ≤ (s_cnt da 1 : Int) := by first | exact Or.inl hbz | exact Or.inr (by omega)
                have hfo := f_come_over hst0 hcm hor
                have hIo : Inv (f_come da k) := inv_come hK.2.1 h5
                have hK2 : KX (up2 (up2 (up2 g_88 (e + 35 + k) 1 10) (e + 35 + k) 11 (g_88 e 6)) (e + 35 + k) 12 0) e (f_come da k) := by rw [hfo]; exact kx_end hK1 (by rw [ud_n (by omega)]; exact h5) (by decide) rfl (by rw [← hfo]; exact hIo)
                have hF2 : Fr g (up2 (up2 (up2 g_88 (e + 35 + k) 1 10) (e + 35 + k) 11 (g_88 e 6)) (e + 35 + k) 12 0) e := hF1.end hk40
                have hda2 : f_come da k = itr f_come d (min (k + 1) (d 5).toNat) := itr_min hd (fun _ => rfl) (fun q => by omega)
                have hc2 : c = (s_cnt (f_come da k) 1 : Int) := by rw [cnt_come_over hst0 hcm hor]; exact hc
                have hgr2 : (up2 (up2 (up2 g_88 (e + 35 + k) 1 10) (e + 35 + k) 11 (g_88 e 6)) (e + 35 + k) 12 0) e 12 = gF d (g e 12) (min (k + 1) (d 5).toNat) := gF_min hd (fun q => by rw [up2_a (by omega), up2_a (by omega), up2_a (by omega), hg_88, up2_s]; first | rw [if_pos ⟨hst0, hcm, by omega⟩] | (rw [if_neg (fun h => by omega), ← hg]; omega)) (fun q => by omega)
                refine j_goto 132 dX1_letCallsCome_119 rfl ?_
                refine j_iinc 135 2 (y := ((k + 1 : Nat) : Int)) (L2 := [(4, .int (i32 (((k + 1 : Nat) : Int)))), (6, .int (i32 (0))), (5, .ref (e + 35 + k)), (3, .int (i32 (40))), (2, .ref (e + 34)), (1, .int (i32 (c))), (0, .ref (e))]) dX1_letCallsCome_132 rfl rfl (by omega) (Nat.le_of_ble_eq_true rfl) rfl ?_
                refine j_goto 17 dX1_letCallsCome_135 rfl ?_
                refine j_sub [0, 3, 4, 5, 6] rfl ?_
                exact ih_17 (k + 1) _ _ _ (by omega) (by omega) hda2 hK2 hF2 hc2 (by rw [hda2]; exact sta_itr_come _) hgr2
          · refine j_iconst 64 dX1_letCallsCome_63 rfl ?_
            refine j_goto 68 dX1_letCallsCome_64 rfl ?_
            refine j_istore 70 (L2 := [(6, .int (i32 (1))), (5, .ref (e + 35 + k)), (4, .int (i32 ((k : Int)))), (3, .int (i32 (40))), (2, .ref (e + 34)), (1, .int (i32 (c))), (0, .ref (e))]) dX1_letCallsCome_68 rfl (Nat.le_of_ble_eq_true rfl) rfl ?_
            refine j_aload_n 71 6 dX1_letCallsCome_70 rfl rfl ?_
            refine j_aload_n 72 6 dX1_letCallsCome_71 rfl rfl ?_
            refine j_getz 75 dX1_letCallsCome_72 rfl fl_X1_92 hE.ex rfl rfl (fun r_72 => ?_)
            refine j_top (y := ga e 12) (by rw [hg_52, up2_a (by omega)]) ?_
            have hg12 : g_52 e 12 = ga e 12 := by rw [hg_52, up2_a (by omega)]
            refine j_if_ne 78 83 dX1_letCallsCome_75 rfl rfl (by have h := r_72; rw [hg_52, up2_a (by omega)] at h; exact r01 h) (fun c_75 => ?_) (fun c_75 => ?_)
            · refine j_iconst 84 dX1_letCallsCome_83 rfl ?_
              refine j_goto 88 dX1_letCallsCome_84 rfl ?_
              refine j_putz 91 dX1_letCallsCome_88 rfl fl_X1_92 hE.ex rfl rfl rfl (by omega) ?_
              refine j_mn (fun g_88 hg_88 => ?_)
              have hK1 : KX g_88 e (ud da (182 + 14 * k) 1) := by rw [hg_88, hg_52]; exact kx_came hK h5
              have hF1 : Fr g g_88 e := by rw [hg_88, hg_52]; exact (hF.up (by omega) (by omega)).up (by omega) (by omega)
              refine j_iload 93 0 dX1_letCallsCome_91 rfl rfl ?_
              refine j_if_ne 96 108 dX1_letCallsCome_93 rfl rfl (r32 (by decide) (by decide)) (fun c_93 => ?_) (fun c_93 => absurd c_93 (by decide))
              refine j_aload 110 1 dX1_letCallsCome_108 rfl rfl ?_
              refine j_bipush 112 dX1_letCallsCome_110 rfl (by decide) ?_
              refine j_aload_n 113 6 dX1_letCallsCome_112 rfl rfl ?_
              refine j_geti 116 dX1_letCallsCome_113 rfl fl_X1_74 hE.ex rfl rfl (fun r_113 => ?_)
              refine j_callV 119 (As := [.int (i32 (10)), .int (i32 (g_88 (e) 6))]) (kc2 := 0) (ks2 := 0) dX1_letCallsCome_116 rfl mvX0_end lk_X1_204 (hE.cl k (show k < 40 by omega)) rfl ⟨Nat.le_of_ble_eq_true rfl, rfl⟩ rfl rfl (Nat.le_of_ble_eq_true rfl) ⟨Nat.le_of_ble_eq_true rfl, Nat.le_of_ble_eq_true rfl⟩ ⟨Nat.le_of_ble_eq_true rfl, Nat.le_of_ble_eq_true rfl⟩ (c_end (hE.cl k hk40) (r32 (by decide) (by decide)) r_113) x_d (k_d0 ?_)
              have hor : s_isBusy da (da (169 + 14 * k)) = true ∨ da 19 ≤ (s_cnt da 1 : Int) := by first | exact Or.inl hbz | exact Or.inr (by omega)
              have hfo := f_come_over hst0 hcm hor
              have hIo : Inv (f_come da k) := inv_come hK.2.1 h5
              have hK2 : KX (up2 (up2 (up2 g_88 (e + 35 + k) 1 10) (e + 35 + k) 11 (g_88 e 6)) (e + 35 + k) 12 0) e (f_come da k) := by rw [hfo]; exact kx_end hK1 (by rw [ud_n (by omega)]; exact h5) (by decide) rfl (by rw [← hfo]; exact hIo)
              have hF2 : Fr g (up2 (up2 (up2 g_88 (e + 35 + k) 1 10) (e + 35 + k) 11 (g_88 e 6)) (e + 35 + k) 12 0) e := hF1.end hk40
              have hda2 : f_come da k = itr f_come d (min (k + 1) (d 5).toNat) := itr_min hd (fun _ => rfl) (fun q => by omega)
              have hc2 : c = (s_cnt (f_come da k) 1 : Int) := by rw [cnt_come_over hst0 hcm hor]; exact hc
              have hgr2 : (up2 (up2 (up2 g_88 (e + 35 + k) 1 10) (e + 35 + k) 11 (g_88 e 6)) (e + 35 + k) 12 0) e 12 = gF d (g e 12) (min (k + 1) (d 5).toNat) := gF_min hd (fun q => by rw [up2_a (by omega), up2_a (by omega), up2_a (by omega), hg_88, up2_s]; first | rw [if_pos ⟨hst0, hcm, by omega⟩] | (rw [if_neg (fun h => by omega), ← hg]; omega)) (fun q => by omega)
              refine j_goto 132 dX1_letCallsCome_119 rfl ?_
              refine j_iinc 135 2 (y := ((k + 1 : Nat) : Int)) (L2 := [(4, .int (i32 (((k + 1 : Nat) : Int)))), (6, .int (i32 (1))), (5, .ref (e + 35 + k)), (3, .int (i32 (40))), (2, .ref (e + 34)), (1, .int (i32 (c))), (0, .ref (e))]) dX1_letCallsCome_132 rfl rfl (by omega) (Nat.le_of_ble_eq_true rfl) rfl ?_
              refine j_goto 17 dX1_letCallsCome_135 rfl ?_
              refine j_sub [0, 3, 4, 5, 6] rfl ?_
              exact ih_17 (k + 1) _ _ _ (by omega) (by omega) hda2 hK2 hF2 hc2 (by rw [hda2]; exact sta_itr_come _) hgr2
            · refine j_iload 80 0 dX1_letCallsCome_78 rfl rfl ?_
              refine j_if_eq 83 87 dX1_letCallsCome_80 rfl rfl (r32 (by decide) (by decide)) (fun c_80 => absurd c_80 (by decide)) (fun c_80 => ?_)
              refine j_iconst 84 dX1_letCallsCome_83 rfl ?_
              refine j_goto 88 dX1_letCallsCome_84 rfl ?_
              refine j_putz 91 dX1_letCallsCome_88 rfl fl_X1_92 hE.ex rfl rfl rfl (by omega) ?_
              refine j_mn (fun g_88 hg_88 => ?_)
              have hK1 : KX g_88 e (ud da (182 + 14 * k) 1) := by rw [hg_88, hg_52]; exact kx_came hK h5
              have hF1 : Fr g g_88 e := by rw [hg_88, hg_52]; exact (hF.up (by omega) (by omega)).up (by omega) (by omega)
              refine j_iload 93 0 dX1_letCallsCome_91 rfl rfl ?_
              refine j_if_ne 96 108 dX1_letCallsCome_93 rfl rfl (r32 (by decide) (by decide)) (fun c_93 => ?_) (fun c_93 => absurd c_93 (by decide))
              refine j_aload 110 1 dX1_letCallsCome_108 rfl rfl ?_
              refine j_bipush 112 dX1_letCallsCome_110 rfl (by decide) ?_
              refine j_aload_n 113 6 dX1_letCallsCome_112 rfl rfl ?_
              refine j_geti 116 dX1_letCallsCome_113 rfl fl_X1_74 hE.ex rfl rfl (fun r_113 => ?_)
              refine j_callV 119 (As := [.int (i32 (10)), .int (i32 (g_88 (e) 6))]) (kc2 := 0) (ks2 := 0) dX1_letCallsCome_116 rfl mvX0_end lk_X1_204 (hE.cl k (show k < 40 by omega)) rfl ⟨Nat.le_of_ble_eq_true rfl, rfl⟩ rfl rfl (Nat.le_of_ble_eq_true rfl) ⟨Nat.le_of_ble_eq_true rfl, Nat.le_of_ble_eq_true rfl⟩ ⟨Nat.le_of_ble_eq_true rfl, Nat.le_of_ble_eq_true rfl⟩ (c_end (hE.cl k hk40) (r32 (by decide) (by decide)) r_113) x_d (k_d0 ?_)
              have hor : s_isBusy da (da (169 + 14 * k)) = true ∨ da 19 ≤ (s_cnt da 1 : Int) := by first | exact Or.inl hbz | exact Or.inr (by omega)
              have hfo := f_come_over hst0 hcm hor
              have hIo : Inv (f_come da k) := inv_come hK.2.1 h5
              have hK2 : KX (up2 (up2 (up2 g_88 (e + 35 + k) 1 10) (e + 35 + k) 11 (g_88 e 6)) (e + 35 + k) 12 0) e (f_come da k) := by rw [hfo]; exact kx_end hK1 (by rw [ud_n (by omega)]; exact h5) (by decide) rfl (by rw [← hfo]; exact hIo)
              have hF2 : Fr g (up2 (up2 (up2 g_88 (e + 35 + k) 1 10) (e + 35 + k) 11 (g_88 e 6)) (e + 35 + k) 12 0) e := hF1.end hk40
              have hda2 : f_come da k = itr f_come d (min (k + 1) (d 5).toNat) := itr_min hd (fun _ => rfl) (fun q => by omega)
              have hc2 : c = (s_cnt (f_come da k) 1 : Int) := by rw [cnt_come_over hst0 hcm hor]; exact hc
              have hgr2 : (up2 (up2 (up2 g_88 (e + 35 + k) 1 10) (e + 35 + k) 11 (g_88 e 6)) (e + 35 + k) 12 0) e 12 = gF d (g e 12) (min (k + 1) (d 5).toNat) := gF_min hd (fun q => by rw [up2_a (by omega), up2_a (by omega), up2_a (by omega), hg_88, up2_s]; first | rw [if_pos ⟨hst0, hcm, by omega⟩] | (rw [if_neg (fun h => by omega), ← hg]; omega)) (fun q => by omega)
              refine j_goto 132 dX1_letCallsCome_119 rfl ?_
              refine j_iinc 135 2 (y := ((k + 1 : Nat) : Int)) (L2 := [(4, .int (i32 (((k + 1 : Nat) : Int)))), (6, .int (i32 (1))), (5, .ref (e + 35 + k)), (3, .int (i32 (40))), (2, .ref (e + 34)), (1, .int (i32 (c))), (0, .ref (e))]) dX1_letCallsCome_132 rfl rfl (by omega) (Nat.le_of_ble_eq_true rfl) rfl ?_
              refine j_goto 17 dX1_letCallsCome_135 rfl ?_
              refine j_sub [0, 3, 4, 5, 6] rfl ?_
              exact ih_17 (k + 1) _ _ _ (by omega) (by omega) hda2 hK2 hF2 hc2 (by rw [hda2]; exact sta_itr_come _) hgr2
