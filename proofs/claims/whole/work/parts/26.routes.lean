theorem rfF_lt {g : Mem} {e r : Nat} : ∀ {n : Nat} {s : Int}, x_rfF g e n s = some r → r < 8
  | 0, s, h => by cases h
  | n + 1, s, h => by
    unfold x_rfF at h
    split at h
    · cases h
    · split at h
      · exact rfF_lt h
      · next q =>
        rcases fst_rng (fun (i : Nat) => decide ((i : Int) < g e 4) && decide (g (e + 9 + 2 * i) 1 = s)) 8 with h2 | ⟨k, h1, h2, -⟩
        · exact absurd h2 q
        · have h3 : x_prefixAt g e s = (k : Int) := h2
          rw [h3] at h
          cases h
          omega
theorem rfF_0 {g : Mem} {e n : Nat} {s : Int} (h : s < 10) : x_rfF g e n s = none := by
  cases n with
  | zero => rfl
  | succ n => unfold x_rfF; rw [if_pos h]
theorem rfF_s {g : Mem} {e n : Nat} {s : Int} (h : ¬ s < 10) (h2 : x_prefixAt g e s = -1) : x_rfF g e (n + 1) s = x_rfF g e n (s / 10) := by
  conv => lhs; unfold x_rfF
  rw [if_neg h, if_pos h2]
theorem rfF_h {g : Mem} {e n k : Nat} {s : Int} (h : ¬ s < 10) (h2 : x_prefixAt g e s = (k : Int)) : x_rfF g e (n + 1) s = some k := by
  conv => lhs; unfold x_rfF
  rw [if_neg h, h2, if_neg (by omega)]
  rfl

theorem len_cutF : ∀ (n k : Nat) (x : Int), x < pw n * 10 → r_len n x = r_len (n + k) x
  | 0, k, x, h => by
    have : pw 0 = 1 := rfl
    rw [r_len_lt (by omega), r_len_lt (by omega)]
  | n + 1, k, x, h => by
    by_cases q : x < 10
    · rw [r_len_lt q, r_len_lt q]
    · rw [show n + 1 + k = (n + k) + 1 by omega, r_len_ge q, r_len_ge q, len_cutF n k (x / 10) (by rw [pw_s] at h; omega)]
theorem len_cut {x : Int} (h : x < 100000000) : x_len x = r_len 10 x := len_cutF 8 2 x (by have e1 : pw 8 * 10 = 1000000000 := rfl; omega)

set_option maxRecDepth 20000 in
theorem c_routeFor {w : Wd} {sh : Shp} {g : Mem} {e : Nat} (hE : ExS sh.1 e) (hI : ExI g e) {x : Int} (hx : R32 x) (hx8 : x < 100000000) : CT w mX1_routeFor [.ref (e), .int (i32 (x))] sh g (dQ (some (va_rf ((x_routeFor g e x).map fun i => e + 9 + 2 * i))) sh g) := by
  refine j_entry (by decide) rfl (Nat.le_of_ble_eq_true rfl) (fun h => by cases h) rfl ?_
  show J w mX1_routeFor 0 [(0, .ref (e)), (1, .int (i32 (x)))] [] sh g 0 0 _
  refine j_iload_n 1 1 dX1_routeFor_0 rfl rfl ?_
  refine j_istore_n 2 (L2 := [(2, .int (i32 (x))), (0, .ref (e)), (1, .int (i32 (x)))]) dX1_routeFor_1 rfl rfl (Nat.le_of_ble_eq_true rfl) rfl ?_
  suffices lp_2 : ∀ (n_2 : Nat) (m : Nat) (s : Int), 7 - m < n_2 → m ≤ 7 → R32 s → s < pw (7 - m) * 10 → x_rfF g e 8 x = x_rfF g e (8 - m) s → J w mX1_routeFor 2 [(2, .int (i32 (s))), (0, .ref (e)), (1, .int (i32 (x)))] [] sh g 0 0 (dQ (some (va_rf ((x_routeFor g e x).map fun i => e + 9 + 2 * i))) sh g) by
    exact lp_2 _ 0 x (Nat.lt_succ_self _) (by omega) hx (by have e1 : pw (7 - 0) * 10 = 100000000 := rfl; omega) rfl
  intro n_2
  induction n_2 with
  | zero => intro m s h_; exact absurd h_ (Nat.not_lt_zero _)
  | succ n_2 ih_2 =>
    intro m s hn_2 hm hs hs10 hq
    obtain ⟨hs1, hs2⟩ := hs
    refine j_iload_n 3 0 dX1_routeFor_2 rfl rfl ?_
    refine j_bipush 5 dX1_routeFor_3 rfl (by decide) ?_
    refine j_icmp_lt 8 71 dX1_routeFor_5 rfl rfl (r32 (by omega) (by omega)) (r32 (by decide) (by decide)) (fun c_5 => ?_) (fun c_5 => ?_)
    · have hz : x_rfF g e 8 x = none := hq.trans (rfF_0 c_5)
      refine j_null 72 dX1_routeFor_71 rfl ?_
      exact j_aretN dX1_routeFor_72 rfl (⟨by show _ = Sum.inl (some (va_rf ((x_rfF g e 8 x).map fun i => e + 9 + 2 * i))); rw [hz]; rfl, rfl, rfl⟩)
    · have hm7 : m < 7 := by
        rcases Nat.lt_or_ge m 7 with q | q
        · exact q
        · rw [show m = 7 by omega] at hs10; have e1 : pw (7 - 7) * 10 = 10 := rfl; omega
      refine j_aload_n 9 1 dX1_routeFor_8 rfl rfl ?_
      refine j_getr 12 dX1_routeFor_9 rfl fl_X1_26 hE.ex rfl (fun _ _ => rfl) rfl ?_
      refine j_astore_n 13 (L2 := [(3, .ref (e + 8)), (2, .int (i32 (s))), (0, .ref (e)), (1, .int (i32 (x)))]) dX1_routeFor_12 rfl rfl (Nat.le_of_ble_eq_true rfl) rfl ?_
      refine j_aload_n 14 0 dX1_routeFor_13 rfl rfl ?_
      refine j_alen 15 dX1_routeFor_14 rfl hE.rts (Nat.le_of_ble_eq_true rfl) rfl ?_
      refine j_top (y := 8) rfl ?_
      refine j_istore 17 (L2 := [(4, .int (i32 (8))), (3, .ref (e + 8)), (2, .int (i32 (s))), (0, .ref (e)), (1, .int (i32 (x)))]) dX1_routeFor_15 rfl (Nat.le_of_ble_eq_true rfl) rfl ?_
      refine j_iconst 18 dX1_routeFor_17 rfl ?_
      refine j_istore 20 (L2 := [(5, .int (i32 (0))), (4, .int (i32 (8))), (3, .ref (e + 8)), (2, .int (i32 (s))), (0, .ref (e)), (1, .int (i32 (x)))]) dX1_routeFor_18 rfl (Nat.le_of_ble_eq_true rfl) rfl ?_
      suffices lp_20 : ∀ (n_20 : Nat) (k : Nat), 8 - k < n_20 → k ≤ 8 → (∀ j, j < k → (fun (i : Nat) => decide ((i : Int) < g e 4) && decide (g (e + 9 + 2 * i) 1 = s)) j = false) → J w mX1_routeFor 20 [(5, .int (i32 ((k : Int)))), (4, .int (i32 (8))), (3, .ref (e + 8)), (2, .int (i32 (s))), (0, .ref (e)), (1, .int (i32 (x)))] [] sh g 0 0 (dQ (some (va_rf ((x_routeFor g e x).map fun i => e + 9 + 2 * i))) sh g) by
        exact lp_20 _ 0 (Nat.lt_succ_self _) (by omega) (fun j hj => absurd hj (Nat.not_lt_zero j))
      intro n_20
      induction n_20 with
      | zero => intro k h_; exact absurd h_ (Nat.not_lt_zero _)
      | succ n_20 ih_20 =>
        intro k hn_20 hk hp
        refine j_iload 22 0 dX1_routeFor_20 rfl rfl ?_
        refine j_iload 24 1 dX1_routeFor_22 rfl rfl ?_
        refine j_icmp_ge 27 63 dX1_routeFor_24 rfl rfl (r32 (by omega) (by omega)) (r32 (by decide) (by decide)) (fun c_24 => ?_) (fun c_24 => ?_)
        · have hn8 : x_prefixAt g e s = -1 := fst_none (p := (fun (i : Nat) => decide ((i : Int) < g e 4) && decide (g (e + 9 + 2 * i) 1 = s))) (fun j hj => hp j (by omega))
          refine j_iload_n 64 3 dX1_routeFor_63 rfl rfl ?_
          refine j_bipush 66 dX1_routeFor_64 rfl (by decide) ?_
          refine j_idiv 67 dX1_routeFor_66 rfl (by omega) (by omega) (by omega) (by omega) ?_
          refine j_istore_n 68 (L2 := [(2, .int (i32 ((s) / (10)))), (5, .int (i32 ((k : Int)))), (4, .int (i32 (8))), (3, .ref (e + 8)), (0, .ref (e)), (1, .int (i32 (x)))]) dX1_routeFor_67 rfl rfl (Nat.le_of_ble_eq_true rfl) rfl ?_
          refine j_goto 2 dX1_routeFor_68 rfl ?_
          refine j_sub [0, 4, 5] rfl ?_
          exact ih_2 (m + 1) (s / 10) (by omega) (by omega) ⟨by omega, by omega⟩ (by rw [show 7 - m = (7 - (m + 1)) + 1 by omega, pw_s] at hs10; omega) (by rw [hq, show 8 - m = (8 - (m + 1)) + 1 by omega, rfF_s c_5 hn8])
        · refine j_aload_n 28 2 dX1_routeFor_27 rfl rfl ?_
          refine j_iload 30 0 dX1_routeFor_28 rfl rfl ?_
          refine j_aald 31 k dX1_routeFor_30 rfl hE.rts (Nat.le_of_ble_eq_true rfl) rfl rfl rfl (show k < 8 by omega) rfl ?_
          refine j_astore 33 (L2 := [(6, .ref (e + 9 + 2 * k)), (5, .int (i32 ((k : Int)))), (4, .int (i32 (8))), (3, .ref (e + 8)), (2, .int (i32 (s))), (0, .ref (e)), (1, .int (i32 (x)))]) dX1_routeFor_31 rfl (Nat.le_of_ble_eq_true rfl) rfl ?_
          refine j_aload 35 0 dX1_routeFor_33 rfl rfl ?_
          refine j_geti 38 dX1_routeFor_35 rfl fl_X1_138 (hE.rt k (show k < 8 by omega)) rfl rfl (fun r_35 => ?_)
          refine j_top (y := (k : Int)) (hI.2.1 k (by omega)) ?_
          refine j_aload_n 39 5 dX1_routeFor_38 rfl rfl ?_
          refine j_geti 42 dX1_routeFor_39 rfl fl_X1_68 hE.ex rfl rfl (fun r_39 => ?_)
          refine j_icmp_ge 45 57 dX1_routeFor_42 rfl rfl (r32 (by omega) (by omega)) r_39 (fun c_42 => ?_) (fun c_42 => ?_)
          · have hr : (fun (i : Nat) => decide ((i : Int) < g e 4) && decide (g (e + 9 + 2 * i) 1 = s)) k = false := by simp [c_42] <;> omega
            refine j_iinc 60 1 (y := ((k + 1 : Nat) : Int)) (L2 := [(5, .int (i32 (((k + 1 : Nat) : Int)))), (6, .ref (e + 9 + 2 * k)), (4, .int (i32 (8))), (3, .ref (e + 8)), (2, .int (i32 (s))), (0, .ref (e)), (1, .int (i32 (x)))]) dX1_routeFor_57 rfl rfl (by omega) (Nat.le_of_ble_eq_true rfl) rfl ?_
            refine j_goto 20 dX1_routeFor_60 rfl ?_
            refine j_sub [0, 2, 3, 4, 5, 6] rfl ?_
            exact ih_20 (k + 1) (by omega) (by omega) (lt_step hp hr)
          · refine j_aload 47 0 dX1_routeFor_45 rfl rfl ?_
            refine j_geti 50 dX1_routeFor_47 rfl fl_X1_139 (hE.rt k (show k < 8 by omega)) rfl rfl (fun r_47 => ?_)
            refine j_iload_n 51 4 dX1_routeFor_50 rfl rfl ?_
            refine j_icmp_ne 54 57 dX1_routeFor_51 rfl rfl r_47 (r32 (by omega) (by omega)) (fun c_51 => ?_) (fun c_51 => ?_)
            · have hr : (fun (i : Nat) => decide ((i : Int) < g e 4) && decide (g (e + 9 + 2 * i) 1 = s)) k = false := by simp [c_51]
              refine j_iinc 60 1 (y := ((k + 1 : Nat) : Int)) (L2 := [(5, .int (i32 (((k + 1 : Nat) : Int)))), (6, .ref (e + 9 + 2 * k)), (4, .int (i32 (8))), (3, .ref (e + 8)), (2, .int (i32 (s))), (0, .ref (e)), (1, .int (i32 (x)))]) dX1_routeFor_57 rfl rfl (by omega) (Nat.le_of_ble_eq_true rfl) rfl ?_
              refine j_goto 20 dX1_routeFor_60 rfl ?_
              refine j_sub [0, 2, 3, 4, 5, 6] rfl ?_
              exact ih_20 (k + 1) (by omega) (by omega) (lt_step hp hr)
            · have hr : (fun (i : Nat) => decide ((i : Int) < g e 4) && decide (g (e + 9 + 2 * i) 1 = s)) k = true := by simp [c_51] <;> omega
              have hh : x_rfF g e 8 x = some k := by rw [hq, show 8 - m = (7 - m) + 1 by omega]; exact rfF_h c_5 (fst_hit (p := (fun (i : Nat) => decide ((i : Int) < g e 4) && decide (g (e + 9 + 2 * i) 1 = s))) (by omega) hp hr)
              refine j_aload 56 0 dX1_routeFor_54 rfl rfl ?_
              exact j_aret dX1_routeFor_56 rfl (⟨by show _ = Sum.inl (some (va_rf ((x_rfF g e 8 x).map fun i => e + 9 + 2 * i))); rw [hh]; rfl, rfl, rfl⟩)

theorem c_routeFor0 {w : Wd} {sh : Shp} {g : Mem} {e : Nat} (hE : ExS sh.1 e) (hI : ExI g e) {x : Int} (hx : R32 x) (hx8 : x < 100000000) (h : x_routeFor g e x = none) : CT w mX1_routeFor [.ref e, .int (i32 x)] sh g (dQ (some .null) sh g) := by
  have h2 := c_routeFor (w := w) hE hI hx hx8
  rw [h] at h2
  exact h2
theorem c_routeFor1 {w : Wd} {sh : Shp} {g : Mem} {e : Nat} (hE : ExS sh.1 e) (hI : ExI g e) {x : Int} (hx : R32 x) (hx8 : x < 100000000) {r : Nat} (h : x_routeFor g e x = some r) : CT w mX1_routeFor [.ref e, .int (i32 x)] sh g (dQ (some (.ref (e + 9 + 2 * r))) sh g) := by
  have h2 := c_routeFor (w := w) hE hI hx hx8
  rw [h] at h2
  exact h2

set_option maxRecDepth 20000 in
theorem c_isComplete0 {w : Wd} {sh : Shp} {g : Mem} {e : Nat} (hE : ExS sh.1 e) (hI : ExI g e) (hb : g e 2 ≤ 12) {x : Int} (hx : R32 x) (hx8 : x < 100000000) (hr : x_routeFor g e x = none) : CT w mX1_isComplete [.ref (e), .int (i32 (x))] sh g (dQ (some (.int (i32 (b01 (x_isComplete g e x))))) sh g) := by
  have hl10 := r_len_le (v := x) 10
  have hl8 : x_len x = r_len 10 x := len_cut hx8
  refine j_entry (by decide) rfl (Nat.le_of_ble_eq_true rfl) (fun h => by cases h) rfl ?_
  show J w mX1_isComplete 0 [(0, .ref (e)), (1, .int (i32 (x)))] [] sh g 0 0 _
  refine j_aload_n 1 0 dX1_isComplete_0 rfl rfl ?_
  refine j_iload_n 2 1 dX1_isComplete_1 rfl rfl ?_
  refine j_callV 5 (As := [.int (i32 (x))]) (kc2 := 0) (ks2 := 0) dX1_isComplete_2 rfl mvX1_lineWith lk_X1_146 hE.ex rfl ⟨Nat.le_of_ble_eq_true rfl, rfl⟩ rfl rfl (Nat.le_of_ble_eq_true rfl) ⟨Nat.le_of_ble_eq_true rfl, Nat.le_of_ble_eq_true rfl⟩ ⟨Nat.le_of_ble_eq_true rfl, Nat.le_of_ble_eq_true rfl⟩ (c_lineWith hE hb hx) x_d (k_d1 ?_)
  refine j_iconst 6 dX1_isComplete_5 rfl ?_
  refine j_icmp_eq 9 11 dX1_isComplete_6 rfl rfl (fst_r32 _ (by decide)) (r32 (by decide) (by decide)) (fun c_6 => ?_) (fun c_6 => ?_)
  · refine j_aload_n 12 0 dX1_isComplete_11 rfl rfl ?_
    refine j_iload_n 13 1 dX1_isComplete_12 rfl rfl ?_
    refine j_callV 16 (As := [.int (i32 (x))]) (kc2 := 0) (ks2 := 0) dX1_isComplete_13 rfl mvX1_routeFor lk_X1_142 hE.ex rfl ⟨Nat.le_of_ble_eq_true rfl, rfl⟩ rfl rfl (Nat.le_of_ble_eq_true rfl) ⟨Nat.le_of_ble_eq_true rfl, Nat.le_of_ble_eq_true rfl⟩ ⟨Nat.le_of_ble_eq_true rfl, Nat.le_of_ble_eq_true rfl⟩ (c_routeFor0 hE hI hx hx8 hr) x_d (k_d1 ?_)
    refine j_astore_nN 17 (L2 := [(2, .null), (0, .ref (e)), (1, .int (i32 (x)))]) dX1_isComplete_16 rfl rfl (Nat.le_of_ble_eq_true rfl) rfl ?_
    refine j_aload_nN 18 0 dX1_isComplete_17 rfl rfl ?_
    refine j_ifnullN 36 dX1_isComplete_18 rfl ?_
    have hz : (0 : Int) = b01 (x_isComplete g e x) := by unfold x_isComplete; rw [hr, decide_eq_true c_6]; rfl
    refine j_iconst 37 dX1_isComplete_36 rfl ?_
    exact j_zret dX1_isComplete_37 rfl (Or.inl rfl) (q_i hz)
  · have hz : x_isComplete g e x = true := by unfold x_isComplete; rw [decide_eq_false c_6]; rfl
    refine j_iconst 10 dX1_isComplete_9 rfl ?_
    exact j_zret dX1_isComplete_10 rfl (Or.inr rfl) (q_i (by rw [hz]; rfl))

set_option maxRecDepth 20000 in
theorem c_isComplete1 {w : Wd} {sh : Shp} {g : Mem} {e : Nat} (hE : ExS sh.1 e) (hI : ExI g e) (hb : g e 2 ≤ 12) {x : Int} (hx : R32 x) (hx8 : x < 100000000) {r : Nat} (hr : x_routeFor g e x = some r) : CT w mX1_isComplete [.ref (e), .int (i32 (x))] sh g (dQ (some (.int (i32 (b01 (x_isComplete g e x))))) sh g) := by
  have hl10 := r_len_le (v := x) 10
  have hl8 : x_len x = r_len 10 x := len_cut hx8
  refine j_entry (by decide) rfl (Nat.le_of_ble_eq_true rfl) (fun h => by cases h) rfl ?_
  show J w mX1_isComplete 0 [(0, .ref (e)), (1, .int (i32 (x)))] [] sh g 0 0 _
  refine j_aload_n 1 0 dX1_isComplete_0 rfl rfl ?_
  refine j_iload_n 2 1 dX1_isComplete_1 rfl rfl ?_
  refine j_callV 5 (As := [.int (i32 (x))]) (kc2 := 0) (ks2 := 0) dX1_isComplete_2 rfl mvX1_lineWith lk_X1_146 hE.ex rfl ⟨Nat.le_of_ble_eq_true rfl, rfl⟩ rfl rfl (Nat.le_of_ble_eq_true rfl) ⟨Nat.le_of_ble_eq_true rfl, Nat.le_of_ble_eq_true rfl⟩ ⟨Nat.le_of_ble_eq_true rfl, Nat.le_of_ble_eq_true rfl⟩ (c_lineWith hE hb hx) x_d (k_d1 ?_)
  refine j_iconst 6 dX1_isComplete_5 rfl ?_
  refine j_icmp_eq 9 11 dX1_isComplete_6 rfl rfl (fst_r32 _ (by decide)) (r32 (by decide) (by decide)) (fun c_6 => ?_) (fun c_6 => ?_)
  · refine j_aload_n 12 0 dX1_isComplete_11 rfl rfl ?_
    refine j_iload_n 13 1 dX1_isComplete_12 rfl rfl ?_
    refine j_callV 16 (As := [.int (i32 (x))]) (kc2 := 0) (ks2 := 0) dX1_isComplete_13 rfl mvX1_routeFor lk_X1_142 hE.ex rfl ⟨Nat.le_of_ble_eq_true rfl, rfl⟩ rfl rfl (Nat.le_of_ble_eq_true rfl) ⟨Nat.le_of_ble_eq_true rfl, Nat.le_of_ble_eq_true rfl⟩ ⟨Nat.le_of_ble_eq_true rfl, Nat.le_of_ble_eq_true rfl⟩ (c_routeFor1 hE hI hx hx8 hr) x_d (k_d1 ?_)
    refine j_astore_n 17 (L2 := [(2, .ref (e + 9 + 2 * r)), (0, .ref (e)), (1, .int (i32 (x)))]) dX1_isComplete_16 rfl rfl (Nat.le_of_ble_eq_true rfl) rfl ?_
    refine j_aload_n 18 0 dX1_isComplete_17 rfl rfl ?_
    refine j_ifnull 21 dX1_isComplete_18 rfl ?_
    refine j_aload_n 22 0 dX1_isComplete_21 rfl rfl ?_
    refine j_geti 25 dX1_isComplete_22 rfl fl_X1_150 (hE.rt r (show r < 8 from rfF_lt hr)) rfl rfl (fun r_22 => ?_)
    refine j_iload_n 26 2 dX1_isComplete_25 rfl rfl ?_
    refine j_callS 29 (As := [.int (i32 (x))]) (kc2 := 0) (ks2 := 0) dX1_isComplete_26 rfl msX7_lengthOf lk_X1_153 rfl rfl (Nat.le_of_ble_eq_true rfl) ⟨Nat.le_of_ble_eq_true rfl, Nat.le_of_ble_eq_true rfl⟩ ⟨Nat.le_of_ble_eq_true rfl, Nat.le_of_ble_eq_true rfl⟩ (c_lengthOf hx) x_d (k_d1 ?_)
    refine j_icmp_ne 32 36 dX1_isComplete_29 rfl rfl r_22 (r32 (by omega) (by omega)) (fun c_29 => ?_) (fun c_29 => ?_)
    · have hz : (0 : Int) = b01 (x_isComplete g e x) := by unfold x_isComplete; rw [hr, decide_eq_true c_6]; show 0 = b01 (false || decide (g (e + 9 + 2 * r) 2 = (x_len x : Int))); rw [hl8, decide_eq_false c_29]; rfl
      refine j_iconst 37 dX1_isComplete_36 rfl ?_
      exact j_zret dX1_isComplete_37 rfl (Or.inl rfl) (q_i hz)
    · have hz : (1 : Int) = b01 (x_isComplete g e x) := by unfold x_isComplete; rw [hr, decide_eq_true c_6]; show 1 = b01 (false || decide (g (e + 9 + 2 * r) 2 = (x_len x : Int))); rw [hl8, decide_eq_true (by omega)]; rfl
      refine j_iconst 33 dX1_isComplete_32 rfl ?_
      refine j_goto 37 dX1_isComplete_33 rfl ?_
      exact j_zret dX1_isComplete_37 rfl (Or.inr rfl) (q_i hz)
  · have hz : x_isComplete g e x = true := by unfold x_isComplete; rw [decide_eq_false c_6]; rfl
    refine j_iconst 10 dX1_isComplete_9 rfl ?_
    exact j_zret dX1_isComplete_10 rfl (Or.inr rfl) (q_i (by rw [hz]; rfl))

theorem c_isComplete {w : Wd} {sh : Shp} {g : Mem} {e : Nat} (hE : ExS sh.1 e) (hI : ExI g e) (hb : g e 2 ≤ 12) {x : Int} (hx : R32 x) (hx8 : x < 100000000) : CT w mX1_isComplete [.ref e, .int (i32 x)] sh g (dQ (some (.int (i32 (b01 (x_isComplete g e x))))) sh g) := by
  cases hr : x_routeFor g e x with
  | none => exact c_isComplete0 hE hI hb hx hx8 hr
  | some r => exact c_isComplete1 hE hI hb hx hx8 hr
