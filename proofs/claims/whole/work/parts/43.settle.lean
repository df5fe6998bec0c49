/-- a call that isn't over -/
def x_open (g : Mem) (e : Nat) : Bool := !decide (fst (fun i => decide (0 ≤ g (e + 35 + i) 1) && decide (g (e + 35 + i) 1 ≤ 5)) 40 = -1)

set_option maxRecDepth 20000 in
theorem c_hasOpenCall {w : Wd} {sh : Shp} {g : Mem} {e : Nat} (hE : ExS sh.1 e) : CT w mX1_hasOpenCall [.ref (e)] sh g (dQ (some (.int (i32 (b01 (x_open g e))))) sh g) := by
  refine j_entry (by decide) rfl (Nat.le_of_ble_eq_true rfl) (fun h => by cases h) rfl ?_
  show J w mX1_hasOpenCall 0 [(0, .ref (e))] [] sh g 0 0 _
  refine j_aload_n 1 0 dX1_hasOpenCall_0 rfl rfl ?_
  refine j_getr 4 dX1_hasOpenCall_1 rfl fl_X1_47 hE.ex rfl (fun _ _ => rfl) rfl ?_
  refine j_astore_n 5 (L2 := [(1, .ref (e + 34)), (0, .ref (e))]) dX1_hasOpenCall_4 rfl rfl (Nat.le_of_ble_eq_true rfl) rfl ?_
  refine j_aload_n 6 0 dX1_hasOpenCall_5 rfl rfl ?_
  refine j_alen 7 dX1_hasOpenCall_6 rfl hE.cls (Nat.le_of_ble_eq_true rfl) rfl ?_
  refine j_top (y := 40) rfl ?_
  refine j_istore_n 8 (L2 := [(2, .int (i32 (40))), (1, .ref (e + 34)), (0, .ref (e))]) dX1_hasOpenCall_7 rfl rfl (Nat.le_of_ble_eq_true rfl) rfl ?_
  refine j_iconst 9 dX1_hasOpenCall_8 rfl ?_
  refine j_istore_n 10 (L2 := [(3, .int (i32 (0))), (2, .int (i32 (40))), (1, .ref (e + 34)), (0, .ref (e))]) dX1_hasOpenCall_9 rfl rfl (Nat.le_of_ble_eq_true rfl) rfl ?_
  suffices lp_10 : ∀ (n_10 : Nat) (k : Nat), 40 - k < n_10 → k ≤ 40 → (∀ j, j < k → (fun i => decide (0 ≤ g (e + 35 + i) 1) && decide (g (e + 35 + i) 1 ≤ 5)) j = false) → J w mX1_hasOpenCall 10 [(3, .int (i32 ((k : Int)))), (2, .int (i32 (40))), (1, .ref (e + 34)), (0, .ref (e))] [] sh g 0 0 (dQ (some (.int (i32 (b01 (x_open g e))))) sh g) by
    exact lp_10 _ 0 (Nat.lt_succ_self _) (by omega) (fun j hj => absurd hj (Nat.not_lt_zero j))
  intro n_10
  induction n_10 with
  | zero => intro k h_; exact absurd h_ (Nat.not_lt_zero _)
  | succ n_10 ih_10 =>
    intro k hn_10 hk hp
    refine j_iload_n 11 0 dX1_hasOpenCall_10 rfl rfl ?_
    refine j_iload_n 12 1 dX1_hasOpenCall_11 rfl rfl ?_
    refine j_icmp_ge 15 45 dX1_hasOpenCall_12 rfl rfl (r32 (by omega) (by omega)) (r32 (by decide) (by decide)) (fun c_12 => ?_) (fun c_12 => ?_)
    · refine j_iconst 46 dX1_hasOpenCall_45 rfl ?_
      exact j_zret dX1_hasOpenCall_46 rfl (Or.inl rfl) (q_i (by unfold x_open; rw [fst_none (p := (fun i => decide (0 ≤ g (e + 35 + i) 1) && decide (g (e + 35 + i) 1 ≤ 5))) (fun j hj => hp j (by omega))]; rfl))
    · refine j_aload_n 16 2 dX1_hasOpenCall_15 rfl rfl ?_
      refine j_iload_n 17 0 dX1_hasOpenCall_16 rfl rfl ?_
      refine j_aald 18 k dX1_hasOpenCall_17 rfl hE.cls (Nat.le_of_ble_eq_true rfl) rfl rfl rfl (show k < 40 by omega) rfl ?_
      refine j_astore 20 (L2 := [(4, .ref (e + 35 + k)), (3, .int (i32 ((k : Int)))), (2, .int (i32 (40))), (1, .ref (e + 34)), (0, .ref (e))]) dX1_hasOpenCall_18 rfl (Nat.le_of_ble_eq_true rfl) rfl ?_
      refine j_aload 22 0 dX1_hasOpenCall_20 rfl rfl ?_
      refine j_geti 25 dX1_hasOpenCall_22 rfl fl_X1_102 (hE.cl k (show k < 40 by omega)) rfl rfl (fun r_22 => ?_)
      refine j_if_lt 28 39 dX1_hasOpenCall_25 rfl rfl r_22 (fun c_25 => ?_) (fun c_25 => ?_)
      · have hq : (fun i => decide (0 ≤ g (e + 35 + i) 1) && decide (g (e + 35 + i) 1 ≤ 5)) k = false := by simp [c_25] <;> omega
        refine j_iinc 42 1 (y := ((k + 1 : Nat) : Int)) (L2 := [(3, .int (i32 (((k + 1 : Nat) : Int)))), (4, .ref (e + 35 + k)), (2, .int (i32 (40))), (1, .ref (e + 34)), (0, .ref (e))]) dX1_hasOpenCall_39 rfl rfl (by omega) (Nat.le_of_ble_eq_true rfl) rfl ?_
        refine j_goto 10 dX1_hasOpenCall_42 rfl ?_
        refine j_sub [0, 2, 3, 4] rfl ?_
        exact ih_10 (k + 1) (by omega) (by omega) (lt_step hp hq)
      · refine j_aload 30 0 dX1_hasOpenCall_28 rfl rfl ?_
        refine j_geti 33 dX1_hasOpenCall_30 rfl fl_X1_102 (hE.cl k (show k < 40 by omega)) rfl rfl (fun r_30 => ?_)
        refine j_iconst 34 dX1_hasOpenCall_33 rfl ?_
        refine j_icmp_gt 37 39 dX1_hasOpenCall_34 rfl rfl r_30 (r32 (by decide) (by decide)) (fun c_34 => ?_) (fun c_34 => ?_)
        · have hq : (fun i => decide (0 ≤ g (e + 35 + i) 1) && decide (g (e + 35 + i) 1 ≤ 5)) k = false := by simp [c_34] <;> omega
          refine j_iinc 42 1 (y := ((k + 1 : Nat) : Int)) (L2 := [(3, .int (i32 (((k + 1 : Nat) : Int)))), (4, .ref (e + 35 + k)), (2, .int (i32 (40))), (1, .ref (e + 34)), (0, .ref (e))]) dX1_hasOpenCall_39 rfl rfl (by omega) (Nat.le_of_ble_eq_true rfl) rfl ?_
          refine j_goto 10 dX1_hasOpenCall_42 rfl ?_
          refine j_sub [0, 2, 3, 4] rfl ?_
          exact ih_10 (k + 1) (by omega) (by omega) (lt_step hp hq)
        · refine j_iconst 38 dX1_hasOpenCall_37 rfl ?_
          exact j_zret dX1_hasOpenCall_38 rfl (Or.inr rfl) (q_i (by unfold x_open; rw [fst_hit (p := (fun i => decide (0 ≤ g (e + 35 + i) 1) && decide (g (e + 35 + i) 1 ≤ 5))) (k := k) (by omega) hp (by simp [c_25, c_34] <;> omega), decide_eq_false (by omega)]; rfl))

/-- n ticks -/
def tk (d : Nat → Int) : Nat → (Nat → Int)
  | 0 => d
  | n + 1 => s_tick (tk d n)
def grs (d : Nat → Int) (b : Int) : Nat → Int
  | 0 => b
  | n + 1 => s_gr (s_t1 (tk d n)) (grs d b n)
/-- all calls are over -/
def quiet (d : Nat → Int) : Prop := ∀ c : Nat, (c : Int) < d 5 → 5 < d (173 + 14 * c)
theorem itr_id {f : (Nat → Int) → Nat → (Nat → Int)} {d : Nat → Int} (h : ∀ k, f d k = d) : ∀ n, itr f d n = d
  | 0 => rfl
  | n + 1 => by show f (itr f d n) n = d; rw [itr_id h n]; exact h n
theorem itr_idN {f : (Nat → Int) → Nat → (Nat → Int)} {d : Nat → Int} {N : Nat} (h : ∀ k, k < N → f d k = d) : ∀ n, n ≤ N → itr f d n = d
  | 0, _ => rfl
  | n + 1, hn => by show f (itr f d n) n = d; rw [itr_idN h n (by omega)]; exact h n (by omega)
theorem quiet_first {d : Nat → Int} {s : Int} (h : quiet d) (hs : s ≤ 5) : s_foremost d s = -1 := by
  rcases s_foremost_rng d s with q | ⟨a, b, c, e⟩
  · exact q
  · have := h (s_foremost d s).toNat (by omega)
    omega
theorem quiet_t1 {d : Nat → Int} (h : quiet d) : quiet (s_t1 d) := fun c hc => by
  unfold s_t1 at hc ⊢
  rw [ud_n (by omega)] at hc
  rw [ud_n (by omega)]
  exact h c hc
theorem quiet_t7 {d : Nat → Int} (hI : Inv d) (h : quiet d) : s_t7 (s_t6 (s_t5 (s_t4 (s_t3 (s_t2 d))))) = d := by
  have e2 : s_t2 d = d := by
    have hb := hI.1.2.2.2.2.2.1
    exact itr_idN (N := (d 5).toNat) (fun k hk => by have := h k (by omega); unfold f_come; rw [if_neg (by omega)]) _ (Nat.le_refl _)
  have e3 : s_t3 d = d := itr_idN (N := (d 5).toNat) (fun k hk => by have := h k (by omega); unfold f_talk; rw [if_neg (by omega)]) _ (Nat.le_refl _)
  have e4 : s_t4 d = d := itr_idN (N := 3) (fun k hk => by
    rcases hI.2.2.2.2.1 k hk with q | ⟨c, q, q2, q3, q4, q5⟩
    · unfold s_marks; rw [if_pos q.1]
    · have := h c q2; omega) _ (by have := hI.1.2.1; omega)
  have e5 : s_t5 d = d := itr_idN (N := 4) (fun k hk => by
    rcases hI.2.2.1 k hk with q | ⟨c, q, q2, q3, q4, q5, q6, q7⟩
    · unfold s_dials; rw [if_pos q.1]
    · have := h c q2; omega) _ (by have := hI.1.1; omega)
  have e6 : s_t6 d = d := itr_id (fun k => by unfold s_takesMarker; rw [if_neg (fun q => q.2 (quiet_first h (by decide)))]) _
  have e7 : s_t7 d = d := itr_id (fun k => by unfold s_takesRegister; rw [if_neg (fun q => q.2 (quiet_first h (by decide)))]) _
  rw [e2, e3, e4, e5, e6, e7]
theorem itr_at {f : (Nat → Int) → Nat → (Nat → Int)} {i N : Nat} (h : ∀ e k, k < N → f e k i = e i) {d : Nat → Int} : ∀ n, n ≤ N → itr f d n i = d i
  | 0, _ => rfl
  | n + 1, hn => by show f (itr f d n) n i = d i; rw [h _ n (by omega), itr_at h n (by omega)]
theorem quiet_st0 {d : Nat → Int} (hI : Inv d) (h : quiet d) : ∀ i, i ≠ 6 → i ≠ 24 → ¬ (50 ≤ i ∧ i < 95 ∧ (i - 50) % 9 = 6) → (s_tick d) i = d i := fun i h6 h24 h50 => by
  unfold s_tick
  rw [quiet_t7 (inv_t1 hI) (quiet_t1 h)]
  have h3 : (s_t8 (s_t1 d)) 3 = d 3 := by unfold s_t8 s_t1; rw [ud_n (by omega), ud_n (by omega)]
  have := hI.1.2.2.2.1
  unfold s_t9
  rw [h3, itr_at (N := 5) (i := i) (fun e k hk => by unfold f_sum s_addGroup; exact ud_n (by omega)) _ (by omega)]
  unfold s_t8 s_t1
  rw [ud_n (by omega), ud_n (by omega)]
theorem quiet_st {d : Nat → Int} (hI : Inv d) (h : quiet d) : ∀ i, i = 5 ∨ 169 ≤ i → (s_tick d) i = d i := fun i hi => quiet_st0 hI h i (by omega) (by omega) (by omega)
theorem quiet_inv {d : Nat → Int} (hI : Inv d) (h : quiet d) : Inv (s_tick d) := hI.cong (fun i hi => quiet_st0 hI h i (by unfold inI kpI at hi; omega) (by unfold inI kpI at hi; omega) (by unfold inI kpI at hi; omega))
theorem quiet_tick {d : Nat → Int} (hI : Inv d) (h : quiet d) : quiet (s_tick d) := fun c hc => by
  rw [quiet_st hI h _ (Or.inl rfl)] at hc
  rw [quiet_st hI h _ (Or.inr (by omega))]
  exact h c hc
theorem quiet_gr {d : Nat → Int} (hI : Inv d) (h : quiet d) (b : Int) : s_gr (s_t1 d) b = b := by
  have q := quiet_t1 h
  have hb := (inv_t1 hI).1.2.2.2.2.2.1
  have e2 : ∀ n, n ≤ ((s_t1 d) 5).toNat → itr f_come (s_t1 d) n = s_t1 d := itr_idN (N := ((s_t1 d) 5).toNat) (fun k hk => by have := q k (by omega); unfold f_come; rw [if_neg (by omega)])
  have : ∀ n, n ≤ ((s_t1 d) 5).toNat → gF (s_t1 d) b n = b := by
    intro n
    induction n with
    | zero => intro _; rfl
    | succ n ih =>
      intro hn
      unfold gF
      rw [e2 n (by omega), if_neg (fun c => by have := q n (by omega); omega)]
      exact ih (by omega)
  exact this _ (Nat.le_refl _)

theorem inv_itr {f : (Nat → Int) → Nat → (Nat → Int)} {N : Nat} (h : ∀ e k, Inv e → k < N → (Inv (f e k) ∧ Sta e (f e k))) {d : Nat → Int} (hI : Inv d) : ∀ n, n ≤ N → Inv (itr f d n) ∧ Sta d (itr f d n)
  | 0, _ => ⟨hI, Sta.rf⟩
  | n + 1, hn => by
    obtain ⟨a, b⟩ := inv_itr h hI n (by omega)
    obtain ⟨a2, b2⟩ := h _ n a (by omega)
    exact ⟨a2, b.tr b2⟩

theorem rel_quiet {g : Mem} {e : Nat} {d : Nat → Int} (h : KX g e d) (ho : x_open g e = false) : quiet d := fun c hc => by
  have hb := h.2.1.1.2.2.2.2.2.1
  have hst := h.1.st (c := c) (by omega)
  rw [if_pos hc] at hst
  have h0 := (h.2.1.2.2.2.1 c hc).1.1
  unfold x_open at ho
  have h1 : fst (fun i => decide (0 ≤ g (e + 35 + i) 1) && decide (g (e + 35 + i) 1 ≤ 5)) 40 = -1 := by
    by_cases q : fst (fun i => decide (0 ≤ g (e + 35 + i) 1) && decide (g (e + 35 + i) 1 ≤ 5)) 40 = -1
    · exact q
    · rw [decide_eq_false q] at ho; cases ho
  rcases fst_spec (fun i => decide (0 ≤ g (e + 35 + i) 1) && decide (g (e + 35 + i) 1 ≤ 5)) 40 with ⟨-, q⟩ | ⟨k, k1, k2, -⟩
  · have q2 := q c (by omega)
    rw [hst] at q2
    by_cases q3 : d (173 + 14 * c) ≤ 5
    · rw [decide_eq_true q3, decide_eq_true h0] at q2; cases q2
    · omega
  · omega
theorem quiet_tk {d : Nat → Int} {m : Nat} (hI : Inv (tk d m)) (h : quiet (tk d m)) : ∀ k, Inv (tk d (m + k)) ∧ quiet (tk d (m + k)) ∧ (∀ i, i = 5 ∨ 169 ≤ i → tk d (m + k) i = tk d m i) ∧ ∀ b, grs d b (m + k) = grs d b m
  | 0 => ⟨hI, h, fun _ _ => rfl, fun _ => rfl⟩
  | k + 1 => by
    obtain ⟨a1, a2, a3, a4⟩ := quiet_tk hI h k
    refine ⟨quiet_inv a1 a2, quiet_tick a1 a2, fun i h9 => (quiet_st a1 a2 i h9).trans (a3 i h9), fun b => ?_⟩
    show s_gr (s_t1 (tk d (m + k))) (grs d b (m + k)) = _
    rw [quiet_gr a1 a2]
    exact a4 b

theorem settle_cnt {d : Nat → Int} {m n : Nat} (hI : Inv (tk d m)) (hm : m ≤ n) (h : m = n ∨ quiet (tk d m)) : (∀ x, s_cnt (tk d m) x = s_cnt (tk d n) x) ∧ ∀ b, grs d b m = grs d b n := by
  rcases h with h | h
  · subst h; exact ⟨fun _ => rfl, fun _ => rfl⟩
  · obtain ⟨k, rfl⟩ : ∃ k, n = m + k := ⟨n - m, by omega⟩
    obtain ⟨-, -, a3, a4⟩ := quiet_tk hI h k
    exact ⟨fun x => (cnt_cong (fun c hc => by rw [a3 5 (Or.inl rfl), a3 (173 + 14 * c) (Or.inr (by omega))])).symm, fun b => (a4 b).symm⟩

set_option maxRecDepth 20000 in
theorem c_settle {w : Wd} {sh : Shp} {g : Mem} {e n : Nat} {d : Nat → Int} (hE : ExS sh.1 e) (hK0 : KX g e d) (hn : n ≤ 1000) : CT w mX1_settle [.ref (e), .int (i32 ((n : Int)))] sh g (vQ sh (fun g2 => ∃ m, m ≤ n ∧ KX g2 e (tk d m) ∧ (m = n ∨ quiet (tk d m)) ∧ Fr g g2 e ∧ g2 e 12 = grs d (g e 12) m)) := by
  refine j_entry (by decide) rfl (Nat.le_of_ble_eq_true rfl) (fun h => by cases h) rfl ?_
  show J w mX1_settle 0 [(0, .ref (e)), (1, .int (i32 ((n : Int))))] [] sh g 0 0 _
  refine j_iconst 1 dX1_settle_0 rfl ?_
  refine j_istore_n 2 (L2 := [(2, .int (i32 (0))), (0, .ref (e)), (1, .int (i32 ((n : Int))))]) dX1_settle_1 rfl rfl (Nat.le_of_ble_eq_true rfl) rfl ?_
  suffices lp_2 : ∀ (n_2 : Nat) (k : Nat) (ga : Mem), n - k < n_2 → k ≤ n → KX ga e (tk d k) → Fr g ga e → ga e 12 = grs d (g e 12) k → J w mX1_settle 2 [(2, .int (i32 ((k : Int)))), (0, .ref (e)), (1, .int (i32 ((n : Int))))] [] sh ga 0 0 (vQ sh (fun g2 => ∃ m, m ≤ n ∧ KX g2 e (tk d m) ∧ (m = n ∨ quiet (tk d m)) ∧ Fr g g2 e ∧ g2 e 12 = grs d (g e 12) m)) by
    exact lp_2 _ 0 g (Nat.lt_succ_self _) (by omega) hK0 Fr.rf rfl
  intro n_2
  induction n_2 with
  | zero => intro k ga h_; exact absurd h_ (Nat.not_lt_zero _)
  | succ n_2 ih_2 =>
    intro k ga hn_2 hk hK hF hg
    refine j_iload_n 3 0 dX1_settle_2 rfl rfl ?_
    refine j_iload_n 4 2 dX1_settle_3 rfl rfl ?_
    refine j_icmp_ge 7 24 dX1_settle_4 rfl rfl (r32 (by omega) (by omega)) (r32 (by omega) (by omega)) (fun c_4 => ?_) (fun c_4 => ?_)
    · have hor : k = n ∨ quiet (tk d k) := Or.inl (by omega)
      exact j_vret dX1_settle_24 rfl (⟨rfl, rfl, k, hk, hK, hor, hF, hg⟩)
    · refine j_aload_n 8 1 dX1_settle_7 rfl rfl ?_
      refine j_callV 11 (As := []) (kc2 := 0) (ks2 := 0) dX1_settle_8 rfl mvX1_hasOpenCall lk_X1_228 hE.ex rfl ⟨Nat.le_of_ble_eq_true rfl, rfl⟩ rfl rfl (Nat.le_of_ble_eq_true rfl) ⟨Nat.le_of_ble_eq_true rfl, Nat.le_of_ble_eq_true rfl⟩ ⟨Nat.le_of_ble_eq_true rfl, Nat.le_of_ble_eq_true rfl⟩ (c_hasOpenCall hE) x_d (k_d1 ?_)
      refine j_if_eq 14 24 dX1_settle_11 rfl rfl (r01 (b01_r _)) (fun c_11 => ?_) (fun c_11 => ?_)
      · have hor : k = n ∨ quiet (tk d k) := Or.inr (rel_quiet hK (b01_0 c_11))
        exact j_vret dX1_settle_24 rfl (⟨rfl, rfl, k, hk, hK, hor, hF, hg⟩)
      · refine j_aload_n 15 1 dX1_settle_14 rfl rfl ?_
        refine j_callV 18 (As := []) (kc2 := 0) (ks2 := 0) dX1_settle_15 rfl mvX1_tick lk_X1_232 hE.ex rfl ⟨Nat.le_of_ble_eq_true rfl, rfl⟩ rfl rfl (Nat.le_of_ble_eq_true rfl) ⟨Nat.le_of_ble_eq_true rfl, Nat.le_of_ble_eq_true rfl⟩ ⟨Nat.le_of_ble_eq_true rfl, Nat.le_of_ble_eq_true rfl⟩ (c_tick hE hK) x_v (k_v fun g_15 h_15 => ?_)
        obtain ⟨hK2, hF3, hg3⟩ := h_15
        have hF2 : Fr g g_15 e := hF.tr hF3
        have hg2 : g_15 e 12 = grs d (g e 12) (k + 1) := by rw [hg3, hg]; rfl
        refine j_iinc 21 0 (y := ((k + 1 : Nat) : Int)) (L2 := [(2, .int (i32 (((k + 1 : Nat) : Int)))), (0, .ref (e)), (1, .int (i32 ((n : Int))))]) dX1_settle_18 rfl rfl (by omega) (Nat.le_of_ble_eq_true rfl) rfl ?_
        refine j_goto 2 dX1_settle_21 rfl ?_
        exact ih_2 (k + 1) _ (by omega) (by omega) hK2 hF2 hg2
