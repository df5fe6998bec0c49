/-! digits out of a buffer; look of the class -/
def bdB (f : Nat → Int) : Nat → Bool
  | 0 => true
  | n + 1 => bdB f n && decide (48 ≤ f n ∧ f n ≤ 57)
def bv (f : Nat → Int) : Nat → Int
  | 0 => 0
  | n + 1 => 10 * bv f n + f n - 48
theorem bv_rng {f : Nat → Int} : ∀ {n}, bdB f n = true → 0 ≤ bv f n ∧ bv f n < pw n
  | 0, _ => ⟨Int.le_refl 0, show (0 : Int) < 1 by decide⟩
  | n + 1, h => by
    have h1 : (bdB f n && decide (48 ≤ f n ∧ f n ≤ 57)) = true := h
    rw [Bool.and_eq_true] at h1
    have h2 := of_decide_eq_true h1.2
    have ih := bv_rng h1.1
    show 0 ≤ 10 * bv f n + f n - 48 ∧ 10 * bv f n + f n - 48 < pw n * 10
    omega
theorem bdB_s {f : Nat → Int} {n : Nat} (h : bdB f n = true) (h1 : 48 ≤ f n) (h2 : f n ≤ 57) : bdB f (n + 1) = true := by
  show (bdB f n && decide (48 ≤ f n ∧ f n ≤ 57)) = true
  rw [h, decide_eq_true ⟨h1, h2⟩]; rfl
theorem bdB_f {f : Nat → Int} {n k : Nat} (hk : k < n) (h : ¬ (48 ≤ f k ∧ f k ≤ 57)) : bdB f n = false := by
  induction n with
  | zero => omega
  | succ n ih =>
    show (bdB f n && decide (48 ≤ f n ∧ f n ≤ 57)) = false
    rcases Nat.lt_or_ge k n with q | q
    · rw [ih q]; rfl
    · rw [show n = k by omega, decide_eq_false h, Bool.and_false]
/-- what look answers -/
def s_groupFor (d : Nat → Int) (many : Nat) (v : Int) : Int :=
  if s_lineOf d many v = -1 ∧ s_isComplete d many v = true then
    (if s_choiceOf d (s_routeFor d many v).toNat = (d (98 + 7 * (s_routeFor d many v).toNat)).toNat then -1 else d (99 + 7 * (s_routeFor d many v).toNat + s_choiceOf d (s_routeFor d many v).toNat))
  else -1
def s_look (d : Nat → Int) (many : Nat) (v : Int) (q : Nat) : Int :=
  if q = 0 then s_lineOf d many v else if q = 1 then s_routeFor d many v else if q = 2 then b01 (s_isComplete d many v) else s_groupFor d many v
theorem routeFor_rng (d : Nat → Int) (many : Nat) (v : Int) : s_routeFor d many v = -1 ∨ (0 ≤ s_routeFor d many v ∧ s_routeFor d many v < 8 ∧ s_routeFor d many v < d 4) := s_rfF_rng d many v 8

set_option maxRecDepth 20000 in
theorem c_isDialLength {w : Wd} {sh : Shp} {g : Mem} {B : Nat} (hB : CxS sh.1 B) {x : Int} (hx : R32 x) : CT w mX9_isDialLength [.ref (B), .int (i32 (x))] sh g (dQ (some (.int (i32 (b01 (decide (1 ≤ x ∧ x ≤ 6 ∧ x ≤ g B 1)))))) sh g) := by
  refine j_entry (by decide) rfl (Nat.le_of_ble_eq_true rfl) (fun h => by cases h) rfl ?_
  show J w mX9_isDialLength 0 [(0, .ref (B)), (1, .int (i32 (x)))] [] sh g 0 0 _
  refine j_iload_n 1 1 dX9_isDialLength_0 rfl rfl ?_
  refine j_iconst 2 dX9_isDialLength_1 rfl ?_
  refine j_icmp_lt 5 23 dX9_isDialLength_2 rfl rfl hx (r32 (by decide) (by decide)) (fun c_2 => ?_) (fun c_2 => ?_)
  · have hz : decide (1 ≤ x ∧ x ≤ 6 ∧ x ≤ g B 1) = false := decide_eq_false (by omega)
    refine j_iconst 24 dX9_isDialLength_23 rfl ?_
    exact j_zret dX9_isDialLength_24 rfl (Or.inl rfl) (q_i (by rw [hz]; rfl))
  · refine j_iload_n 6 1 dX9_isDialLength_5 rfl rfl ?_
    refine j_bipush 8 dX9_isDialLength_6 rfl (by decide) ?_
    refine j_icmp_gt 11 23 dX9_isDialLength_8 rfl rfl hx (r32 (by decide) (by decide)) (fun c_8 => ?_) (fun c_8 => ?_)
    · have hz : decide (1 ≤ x ∧ x ≤ 6 ∧ x ≤ g B 1) = false := decide_eq_false (by omega)
      refine j_iconst 24 dX9_isDialLength_23 rfl ?_
      exact j_zret dX9_isDialLength_24 rfl (Or.inl rfl) (q_i (by rw [hz]; rfl))
    · refine j_iload_n 12 1 dX9_isDialLength_11 rfl rfl ?_
      refine j_aload_n 13 0 dX9_isDialLength_12 rfl rfl ?_
      refine j_geti 16 dX9_isDialLength_13 rfl fl_X9_13 hB.cx rfl rfl (fun r_13 => ?_)
      refine j_icmp_gt 19 23 dX9_isDialLength_16 rfl rfl hx r_13 (fun c_16 => ?_) (fun c_16 => ?_)
      · have hz : decide (1 ≤ x ∧ x ≤ 6 ∧ x ≤ g B 1) = false := decide_eq_false (by omega)
        refine j_iconst 24 dX9_isDialLength_23 rfl ?_
        exact j_zret dX9_isDialLength_24 rfl (Or.inl rfl) (q_i (by rw [hz]; rfl))
      · have hz : decide (1 ≤ x ∧ x ≤ 6 ∧ x ≤ g B 1) = true := decide_eq_true (by omega)
        refine j_iconst 20 dX9_isDialLength_19 rfl ?_
        refine j_goto 24 dX9_isDialLength_20 rfl ?_
        exact j_zret dX9_isDialLength_24 rfl (Or.inr rfl) (q_i (by rw [hz]; rfl))

set_option maxRecDepth 20000 in
theorem c_bufferRow {w : Wd} {sh : Shp} {g : Mem} {B : Nat} (hB : CxS sh.1 B) {n : Nat} (hn : n ≤ 6) : CT w mX9_bufferRow [.ref (B), .int (i32 ((n : Int)))] sh g (dQ (some (.int (i32 (if bdB (g (B + 1)) n = true then pw n + bv (g (B + 1)) n else 0)))) sh g) := by
  refine j_entry (by decide) rfl (Nat.le_of_ble_eq_true rfl) (fun h => by cases h) rfl ?_
  show J w mX9_bufferRow 0 [(0, .ref (B)), (1, .int (i32 ((n : Int))))] [] sh g 0 0 _
  refine j_iconst 1 dX9_bufferRow_0 rfl ?_
  refine j_istore_n 2 (L2 := [(2, .int (i32 (1))), (0, .ref (B)), (1, .int (i32 ((n : Int))))]) dX9_bufferRow_1 rfl rfl (Nat.le_of_ble_eq_true rfl) rfl ?_
  refine j_iconst 3 dX9_bufferRow_2 rfl ?_
  refine j_istore_n 4 (L2 := [(3, .int (i32 (0))), (2, .int (i32 (1))), (0, .ref (B)), (1, .int (i32 ((n : Int))))]) dX9_bufferRow_3 rfl rfl (Nat.le_of_ble_eq_true rfl) rfl ?_
  suffices lp_4 : ∀ (n_4 : Nat) (k : Nat) (r : Int), n - k < n_4 → k ≤ n → r = pw k + bv (g (B + 1)) k → bdB (g (B + 1)) k = true → J w mX9_bufferRow 4 [(3, .int (i32 ((k : Int)))), (2, .int (i32 (r))), (0, .ref (B)), (1, .int (i32 ((n : Int))))] [] sh g 0 0 (dQ (some (.int (i32 (if bdB (g (B + 1)) n = true then pw n + bv (g (B + 1)) n else 0)))) sh g) by
    exact lp_4 _ 0 1 (Nat.lt_succ_self _) (by omega) rfl rfl
  intro n_4
  induction n_4 with
  | zero => intro k r h_; exact absurd h_ (Nat.not_lt_zero _)
  | succ n_4 ih_4 =>
    intro k r hn_4 hk hr hd
    have hbr := bv_rng hd
    have hpk : pw k ≤ pw 6 := pw_le (by omega)
    have hp6 : pw 6 = 1000000 := rfl
    refine j_iload_n 5 0 dX9_bufferRow_4 rfl rfl ?_
    refine j_iload_n 6 3 dX9_bufferRow_5 rfl rfl ?_
    refine j_icmp_ge 9 62 dX9_bufferRow_6 rfl rfl (r32 (by omega) (by omega)) (r32 (by omega) (by omega)) (fun c_6 => ?_) (fun c_6 => ?_)
    · refine j_iload_n 63 1 dX9_bufferRow_62 rfl rfl ?_
      exact j_iret dX9_bufferRow_63 rfl (q_i (by have hkn : k = n := (by omega); subst hkn; rw [hd, if_pos rfl]; exact hr))
    · refine j_iload_n 10 0 dX9_bufferRow_9 rfl rfl ?_
      refine j_aload_n 11 2 dX9_bufferRow_10 rfl rfl ?_
      refine j_getr 14 dX9_bufferRow_11 rfl fl_X9_9 hB.cx rfl (fun _ _ => rfl) rfl ?_
      refine j_alen 15 dX9_bufferRow_14 rfl hB.buf (Nat.le_of_ble_eq_true rfl) rfl ?_
      refine j_top (y := 700) rfl ?_
      refine j_icmp_ge 18 62 dX9_bufferRow_15 rfl rfl (r32 (by omega) (by omega)) (r32 (by decide) (by decide)) (fun c_15 => absurd c_15 (by omega)) (fun c_15 => ?_)
      refine j_aload_n 19 2 dX9_bufferRow_18 rfl rfl ?_
      refine j_getr 22 dX9_bufferRow_19 rfl fl_X9_9 hB.cx rfl (fun _ _ => rfl) rfl ?_
      refine j_iload_n 23 0 dX9_bufferRow_22 rfl rfl ?_
      refine j_bald 24 k dX9_bufferRow_23 rfl hB.buf rfl rfl (show k < 700 by omega) (fun r_23 => ?_)
      refine j_bipush 26 dX9_bufferRow_24 rfl (by decide) ?_
      refine j_icmp_lt 29 40 dX9_bufferRow_26 rfl rfl (r8 r_23) (r32 (by decide) (by decide)) (fun c_26 => ?_) (fun c_26 => ?_)
      · have hz : bdB (g (B + 1)) n = false := bdB_f (k := k) (by omega) (by omega)
        refine j_iconst 41 dX9_bufferRow_40 rfl ?_
        exact j_iret dX9_bufferRow_41 rfl (q_i (by rw [hz]; rfl))
      · refine j_aload_n 30 2 dX9_bufferRow_29 rfl rfl ?_
        refine j_getr 33 dX9_bufferRow_30 rfl fl_X9_9 hB.cx rfl (fun _ _ => rfl) rfl ?_
        refine j_iload_n 34 0 dX9_bufferRow_33 rfl rfl ?_
        refine j_bald 35 k dX9_bufferRow_34 rfl hB.buf rfl rfl (show k < 700 by omega) (fun r_34 => ?_)
        refine j_bipush 37 dX9_bufferRow_35 rfl (by decide) ?_
        refine j_icmp_le 40 42 dX9_bufferRow_37 rfl rfl (r8 r_34) (r32 (by decide) (by decide)) (fun c_37 => ?_) (fun c_37 => ?_)
        · refine j_iload_n 43 1 dX9_bufferRow_42 rfl rfl ?_
          refine j_aload_n 44 2 dX9_bufferRow_43 rfl rfl ?_
          refine j_getr 47 dX9_bufferRow_44 rfl fl_X9_9 hB.cx rfl (fun _ _ => rfl) rfl ?_
          refine j_iload_n 48 0 dX9_bufferRow_47 rfl rfl ?_
          refine j_bald 49 k dX9_bufferRow_48 rfl hB.buf rfl rfl (show k < 700 by omega) (fun r_48 => ?_)
          refine j_bipush 51 dX9_bufferRow_49 rfl (by decide) ?_
          refine j_isub 52 dX9_bufferRow_51 rfl ?_
          refine j_callS 55 (As := [.int (i32 (r)), .int (i32 ((g (B + 1) (k)) - (48)))]) (kc2 := 0) (ks2 := 0) dX9_bufferRow_52 rfl msX7_with lk_X9_310 rfl rfl (Nat.le_of_ble_eq_true rfl) ⟨Nat.le_of_ble_eq_true rfl, Nat.le_of_ble_eq_true rfl⟩ ⟨Nat.le_of_ble_eq_true rfl, Nat.le_of_ble_eq_true rfl⟩ (c_with (show R32 r by omega) (r32 (by omega) (by omega))) x_d (k_d1 ?_)
          refine j_istore_n 56 (L2 := [(2, .int (i32 (r * 10 + (g (B + 1) k - 48)))), (3, .int (i32 ((k : Int)))), (0, .ref (B)), (1, .int (i32 ((n : Int))))]) dX9_bufferRow_55 rfl rfl (Nat.le_of_ble_eq_true rfl) rfl ?_
          refine j_iinc 59 1 (y := ((k + 1 : Nat) : Int)) (L2 := [(3, .int (i32 (((k + 1 : Nat) : Int)))), (2, .int (i32 (r * 10 + (g (B + 1) k - 48)))), (0, .ref (B)), (1, .int (i32 ((n : Int))))]) dX9_bufferRow_56 rfl rfl (by omega) (Nat.le_of_ble_eq_true rfl) rfl ?_
          refine j_goto 4 dX9_bufferRow_59 rfl ?_
          exact ih_4 (k + 1) _ (by omega) (by omega) (by rw [hr]; show _ = pw k * 10 + (10 * bv (g (B + 1)) k + g (B + 1) k - 48); omega) (bdB_s hd (by omega) (by omega))
        · have hz : bdB (g (B + 1)) n = false := bdB_f (k := k) (by omega) (by omega)
          refine j_iconst 41 dX9_bufferRow_40 rfl ?_
          exact j_iret dX9_bufferRow_41 rfl (q_i (by rw [hz]; rfl))

set_option maxRecDepth 20000 in
theorem c_routeIndexFor0 {w : Wd} {sh : Shp} {g : Mem} {e : Nat} (hE : ExS sh.1 e) (hI : ExI g e) {x : Int} (hx : R32 x) (hx8 : x < 100000000) (hr : x_routeFor g e x = none) : CT w mX1_routeIndexFor [.ref (e), .int (i32 (x))] sh g (dQ (some (.int (i32 (-1)))) sh g) := by
  refine j_entry (by decide) rfl (Nat.le_of_ble_eq_true rfl) (fun h => by cases h) rfl ?_
  show J w mX1_routeIndexFor 0 [(0, .ref (e)), (1, .int (i32 (x)))] [] sh g 0 0 _
  refine j_aload_n 1 0 dX1_routeIndexFor_0 rfl rfl ?_
  refine j_iload_n 2 1 dX1_routeIndexFor_1 rfl rfl ?_
  refine j_callV 5 (As := [.int (i32 (x))]) (kc2 := 0) (ks2 := 0) dX1_routeIndexFor_2 rfl mvX1_routeFor lk_X1_142 hE.ex rfl ⟨Nat.le_of_ble_eq_true rfl, rfl⟩ rfl rfl (Nat.le_of_ble_eq_true rfl) ⟨Nat.le_of_ble_eq_true rfl, Nat.le_of_ble_eq_true rfl⟩ ⟨Nat.le_of_ble_eq_true rfl, Nat.le_of_ble_eq_true rfl⟩ (c_routeFor0 hE hI hx hx8 hr) x_d (k_d1 ?_)
  refine j_astore_nN 6 (L2 := [(2, .null), (0, .ref (e)), (1, .int (i32 (x)))]) dX1_routeIndexFor_5 rfl rfl (Nat.le_of_ble_eq_true rfl) rfl ?_
  refine j_aload_nN 7 0 dX1_routeIndexFor_6 rfl rfl ?_
  refine j_ifnonnullN 10 dX1_routeIndexFor_7 rfl ?_
  refine j_iconst 11 dX1_routeIndexFor_10 rfl ?_
  refine j_goto 18 dX1_routeIndexFor_11 rfl ?_
  exact j_iret dX1_routeIndexFor_18 rfl (q_i rfl)

set_option maxRecDepth 20000 in
theorem c_routeIndexFor1 {w : Wd} {sh : Shp} {g : Mem} {e : Nat} (hE : ExS sh.1 e) (hI : ExI g e) {x : Int} (hx : R32 x) (hx8 : x < 100000000) {r : Nat} (hr : x_routeFor g e x = some r) (hr8 : r < 8) : CT w mX1_routeIndexFor [.ref (e), .int (i32 (x))] sh g (dQ (some (.int (i32 ((r : Int))))) sh g) := by
  refine j_entry (by decide) rfl (Nat.le_of_ble_eq_true rfl) (fun h => by cases h) rfl ?_
  show J w mX1_routeIndexFor 0 [(0, .ref (e)), (1, .int (i32 (x)))] [] sh g 0 0 _
  refine j_aload_n 1 0 dX1_routeIndexFor_0 rfl rfl ?_
  refine j_iload_n 2 1 dX1_routeIndexFor_1 rfl rfl ?_
  refine j_callV 5 (As := [.int (i32 (x))]) (kc2 := 0) (ks2 := 0) dX1_routeIndexFor_2 rfl mvX1_routeFor lk_X1_142 hE.ex rfl ⟨Nat.le_of_ble_eq_true rfl, rfl⟩ rfl rfl (Nat.le_of_ble_eq_true rfl) ⟨Nat.le_of_ble_eq_true rfl, Nat.le_of_ble_eq_true rfl⟩ ⟨Nat.le_of_ble_eq_true rfl, Nat.le_of_ble_eq_true rfl⟩ (c_routeFor1 hE hI hx hx8 hr) x_d (k_d1 ?_)
  refine j_astore_n 6 (L2 := [(2, .ref (e + 9 + 2 * r)), (0, .ref (e)), (1, .int (i32 (x)))]) dX1_routeIndexFor_5 rfl rfl (Nat.le_of_ble_eq_true rfl) rfl ?_
  refine j_aload_n 7 0 dX1_routeIndexFor_6 rfl rfl ?_
  refine j_ifnonnull 14 dX1_routeIndexFor_7 rfl ?_
  refine j_aload_n 15 0 dX1_routeIndexFor_14 rfl rfl ?_
  refine j_geti 18 dX1_routeIndexFor_15 rfl fl_X1_138 (hE.rt r hr8) rfl rfl (fun r_15 => ?_)
  exact j_iret dX1_routeIndexFor_18 rfl (q_i (hI.2.1 r hr8))

set_option maxRecDepth 20000 in
theorem c_groupFor0 {w : Wd} {sh : Shp} {g : Mem} {e : Nat} {d : Nat → Int} (hE : ExS sh.1 e) (hK : KX g e d) {many : Nat} {v : Int} (hm : many ≤ 6) (h1 : 0 ≤ v) (h2 : v < pw many) (hr : s_routeFor d many v = -1) : CT w mX1_groupFor [.ref (e), .int (i32 (pw many + v))] sh g (dQ (some (.int (i32 (s_groupFor d many v)))) sh g) := by
  have hp6 : pw many ≤ pw 6 := pw_le hm
  have hp : pw 6 = 1000000 := rfl
  have hpm := pw_pos many
  have hlw := rel_lineWith hK.1 hK.2.1.2.1 h1 h2
  have hic := rel_isComplete hK.1 hK.2.1.1 hK.2.1.2.1 hm h1 h2
  have hrf := rel_routeFor hK.1 hK.2.1.1 hK.2.1.2.1 hm h1 h2
  have hrr := routeFor_rng d many v
  have hi2 := hK.2.1.1.2.2.1
  have h02 : g e 2 = d 2 := hK.1.2.1.2.2.1
  refine j_entry (by decide) rfl (Nat.le_of_ble_eq_true rfl) (fun h => by cases h) rfl ?_
  show J w mX1_groupFor 0 [(0, .ref (e)), (1, .int (i32 (pw many + v)))] [] sh g 0 0 _
  refine j_aload_n 1 0 dX1_groupFor_0 rfl rfl ?_
  refine j_iload_n 2 1 dX1_groupFor_1 rfl rfl ?_
  refine j_callV 5 (As := [.int (i32 (pw many + v))]) (kc2 := 0) (ks2 := 0) dX1_groupFor_2 rfl mvX1_routeFor lk_X1_142 hE.ex rfl ⟨Nat.le_of_ble_eq_true rfl, rfl⟩ rfl rfl (Nat.le_of_ble_eq_true rfl) ⟨Nat.le_of_ble_eq_true rfl, Nat.le_of_ble_eq_true rfl⟩ ⟨Nat.le_of_ble_eq_true rfl, Nat.le_of_ble_eq_true rfl⟩ (c_routeFor0 hE hK.1.1 (r32 (by omega) (by omega)) (by omega) (by rw [hrf, if_pos hr])) x_d (k_d1 ?_)
  refine j_astore_nN 6 (L2 := [(2, .null), (0, .ref (e)), (1, .int (i32 (pw many + v)))]) dX1_groupFor_5 rfl rfl (Nat.le_of_ble_eq_true rfl) rfl ?_
  refine j_aload_nN 7 0 dX1_groupFor_6 rfl rfl ?_
  refine j_ifnullN 27 dX1_groupFor_7 rfl ?_
  refine j_iconst 28 dX1_groupFor_27 rfl ?_
  exact j_iret dX1_groupFor_28 rfl (q_i (by unfold s_groupFor; rw [if_neg]; intro q; exact absurd hr (complete_ok q.2 q.1)))

theorem gf_val {row ch d : Nat → Int} {many : Nat} {v : Int} (hG : RtR row ch d (s_routeFor d many v).toNat) (hz : s_lineOf d many v = -1 ∧ s_isComplete d many v = true) (hc : s_choiceOf d (s_routeFor d many v).toNat ≤ 0 + (d (98 + 7 * (s_routeFor d many v).toNat)).toNat) (hn : 0 ≤ d (95 + 7 * (s_routeFor d many v).toNat) ∧ 0 ≤ d (98 + 7 * (s_routeFor d many v).toNat) ∧ d (98 + 7 * (s_routeFor d many v).toNat) ≤ 3) :
    (if 0 ≤ s_fc d (s_routeFor d many v).toNat ∧ s_fc d (s_routeFor d many v).toNat < row 3 then ch (s_fc d (s_routeFor d many v).toNat).toNat else -1) = s_groupFor d many v := by
  unfold s_groupFor
  rw [if_pos hz, hG.2.2.1]
  unfold s_fc
  by_cases h : s_choiceOf d (s_routeFor d many v).toNat = (d (98 + 7 * (s_routeFor d many v).toNat)).toNat
  · rw [if_pos h, if_pos h, if_neg (by omega)]
  · rw [if_neg h, if_neg h, if_pos (by omega), Int.toNat_natCast, hG.2.2.2 _ (by omega)]

set_option maxRecDepth 20000 in
theorem c_groupFor1 {w : Wd} {sh : Shp} {g : Mem} {e : Nat} {d : Nat → Int} (hE : ExS sh.1 e) (hK : KX g e d) {many : Nat} {v : Int} (hm : many ≤ 6) (h1 : 0 ≤ v) (h2 : v < pw many) (hr : ¬ s_routeFor d many v = -1) : CT w mX1_groupFor [.ref (e), .int (i32 (pw many + v))] sh g (dQ (some (.int (i32 (s_groupFor d many v)))) sh g) := by
  have hp6 : pw many ≤ pw 6 := pw_le hm
  have hp : pw 6 = 1000000 := rfl
  have hpm := pw_pos many
  have hlw := rel_lineWith hK.1 hK.2.1.2.1 h1 h2
  have hic := rel_isComplete hK.1 hK.2.1.1 hK.2.1.2.1 hm h1 h2
  have hrf := rel_routeFor hK.1 hK.2.1.1 hK.2.1.2.1 hm h1 h2
  have hrr := routeFor_rng d many v
  have hi2 := hK.2.1.1.2.2.1
  have h02 : g e 2 = d 2 := hK.1.2.1.2.2.1
  have hn := hK.2.1.1.2.2.2.2.2.2.1 (s_routeFor d many v).toNat (by omega)
  have hcl := s_chF_le d (s_routeFor d many v).toNat (d (98 + 7 * (s_routeFor d many v).toNat)).toNat 0
  have hfc : s_fc d (s_routeFor d many v).toNat = if s_choiceOf d (s_routeFor d many v).toNat = (d (98 + 7 * (s_routeFor d many v).toNat)).toNat then -1 else (s_choiceOf d (s_routeFor d many v).toNat : Int) := rfl
  have hch : s_chF d (s_routeFor d many v).toNat (d (98 + 7 * (s_routeFor d many v).toNat)).toNat 0 = s_choiceOf d (s_routeFor d many v).toNat := rfl
  rw [hch] at hcl
  have hfr : -1 ≤ s_fc d (s_routeFor d many v).toNat ∧ s_fc d (s_routeFor d many v).toNat ≤ 3 := by rw [hfc]; split <;> omega
  have hG := hK.1.2.2.2.2.1 (s_routeFor d many v).toNat (by omega)
  refine j_entry (by decide) rfl (Nat.le_of_ble_eq_true rfl) (fun h => by cases h) rfl ?_
  show J w mX1_groupFor 0 [(0, .ref (e)), (1, .int (i32 (pw many + v)))] [] sh g 0 0 _
  refine j_aload_n 1 0 dX1_groupFor_0 rfl rfl ?_
  refine j_iload_n 2 1 dX1_groupFor_1 rfl rfl ?_
  refine j_callV 5 (As := [.int (i32 (pw many + v))]) (kc2 := 0) (ks2 := 0) dX1_groupFor_2 rfl mvX1_routeFor lk_X1_142 hE.ex rfl ⟨Nat.le_of_ble_eq_true rfl, rfl⟩ rfl rfl (Nat.le_of_ble_eq_true rfl) ⟨Nat.le_of_ble_eq_true rfl, Nat.le_of_ble_eq_true rfl⟩ ⟨Nat.le_of_ble_eq_true rfl, Nat.le_of_ble_eq_true rfl⟩ (c_routeFor1 hE hK.1.1 (r32 (by omega) (by omega)) (by omega) (by rw [hrf, if_neg hr])) x_d (k_d1 ?_)
  refine j_astore_n 6 (L2 := [(2, .ref (e + 9 + 2 * (s_routeFor d many v).toNat)), (0, .ref (e)), (1, .int (i32 (pw many + v)))]) dX1_groupFor_5 rfl rfl (Nat.le_of_ble_eq_true rfl) rfl ?_
  refine j_aload_n 7 0 dX1_groupFor_6 rfl rfl ?_
  refine j_ifnull 10 dX1_groupFor_7 rfl ?_
  refine j_aload_n 11 1 dX1_groupFor_10 rfl rfl ?_
  refine j_iload_n 12 2 dX1_groupFor_11 rfl rfl ?_
  refine j_callV 15 (As := [.int (i32 (pw many + v))]) (kc2 := 0) (ks2 := 0) dX1_groupFor_12 rfl mvX1_lineWith lk_X1_146 hE.ex rfl ⟨Nat.le_of_ble_eq_true rfl, rfl⟩ rfl rfl (Nat.le_of_ble_eq_true rfl) ⟨Nat.le_of_ble_eq_true rfl, Nat.le_of_ble_eq_true rfl⟩ ⟨Nat.le_of_ble_eq_true rfl, Nat.le_of_ble_eq_true rfl⟩ (c_lineWith hE (by omega) (r32 (by omega) (by omega))) x_d (k_d1 ?_)
  refine j_iconst 16 dX1_groupFor_15 rfl ?_
  refine j_icmp_ne 19 27 dX1_groupFor_16 rfl rfl (fst_r32 _ (by decide)) (r32 (by decide) (by decide)) (fun c_16 => ?_) (fun c_16 => ?_)
  · have hz : s_groupFor d many v = -1 := if_neg (fun q => c_16 (by rw [hlw]; exact q.1))
    refine j_iconst 28 dX1_groupFor_27 rfl ?_
    exact j_iret dX1_groupFor_28 rfl (q_i hz.symm)
  · refine j_aload_n 20 1 dX1_groupFor_19 rfl rfl ?_
    refine j_iload_n 21 2 dX1_groupFor_20 rfl rfl ?_
    refine j_callV 24 (As := [.int (i32 (pw many + v))]) (kc2 := 0) (ks2 := 0) dX1_groupFor_21 rfl mvX1_isComplete lk_X1_158 hE.ex rfl ⟨Nat.le_of_ble_eq_true rfl, rfl⟩ rfl rfl (Nat.le_of_ble_eq_true rfl) ⟨Nat.le_of_ble_eq_true rfl, Nat.le_of_ble_eq_true rfl⟩ ⟨Nat.le_of_ble_eq_true rfl, Nat.le_of_ble_eq_true rfl⟩ (c_isComplete hE hK.1.1 (by omega) (r32 (by omega) (by omega)) (by omega)) x_d (k_d1 ?_)
    refine j_if_ne 27 29 dX1_groupFor_24 rfl rfl (r01 (b01_r _)) (fun c_24 => ?_) (fun c_24 => ?_)
    · have hz : s_lineOf d many v = -1 ∧ s_isComplete d many v = true := ⟨by omega, by rw [← hic]; exact b01_1 c_24⟩
      refine j_aload_n 30 0 dX1_groupFor_29 rfl rfl ?_
      refine j_aload_n 31 1 dX1_groupFor_30 rfl rfl ?_
      refine j_aload_n 32 0 dX1_groupFor_31 rfl rfl ?_
      refine j_callV 35 (As := [.ref (e + 9 + 2 * (s_routeFor d many v).toNat)]) (kc2 := 0) (ks2 := 0) dX1_groupFor_32 rfl mvX1_freeChoice lk_X1_162 hE.ex rfl ⟨Nat.le_of_ble_eq_true rfl, rfl⟩ rfl rfl (Nat.le_of_ble_eq_true rfl) ⟨Nat.le_of_ble_eq_true rfl, Nat.le_of_ble_eq_true rfl⟩ ⟨Nat.le_of_ble_eq_true rfl, Nat.le_of_ble_eq_true rfl⟩ (c_freeChoice hE hK.1 hK.2.1.1 hK.2.1.2.1 (by omega) (by omega)) x_d (k_d1 ?_)
      refine j_callV 38 (As := [.int (i32 (s_fc d (s_routeFor d many v).toNat))]) (kc2 := 0) (ks2 := 0) dX1_groupFor_35 rfl mvX6_choiceAt lk_X1_166 (hE.rt (s_routeFor d many v).toNat (show (s_routeFor d many v).toNat < 8 by omega)) rfl ⟨Nat.le_of_ble_eq_true rfl, rfl⟩ rfl rfl (Nat.le_of_ble_eq_true rfl) ⟨Nat.le_of_ble_eq_true rfl, Nat.le_of_ble_eq_true rfl⟩ ⟨Nat.le_of_ble_eq_true rfl, Nat.le_of_ble_eq_true rfl⟩ (c_choiceAt (hE.rt (s_routeFor d many v).toNat (by omega)) (hE.ch (s_routeFor d many v).toNat (by omega)) (by rw [hG.2.2.1]; omega) (by omega)) x_d (k_d1 ?_)
      exact j_iret dX1_groupFor_38 rfl (q_i (gf_val hG hz hcl.2 hn))
    · have hz : s_groupFor d many v = -1 := if_neg (fun q => by rw [hic, q.2] at c_24; exact absurd c_24 (by decide))
      refine j_iconst 28 dX1_groupFor_27 rfl ?_
      exact j_iret dX1_groupFor_28 rfl (q_i hz.symm)

set_option maxRecDepth 20000 in
theorem c_look0 {w : Wd} {sh : Shp} {g : Mem} {B : Nat} {d : Nat → Int} (hB : CxS sh.1 B) (hK : KX g (B + 2) d) {n : Nat} (hn : 1 ≤ n ∧ n ≤ 6) (hf : (n : Int) ≤ g B 1) (hd : bdB (g (B + 1)) n = true)  : CT w mX9_look [.ref (B), .int (i32 ((n : Int))), .int (i32 (0))] sh g (dQ (some (.int (i32 (s_look d n (bv (g (B + 1)) n) 0)))) sh g) := by
  have hbr := bv_rng hd
  have hp6 : pw n ≤ pw 6 := pw_le hn.2
  have hp : pw 6 = 1000000 := rfl
  have hpm := pw_pos n
  have hlw := rel_lineWith hK.1 hK.2.1.2.1 hbr.1 hbr.2
  have hic := rel_isComplete hK.1 hK.2.1.1 hK.2.1.2.1 hn.2 hbr.1 hbr.2
  have hrf := rel_routeFor hK.1 hK.2.1.1 hK.2.1.2.1 hn.2 hbr.1 hbr.2
  have hrr := routeFor_rng d n (bv (g (B + 1)) n)
  have hi2 := hK.2.1.1.2.2.1
  have h02 : g (B + 2) 2 = d 2 := hK.1.2.1.2.2.1
  refine j_entry (by decide) rfl (Nat.le_of_ble_eq_true rfl) (fun h => by cases h) rfl ?_
  show J w mX9_look 0 [(0, .ref (B)), (1, .int (i32 ((n : Int)))), (2, .int (i32 (0)))] [] sh g 1 6 _
  refine j_aload_n 1 0 dX9_look_0 rfl rfl ?_
  refine j_iload_n 2 1 dX9_look_1 rfl rfl ?_
  refine j_callV 5 (As := [.int (i32 ((n : Int)))]) (kc2 := 1) (ks2 := 6) dX9_look_2 rfl mvX9_isDialLength lk_X9_231 hB.cx rfl ⟨Nat.le_of_ble_eq_true rfl, rfl⟩ rfl rfl (Nat.le_of_ble_eq_true rfl) ⟨Nat.le_of_ble_eq_true rfl, Nat.le_of_ble_eq_true rfl⟩ ⟨Nat.le_of_ble_eq_true rfl, Nat.le_of_ble_eq_true rfl⟩ (c_isDialLength hB (r32 (by omega) (by omega))) x_d (k_d1 ?_)
  refine j_if_eq 8 17 dX9_look_5 rfl rfl (r01 (b01_r _)) (fun c_5 => absurd c_5 (by rw [decide_eq_true (show 1 ≤ (n : Int) ∧ (n : Int) ≤ 6 ∧ (n : Int) ≤ g B 1 by omega)]; decide)) (fun c_5 => ?_)
  refine j_iload_n 9 2 dX9_look_8 rfl rfl ?_
  refine j_if_lt 12 17 dX9_look_9 rfl rfl (r32 (by decide) (by decide)) (fun c_9 => absurd c_9 (by decide)) (fun c_9 => ?_)
  refine j_iload_n 13 2 dX9_look_12 rfl rfl ?_
  refine j_iconst 14 dX9_look_13 rfl ?_
  refine j_icmp_le 17 25 dX9_look_14 rfl rfl (r32 (by decide) (by decide)) (r32 (by decide) (by decide)) (fun c_14 => ?_) (fun c_14 => absurd c_14 (by decide))
  refine j_aload_n 26 0 dX9_look_25 rfl rfl ?_
  refine j_iload_n 27 1 dX9_look_26 rfl rfl ?_
  refine j_callV 30 (As := [.int (i32 ((n : Int)))]) (kc2 := 1) (ks2 := 6) dX9_look_27 rfl mvX9_bufferRow lk_X9_234 hB.cx rfl ⟨Nat.le_of_ble_eq_true rfl, rfl⟩ rfl rfl (Nat.le_of_ble_eq_true rfl) ⟨Nat.le_of_ble_eq_true rfl, Nat.le_of_ble_eq_true rfl⟩ ⟨Nat.le_of_ble_eq_true rfl, Nat.le_of_ble_eq_true rfl⟩ (c_bufferRow hB hn.2) x_d (k_d1 ?_)
  refine j_top (y := pw n + bv (g (B + 1)) n) (if_pos hd) ?_
  refine j_istore_n 31 (L2 := [(3, .int (i32 (pw n + bv (g (B + 1)) n))), (0, .ref (B)), (1, .int (i32 ((n : Int)))), (2, .int (i32 (0)))]) dX9_look_30 rfl rfl (Nat.le_of_ble_eq_true rfl) rfl ?_
  refine j_iload_n 32 0 dX9_look_31 rfl rfl ?_
  refine j_if_ne 35 43 dX9_look_32 rfl rfl (r32 (by omega) (by omega)) (fun c_32 => ?_) (fun c_32 => absurd c_32 (by omega))
  refine j_iload_n 44 3 dX9_look_43 rfl rfl ?_
  refine j_tabIn 72 dX9_look_44 (r32 (by decide) (by decide)) (by decide) (by decide) rfl rfl ?_
  refine j_aload_n 73 1 dX9_look_72 rfl rfl ?_
  refine j_getr 76 dX9_look_73 rfl fl_X9_23 hB.cx rfl (fun _ _ => rfl) rfl ?_
  refine j_iload_n 77 0 dX9_look_76 rfl rfl ?_
  refine j_callV 80 (As := [.int (i32 (pw n + bv (g (B + 1)) n))]) (kc2 := 1) (ks2 := 6) dX9_look_77 rfl mvX1_lineWith lk_X9_237 hB.now.ex rfl ⟨Nat.le_of_ble_eq_true rfl, rfl⟩ rfl rfl (Nat.le_of_ble_eq_true rfl) ⟨Nat.le_of_ble_eq_true rfl, Nat.le_of_ble_eq_true rfl⟩ ⟨Nat.le_of_ble_eq_true rfl, Nat.le_of_ble_eq_true rfl⟩ (c_lineWith hB.now (by omega) (r32 (by omega) (by omega))) x_d (k_d1 ?_)
  exact j_iret dX9_look_80 rfl (q_i hlw)

set_option maxRecDepth 20000 in
theorem c_look1a {w : Wd} {sh : Shp} {g : Mem} {B : Nat} {d : Nat → Int} (hB : CxS sh.1 B) (hK : KX g (B + 2) d) {n : Nat} (hn : 1 ≤ n ∧ n ≤ 6) (hf : (n : Int) ≤ g B 1) (hd : bdB (g (B + 1)) n = true) (hr : s_routeFor d n (bv (g (B + 1)) n) = -1) : CT w mX9_look [.ref (B), .int (i32 ((n : Int))), .int (i32 (1))] sh g (dQ (some (.int (i32 (s_look d n (bv (g (B + 1)) n) 1)))) sh g) := by
  have hbr := bv_rng hd
  have hp6 : pw n ≤ pw 6 := pw_le hn.2
  have hp : pw 6 = 1000000 := rfl
  have hpm := pw_pos n
  have hlw := rel_lineWith hK.1 hK.2.1.2.1 hbr.1 hbr.2
  have hic := rel_isComplete hK.1 hK.2.1.1 hK.2.1.2.1 hn.2 hbr.1 hbr.2
  have hrf := rel_routeFor hK.1 hK.2.1.1 hK.2.1.2.1 hn.2 hbr.1 hbr.2
  have hrr := routeFor_rng d n (bv (g (B + 1)) n)
  have hi2 := hK.2.1.1.2.2.1
  have h02 : g (B + 2) 2 = d 2 := hK.1.2.1.2.2.1
  refine j_entry (by decide) rfl (Nat.le_of_ble_eq_true rfl) (fun h => by cases h) rfl ?_
  show J w mX9_look 0 [(0, .ref (B)), (1, .int (i32 ((n : Int)))), (2, .int (i32 (1)))] [] sh g 1 6 _
  refine j_aload_n 1 0 dX9_look_0 rfl rfl ?_
  refine j_iload_n 2 1 dX9_look_1 rfl rfl ?_
  refine j_callV 5 (As := [.int (i32 ((n : Int)))]) (kc2 := 1) (ks2 := 6) dX9_look_2 rfl mvX9_isDialLength lk_X9_231 hB.cx rfl ⟨Nat.le_of_ble_eq_true rfl, rfl⟩ rfl rfl (Nat.le_of_ble_eq_true rfl) ⟨Nat.le_of_ble_eq_true rfl, Nat.le_of_ble_eq_true rfl⟩ ⟨Nat.le_of_ble_eq_true rfl, Nat.le_of_ble_eq_true rfl⟩ (c_isDialLength hB (r32 (by omega) (by omega))) x_d (k_d1 ?_)
  refine j_if_eq 8 17 dX9_look_5 rfl rfl (r01 (b01_r _)) (fun c_5 => absurd c_5 (by rw [decide_eq_true (show 1 ≤ (n : Int) ∧ (n : Int) ≤ 6 ∧ (n : Int) ≤ g B 1 by omega)]; decide)) (fun c_5 => ?_)
  refine j_iload_n 9 2 dX9_look_8 rfl rfl ?_
  refine j_if_lt 12 17 dX9_look_9 rfl rfl (r32 (by decide) (by decide)) (fun c_9 => absurd c_9 (by decide)) (fun c_9 => ?_)
  refine j_iload_n 13 2 dX9_look_12 rfl rfl ?_
  refine j_iconst 14 dX9_look_13 rfl ?_
  refine j_icmp_le 17 25 dX9_look_14 rfl rfl (r32 (by decide) (by decide)) (r32 (by decide) (by decide)) (fun c_14 => ?_) (fun c_14 => absurd c_14 (by decide))
  refine j_aload_n 26 0 dX9_look_25 rfl rfl ?_
  refine j_iload_n 27 1 dX9_look_26 rfl rfl ?_
  refine j_callV 30 (As := [.int (i32 ((n : Int)))]) (kc2 := 1) (ks2 := 6) dX9_look_27 rfl mvX9_bufferRow lk_X9_234 hB.cx rfl ⟨Nat.le_of_ble_eq_true rfl, rfl⟩ rfl rfl (Nat.le_of_ble_eq_true rfl) ⟨Nat.le_of_ble_eq_true rfl, Nat.le_of_ble_eq_true rfl⟩ ⟨Nat.le_of_ble_eq_true rfl, Nat.le_of_ble_eq_true rfl⟩ (c_bufferRow hB hn.2) x_d (k_d1 ?_)
  refine j_top (y := pw n + bv (g (B + 1)) n) (if_pos hd) ?_
  refine j_istore_n 31 (L2 := [(3, .int (i32 (pw n + bv (g (B + 1)) n))), (0, .ref (B)), (1, .int (i32 ((n : Int)))), (2, .int (i32 (1)))]) dX9_look_30 rfl rfl (Nat.le_of_ble_eq_true rfl) rfl ?_
  refine j_iload_n 32 0 dX9_look_31 rfl rfl ?_
  refine j_if_ne 35 43 dX9_look_32 rfl rfl (r32 (by omega) (by omega)) (fun c_32 => ?_) (fun c_32 => absurd c_32 (by omega))
  refine j_iload_n 44 3 dX9_look_43 rfl rfl ?_
  refine j_tabIn 81 dX9_look_44 (r32 (by decide) (by decide)) (by decide) (by decide) rfl rfl ?_
  refine j_aload_n 82 1 dX9_look_81 rfl rfl ?_
  refine j_getr 85 dX9_look_82 rfl fl_X9_23 hB.cx rfl (fun _ _ => rfl) rfl ?_
  refine j_iload_n 86 0 dX9_look_85 rfl rfl ?_
  refine j_callV 89 (As := [.int (i32 (pw n + bv (g (B + 1)) n))]) (kc2 := 1) (ks2 := 6) dX9_look_86 rfl mvX1_routeIndexFor lk_X9_240 hB.now.ex rfl ⟨Nat.le_of_ble_eq_true rfl, rfl⟩ rfl rfl (Nat.le_of_ble_eq_true rfl) ⟨Nat.le_of_ble_eq_true rfl, Nat.le_of_ble_eq_true rfl⟩ ⟨Nat.le_of_ble_eq_true rfl, Nat.le_of_ble_eq_true rfl⟩ (c_routeIndexFor0 hB.now hK.1.1 (r32 (by omega) (by omega)) (by omega) (by rw [hrf, if_pos hr])) x_d (k_d1 ?_)
  exact j_iret dX9_look_89 rfl (q_i hr.symm)

set_option maxRecDepth 20000 in
theorem c_look1b {w : Wd} {sh : Shp} {g : Mem} {B : Nat} {d : Nat → Int} (hB : CxS sh.1 B) (hK : KX g (B + 2) d) {n : Nat} (hn : 1 ≤ n ∧ n ≤ 6) (hf : (n : Int) ≤ g B 1) (hd : bdB (g (B + 1)) n = true) (hr : ¬ s_routeFor d n (bv (g (B + 1)) n) = -1) : CT w mX9_look [.ref (B), .int (i32 ((n : Int))), .int (i32 (1))] sh g (dQ (some (.int (i32 (s_look d n (bv (g (B + 1)) n) 1)))) sh g) := by
  have hbr := bv_rng hd
  have hp6 : pw n ≤ pw 6 := pw_le hn.2
  have hp : pw 6 = 1000000 := rfl
  have hpm := pw_pos n
  have hlw := rel_lineWith hK.1 hK.2.1.2.1 hbr.1 hbr.2
  have hic := rel_isComplete hK.1 hK.2.1.1 hK.2.1.2.1 hn.2 hbr.1 hbr.2
  have hrf := rel_routeFor hK.1 hK.2.1.1 hK.2.1.2.1 hn.2 hbr.1 hbr.2
  have hrr := routeFor_rng d n (bv (g (B + 1)) n)
  have hi2 := hK.2.1.1.2.2.1
  have h02 : g (B + 2) 2 = d 2 := hK.1.2.1.2.2.1
  refine j_entry (by decide) rfl (Nat.le_of_ble_eq_true rfl) (fun h => by cases h) rfl ?_
  show J w mX9_look 0 [(0, .ref (B)), (1, .int (i32 ((n : Int)))), (2, .int (i32 (1)))] [] sh g 1 6 _
  refine j_aload_n 1 0 dX9_look_0 rfl rfl ?_
  refine j_iload_n 2 1 dX9_look_1 rfl rfl ?_
  refine j_callV 5 (As := [.int (i32 ((n : Int)))]) (kc2 := 1) (ks2 := 6) dX9_look_2 rfl mvX9_isDialLength lk_X9_231 hB.cx rfl ⟨Nat.le_of_ble_eq_true rfl, rfl⟩ rfl rfl (Nat.le_of_ble_eq_true rfl) ⟨Nat.le_of_ble_eq_true rfl, Nat.le_of_ble_eq_true rfl⟩ ⟨Nat.le_of_ble_eq_true rfl, Nat.le_of_ble_eq_true rfl⟩ (c_isDialLength hB (r32 (by omega) (by omega))) x_d (k_d1 ?_)
  refine j_if_eq 8 17 dX9_look_5 rfl rfl (r01 (b01_r _)) (fun c_5 => absurd c_5 (by rw [decide_eq_true (show 1 ≤ (n : Int) ∧ (n : Int) ≤ 6 ∧ (n : Int) ≤ g B 1 by omega)]; decide)) (fun c_5 => ?_)
  refine j_iload_n 9 2 dX9_look_8 rfl rfl ?_
  refine j_if_lt 12 17 dX9_look_9 rfl rfl (r32 (by decide) (by decide)) (fun c_9 => absurd c_9 (by decide)) (fun c_9 => ?_)
  refine j_iload_n 13 2 dX9_look_12 rfl rfl ?_
  refine j_iconst 14 dX9_look_13 rfl ?_
  refine j_icmp_le 17 25 dX9_look_14 rfl rfl (r32 (by decide) (by decide)) (r32 (by decide) (by decide)) (fun c_14 => ?_) (fun c_14 => absurd c_14 (by decide))
  refine j_aload_n 26 0 dX9_look_25 rfl rfl ?_
  refine j_iload_n 27 1 dX9_look_26 rfl rfl ?_
  refine j_callV 30 (As := [.int (i32 ((n : Int)))]) (kc2 := 1) (ks2 := 6) dX9_look_27 rfl mvX9_bufferRow lk_X9_234 hB.cx rfl ⟨Nat.le_of_ble_eq_true rfl, rfl⟩ rfl rfl (Nat.le_of_ble_eq_true rfl) ⟨Nat.le_of_ble_eq_true rfl, Nat.le_of_ble_eq_true rfl⟩ ⟨Nat.le_of_ble_eq_true rfl, Nat.le_of_ble_eq_true rfl⟩ (c_bufferRow hB hn.2) x_d (k_d1 ?_)
  refine j_top (y := pw n + bv (g (B + 1)) n) (if_pos hd) ?_
  refine j_istore_n 31 (L2 := [(3, .int (i32 (pw n + bv (g (B + 1)) n))), (0, .ref (B)), (1, .int (i32 ((n : Int)))), (2, .int (i32 (1)))]) dX9_look_30 rfl rfl (Nat.le_of_ble_eq_true rfl) rfl ?_
  refine j_iload_n 32 0 dX9_look_31 rfl rfl ?_
  refine j_if_ne 35 43 dX9_look_32 rfl rfl (r32 (by omega) (by omega)) (fun c_32 => ?_) (fun c_32 => absurd c_32 (by omega))
  refine j_iload_n 44 3 dX9_look_43 rfl rfl ?_
  refine j_tabIn 81 dX9_look_44 (r32 (by decide) (by decide)) (by decide) (by decide) rfl rfl ?_
  refine j_aload_n 82 1 dX9_look_81 rfl rfl ?_
  refine j_getr 85 dX9_look_82 rfl fl_X9_23 hB.cx rfl (fun _ _ => rfl) rfl ?_
  refine j_iload_n 86 0 dX9_look_85 rfl rfl ?_
  refine j_callV 89 (As := [.int (i32 (pw n + bv (g (B + 1)) n))]) (kc2 := 1) (ks2 := 6) dX9_look_86 rfl mvX1_routeIndexFor lk_X9_240 hB.now.ex rfl ⟨Nat.le_of_ble_eq_true rfl, rfl⟩ rfl rfl (Nat.le_of_ble_eq_true rfl) ⟨Nat.le_of_ble_eq_true rfl, Nat.le_of_ble_eq_true rfl⟩ ⟨Nat.le_of_ble_eq_true rfl, Nat.le_of_ble_eq_true rfl⟩ (c_routeIndexFor1 hB.now hK.1.1 (r32 (by omega) (by omega)) (by omega) (by rw [hrf, if_neg hr]) (by omega)) x_d (k_d1 ?_)
  exact j_iret dX9_look_89 rfl (q_i (by show _ = s_routeFor d n (bv (g (B + 1)) n); omega))

set_option maxRecDepth 20000 in
theorem c_look2 {w : Wd} {sh : Shp} {g : Mem} {B : Nat} {d : Nat → Int} (hB : CxS sh.1 B) (hK : KX g (B + 2) d) {n : Nat} (hn : 1 ≤ n ∧ n ≤ 6) (hf : (n : Int) ≤ g B 1) (hd : bdB (g (B + 1)) n = true)  : CT w mX9_look [.ref (B), .int (i32 ((n : Int))), .int (i32 (2))] sh g (dQ (some (.int (i32 (s_look d n (bv (g (B + 1)) n) 2)))) sh g) := by
  have hbr := bv_rng hd
  have hp6 : pw n ≤ pw 6 := pw_le hn.2
  have hp : pw 6 = 1000000 := rfl
  have hpm := pw_pos n
  have hlw := rel_lineWith hK.1 hK.2.1.2.1 hbr.1 hbr.2
  have hic := rel_isComplete hK.1 hK.2.1.1 hK.2.1.2.1 hn.2 hbr.1 hbr.2
  have hrf := rel_routeFor hK.1 hK.2.1.1 hK.2.1.2.1 hn.2 hbr.1 hbr.2
  have hrr := routeFor_rng d n (bv (g (B + 1)) n)
  have hi2 := hK.2.1.1.2.2.1
  have h02 : g (B + 2) 2 = d 2 := hK.1.2.1.2.2.1
  refine j_entry (by decide) rfl (Nat.le_of_ble_eq_true rfl) (fun h => by cases h) rfl ?_
  show J w mX9_look 0 [(0, .ref (B)), (1, .int (i32 ((n : Int)))), (2, .int (i32 (2)))] [] sh g 1 6 _
  refine j_aload_n 1 0 dX9_look_0 rfl rfl ?_
  refine j_iload_n 2 1 dX9_look_1 rfl rfl ?_
  refine j_callV 5 (As := [.int (i32 ((n : Int)))]) (kc2 := 1) (ks2 := 6) dX9_look_2 rfl mvX9_isDialLength lk_X9_231 hB.cx rfl ⟨Nat.le_of_ble_eq_true rfl, rfl⟩ rfl rfl (Nat.le_of_ble_eq_true rfl) ⟨Nat.le_of_ble_eq_true rfl, Nat.le_of_ble_eq_true rfl⟩ ⟨Nat.le_of_ble_eq_true rfl, Nat.le_of_ble_eq_true rfl⟩ (c_isDialLength hB (r32 (by omega) (by omega))) x_d (k_d1 ?_)
  refine j_if_eq 8 17 dX9_look_5 rfl rfl (r01 (b01_r _)) (fun c_5 => absurd c_5 (by rw [decide_eq_true (show 1 ≤ (n : Int) ∧ (n : Int) ≤ 6 ∧ (n : Int) ≤ g B 1 by omega)]; decide)) (fun c_5 => ?_)
  refine j_iload_n 9 2 dX9_look_8 rfl rfl ?_
  refine j_if_lt 12 17 dX9_look_9 rfl rfl (r32 (by decide) (by decide)) (fun c_9 => absurd c_9 (by decide)) (fun c_9 => ?_)
  refine j_iload_n 13 2 dX9_look_12 rfl rfl ?_
  refine j_iconst 14 dX9_look_13 rfl ?_
  refine j_icmp_le 17 25 dX9_look_14 rfl rfl (r32 (by decide) (by decide)) (r32 (by decide) (by decide)) (fun c_14 => ?_) (fun c_14 => absurd c_14 (by decide))
  refine j_aload_n 26 0 dX9_look_25 rfl rfl ?_
  refine j_iload_n 27 1 dX9_look_26 rfl rfl ?_
  refine j_callV 30 (As := [.int (i32 ((n : Int)))]) (kc2 := 1) (ks2 := 6) dX9_look_27 rfl mvX9_bufferRow lk_X9_234 hB.cx rfl ⟨Nat.le_of_ble_eq_true rfl, rfl⟩ rfl rfl (Nat.le_of_ble_eq_true rfl) ⟨Nat.le_of_ble_eq_true rfl, Nat.le_of_ble_eq_true rfl⟩ ⟨Nat.le_of_ble_eq_true rfl, Nat.le_of_ble_eq_true rfl⟩ (c_bufferRow hB hn.2) x_d (k_d1 ?_)
  refine j_top (y := pw n + bv (g (B + 1)) n) (if_pos hd) ?_
  refine j_istore_n 31 (L2 := [(3, .int (i32 (pw n + bv (g (B + 1)) n))), (0, .ref (B)), (1, .int (i32 ((n : Int)))), (2, .int (i32 (2)))]) dX9_look_30 rfl rfl (Nat.le_of_ble_eq_true rfl) rfl ?_
  refine j_iload_n 32 0 dX9_look_31 rfl rfl ?_
  refine j_if_ne 35 43 dX9_look_32 rfl rfl (r32 (by omega) (by omega)) (fun c_32 => ?_) (fun c_32 => absurd c_32 (by omega))
  refine j_iload_n 44 3 dX9_look_43 rfl rfl ?_
  refine j_tabIn 90 dX9_look_44 (r32 (by decide) (by decide)) (by decide) (by decide) rfl rfl ?_
  refine j_aload_n 91 1 dX9_look_90 rfl rfl ?_
  refine j_getr 94 dX9_look_91 rfl fl_X9_23 hB.cx rfl (fun _ _ => rfl) rfl ?_
  refine j_iload_n 95 0 dX9_look_94 rfl rfl ?_
  refine j_callV 98 (As := [.int (i32 (pw n + bv (g (B + 1)) n))]) (kc2 := 1) (ks2 := 6) dX9_look_95 rfl mvX1_isComplete lk_X9_243 hB.now.ex rfl ⟨Nat.le_of_ble_eq_true rfl, rfl⟩ rfl rfl (Nat.le_of_ble_eq_true rfl) ⟨Nat.le_of_ble_eq_true rfl, Nat.le_of_ble_eq_true rfl⟩ ⟨Nat.le_of_ble_eq_true rfl, Nat.le_of_ble_eq_true rfl⟩ (c_isComplete hB.now hK.1.1 (by omega) (r32 (by omega) (by omega)) (by omega)) x_d (k_d1 ?_)
  refine j_if_eq 101 105 dX9_look_98 rfl rfl (r01 (b01_r _)) (fun c_98 => ?_) (fun c_98 => ?_)
  · have hz : (0 : Int) = b01 (s_isComplete d n (bv (g (B + 1)) n)) := by rw [← hic, b01_0 c_98]; rfl
    refine j_iconst 106 dX9_look_105 rfl ?_
    exact j_iret dX9_look_106 rfl (q_i hz)
  · have hz : (1 : Int) = b01 (s_isComplete d n (bv (g (B + 1)) n)) := by rw [← hic, b01_1 c_98]; rfl
    refine j_iconst 102 dX9_look_101 rfl ?_
    refine j_goto 106 dX9_look_102 rfl ?_
    exact j_iret dX9_look_106 rfl (q_i hz)

set_option maxRecDepth 20000 in
theorem c_look3a {w : Wd} {sh : Shp} {g : Mem} {B : Nat} {d : Nat → Int} (hB : CxS sh.1 B) (hK : KX g (B + 2) d) {n : Nat} (hn : 1 ≤ n ∧ n ≤ 6) (hf : (n : Int) ≤ g B 1) (hd : bdB (g (B + 1)) n = true) (hr : s_routeFor d n (bv (g (B + 1)) n) = -1) : CT w mX9_look [.ref (B), .int (i32 ((n : Int))), .int (i32 (3))] sh g (dQ (some (.int (i32 (s_look d n (bv (g (B + 1)) n) 3)))) sh g) := by
  have hbr := bv_rng hd
  have hp6 : pw n ≤ pw 6 := pw_le hn.2
  have hp : pw 6 = 1000000 := rfl
  have hpm := pw_pos n
  have hlw := rel_lineWith hK.1 hK.2.1.2.1 hbr.1 hbr.2
  have hic := rel_isComplete hK.1 hK.2.1.1 hK.2.1.2.1 hn.2 hbr.1 hbr.2
  have hrf := rel_routeFor hK.1 hK.2.1.1 hK.2.1.2.1 hn.2 hbr.1 hbr.2
  have hrr := routeFor_rng d n (bv (g (B + 1)) n)
  have hi2 := hK.2.1.1.2.2.1
  have h02 : g (B + 2) 2 = d 2 := hK.1.2.1.2.2.1
  refine j_entry (by decide) rfl (Nat.le_of_ble_eq_true rfl) (fun h => by cases h) rfl ?_
  show J w mX9_look 0 [(0, .ref (B)), (1, .int (i32 ((n : Int)))), (2, .int (i32 (3)))] [] sh g 1 6 _
  refine j_aload_n 1 0 dX9_look_0 rfl rfl ?_
  refine j_iload_n 2 1 dX9_look_1 rfl rfl ?_
  refine j_callV 5 (As := [.int (i32 ((n : Int)))]) (kc2 := 1) (ks2 := 6) dX9_look_2 rfl mvX9_isDialLength lk_X9_231 hB.cx rfl ⟨Nat.le_of_ble_eq_true rfl, rfl⟩ rfl rfl (Nat.le_of_ble_eq_true rfl) ⟨Nat.le_of_ble_eq_true rfl, Nat.le_of_ble_eq_true rfl⟩ ⟨Nat.le_of_ble_eq_true rfl, Nat.le_of_ble_eq_true rfl⟩ (c_isDialLength hB (r32 (by omega) (by omega))) x_d (k_d1 ?_)
  refine j_if_eq 8 17 dX9_look_5 rfl rfl (r01 (b01_r _)) (fun c_5 => absurd c_5 (by rw [decide_eq_true (show 1 ≤ (n : Int) ∧ (n : Int) ≤ 6 ∧ (n : Int) ≤ g B 1 by omega)]; decide)) (fun c_5 => ?_)
  refine j_iload_n 9 2 dX9_look_8 rfl rfl ?_
  refine j_if_lt 12 17 dX9_look_9 rfl rfl (r32 (by decide) (by decide)) (fun c_9 => absurd c_9 (by decide)) (fun c_9 => ?_)
  refine j_iload_n 13 2 dX9_look_12 rfl rfl ?_
  refine j_iconst 14 dX9_look_13 rfl ?_
  refine j_icmp_le 17 25 dX9_look_14 rfl rfl (r32 (by decide) (by decide)) (r32 (by decide) (by decide)) (fun c_14 => ?_) (fun c_14 => absurd c_14 (by decide))
  refine j_aload_n 26 0 dX9_look_25 rfl rfl ?_
  refine j_iload_n 27 1 dX9_look_26 rfl rfl ?_
  refine j_callV 30 (As := [.int (i32 ((n : Int)))]) (kc2 := 1) (ks2 := 6) dX9_look_27 rfl mvX9_bufferRow lk_X9_234 hB.cx rfl ⟨Nat.le_of_ble_eq_true rfl, rfl⟩ rfl rfl (Nat.le_of_ble_eq_true rfl) ⟨Nat.le_of_ble_eq_true rfl, Nat.le_of_ble_eq_true rfl⟩ ⟨Nat.le_of_ble_eq_true rfl, Nat.le_of_ble_eq_true rfl⟩ (c_bufferRow hB hn.2) x_d (k_d1 ?_)
  refine j_top (y := pw n + bv (g (B + 1)) n) (if_pos hd) ?_
  refine j_istore_n 31 (L2 := [(3, .int (i32 (pw n + bv (g (B + 1)) n))), (0, .ref (B)), (1, .int (i32 ((n : Int)))), (2, .int (i32 (3)))]) dX9_look_30 rfl rfl (Nat.le_of_ble_eq_true rfl) rfl ?_
  refine j_iload_n 32 0 dX9_look_31 rfl rfl ?_
  refine j_if_ne 35 43 dX9_look_32 rfl rfl (r32 (by omega) (by omega)) (fun c_32 => ?_) (fun c_32 => absurd c_32 (by omega))
  refine j_iload_n 44 3 dX9_look_43 rfl rfl ?_
  refine j_tabOut 107 dX9_look_44 (r32 (by decide) (by decide)) (Or.inr (by decide)) rfl ?_
  refine j_aload_n 108 1 dX9_look_107 rfl rfl ?_
  refine j_getr 111 dX9_look_108 rfl fl_X9_23 hB.cx rfl (fun _ _ => rfl) rfl ?_
  refine j_iload_n 112 0 dX9_look_111 rfl rfl ?_
  refine j_callV 115 (As := [.int (i32 (pw n + bv (g (B + 1)) n))]) (kc2 := 1) (ks2 := 6) dX9_look_112 rfl mvX1_groupFor lk_X9_246 hB.now.ex rfl ⟨Nat.le_of_ble_eq_true rfl, rfl⟩ rfl rfl (Nat.le_of_ble_eq_true rfl) ⟨Nat.le_of_ble_eq_true rfl, Nat.le_of_ble_eq_true rfl⟩ ⟨Nat.le_of_ble_eq_true rfl, Nat.le_of_ble_eq_true rfl⟩ (c_groupFor0 hB.now hK hn.2 hbr.1 hbr.2 hr) x_d (k_d1 ?_)
  exact j_iret dX9_look_115 rfl (q_i rfl)

set_option maxRecDepth 20000 in
theorem c_look3b {w : Wd} {sh : Shp} {g : Mem} {B : Nat} {d : Nat → Int} (hB : CxS sh.1 B) (hK : KX g (B + 2) d) {n : Nat} (hn : 1 ≤ n ∧ n ≤ 6) (hf : (n : Int) ≤ g B 1) (hd : bdB (g (B + 1)) n = true) (hr : ¬ s_routeFor d n (bv (g (B + 1)) n) = -1) : CT w mX9_look [.ref (B), .int (i32 ((n : Int))), .int (i32 (3))] sh g (dQ (some (.int (i32 (s_look d n (bv (g (B + 1)) n) 3)))) sh g) := by
  have hbr := bv_rng hd
  have hp6 : pw n ≤ pw 6 := pw_le hn.2
  have hp : pw 6 = 1000000 := rfl
  have hpm := pw_pos n
  have hlw := rel_lineWith hK.1 hK.2.1.2.1 hbr.1 hbr.2
  have hic := rel_isComplete hK.1 hK.2.1.1 hK.2.1.2.1 hn.2 hbr.1 hbr.2
  have hrf := rel_routeFor hK.1 hK.2.1.1 hK.2.1.2.1 hn.2 hbr.1 hbr.2
  have hrr := routeFor_rng d n (bv (g (B + 1)) n)
  have hi2 := hK.2.1.1.2.2.1
  have h02 : g (B + 2) 2 = d 2 := hK.1.2.1.2.2.1
  refine j_entry (by decide) rfl (Nat.le_of_ble_eq_true rfl) (fun h => by cases h) rfl ?_
  show J w mX9_look 0 [(0, .ref (B)), (1, .int (i32 ((n : Int)))), (2, .int (i32 (3)))] [] sh g 1 6 _
  refine j_aload_n 1 0 dX9_look_0 rfl rfl ?_
  refine j_iload_n 2 1 dX9_look_1 rfl rfl ?_
  refine j_callV 5 (As := [.int (i32 ((n : Int)))]) (kc2 := 1) (ks2 := 6) dX9_look_2 rfl mvX9_isDialLength lk_X9_231 hB.cx rfl ⟨Nat.le_of_ble_eq_true rfl, rfl⟩ rfl rfl (Nat.le_of_ble_eq_true rfl) ⟨Nat.le_of_ble_eq_true rfl, Nat.le_of_ble_eq_true rfl⟩ ⟨Nat.le_of_ble_eq_true rfl, Nat.le_of_ble_eq_true rfl⟩ (c_isDialLength hB (r32 (by omega) (by omega))) x_d (k_d1 ?_)
  refine j_if_eq 8 17 dX9_look_5 rfl rfl (r01 (b01_r _)) (fun c_5 => absurd c_5 (by rw [decide_eq_true (show 1 ≤ (n : Int) ∧ (n : Int) ≤ 6 ∧ (n : Int) ≤ g B 1 by omega)]; decide)) (fun c_5 => ?_)
  refine j_iload_n 9 2 dX9_look_8 rfl rfl ?_
  refine j_if_lt 12 17 dX9_look_9 rfl rfl (r32 (by decide) (by decide)) (fun c_9 => absurd c_9 (by decide)) (fun c_9 => ?_)
  refine j_iload_n 13 2 dX9_look_12 rfl rfl ?_
  refine j_iconst 14 dX9_look_13 rfl ?_
  refine j_icmp_le 17 25 dX9_look_14 rfl rfl (r32 (by decide) (by decide)) (r32 (by decide) (by decide)) (fun c_14 => ?_) (fun c_14 => absurd c_14 (by decide))
  refine j_aload_n 26 0 dX9_look_25 rfl rfl ?_
  refine j_iload_n 27 1 dX9_look_26 rfl rfl ?_
  refine j_callV 30 (As := [.int (i32 ((n : Int)))]) (kc2 := 1) (ks2 := 6) dX9_look_27 rfl mvX9_bufferRow lk_X9_234 hB.cx rfl ⟨Nat.le_of_ble_eq_true rfl, rfl⟩ rfl rfl (Nat.le_of_ble_eq_true rfl) ⟨Nat.le_of_ble_eq_true rfl, Nat.le_of_ble_eq_true rfl⟩ ⟨Nat.le_of_ble_eq_true rfl, Nat.le_of_ble_eq_true rfl⟩ (c_bufferRow hB hn.2) x_d (k_d1 ?_)
  refine j_top (y := pw n + bv (g (B + 1)) n) (if_pos hd) ?_
  refine j_istore_n 31 (L2 := [(3, .int (i32 (pw n + bv (g (B + 1)) n))), (0, .ref (B)), (1, .int (i32 ((n : Int)))), (2, .int (i32 (3)))]) dX9_look_30 rfl rfl (Nat.le_of_ble_eq_true rfl) rfl ?_
  refine j_iload_n 32 0 dX9_look_31 rfl rfl ?_
  refine j_if_ne 35 43 dX9_look_32 rfl rfl (r32 (by omega) (by omega)) (fun c_32 => ?_) (fun c_32 => absurd c_32 (by omega))
  refine j_iload_n 44 3 dX9_look_43 rfl rfl ?_
  refine j_tabOut 107 dX9_look_44 (r32 (by decide) (by decide)) (Or.inr (by decide)) rfl ?_
  refine j_aload_n 108 1 dX9_look_107 rfl rfl ?_
  refine j_getr 111 dX9_look_108 rfl fl_X9_23 hB.cx rfl (fun _ _ => rfl) rfl ?_
  refine j_iload_n 112 0 dX9_look_111 rfl rfl ?_
  refine j_callV 115 (As := [.int (i32 (pw n + bv (g (B + 1)) n))]) (kc2 := 1) (ks2 := 6) dX9_look_112 rfl mvX1_groupFor lk_X9_246 hB.now.ex rfl ⟨Nat.le_of_ble_eq_true rfl, rfl⟩ rfl rfl (Nat.le_of_ble_eq_true rfl) ⟨Nat.le_of_ble_eq_true rfl, Nat.le_of_ble_eq_true rfl⟩ ⟨Nat.le_of_ble_eq_true rfl, Nat.le_of_ble_eq_true rfl⟩ (c_groupFor1 hB.now hK hn.2 hbr.1 hbr.2 hr) x_d (k_d1 ?_)
  exact j_iret dX9_look_115 rfl (q_i rfl)

theorem c_look {w : Wd} {sh : Shp} {g : Mem} {B : Nat} {d : Nat → Int} (hB : CxS sh.1 B) (hK : KX g (B + 2) d) {n : Nat} (hn : 1 ≤ n ∧ n ≤ 6) (hf : (n : Int) ≤ g B 1) (hd : bdB (g (B + 1)) n = true) {q : Int} (hq : 0 ≤ q ∧ q ≤ 3) : CT w mX9_look [.ref B, .int (i32 (n : Int)), .int (i32 q)] sh g (dQ (some (.int (i32 (s_look d n (bv (g (B + 1)) n) q.toNat)))) sh g) := by
  by_cases q0 : q = 0
  · rw [q0]; exact c_look0 hB hK hn hf hd
  by_cases q1 : q = 1
  · rw [q1]; by_cases hr : s_routeFor d n (bv (g (B + 1)) n) = -1
    · exact c_look1a hB hK hn hf hd hr
    · exact c_look1b hB hK hn hf hd hr
  by_cases q2 : q = 2
  · rw [q2]; exact c_look2 hB hK hn hf hd
  by_cases q3 : q = 3
  · rw [q3]; by_cases hr : s_routeFor d n (bv (g (B + 1)) n) = -1
    · exact c_look3a hB hK hn hf hd hr
    · exact c_look3b hB hK hn hf hd hr
  omega

set_option maxRecDepth 20000 in
theorem c_lookI {w : Wd} {sh : Shp} {g : Mem} {B : Nat} (hB : CxS sh.1 B) {x q : Int} (hx : R32 x) (hq : R32 q) (hb : ¬ (1 ≤ x ∧ x ≤ 6 ∧ x ≤ g B 1) ∨ q < 0 ∨ 3 < q) : CT w mX9_look [.ref (B), .int (i32 (x)), .int (i32 (q))] sh g (tQ xI sh g) := by
  refine j_entry (by decide) rfl (Nat.le_of_ble_eq_true rfl) (fun h => by cases h) rfl ?_
  show J w mX9_look 0 [(0, .ref (B)), (1, .int (i32 (x))), (2, .int (i32 (q)))] [] sh g 1 6 _
  refine j_aload_n 1 0 dX9_look_0 rfl rfl ?_
  refine j_iload_n 2 1 dX9_look_1 rfl rfl ?_
  refine j_callV 5 (As := [.int (i32 (x))]) (kc2 := 1) (ks2 := 6) dX9_look_2 rfl mvX9_isDialLength lk_X9_231 hB.cx rfl ⟨Nat.le_of_ble_eq_true rfl, rfl⟩ rfl rfl (Nat.le_of_ble_eq_true rfl) ⟨Nat.le_of_ble_eq_true rfl, Nat.le_of_ble_eq_true rfl⟩ ⟨Nat.le_of_ble_eq_true rfl, Nat.le_of_ble_eq_true rfl⟩ (c_isDialLength hB hx) x_d (k_d1 ?_)
  refine j_if_eq 8 17 dX9_look_5 rfl rfl (r01 (b01_r _)) (fun c_5 => ?_) (fun c_5 => ?_)
  · exact j_throw xI th_X9_look_17 ⟨Nat.le_of_ble_eq_true rfl, Nat.le_of_ble_eq_true rfl⟩ ⟨rfl, rfl, rfl⟩
  · have hc5 := of_decide_eq_true (b01_1 c_5)
    refine j_iload_n 9 2 dX9_look_8 rfl rfl ?_
    refine j_if_lt 12 17 dX9_look_9 rfl rfl hq (fun c_9 => ?_) (fun c_9 => ?_)
    · exact j_throw xI th_X9_look_17 ⟨Nat.le_of_ble_eq_true rfl, Nat.le_of_ble_eq_true rfl⟩ ⟨rfl, rfl, rfl⟩
    · refine j_iload_n 13 2 dX9_look_12 rfl rfl ?_
      refine j_iconst 14 dX9_look_13 rfl ?_
      refine j_icmp_le 17 25 dX9_look_14 rfl rfl hq (r32 (by decide) (by decide)) (fun c_14 => absurd c_14 (by omega)) (fun c_14 => ?_)
      exact j_throw xI th_X9_look_17 ⟨Nat.le_of_ble_eq_true rfl, Nat.le_of_ble_eq_true rfl⟩ ⟨rfl, rfl, rfl⟩

set_option maxRecDepth 20000 in
theorem c_lookD {w : Wd} {sh : Shp} {g : Mem} {B : Nat} (hB : CxS sh.1 B) {n : Nat} {q : Int} (hn : 1 ≤ n ∧ n ≤ 6) (hf : (n : Int) ≤ g B 1) (hd : bdB (g (B + 1)) n = false) (hq : 0 ≤ q ∧ q ≤ 3) : CT w mX9_look [.ref (B), .int (i32 ((n : Int))), .int (i32 (q))] sh g (tQ xI sh g) := by
  refine j_entry (by decide) rfl (Nat.le_of_ble_eq_true rfl) (fun h => by cases h) rfl ?_
  show J w mX9_look 0 [(0, .ref (B)), (1, .int (i32 ((n : Int)))), (2, .int (i32 (q)))] [] sh g 1 6 _
  refine j_aload_n 1 0 dX9_look_0 rfl rfl ?_
  refine j_iload_n 2 1 dX9_look_1 rfl rfl ?_
  refine j_callV 5 (As := [.int (i32 ((n : Int)))]) (kc2 := 1) (ks2 := 6) dX9_look_2 rfl mvX9_isDialLength lk_X9_231 hB.cx rfl ⟨Nat.le_of_ble_eq_true rfl, rfl⟩ rfl rfl (Nat.le_of_ble_eq_true rfl) ⟨Nat.le_of_ble_eq_true rfl, Nat.le_of_ble_eq_true rfl⟩ ⟨Nat.le_of_ble_eq_true rfl, Nat.le_of_ble_eq_true rfl⟩ (c_isDialLength hB (r32 (by omega) (by omega))) x_d (k_d1 ?_)
  refine j_if_eq 8 17 dX9_look_5 rfl rfl (r01 (b01_r _)) (fun c_5 => absurd c_5 (by rw [decide_eq_true (show 1 ≤ (n : Int) ∧ (n : Int) ≤ 6 ∧ (n : Int) ≤ g B 1 by omega)]; decide)) (fun c_5 => ?_)
  refine j_iload_n 9 2 dX9_look_8 rfl rfl ?_
  refine j_if_lt 12 17 dX9_look_9 rfl rfl (r32 (by omega) (by omega)) (fun c_9 => absurd c_9 (by omega)) (fun c_9 => ?_)
  refine j_iload_n 13 2 dX9_look_12 rfl rfl ?_
  refine j_iconst 14 dX9_look_13 rfl ?_
  refine j_icmp_le 17 25 dX9_look_14 rfl rfl (r32 (by omega) (by omega)) (r32 (by decide) (by decide)) (fun c_14 => ?_) (fun c_14 => absurd c_14 (by omega))
  refine j_aload_n 26 0 dX9_look_25 rfl rfl ?_
  refine j_iload_n 27 1 dX9_look_26 rfl rfl ?_
  refine j_callV 30 (As := [.int (i32 ((n : Int)))]) (kc2 := 1) (ks2 := 6) dX9_look_27 rfl mvX9_bufferRow lk_X9_234 hB.cx rfl ⟨Nat.le_of_ble_eq_true rfl, rfl⟩ rfl rfl (Nat.le_of_ble_eq_true rfl) ⟨Nat.le_of_ble_eq_true rfl, Nat.le_of_ble_eq_true rfl⟩ ⟨Nat.le_of_ble_eq_true rfl, Nat.le_of_ble_eq_true rfl⟩ (c_bufferRow hB hn.2) x_d (k_d1 ?_)
  refine j_top (y := 0) (if_neg (by rw [hd]; decide)) ?_
  refine j_istore_n 31 (L2 := [(3, .int (i32 (0))), (0, .ref (B)), (1, .int (i32 ((n : Int)))), (2, .int (i32 (q)))]) dX9_look_30 rfl rfl (Nat.le_of_ble_eq_true rfl) rfl ?_
  refine j_iload_n 32 0 dX9_look_31 rfl rfl ?_
  refine j_if_ne 35 43 dX9_look_32 rfl rfl (r32 (by decide) (by decide)) (fun c_32 => absurd c_32 (by decide)) (fun c_32 => ?_)
  exact j_throw xI th_X9_look_35 ⟨Nat.le_of_ble_eq_true rfl, Nat.le_of_ble_eq_true rfl⟩ ⟨rfl, rfl, rfl⟩
