/-! checksum of the class -/
def s_came (d : Nat → Int) (x : Int) : Int := sm (fun (c : Nat) => if (c : Int) < d 5 ∧ d (169 + 14 * c) = x then d (182 + 14 * c) else 0) 40
def s_endd (d : Nat → Int) (x : Int) : Int := sm (fun (c : Nat) => if (c : Int) < d 5 ∧ d (169 + 14 * c) = x ∧ d (173 + 14 * c) = 6 then 1 else 0) 40
theorem cnt_sm {p : Nat → Bool} {f : Nat → Int} : ∀ {n : Nat}, (∀ k, k < n → f k = if p k = true then 1 else 0) → (cnt p n : Int) = sm f n
  | 0, _ => rfl
  | n + 1, h => by
    show ((cnt p n + (if p n = true then 1 else 0) : Nat) : Int) = sm f n + f n
    rw [h n (by omega), ← cnt_sm (fun k hk => h k (by omega))]
    split <;> simp
theorem rel_came2 {g : Mem} {e : Nat} {d : Nat → Int} (h : RelX g e d) (hI : Inv d) (hm : ∀ c, c < 40 → (g (e + 35 + c) 6 = 0 ∨ g (e + 35 + c) 6 = 1)) (x : Int) : (x_cameFrom g e x : Int) = s_came d x := cnt_sm (fun c hc => by
  have h1 := h.st hc
  by_cases h5 : (c : Int) < d 5
  · have h2 := h.told hc h5
    have hs := (hI.2.2.2.1 c h5).1
    have h6 := hm c hc
    rw [h2.1, h2.2.1, h2.2.2.2.2.2.1]
    rw [h2.2.2.2.2.2.1] at h6
    rw [decide_eq_false (show ¬ d (173 + 14 * c) = -1 by omega)]
    by_cases q : d (169 + 14 * c) = x
    · rw [if_pos ⟨h5, q⟩, decide_eq_true q]
      rcases h6 with z | z <;> rw [z] <;> rfl
    · rw [if_neg (fun z => q z.2), decide_eq_false q, Bool.and_false, Bool.and_false]; rfl
  · rw [if_neg h5] at h1
    rw [if_neg (fun z => h5 z.1), h1]; rfl)
theorem rel_endd {g : Mem} {e : Nat} {d : Nat → Int} (h : RelX g e d) (x : Int) : (x_ended g e x : Int) = s_endd d x := cnt_sm (fun c hc => by
  have h1 := h.st hc
  by_cases h5 : (c : Int) < d 5
  · have h2 := h.told hc h5
    rw [h2.1, h2.2.1]
    by_cases q : d (169 + 14 * c) = x
    · by_cases q2 : d (173 + 14 * c) = 6
      · rw [if_pos ⟨h5, q, q2⟩, decide_eq_true q, decide_eq_true q2]; rfl
      · rw [if_neg (fun z => q2 z.2.2), decide_eq_false q2, Bool.false_and]; rfl
    · rw [if_neg (fun z => q z.2.1), decide_eq_false q, Bool.and_false]; rfl
  · rw [if_neg h5] at h1
    rw [if_neg (fun z => h5 z.1), h1]; rfl)
def s_lineV (d : Nat → Int) (x : Int) (q : Nat) : Int := if q = 0 then b01 (s_isBusy d x) else if q = 1 then s_callBy d x else if q = 2 then s_callTo d x else if q = 3 then s_came d x else s_endd d x
def s_grV (d : Nat → Int) (i q : Nat) : Int := if q = 2 then (s_busyTrunks d (i : Int) : Int) else d (50 + 9 * i + q)

set_option maxRecDepth 20000 in
theorem c_line3s {w : Wd} {sh : Shp} {g : Mem} {B : Nat} {d : Nat → Int} (hB : CxS sh.1 B) (hK : KX g (B + 2) d) {x : Int} (hx : R32 x) (h0 : 0 ≤ x ∧ x < d 2) : CT w mX9_line [.ref (B), .int (i32 (x)), .int (i32 (3))] sh g (dQ (some (.int (i32 (s_came d x)))) sh g) := by
  have h2 : g (B + 2) 2 = d 2 := hK.1.2.1.2.2.1
  refine j_entry (by decide) rfl (Nat.le_of_ble_eq_true rfl) (fun h => by cases h) rfl ?_
  show J w mX9_line 0 [(0, .ref (B)), (1, .int (i32 (x))), (2, .int (i32 (3)))] [] sh g 1 6 _
  refine j_rgc hB.now (fun hcm => ?_)
  refine j_aload_n 1 0 dX9_line_0 rfl rfl ?_
  refine j_getr 4 dX9_line_1 rfl fl_X9_23 hB.cx rfl (fun _ _ => rfl) rfl ?_
  refine j_iload_n 5 1 dX9_line_4 rfl rfl ?_
  refine j_callV 8 (As := [.int (i32 (x))]) (kc2 := 1) (ks2 := 6) dX9_line_5 rfl mvX1_hasLine lk_X9_110 hB.now.ex rfl ⟨Nat.le_of_ble_eq_true rfl, rfl⟩ rfl rfl (Nat.le_of_ble_eq_true rfl) ⟨Nat.le_of_ble_eq_true rfl, Nat.le_of_ble_eq_true rfl⟩ ⟨Nat.le_of_ble_eq_true rfl, Nat.le_of_ble_eq_true rfl⟩ (c_hasLine hB.now hx) x_d (k_d1 ?_)
  refine j_if_ne 11 19 dX9_line_8 rfl rfl (r01 (b01_r _)) (fun c_8 => ?_) (fun c_8 => absurd c_8 (by rw [decide_eq_true (show 0 ≤ x ∧ x < g (B + 2) 2 by omega)]; decide))
  refine j_iload_n 20 2 dX9_line_19 rfl rfl ?_
  refine j_if_lt 23 28 dX9_line_20 rfl rfl (r32 (by decide) (by decide)) (fun c_20 => absurd c_20 (by decide)) (fun c_20 => ?_)
  refine j_iload_n 24 2 dX9_line_23 rfl rfl ?_
  refine j_iconst 25 dX9_line_24 rfl ?_
  refine j_icmp_le 28 36 dX9_line_25 rfl rfl (r32 (by decide) (by decide)) (r32 (by decide) (by decide)) (fun c_25 => ?_) (fun c_25 => absurd c_25 (by decide))
  refine j_iload_n 37 2 dX9_line_36 rfl rfl ?_
  refine j_tabIn 103 dX9_line_37 (r32 (by decide) (by decide)) (by decide) (by decide) rfl rfl ?_
  refine j_aload_n 104 0 dX9_line_103 rfl rfl ?_
  refine j_getr 107 dX9_line_104 rfl fl_X9_23 hB.cx rfl (fun _ _ => rfl) rfl ?_
  refine j_iload_n 108 1 dX9_line_107 rfl rfl ?_
  refine j_callV 111 (As := [.int (i32 (x))]) (kc2 := 1) (ks2 := 6) dX9_line_108 rfl mvX1_cameFrom lk_X9_126 hB.now.ex rfl ⟨Nat.le_of_ble_eq_true rfl, rfl⟩ rfl rfl (Nat.le_of_ble_eq_true rfl) ⟨Nat.le_of_ble_eq_true rfl, Nat.le_of_ble_eq_true rfl⟩ ⟨Nat.le_of_ble_eq_true rfl, Nat.le_of_ble_eq_true rfl⟩ (c_cameFrom hB.now hx) x_d (k_d1 ?_)
  exact j_iret dX9_line_111 rfl (q_i (rel_came2 hK.1 hK.2.1 hcm x))

theorem c_lineV {w : Wd} {sh : Shp} {g : Mem} {B : Nat} {d : Nat → Int} (hB : CxS sh.1 B) (hK : KX g (B + 2) d) {x : Int} (hx : R32 x) (h0 : 0 ≤ x ∧ x < d 2) {q : Int} (hq : 0 ≤ q ∧ q ≤ 4) : CT w mX9_line [.ref B, .int (i32 x), .int (i32 q)] sh g (dQ (some (.int (i32 (s_lineV d x q.toNat)))) sh g) := by
  by_cases q0 : q = 0
  · rw [q0]; exact c_line0 hB hK hx h0
  by_cases q1 : q = 1
  · rw [q1]; exact c_line1 hB hK hx h0
  by_cases q2 : q = 2
  · rw [q2]; exact c_line2 hB hK hx h0
  by_cases q3 : q = 3
  · rw [q3]; exact c_line3s hB hK hx h0
  by_cases q4 : q = 4
  · rw [q4]; have h := c_line4 hB hK hx h0 (w := w); rw [rel_endd hK.1 x] at h; exact h
  omega

theorem c_groupV {w : Wd} {sh : Shp} {g : Mem} {B : Nat} {d : Nat → Int} (hB : CxS sh.1 B) (hK : KX g (B + 2) d) {i : Nat} (hi : (i : Int) < d 3) {q : Int} (hq : 0 ≤ q ∧ q ≤ 6) : CT w mX9_group [.ref B, .int (i32 (i : Int)), .int (i32 q)] sh g (dQ (some (.int (i32 (s_grV d i q.toNat)))) sh g) := by
  by_cases q0 : q = 0
  · rw [q0]; exact c_group0 hB hK hi
  by_cases q1 : q = 1
  · rw [q1]; have h := c_group1 hB hK hi (w := w); rw [show 51 + 9 * i = 50 + 9 * i + 1 by omega] at h; exact h
  by_cases q2 : q = 2
  · rw [q2]; exact c_group2 hB hK hi
  by_cases q3 : q = 3
  · rw [q3]; have h := c_group3 hB hK hi (w := w); rw [show 53 + 9 * i = 50 + 9 * i + 3 by omega] at h; exact h
  by_cases q4 : q = 4
  · rw [q4]; have h := c_group4 hB hK hi (w := w); rw [show 54 + 9 * i = 50 + 9 * i + 4 by omega] at h; exact h
  by_cases q5 : q = 5
  · rw [q5]; have h := c_group5 hB hK hi (w := w); rw [show 55 + 9 * i = 50 + 9 * i + 5 by omega] at h; exact h
  by_cases q6 : q = 6
  · rw [q6]; have h := c_group6 hB hK hi (w := w); rw [show 56 + 9 * i = 50 + 9 * i + 6 by omega] at h; exact h
  omega

theorem c_registerV {w : Wd} {sh : Shp} {g : Mem} {B : Nat} {d : Nat → Int} (hB : CxS sh.1 B) (hK : KX g (B + 2) d) {i : Nat} (hi : (i : Int) < d 0) {q : Int} (hq : 0 ≤ q ∧ q ≤ 2) : CT w mX9_register [.ref B, .int (i32 (i : Int)), .int (i32 q)] sh g (dQ (some (.int (i32 (d (151 + 3 * i + q.toNat))))) sh g) := by
  by_cases q0 : q = 0
  · rw [q0]; exact c_register0 hB hK hi
  by_cases q1 : q = 1
  · rw [q1]; have h := c_register1 hB hK hi (w := w); rw [show 152 + 3 * i = 151 + 3 * i + 1 by omega] at h; exact h
  by_cases q2 : q = 2
  · rw [q2]; have h := c_register2 hB hK hi (w := w); rw [show 153 + 3 * i = 151 + 3 * i + 2 by omega] at h; exact h
  omega

theorem c_markerV {w : Wd} {sh : Shp} {g : Mem} {B : Nat} {d : Nat → Int} (hB : CxS sh.1 B) (hK : KX g (B + 2) d) {i : Nat} (hi : (i : Int) < d 1) {q : Int} (hq : 0 ≤ q ∧ q ≤ 1) : CT w mX9_marker [.ref B, .int (i32 (i : Int)), .int (i32 q)] sh g (dQ (some (.int (i32 (d (163 + 2 * i + q.toNat))))) sh g) := by
  by_cases q0 : q = 0
  · rw [q0]; exact c_marker0 hB hK hi
  by_cases q1 : q = 1
  · rw [q1]; have h := c_marker1 hB hK hi (w := w); rw [show 164 + 2 * i = 163 + 2 * i + 1 by omega] at h; exact h
  omega

theorem c_callV {w : Wd} {sh : Shp} {g : Mem} {B : Nat} {d : Nat → Int} (hB : CxS sh.1 B) (hK : KX g (B + 2) d) {i : Nat} (hi : (i : Int) < d 5) {q : Int} (hq : 0 ≤ q ∧ q ≤ 10) : CT w mX9_call [.ref B, .int (i32 (i : Int)), .int (i32 q)] sh g (dQ (some (.int (i32 (d (169 + 14 * i + q.toNat))))) sh g) := by
  by_cases q0 : q = 0
  · rw [q0]; exact c_call0 hB hK hi
  by_cases q1 : q = 1
  · rw [q1]; have h := c_call1 hB hK hi (w := w); rw [show 170 + 14 * i = 169 + 14 * i + 1 by omega] at h; exact h
  by_cases q2 : q = 2
  · rw [q2]; have h := c_call2 hB hK hi (w := w); rw [show 171 + 14 * i = 169 + 14 * i + 2 by omega] at h; exact h
  by_cases q3 : q = 3
  · rw [q3]; have h := c_call3 hB hK hi (w := w); rw [show 172 + 14 * i = 169 + 14 * i + 3 by omega] at h; exact h
  by_cases q4 : q = 4
  · rw [q4]; have h := c_call4 hB hK hi (w := w); rw [show 173 + 14 * i = 169 + 14 * i + 4 by omega] at h; exact h
  by_cases q5 : q = 5
  · rw [q5]; have h := c_call5 hB hK hi (w := w); rw [show 174 + 14 * i = 169 + 14 * i + 5 by omega] at h; exact h
  by_cases q6 : q = 6
  · rw [q6]; have h := c_call6 hB hK hi (w := w); rw [show 175 + 14 * i = 169 + 14 * i + 6 by omega] at h; exact h
  by_cases q7 : q = 7
  · rw [q7]; have h := c_call7 hB hK hi (w := w); rw [show 176 + 14 * i = 169 + 14 * i + 7 by omega] at h; exact h
  by_cases q8 : q = 8
  · rw [q8]; have h := c_call8 hB hK hi (w := w); rw [show 177 + 14 * i = 169 + 14 * i + 8 by omega] at h; exact h
  by_cases q9 : q = 9
  · rw [q9]; have h := c_call9 hB hK hi (w := w); rw [show 178 + 14 * i = 169 + 14 * i + 9 by omega] at h; exact h
  by_cases q10 : q = 10
  · rw [q10]; have h := c_call10 hB hK hi (w := w); rw [show 179 + 14 * i = 169 + 14 * i + 10 by omega] at h; exact h
  omega

def hsF (f : Nat → Int) : Nat → Int → Int
  | 0, s => s
  | n + 1, s => 31 * hsF f n s + bm (f n)
def hsR (f : Nat → Nat → Int) (w : Nat) : Nat → Int → Int
  | 0, s => s
  | i + 1, s => hsF (f i) w (hsR f w i s)
theorem q_l {sh : Shp} {g : Mem} {z z0 : Int} (h : z = z0) : dQ (some (.long (i64 z0))) sh g (.inl (some (.long (i64 z)))) sh g := by rw [h]; exact ⟨rfl, rfl, rfl⟩

set_option maxRecDepth 20000 in
theorem c_sumL {w : Wd} {sh : Shp} {g : Mem} {B : Nat} {d : Nat → Int} (hB : CxS sh.1 B) (hK : KX g (B + 2) d) {s0 : Int} : CT w mX9_sumOfLines [.ref (B), .long (i64 (s0))] sh g (dQ (some (.long (i64 (hsR (fun i q => s_lineV d (i : Int) q) 5 (d 2).toNat s0)))) sh g) := by
  have hcnt : g (B + 2) 2 = d 2 := hK.1.2.1.2.2.1
  have hb2 := hK.2.1.1.2.2.1
  refine j_entry (by decide) rfl (Nat.le_of_ble_eq_true rfl) (fun h => by cases h) rfl ?_
  show J w mX9_sumOfLines 0 [(0, .ref (B)), (1, .long (i64 (s0)))] [] sh g 60 360 _
  refine j_lload_n 1 1 dX9_sumOfLines_0 rfl rfl ?_
  refine j_lstore_n 2 (L2 := [(3, .long (i64 (s0))), (0, .ref (B)), (1, .long (i64 (s0)))]) dX9_sumOfLines_1 rfl rfl (Nat.le_of_ble_eq_true rfl) rfl ?_
  refine j_iconst 3 dX9_sumOfLines_2 rfl ?_
  refine j_istore 5 (L2 := [(5, .int (i32 (0))), (3, .long (i64 (s0))), (0, .ref (B)), (1, .long (i64 (s0)))]) dX9_sumOfLines_3 rfl (Nat.le_of_ble_eq_true rfl) rfl ?_
  suffices lp_5 : ∀ (n_5 : Nat) (i : Nat) (s : Int), (d 2).toNat - i < n_5 → (i : Int) ≤ d 2 → s = hsR (fun i q => s_lineV d (i : Int) q) 5 i s0 → J w mX9_sumOfLines 5 [(5, .int (i32 ((i : Int)))), (3, .long (i64 (s))), (0, .ref (B)), (1, .long (i64 (s0)))] [] sh g (60 - 5 * i) (360 - 30 * i) (dQ (some (.long (i64 (hsR (fun i q => s_lineV d (i : Int) q) 5 (d 2).toNat s0)))) sh g) by
    refine j_widen (kc2 := 60 - 5 * 0) (ks2 := 360 - 30 * 0) (by omega) (by omega) ?_
    exact lp_5 _ 0 s0 (Nat.lt_succ_self _) (by omega) rfl
  intro n_5
  induction n_5 with
  | zero => intro i s h_; exact absurd h_ (Nat.not_lt_zero _)
  | succ n_5 ih_5 =>
    intro i s hn_5 hi hs
    refine j_iload 7 0 dX9_sumOfLines_5 rfl rfl ?_
    refine j_aload_n 8 2 dX9_sumOfLines_7 rfl rfl ?_
    refine j_getr 11 dX9_sumOfLines_8 rfl fl_X9_23 hB.cx rfl (fun _ _ => rfl) rfl ?_
    refine j_geti 14 dX9_sumOfLines_11 rfl fl_X9_79 hB.now.ex rfl rfl (fun r_11 => ?_)
    refine j_top (y := d 2) (hcnt) ?_
    refine j_icmp_ge 17 54 dX9_sumOfLines_14 rfl rfl (r32 (by omega) (by omega)) ⟨by omega, by omega⟩ (fun c_14 => ?_) (fun c_14 => ?_)
    · refine j_lload_n 55 1 dX9_sumOfLines_54 rfl rfl ?_
      exact j_lret dX9_sumOfLines_55 rfl (q_l (by rw [hs, show i = (d 2).toNat by omega]))
    · refine j_iconst 18 dX9_sumOfLines_17 rfl ?_
      refine j_istore 20 (L2 := [(6, .int (i32 (0))), (5, .int (i32 ((i : Int)))), (3, .long (i64 (s))), (0, .ref (B)), (1, .long (i64 (s0)))]) dX9_sumOfLines_18 rfl (Nat.le_of_ble_eq_true rfl) rfl ?_
      suffices lp_20 : ∀ (n_20 : Nat) (q : Nat) (s1 : Int), 5 - q < n_20 → q ≤ 5 → s1 = hsF ((fun i q => s_lineV d (i : Int) q) i) q s → J w mX9_sumOfLines 20 [(6, .int (i32 ((q : Int)))), (5, .int (i32 ((i : Int)))), (3, .long (i64 (s1))), (0, .ref (B)), (1, .long (i64 (s0)))] [] sh g (60 - 5 * i - q) (360 - 30 * i - 6 * q) (dQ (some (.long (i64 (hsR (fun i q => s_lineV d (i : Int) q) 5 (d 2).toNat s0)))) sh g) by
        refine j_widen (kc2 := 60 - 5 * i - 0) (ks2 := 360 - 30 * i - 6 * 0) (by omega) (by omega) ?_
        exact lp_20 _ 0 s (Nat.lt_succ_self _) (by omega) rfl
      intro n_20
      induction n_20 with
      | zero => intro q s1 h_; exact absurd h_ (Nat.not_lt_zero _)
      | succ n_20 ih_20 =>
        intro q s1 hn_20 hq hs1
        refine j_iload 22 0 dX9_sumOfLines_20 rfl rfl ?_
        refine j_iconst 23 dX9_sumOfLines_22 rfl ?_
        refine j_icmp_gt 26 48 dX9_sumOfLines_23 rfl rfl (r32 (by omega) (by omega)) (r32 (by decide) (by decide)) (fun c_23 => ?_) (fun c_23 => ?_)
        · refine j_iinc 51 1 (y := ((i + 1 : Nat) : Int)) (L2 := [(5, .int (i32 (((i + 1 : Nat) : Int)))), (6, .int (i32 ((q : Int)))), (3, .long (i64 (s1))), (0, .ref (B)), (1, .long (i64 (s0)))]) dX9_sumOfLines_48 rfl rfl (by omega) (Nat.le_of_ble_eq_true rfl) rfl ?_
          refine j_goto 5 dX9_sumOfLines_51 rfl ?_
          refine j_sub [0, 2, 3, 4] rfl ?_
          refine j_widen (kc2 := 60 - 5 * (i + 1)) (ks2 := 360 - 30 * (i + 1)) (by omega) (by omega) ?_
          exact ih_5 (i + 1) s1 (by omega) (by omega) (by rw [hs1, show q = 5 by omega, hs]; rfl)
        · refine j_ldc2 29 dX9_sumOfLines_26 rfl k31 ?_
          refine j_lload_n 30 2 dX9_sumOfLines_29 rfl rfl ?_
          refine j_lmul 31 dX9_sumOfLines_30 rfl ?_
          refine j_aload_n 32 3 dX9_sumOfLines_31 rfl rfl ?_
          refine j_iload 34 1 dX9_sumOfLines_32 rfl rfl ?_
          refine j_iload 36 0 dX9_sumOfLines_34 rfl rfl ?_
          refine j_callV 39 (As := [.int (i32 ((i : Int))), .int (i32 ((q : Int)))]) (kc2 := 60 - 5 * i - (q + 1)) (ks2 := 360 - 30 * i - 6 * (q + 1)) dX9_sumOfLines_36 rfl mvX9_line lk_X9_313 hB.cx rfl ⟨Nat.le_of_ble_eq_true rfl, rfl⟩ rfl rfl (Nat.le_of_ble_eq_true rfl) ⟨Nat.le_of_ble_eq_true rfl, Nat.le_of_ble_eq_true rfl⟩ ⟨(show 1 + (60 - 5 * i - (q + 1)) ≤ (60 - 5 * i - q) by omega), (show 6 + (360 - 30 * i - 6 * (q + 1)) ≤ (360 - 30 * i - 6 * q) by omega)⟩ ((by have h := c_lineV (w := w) hB hK (x := (i : Int)) (r32 (by omega) (by omega)) (by omega) (q := (q : Int)) (by omega); rw [Int.toNat_natCast] at h; exact h)) x_d (k_d1 ?_)
          refine j_nb ?_
          refine j_i2l 40 dX9_sumOfLines_39 rfl (bm_r _) ?_
          refine j_ladd 41 dX9_sumOfLines_40 rfl ?_
          refine j_lstore_n 42 (L2 := [(3, .long (i64 (((31) * (s1)) + (bm (s_lineV d (i : Int) q))))), (6, .int (i32 ((q : Int)))), (5, .int (i32 ((i : Int)))), (0, .ref (B)), (1, .long (i64 (s0)))]) dX9_sumOfLines_41 rfl rfl (Nat.le_of_ble_eq_true rfl) rfl ?_
          refine j_iinc 45 1 (y := ((q + 1 : Nat) : Int)) (L2 := [(6, .int (i32 (((q + 1 : Nat) : Int)))), (3, .long (i64 (((31) * (s1)) + (bm (s_lineV d (i : Int) q))))), (5, .int (i32 ((i : Int)))), (0, .ref (B)), (1, .long (i64 (s0)))]) dX9_sumOfLines_42 rfl rfl (by omega) (Nat.le_of_ble_eq_true rfl) rfl ?_
          refine j_goto 20 dX9_sumOfLines_45 rfl ?_
          refine j_sub [0, 2, 1, 3, 4] rfl ?_
          refine j_widen (kc2 := 60 - 5 * i - (q + 1)) (ks2 := 360 - 30 * i - 6 * (q + 1)) (by omega) (by omega) ?_
          exact ih_20 (q + 1) _ (by omega) (by omega) (by rw [hs1]; rfl)

set_option maxRecDepth 20000 in
theorem c_sumG {w : Wd} {sh : Shp} {g : Mem} {B : Nat} {d : Nat → Int} (hB : CxS sh.1 B) (hK : KX g (B + 2) d) {s0 : Int} : CT w mX9_sumOfGroups [.ref (B), .long (i64 (s0))] sh g (dQ (some (.long (i64 (hsR (fun i q => s_grV d i q) 7 (d 3).toNat s0)))) sh g) := by
  have hcnt : g (B + 2) 3 = d 3 := hK.1.2.1.2.2.2.1
  have hb3 := hK.2.1.1.2.2.2.1
  refine j_entry (by decide) rfl (Nat.le_of_ble_eq_true rfl) (fun h => by cases h) rfl ?_
  show J w mX9_sumOfGroups 0 [(0, .ref (B)), (1, .long (i64 (s0)))] [] sh g 35 210 _
  refine j_lload_n 1 1 dX9_sumOfGroups_0 rfl rfl ?_
  refine j_lstore_n 2 (L2 := [(3, .long (i64 (s0))), (0, .ref (B)), (1, .long (i64 (s0)))]) dX9_sumOfGroups_1 rfl rfl (Nat.le_of_ble_eq_true rfl) rfl ?_
  refine j_iconst 3 dX9_sumOfGroups_2 rfl ?_
  refine j_istore 5 (L2 := [(5, .int (i32 (0))), (3, .long (i64 (s0))), (0, .ref (B)), (1, .long (i64 (s0)))]) dX9_sumOfGroups_3 rfl (Nat.le_of_ble_eq_true rfl) rfl ?_
  suffices lp_5 : ∀ (n_5 : Nat) (i : Nat) (s : Int), (d 3).toNat - i < n_5 → (i : Int) ≤ d 3 → s = hsR (fun i q => s_grV d i q) 7 i s0 → J w mX9_sumOfGroups 5 [(5, .int (i32 ((i : Int)))), (3, .long (i64 (s))), (0, .ref (B)), (1, .long (i64 (s0)))] [] sh g (35 - 7 * i) (210 - 42 * i) (dQ (some (.long (i64 (hsR (fun i q => s_grV d i q) 7 (d 3).toNat s0)))) sh g) by
    refine j_widen (kc2 := 35 - 7 * 0) (ks2 := 210 - 42 * 0) (by omega) (by omega) ?_
    exact lp_5 _ 0 s0 (Nat.lt_succ_self _) (by omega) rfl
  intro n_5
  induction n_5 with
  | zero => intro i s h_; exact absurd h_ (Nat.not_lt_zero _)
  | succ n_5 ih_5 =>
    intro i s hn_5 hi hs
    refine j_iload 7 0 dX9_sumOfGroups_5 rfl rfl ?_
    refine j_aload_n 8 2 dX9_sumOfGroups_7 rfl rfl ?_
    refine j_getr 11 dX9_sumOfGroups_8 rfl fl_X9_23 hB.cx rfl (fun _ _ => rfl) rfl ?_
    refine j_geti 14 dX9_sumOfGroups_11 rfl fl_X9_82 hB.now.ex rfl rfl (fun r_11 => ?_)
    refine j_top (y := d 3) (hcnt) ?_
    refine j_icmp_ge 17 55 dX9_sumOfGroups_14 rfl rfl (r32 (by omega) (by omega)) ⟨by omega, by omega⟩ (fun c_14 => ?_) (fun c_14 => ?_)
    · refine j_lload_n 56 1 dX9_sumOfGroups_55 rfl rfl ?_
      exact j_lret dX9_sumOfGroups_56 rfl (q_l (by rw [hs, show i = (d 3).toNat by omega]))
    · refine j_iconst 18 dX9_sumOfGroups_17 rfl ?_
      refine j_istore 20 (L2 := [(6, .int (i32 (0))), (5, .int (i32 ((i : Int)))), (3, .long (i64 (s))), (0, .ref (B)), (1, .long (i64 (s0)))]) dX9_sumOfGroups_18 rfl (Nat.le_of_ble_eq_true rfl) rfl ?_
      suffices lp_20 : ∀ (n_20 : Nat) (q : Nat) (s1 : Int), 7 - q < n_20 → q ≤ 7 → s1 = hsF ((fun i q => s_grV d i q) i) q s → J w mX9_sumOfGroups 20 [(6, .int (i32 ((q : Int)))), (5, .int (i32 ((i : Int)))), (3, .long (i64 (s1))), (0, .ref (B)), (1, .long (i64 (s0)))] [] sh g (35 - 7 * i - q) (210 - 42 * i - 6 * q) (dQ (some (.long (i64 (hsR (fun i q => s_grV d i q) 7 (d 3).toNat s0)))) sh g) by
        refine j_widen (kc2 := 35 - 7 * i - 0) (ks2 := 210 - 42 * i - 6 * 0) (by omega) (by omega) ?_
        exact lp_20 _ 0 s (Nat.lt_succ_self _) (by omega) rfl
      intro n_20
      induction n_20 with
      | zero => intro q s1 h_; exact absurd h_ (Nat.not_lt_zero _)
      | succ n_20 ih_20 =>
        intro q s1 hn_20 hq hs1
        refine j_iload 22 0 dX9_sumOfGroups_20 rfl rfl ?_
        refine j_bipush 24 dX9_sumOfGroups_22 rfl (by decide) ?_
        refine j_icmp_gt 27 49 dX9_sumOfGroups_24 rfl rfl (r32 (by omega) (by omega)) (r32 (by decide) (by decide)) (fun c_24 => ?_) (fun c_24 => ?_)
        · refine j_iinc 52 1 (y := ((i + 1 : Nat) : Int)) (L2 := [(5, .int (i32 (((i + 1 : Nat) : Int)))), (6, .int (i32 ((q : Int)))), (3, .long (i64 (s1))), (0, .ref (B)), (1, .long (i64 (s0)))]) dX9_sumOfGroups_49 rfl rfl (by omega) (Nat.le_of_ble_eq_true rfl) rfl ?_
          refine j_goto 5 dX9_sumOfGroups_52 rfl ?_
          refine j_sub [0, 2, 3, 4] rfl ?_
          refine j_widen (kc2 := 35 - 7 * (i + 1)) (ks2 := 210 - 42 * (i + 1)) (by omega) (by omega) ?_
          exact ih_5 (i + 1) s1 (by omega) (by omega) (by rw [hs1, show q = 7 by omega, hs]; rfl)
        · refine j_ldc2 30 dX9_sumOfGroups_27 rfl k31 ?_
          refine j_lload_n 31 2 dX9_sumOfGroups_30 rfl rfl ?_
          refine j_lmul 32 dX9_sumOfGroups_31 rfl ?_
          refine j_aload_n 33 3 dX9_sumOfGroups_32 rfl rfl ?_
          refine j_iload 35 1 dX9_sumOfGroups_33 rfl rfl ?_
          refine j_iload 37 0 dX9_sumOfGroups_35 rfl rfl ?_
          refine j_callV 40 (As := [.int (i32 ((i : Int))), .int (i32 ((q : Int)))]) (kc2 := 35 - 7 * i - (q + 1)) (ks2 := 210 - 42 * i - 6 * (q + 1)) dX9_sumOfGroups_37 rfl mvX9_group lk_X9_315 hB.cx rfl ⟨Nat.le_of_ble_eq_true rfl, rfl⟩ rfl rfl (Nat.le_of_ble_eq_true rfl) ⟨Nat.le_of_ble_eq_true rfl, Nat.le_of_ble_eq_true rfl⟩ ⟨(show 1 + (35 - 7 * i - (q + 1)) ≤ (35 - 7 * i - q) by omega), (show 6 + (210 - 42 * i - 6 * (q + 1)) ≤ (210 - 42 * i - 6 * q) by omega)⟩ ((by have h := c_groupV (w := w) hB hK (i := i) (by omega) (q := (q : Int)) (by omega); rw [Int.toNat_natCast] at h; exact h)) x_d (k_d1 ?_)
          refine j_nb ?_
          refine j_i2l 41 dX9_sumOfGroups_40 rfl (bm_r _) ?_
          refine j_ladd 42 dX9_sumOfGroups_41 rfl ?_
          refine j_lstore_n 43 (L2 := [(3, .long (i64 (((31) * (s1)) + (bm (s_grV d i q))))), (6, .int (i32 ((q : Int)))), (5, .int (i32 ((i : Int)))), (0, .ref (B)), (1, .long (i64 (s0)))]) dX9_sumOfGroups_42 rfl rfl (Nat.le_of_ble_eq_true rfl) rfl ?_
          refine j_iinc 46 1 (y := ((q + 1 : Nat) : Int)) (L2 := [(6, .int (i32 (((q + 1 : Nat) : Int)))), (3, .long (i64 (((31) * (s1)) + (bm (s_grV d i q))))), (5, .int (i32 ((i : Int)))), (0, .ref (B)), (1, .long (i64 (s0)))]) dX9_sumOfGroups_43 rfl rfl (by omega) (Nat.le_of_ble_eq_true rfl) rfl ?_
          refine j_goto 20 dX9_sumOfGroups_46 rfl ?_
          refine j_sub [0, 2, 1, 3, 4] rfl ?_
          refine j_widen (kc2 := 35 - 7 * i - (q + 1)) (ks2 := 210 - 42 * i - 6 * (q + 1)) (by omega) (by omega) ?_
          exact ih_20 (q + 1) _ (by omega) (by omega) (by rw [hs1]; rfl)

set_option maxRecDepth 20000 in
theorem c_sumR {w : Wd} {sh : Shp} {g : Mem} {B : Nat} {d : Nat → Int} (hB : CxS sh.1 B) (hK : KX g (B + 2) d) {s0 : Int} : CT w mX9_sumOfRegisters [.ref (B), .long (i64 (s0))] sh g (dQ (some (.long (i64 (hsR (fun i q => d (151 + 3 * i + q)) 3 (d 0).toNat s0)))) sh g) := by
  have hcnt : g (B + 2) 0 = d 0 := hK.1.2.1.1
  have hb0 := hK.2.1.1.1
  refine j_entry (by decide) rfl (Nat.le_of_ble_eq_true rfl) (fun h => by cases h) rfl ?_
  show J w mX9_sumOfRegisters 0 [(0, .ref (B)), (1, .long (i64 (s0)))] [] sh g 12 72 _
  refine j_lload_n 1 1 dX9_sumOfRegisters_0 rfl rfl ?_
  refine j_lstore_n 2 (L2 := [(3, .long (i64 (s0))), (0, .ref (B)), (1, .long (i64 (s0)))]) dX9_sumOfRegisters_1 rfl rfl (Nat.le_of_ble_eq_true rfl) rfl ?_
  refine j_iconst 3 dX9_sumOfRegisters_2 rfl ?_
  refine j_istore 5 (L2 := [(5, .int (i32 (0))), (3, .long (i64 (s0))), (0, .ref (B)), (1, .long (i64 (s0)))]) dX9_sumOfRegisters_3 rfl (Nat.le_of_ble_eq_true rfl) rfl ?_
  suffices lp_5 : ∀ (n_5 : Nat) (i : Nat) (s : Int), (d 0).toNat - i < n_5 → (i : Int) ≤ d 0 → s = hsR (fun i q => d (151 + 3 * i + q)) 3 i s0 → J w mX9_sumOfRegisters 5 [(5, .int (i32 ((i : Int)))), (3, .long (i64 (s))), (0, .ref (B)), (1, .long (i64 (s0)))] [] sh g (12 - 3 * i) (72 - 18 * i) (dQ (some (.long (i64 (hsR (fun i q => d (151 + 3 * i + q)) 3 (d 0).toNat s0)))) sh g) by
    refine j_widen (kc2 := 12 - 3 * 0) (ks2 := 72 - 18 * 0) (by omega) (by omega) ?_
    exact lp_5 _ 0 s0 (Nat.lt_succ_self _) (by omega) rfl
  intro n_5
  induction n_5 with
  | zero => intro i s h_; exact absurd h_ (Nat.not_lt_zero _)
  | succ n_5 ih_5 =>
    intro i s hn_5 hi hs
    refine j_iload 7 0 dX9_sumOfRegisters_5 rfl rfl ?_
    refine j_aload_n 8 2 dX9_sumOfRegisters_7 rfl rfl ?_
    refine j_getr 11 dX9_sumOfRegisters_8 rfl fl_X9_23 hB.cx rfl (fun _ _ => rfl) rfl ?_
    refine j_geti 14 dX9_sumOfRegisters_11 rfl fl_X9_73 hB.now.ex rfl rfl (fun r_11 => ?_)
    refine j_top (y := d 0) (hcnt) ?_
    refine j_icmp_ge 17 54 dX9_sumOfRegisters_14 rfl rfl (r32 (by omega) (by omega)) ⟨by omega, by omega⟩ (fun c_14 => ?_) (fun c_14 => ?_)
    · refine j_lload_n 55 1 dX9_sumOfRegisters_54 rfl rfl ?_
      exact j_lret dX9_sumOfRegisters_55 rfl (q_l (by rw [hs, show i = (d 0).toNat by omega]))
    · refine j_iconst 18 dX9_sumOfRegisters_17 rfl ?_
      refine j_istore 20 (L2 := [(6, .int (i32 (0))), (5, .int (i32 ((i : Int)))), (3, .long (i64 (s))), (0, .ref (B)), (1, .long (i64 (s0)))]) dX9_sumOfRegisters_18 rfl (Nat.le_of_ble_eq_true rfl) rfl ?_
      suffices lp_20 : ∀ (n_20 : Nat) (q : Nat) (s1 : Int), 3 - q < n_20 → q ≤ 3 → s1 = hsF ((fun i q => d (151 + 3 * i + q)) i) q s → J w mX9_sumOfRegisters 20 [(6, .int (i32 ((q : Int)))), (5, .int (i32 ((i : Int)))), (3, .long (i64 (s1))), (0, .ref (B)), (1, .long (i64 (s0)))] [] sh g (12 - 3 * i - q) (72 - 18 * i - 6 * q) (dQ (some (.long (i64 (hsR (fun i q => d (151 + 3 * i + q)) 3 (d 0).toNat s0)))) sh g) by
        refine j_widen (kc2 := 12 - 3 * i - 0) (ks2 := 72 - 18 * i - 6 * 0) (by omega) (by omega) ?_
        exact lp_20 _ 0 s (Nat.lt_succ_self _) (by omega) rfl
      intro n_20
      induction n_20 with
      | zero => intro q s1 h_; exact absurd h_ (Nat.not_lt_zero _)
      | succ n_20 ih_20 =>
        intro q s1 hn_20 hq hs1
        refine j_iload 22 0 dX9_sumOfRegisters_20 rfl rfl ?_
        refine j_iconst 23 dX9_sumOfRegisters_22 rfl ?_
        refine j_icmp_gt 26 48 dX9_sumOfRegisters_23 rfl rfl (r32 (by omega) (by omega)) (r32 (by decide) (by decide)) (fun c_23 => ?_) (fun c_23 => ?_)
        · refine j_iinc 51 1 (y := ((i + 1 : Nat) : Int)) (L2 := [(5, .int (i32 (((i + 1 : Nat) : Int)))), (6, .int (i32 ((q : Int)))), (3, .long (i64 (s1))), (0, .ref (B)), (1, .long (i64 (s0)))]) dX9_sumOfRegisters_48 rfl rfl (by omega) (Nat.le_of_ble_eq_true rfl) rfl ?_
          refine j_goto 5 dX9_sumOfRegisters_51 rfl ?_
          refine j_sub [0, 2, 3, 4] rfl ?_
          refine j_widen (kc2 := 12 - 3 * (i + 1)) (ks2 := 72 - 18 * (i + 1)) (by omega) (by omega) ?_
          exact ih_5 (i + 1) s1 (by omega) (by omega) (by rw [hs1, show q = 3 by omega, hs]; rfl)
        · refine j_ldc2 29 dX9_sumOfRegisters_26 rfl k31 ?_
          refine j_lload_n 30 2 dX9_sumOfRegisters_29 rfl rfl ?_
          refine j_lmul 31 dX9_sumOfRegisters_30 rfl ?_
          refine j_aload_n 32 3 dX9_sumOfRegisters_31 rfl rfl ?_
          refine j_iload 34 1 dX9_sumOfRegisters_32 rfl rfl ?_
          refine j_iload 36 0 dX9_sumOfRegisters_34 rfl rfl ?_
          refine j_callV 39 (As := [.int (i32 ((i : Int))), .int (i32 ((q : Int)))]) (kc2 := 12 - 3 * i - (q + 1)) (ks2 := 72 - 18 * i - 6 * (q + 1)) dX9_sumOfRegisters_36 rfl mvX9_register lk_X9_317 hB.cx rfl ⟨Nat.le_of_ble_eq_true rfl, rfl⟩ rfl rfl (Nat.le_of_ble_eq_true rfl) ⟨Nat.le_of_ble_eq_true rfl, Nat.le_of_ble_eq_true rfl⟩ ⟨(show 1 + (12 - 3 * i - (q + 1)) ≤ (12 - 3 * i - q) by omega), (show 6 + (72 - 18 * i - 6 * (q + 1)) ≤ (72 - 18 * i - 6 * q) by omega)⟩ ((by have h := c_registerV (w := w) hB hK (i := i) (by omega) (q := (q : Int)) (by omega); rw [Int.toNat_natCast] at h; exact h)) x_d (k_d1 ?_)
          refine j_nb ?_
          refine j_i2l 40 dX9_sumOfRegisters_39 rfl (bm_r _) ?_
          refine j_ladd 41 dX9_sumOfRegisters_40 rfl ?_
          refine j_lstore_n 42 (L2 := [(3, .long (i64 (((31) * (s1)) + (bm (d (151 + 3 * i + q)))))), (6, .int (i32 ((q : Int)))), (5, .int (i32 ((i : Int)))), (0, .ref (B)), (1, .long (i64 (s0)))]) dX9_sumOfRegisters_41 rfl rfl (Nat.le_of_ble_eq_true rfl) rfl ?_
          refine j_iinc 45 1 (y := ((q + 1 : Nat) : Int)) (L2 := [(6, .int (i32 (((q + 1 : Nat) : Int)))), (3, .long (i64 (((31) * (s1)) + (bm (d (151 + 3 * i + q)))))), (5, .int (i32 ((i : Int)))), (0, .ref (B)), (1, .long (i64 (s0)))]) dX9_sumOfRegisters_42 rfl rfl (by omega) (Nat.le_of_ble_eq_true rfl) rfl ?_
          refine j_goto 20 dX9_sumOfRegisters_45 rfl ?_
          refine j_sub [0, 2, 1, 3, 4] rfl ?_
          refine j_widen (kc2 := 12 - 3 * i - (q + 1)) (ks2 := 72 - 18 * i - 6 * (q + 1)) (by omega) (by omega) ?_
          exact ih_20 (q + 1) _ (by omega) (by omega) (by rw [hs1]; rfl)

set_option maxRecDepth 20000 in
theorem c_sumM {w : Wd} {sh : Shp} {g : Mem} {B : Nat} {d : Nat → Int} (hB : CxS sh.1 B) (hK : KX g (B + 2) d) {s0 : Int} : CT w mX9_sumOfMarkers [.ref (B), .long (i64 (s0))] sh g (dQ (some (.long (i64 (hsR (fun i q => d (163 + 2 * i + q)) 2 (d 1).toNat s0)))) sh g) := by
  have hcnt : g (B + 2) 1 = d 1 := hK.1.2.1.2.1
  have hb1 := hK.2.1.1.2.1
  refine j_entry (by decide) rfl (Nat.le_of_ble_eq_true rfl) (fun h => by cases h) rfl ?_
  show J w mX9_sumOfMarkers 0 [(0, .ref (B)), (1, .long (i64 (s0)))] [] sh g 6 36 _
  refine j_lload_n 1 1 dX9_sumOfMarkers_0 rfl rfl ?_
  refine j_lstore_n 2 (L2 := [(3, .long (i64 (s0))), (0, .ref (B)), (1, .long (i64 (s0)))]) dX9_sumOfMarkers_1 rfl rfl (Nat.le_of_ble_eq_true rfl) rfl ?_
  refine j_iconst 3 dX9_sumOfMarkers_2 rfl ?_
  refine j_istore 5 (L2 := [(5, .int (i32 (0))), (3, .long (i64 (s0))), (0, .ref (B)), (1, .long (i64 (s0)))]) dX9_sumOfMarkers_3 rfl (Nat.le_of_ble_eq_true rfl) rfl ?_
  suffices lp_5 : ∀ (n_5 : Nat) (i : Nat) (s : Int), (d 1).toNat - i < n_5 → (i : Int) ≤ d 1 → s = hsR (fun i q => d (163 + 2 * i + q)) 2 i s0 → J w mX9_sumOfMarkers 5 [(5, .int (i32 ((i : Int)))), (3, .long (i64 (s))), (0, .ref (B)), (1, .long (i64 (s0)))] [] sh g (6 - 2 * i) (36 - 12 * i) (dQ (some (.long (i64 (hsR (fun i q => d (163 + 2 * i + q)) 2 (d 1).toNat s0)))) sh g) by
    refine j_widen (kc2 := 6 - 2 * 0) (ks2 := 36 - 12 * 0) (by omega) (by omega) ?_
    exact lp_5 _ 0 s0 (Nat.lt_succ_self _) (by omega) rfl
  intro n_5
  induction n_5 with
  | zero => intro i s h_; exact absurd h_ (Nat.not_lt_zero _)
  | succ n_5 ih_5 =>
    intro i s hn_5 hi hs
    refine j_iload 7 0 dX9_sumOfMarkers_5 rfl rfl ?_
    refine j_aload_n 8 2 dX9_sumOfMarkers_7 rfl rfl ?_
    refine j_getr 11 dX9_sumOfMarkers_8 rfl fl_X9_23 hB.cx rfl (fun _ _ => rfl) rfl ?_
    refine j_geti 14 dX9_sumOfMarkers_11 rfl fl_X9_76 hB.now.ex rfl rfl (fun r_11 => ?_)
    refine j_top (y := d 1) (hcnt) ?_
    refine j_icmp_ge 17 54 dX9_sumOfMarkers_14 rfl rfl (r32 (by omega) (by omega)) ⟨by omega, by omega⟩ (fun c_14 => ?_) (fun c_14 => ?_)
    · refine j_lload_n 55 1 dX9_sumOfMarkers_54 rfl rfl ?_
      exact j_lret dX9_sumOfMarkers_55 rfl (q_l (by rw [hs, show i = (d 1).toNat by omega]))
    · refine j_iconst 18 dX9_sumOfMarkers_17 rfl ?_
      refine j_istore 20 (L2 := [(6, .int (i32 (0))), (5, .int (i32 ((i : Int)))), (3, .long (i64 (s))), (0, .ref (B)), (1, .long (i64 (s0)))]) dX9_sumOfMarkers_18 rfl (Nat.le_of_ble_eq_true rfl) rfl ?_
      suffices lp_20 : ∀ (n_20 : Nat) (q : Nat) (s1 : Int), 2 - q < n_20 → q ≤ 2 → s1 = hsF ((fun i q => d (163 + 2 * i + q)) i) q s → J w mX9_sumOfMarkers 20 [(6, .int (i32 ((q : Int)))), (5, .int (i32 ((i : Int)))), (3, .long (i64 (s1))), (0, .ref (B)), (1, .long (i64 (s0)))] [] sh g (6 - 2 * i - q) (36 - 12 * i - 6 * q) (dQ (some (.long (i64 (hsR (fun i q => d (163 + 2 * i + q)) 2 (d 1).toNat s0)))) sh g) by
        refine j_widen (kc2 := 6 - 2 * i - 0) (ks2 := 36 - 12 * i - 6 * 0) (by omega) (by omega) ?_
        exact lp_20 _ 0 s (Nat.lt_succ_self _) (by omega) rfl
      intro n_20
      induction n_20 with
      | zero => intro q s1 h_; exact absurd h_ (Nat.not_lt_zero _)
      | succ n_20 ih_20 =>
        intro q s1 hn_20 hq hs1
        refine j_iload 22 0 dX9_sumOfMarkers_20 rfl rfl ?_
        refine j_iconst 23 dX9_sumOfMarkers_22 rfl ?_
        refine j_icmp_gt 26 48 dX9_sumOfMarkers_23 rfl rfl (r32 (by omega) (by omega)) (r32 (by decide) (by decide)) (fun c_23 => ?_) (fun c_23 => ?_)
        · refine j_iinc 51 1 (y := ((i + 1 : Nat) : Int)) (L2 := [(5, .int (i32 (((i + 1 : Nat) : Int)))), (6, .int (i32 ((q : Int)))), (3, .long (i64 (s1))), (0, .ref (B)), (1, .long (i64 (s0)))]) dX9_sumOfMarkers_48 rfl rfl (by omega) (Nat.le_of_ble_eq_true rfl) rfl ?_
          refine j_goto 5 dX9_sumOfMarkers_51 rfl ?_
          refine j_sub [0, 2, 3, 4] rfl ?_
          refine j_widen (kc2 := 6 - 2 * (i + 1)) (ks2 := 36 - 12 * (i + 1)) (by omega) (by omega) ?_
          exact ih_5 (i + 1) s1 (by omega) (by omega) (by rw [hs1, show q = 2 by omega, hs]; rfl)
        · refine j_ldc2 29 dX9_sumOfMarkers_26 rfl k31 ?_
          refine j_lload_n 30 2 dX9_sumOfMarkers_29 rfl rfl ?_
          refine j_lmul 31 dX9_sumOfMarkers_30 rfl ?_
          refine j_aload_n 32 3 dX9_sumOfMarkers_31 rfl rfl ?_
          refine j_iload 34 1 dX9_sumOfMarkers_32 rfl rfl ?_
          refine j_iload 36 0 dX9_sumOfMarkers_34 rfl rfl ?_
          refine j_callV 39 (As := [.int (i32 ((i : Int))), .int (i32 ((q : Int)))]) (kc2 := 6 - 2 * i - (q + 1)) (ks2 := 36 - 12 * i - 6 * (q + 1)) dX9_sumOfMarkers_36 rfl mvX9_marker lk_X9_320 hB.cx rfl ⟨Nat.le_of_ble_eq_true rfl, rfl⟩ rfl rfl (Nat.le_of_ble_eq_true rfl) ⟨Nat.le_of_ble_eq_true rfl, Nat.le_of_ble_eq_true rfl⟩ ⟨(show 1 + (6 - 2 * i - (q + 1)) ≤ (6 - 2 * i - q) by omega), (show 6 + (36 - 12 * i - 6 * (q + 1)) ≤ (36 - 12 * i - 6 * q) by omega)⟩ ((by have h := c_markerV (w := w) hB hK (i := i) (by omega) (q := (q : Int)) (by omega); rw [Int.toNat_natCast] at h; exact h)) x_d (k_d1 ?_)
          refine j_nb ?_
          refine j_i2l 40 dX9_sumOfMarkers_39 rfl (bm_r _) ?_
          refine j_ladd 41 dX9_sumOfMarkers_40 rfl ?_
          refine j_lstore_n 42 (L2 := [(3, .long (i64 (((31) * (s1)) + (bm (d (163 + 2 * i + q)))))), (6, .int (i32 ((q : Int)))), (5, .int (i32 ((i : Int)))), (0, .ref (B)), (1, .long (i64 (s0)))]) dX9_sumOfMarkers_41 rfl rfl (Nat.le_of_ble_eq_true rfl) rfl ?_
          refine j_iinc 45 1 (y := ((q + 1 : Nat) : Int)) (L2 := [(6, .int (i32 (((q + 1 : Nat) : Int)))), (3, .long (i64 (((31) * (s1)) + (bm (d (163 + 2 * i + q)))))), (5, .int (i32 ((i : Int)))), (0, .ref (B)), (1, .long (i64 (s0)))]) dX9_sumOfMarkers_42 rfl rfl (by omega) (Nat.le_of_ble_eq_true rfl) rfl ?_
          refine j_goto 20 dX9_sumOfMarkers_45 rfl ?_
          refine j_sub [0, 2, 1, 3, 4] rfl ?_
          refine j_widen (kc2 := 6 - 2 * i - (q + 1)) (ks2 := 36 - 12 * i - 6 * (q + 1)) (by omega) (by omega) ?_
          exact ih_20 (q + 1) _ (by omega) (by omega) (by rw [hs1]; rfl)

set_option maxRecDepth 20000 in
theorem c_sumC {w : Wd} {sh : Shp} {g : Mem} {B : Nat} {d : Nat → Int} (hB : CxS sh.1 B) (hK : KX g (B + 2) d) {s0 : Int} : CT w mX9_sumOfCalls [.ref (B), .long (i64 (s0))] sh g (dQ (some (.long (i64 (hsR (fun i q => d (169 + 14 * i + q)) 11 (d 5).toNat s0)))) sh g) := by
  have hcnt : g (B + 2) 5 = d 5 := hK.1.2.1.2.2.2.2.2.1
  have hb5 := hK.2.1.1.2.2.2.2.2.1
  refine j_entry (by decide) rfl (Nat.le_of_ble_eq_true rfl) (fun h => by cases h) rfl ?_
  show J w mX9_sumOfCalls 0 [(0, .ref (B)), (1, .long (i64 (s0)))] [] sh g 440 2640 _
  refine j_lload_n 1 1 dX9_sumOfCalls_0 rfl rfl ?_
  refine j_lstore_n 2 (L2 := [(3, .long (i64 (s0))), (0, .ref (B)), (1, .long (i64 (s0)))]) dX9_sumOfCalls_1 rfl rfl (Nat.le_of_ble_eq_true rfl) rfl ?_
  refine j_iconst 3 dX9_sumOfCalls_2 rfl ?_
  refine j_istore 5 (L2 := [(5, .int (i32 (0))), (3, .long (i64 (s0))), (0, .ref (B)), (1, .long (i64 (s0)))]) dX9_sumOfCalls_3 rfl (Nat.le_of_ble_eq_true rfl) rfl ?_
  suffices lp_5 : ∀ (n_5 : Nat) (i : Nat) (s : Int), (d 5).toNat - i < n_5 → (i : Int) ≤ d 5 → s = hsR (fun i q => d (169 + 14 * i + q)) 11 i s0 → J w mX9_sumOfCalls 5 [(5, .int (i32 ((i : Int)))), (3, .long (i64 (s))), (0, .ref (B)), (1, .long (i64 (s0)))] [] sh g (440 - 11 * i) (2640 - 66 * i) (dQ (some (.long (i64 (hsR (fun i q => d (169 + 14 * i + q)) 11 (d 5).toNat s0)))) sh g) by
    refine j_widen (kc2 := 440 - 11 * 0) (ks2 := 2640 - 66 * 0) (by omega) (by omega) ?_
    exact lp_5 _ 0 s0 (Nat.lt_succ_self _) (by omega) rfl
  intro n_5
  induction n_5 with
  | zero => intro i s h_; exact absurd h_ (Nat.not_lt_zero _)
  | succ n_5 ih_5 =>
    intro i s hn_5 hi hs
    refine j_iload 7 0 dX9_sumOfCalls_5 rfl rfl ?_
    refine j_aload_n 8 2 dX9_sumOfCalls_7 rfl rfl ?_
    refine j_getr 11 dX9_sumOfCalls_8 rfl fl_X9_23 hB.cx rfl (fun _ _ => rfl) rfl ?_
    refine j_geti 14 dX9_sumOfCalls_11 rfl fl_X9_66 hB.now.ex rfl rfl (fun r_11 => ?_)
    refine j_top (y := d 5) (hcnt) ?_
    refine j_icmp_ge 17 55 dX9_sumOfCalls_14 rfl rfl (r32 (by omega) (by omega)) ⟨by omega, by omega⟩ (fun c_14 => ?_) (fun c_14 => ?_)
    · refine j_lload_n 56 1 dX9_sumOfCalls_55 rfl rfl ?_
      exact j_lret dX9_sumOfCalls_56 rfl (q_l (by rw [hs, show i = (d 5).toNat by omega]))
    · refine j_iconst 18 dX9_sumOfCalls_17 rfl ?_
      refine j_istore 20 (L2 := [(6, .int (i32 (0))), (5, .int (i32 ((i : Int)))), (3, .long (i64 (s))), (0, .ref (B)), (1, .long (i64 (s0)))]) dX9_sumOfCalls_18 rfl (Nat.le_of_ble_eq_true rfl) rfl ?_
      suffices lp_20 : ∀ (n_20 : Nat) (q : Nat) (s1 : Int), 11 - q < n_20 → q ≤ 11 → s1 = hsF ((fun i q => d (169 + 14 * i + q)) i) q s → J w mX9_sumOfCalls 20 [(6, .int (i32 ((q : Int)))), (5, .int (i32 ((i : Int)))), (3, .long (i64 (s1))), (0, .ref (B)), (1, .long (i64 (s0)))] [] sh g (440 - 11 * i - q) (2640 - 66 * i - 6 * q) (dQ (some (.long (i64 (hsR (fun i q => d (169 + 14 * i + q)) 11 (d 5).toNat s0)))) sh g) by
        refine j_widen (kc2 := 440 - 11 * i - 0) (ks2 := 2640 - 66 * i - 6 * 0) (by omega) (by omega) ?_
        exact lp_20 _ 0 s (Nat.lt_succ_self _) (by omega) rfl
      intro n_20
      induction n_20 with
      | zero => intro q s1 h_; exact absurd h_ (Nat.not_lt_zero _)
      | succ n_20 ih_20 =>
        intro q s1 hn_20 hq hs1
        refine j_iload 22 0 dX9_sumOfCalls_20 rfl rfl ?_
        refine j_bipush 24 dX9_sumOfCalls_22 rfl (by decide) ?_
        refine j_icmp_gt 27 49 dX9_sumOfCalls_24 rfl rfl (r32 (by omega) (by omega)) (r32 (by decide) (by decide)) (fun c_24 => ?_) (fun c_24 => ?_)
        · refine j_iinc 52 1 (y := ((i + 1 : Nat) : Int)) (L2 := [(5, .int (i32 (((i + 1 : Nat) : Int)))), (6, .int (i32 ((q : Int)))), (3, .long (i64 (s1))), (0, .ref (B)), (1, .long (i64 (s0)))]) dX9_sumOfCalls_49 rfl rfl (by omega) (Nat.le_of_ble_eq_true rfl) rfl ?_
          refine j_goto 5 dX9_sumOfCalls_52 rfl ?_
          refine j_sub [0, 2, 3, 4] rfl ?_
          refine j_widen (kc2 := 440 - 11 * (i + 1)) (ks2 := 2640 - 66 * (i + 1)) (by omega) (by omega) ?_
          exact ih_5 (i + 1) s1 (by omega) (by omega) (by rw [hs1, show q = 11 by omega, hs]; rfl)
        · refine j_ldc2 30 dX9_sumOfCalls_27 rfl k31 ?_
          refine j_lload_n 31 2 dX9_sumOfCalls_30 rfl rfl ?_
          refine j_lmul 32 dX9_sumOfCalls_31 rfl ?_
          refine j_aload_n 33 3 dX9_sumOfCalls_32 rfl rfl ?_
          refine j_iload 35 1 dX9_sumOfCalls_33 rfl rfl ?_
          refine j_iload 37 0 dX9_sumOfCalls_35 rfl rfl ?_
          refine j_callV 40 (As := [.int (i32 ((i : Int))), .int (i32 ((q : Int)))]) (kc2 := 440 - 11 * i - (q + 1)) (ks2 := 2640 - 66 * i - 6 * (q + 1)) dX9_sumOfCalls_37 rfl mvX9_call lk_X9_323 hB.cx rfl ⟨Nat.le_of_ble_eq_true rfl, rfl⟩ rfl rfl (Nat.le_of_ble_eq_true rfl) ⟨Nat.le_of_ble_eq_true rfl, Nat.le_of_ble_eq_true rfl⟩ ⟨(show 1 + (440 - 11 * i - (q + 1)) ≤ (440 - 11 * i - q) by omega), (show 6 + (2640 - 66 * i - 6 * (q + 1)) ≤ (2640 - 66 * i - 6 * q) by omega)⟩ ((by have h := c_callV (w := w) hB hK (i := i) (by omega) (q := (q : Int)) (by omega); rw [Int.toNat_natCast] at h; exact h)) x_d (k_d1 ?_)
          refine j_nb ?_
          refine j_i2l 41 dX9_sumOfCalls_40 rfl (bm_r _) ?_
          refine j_ladd 42 dX9_sumOfCalls_41 rfl ?_
          refine j_lstore_n 43 (L2 := [(3, .long (i64 (((31) * (s1)) + (bm (d (169 + 14 * i + q)))))), (6, .int (i32 ((q : Int)))), (5, .int (i32 ((i : Int)))), (0, .ref (B)), (1, .long (i64 (s0)))]) dX9_sumOfCalls_42 rfl rfl (Nat.le_of_ble_eq_true rfl) rfl ?_
          refine j_iinc 46 1 (y := ((q + 1 : Nat) : Int)) (L2 := [(6, .int (i32 (((q + 1 : Nat) : Int)))), (3, .long (i64 (((31) * (s1)) + (bm (d (169 + 14 * i + q)))))), (5, .int (i32 ((i : Int)))), (0, .ref (B)), (1, .long (i64 (s0)))]) dX9_sumOfCalls_43 rfl rfl (by omega) (Nat.le_of_ble_eq_true rfl) rfl ?_
          refine j_goto 20 dX9_sumOfCalls_46 rfl ?_
          refine j_sub [0, 2, 1, 3, 4] rfl ?_
          refine j_widen (kc2 := 440 - 11 * i - (q + 1)) (ks2 := 2640 - 66 * i - 6 * (q + 1)) (by omega) (by omega) ?_
          exact ih_20 (q + 1) _ (by omega) (by omega) (by rw [hs1]; rfl)

def s_sum (d : Nat → Int) : Int := (hsR (fun i q => d (169 + 14 * i + q)) 11 (d 5).toNat (hsR (fun i q => d (163 + 2 * i + q)) 2 (d 1).toNat (hsR (fun i q => d (151 + 3 * i + q)) 3 (d 0).toNat (hsR (fun i q => s_grV d i q) 7 (d 3).toNat (hsR (fun i q => s_lineV d (i : Int) q) 5 (d 2).toNat (hsF (s_told d) 25 0))))))

set_option maxRecDepth 20000 in
theorem c_checksum {w : Wd} {sh : Shp} {g : Mem} {B : Nat} {d : Nat → Int} (hB : CxS sh.1 B) (hK : KX g (B + 2) d)  : CT w mX9_checksum [.ref (B)] sh g (dQ (some (.long (i64 (s_sum d)))) sh g) := by
  refine j_entry (by decide) rfl (Nat.le_of_ble_eq_true rfl) (fun h => by cases h) rfl ?_
  show J w mX9_checksum 0 [(0, .ref (B))] [] sh g 578 3468 _
  refine j_lconst 1 dX9_checksum_0 rfl (x := 0) rfl ?_
  refine j_lstore_n 2 (L2 := [(1, .long (i64 (0))), (0, .ref (B))]) dX9_checksum_1 rfl rfl (Nat.le_of_ble_eq_true rfl) rfl ?_
  refine j_iconst 3 dX9_checksum_2 rfl ?_
  refine j_istore_n 4 (L2 := [(3, .int (i32 (0))), (1, .long (i64 (0))), (0, .ref (B))]) dX9_checksum_3 rfl rfl (Nat.le_of_ble_eq_true rfl) rfl ?_
  suffices lp_4 : ∀ (n_4 : Nat) (q : Nat) (s : Int), 25 - q < n_4 → q ≤ 25 → s = hsF (s_told d) q 0 → J w mX9_checksum 4 [(3, .int (i32 ((q : Int)))), (1, .long (i64 (s))), (0, .ref (B))] [] sh g (578 - q) (3468 - 6 * q) (dQ (some (.long (i64 (s_sum d)))) sh g) by
    refine j_widen (kc2 := 578 - 0) (ks2 := 3468 - 6 * 0) (by omega) (by omega) ?_
    exact lp_4 _ 0 0 (Nat.lt_succ_self _) (by omega) rfl
  intro n_4
  induction n_4 with
  | zero => intro q s h_; exact absurd h_ (Nat.not_lt_zero _)
  | succ n_4 ih_4 =>
    intro q s hn_4 hq hs
    refine j_iload_n 5 0 dX9_checksum_4 rfl rfl ?_
    refine j_bipush 7 dX9_checksum_5 rfl (by decide) ?_
    refine j_icmp_gt 10 29 dX9_checksum_7 rfl rfl (r32 (by omega) (by omega)) (r32 (by decide) (by decide)) (fun c_7 => ?_) (fun c_7 => ?_)
    · refine j_widen (kc2 := 553) (ks2 := 3318) (by omega) (by omega) ?_
      have hq25 : q = 25 := by omega
      refine j_aload_n 30 2 dX9_checksum_29 rfl rfl ?_
      refine j_lload_n 31 1 dX9_checksum_30 rfl rfl ?_
      refine j_callV 34 (As := [.long (i64 (s))]) (kc2 := 493) (ks2 := 2958) dX9_checksum_31 rfl mvX9_sumOfLines lk_X9_294 hB.cx rfl ⟨Nat.le_of_ble_eq_true rfl, rfl⟩ rfl rfl (Nat.le_of_ble_eq_true rfl) ⟨Nat.le_of_ble_eq_true rfl, Nat.le_of_ble_eq_true rfl⟩ ⟨Nat.le_of_ble_eq_true rfl, Nat.le_of_ble_eq_true rfl⟩ (c_sumL hB hK) x_d (k_d1 ?_)
      refine j_lstore_n 35 (L2 := [(1, .long (i64 (hsR (fun i q => s_lineV d (i : Int) q) 5 (d 2).toNat s))), (3, .int (i32 ((q : Int)))), (0, .ref (B))]) dX9_checksum_34 rfl rfl (Nat.le_of_ble_eq_true rfl) rfl ?_
      refine j_aload_n 36 2 dX9_checksum_35 rfl rfl ?_
      refine j_lload_n 37 0 dX9_checksum_36 rfl rfl ?_
      refine j_callV 40 (As := [.long (i64 (hsR (fun i q => s_lineV d (i : Int) q) 5 (d 2).toNat s))]) (kc2 := 458) (ks2 := 2748) dX9_checksum_37 rfl mvX9_sumOfGroups lk_X9_298 hB.cx rfl ⟨Nat.le_of_ble_eq_true rfl, rfl⟩ rfl rfl (Nat.le_of_ble_eq_true rfl) ⟨Nat.le_of_ble_eq_true rfl, Nat.le_of_ble_eq_true rfl⟩ ⟨Nat.le_of_ble_eq_true rfl, Nat.le_of_ble_eq_true rfl⟩ (c_sumG hB hK) x_d (k_d1 ?_)
      refine j_lstore_n 41 (L2 := [(1, .long (i64 (hsR (fun i q => s_grV d i q) 7 (d 3).toNat (hsR (fun i q => s_lineV d (i : Int) q) 5 (d 2).toNat s)))), (3, .int (i32 ((q : Int)))), (0, .ref (B))]) dX9_checksum_40 rfl rfl (Nat.le_of_ble_eq_true rfl) rfl ?_
      refine j_aload_n 42 2 dX9_checksum_41 rfl rfl ?_
      refine j_lload_n 43 0 dX9_checksum_42 rfl rfl ?_
      refine j_callV 46 (As := [.long (i64 (hsR (fun i q => s_grV d i q) 7 (d 3).toNat (hsR (fun i q => s_lineV d (i : Int) q) 5 (d 2).toNat s)))]) (kc2 := 446) (ks2 := 2676) dX9_checksum_43 rfl mvX9_sumOfRegisters lk_X9_301 hB.cx rfl ⟨Nat.le_of_ble_eq_true rfl, rfl⟩ rfl rfl (Nat.le_of_ble_eq_true rfl) ⟨Nat.le_of_ble_eq_true rfl, Nat.le_of_ble_eq_true rfl⟩ ⟨Nat.le_of_ble_eq_true rfl, Nat.le_of_ble_eq_true rfl⟩ (c_sumR hB hK) x_d (k_d1 ?_)
      refine j_lstore_n 47 (L2 := [(1, .long (i64 ((hsR (fun i q => d (151 + 3 * i + q)) 3 (d 0).toNat (hsR (fun i q => s_grV d i q) 7 (d 3).toNat (hsR (fun i q => s_lineV d (i : Int) q) 5 (d 2).toNat s)))))), (3, .int (i32 ((q : Int)))), (0, .ref (B))]) dX9_checksum_46 rfl rfl (Nat.le_of_ble_eq_true rfl) rfl ?_
      refine j_aload_n 48 2 dX9_checksum_47 rfl rfl ?_
      refine j_lload_n 49 0 dX9_checksum_48 rfl rfl ?_
      refine j_callV 52 (As := [.long (i64 ((hsR (fun i q => d (151 + 3 * i + q)) 3 (d 0).toNat (hsR (fun i q => s_grV d i q) 7 (d 3).toNat (hsR (fun i q => s_lineV d (i : Int) q) 5 (d 2).toNat s)))))]) (kc2 := 440) (ks2 := 2640) dX9_checksum_49 rfl mvX9_sumOfMarkers lk_X9_304 hB.cx rfl ⟨Nat.le_of_ble_eq_true rfl, rfl⟩ rfl rfl (Nat.le_of_ble_eq_true rfl) ⟨Nat.le_of_ble_eq_true rfl, Nat.le_of_ble_eq_true rfl⟩ ⟨Nat.le_of_ble_eq_true rfl, Nat.le_of_ble_eq_true rfl⟩ (c_sumM hB hK) x_d (k_d1 ?_)
      refine j_lstore_n 53 (L2 := [(1, .long (i64 ((hsR (fun i q => d (163 + 2 * i + q)) 2 (d 1).toNat (hsR (fun i q => d (151 + 3 * i + q)) 3 (d 0).toNat (hsR (fun i q => s_grV d i q) 7 (d 3).toNat (hsR (fun i q => s_lineV d (i : Int) q) 5 (d 2).toNat s))))))), (3, .int (i32 ((q : Int)))), (0, .ref (B))]) dX9_checksum_52 rfl rfl (Nat.le_of_ble_eq_true rfl) rfl ?_
      refine j_aload_n 54 2 dX9_checksum_53 rfl rfl ?_
      refine j_lload_n 55 0 dX9_checksum_54 rfl rfl ?_
      refine j_callV 58 (As := [.long (i64 ((hsR (fun i q => d (163 + 2 * i + q)) 2 (d 1).toNat (hsR (fun i q => d (151 + 3 * i + q)) 3 (d 0).toNat (hsR (fun i q => s_grV d i q) 7 (d 3).toNat (hsR (fun i q => s_lineV d (i : Int) q) 5 (d 2).toNat s))))))]) (kc2 := 0) (ks2 := 0) dX9_checksum_55 rfl mvX9_sumOfCalls lk_X9_307 hB.cx rfl ⟨Nat.le_of_ble_eq_true rfl, rfl⟩ rfl rfl (Nat.le_of_ble_eq_true rfl) ⟨Nat.le_of_ble_eq_true rfl, Nat.le_of_ble_eq_true rfl⟩ ⟨Nat.le_of_ble_eq_true rfl, Nat.le_of_ble_eq_true rfl⟩ (c_sumC hB hK) x_d (k_d1 ?_)
      exact j_lret dX9_checksum_58 rfl (q_l (by rw [hs, hq25]; rfl))
    · refine j_ldc2 13 dX9_checksum_10 rfl k31 ?_
      refine j_lload_n 14 1 dX9_checksum_13 rfl rfl ?_
      refine j_lmul 15 dX9_checksum_14 rfl ?_
      refine j_aload_n 16 2 dX9_checksum_15 rfl rfl ?_
      refine j_iload_n 17 0 dX9_checksum_16 rfl rfl ?_
      refine j_callV 20 (As := [.int (i32 ((q : Int)))]) (kc2 := 578 - (q + 1)) (ks2 := 3468 - 6 * (q + 1)) dX9_checksum_17 rfl mvX9_state lk_X9_292 hB.cx rfl ⟨Nat.le_of_ble_eq_true rfl, rfl⟩ rfl rfl (Nat.le_of_ble_eq_true rfl) ⟨Nat.le_of_ble_eq_true rfl, Nat.le_of_ble_eq_true rfl⟩ ⟨(show 1 + (578 - (q + 1)) ≤ (578 - q) by omega), (show 6 + (3468 - 6 * (q + 1)) ≤ (3468 - 6 * q) by omega)⟩ ((by have h := c_state (w := w) hB hK (q := (q : Int)) (by omega); rw [Int.toNat_natCast] at h; exact h)) x_d (k_d1 ?_)
      refine j_nb ?_
      refine j_i2l 21 dX9_checksum_20 rfl (bm_r _) ?_
      refine j_ladd 22 dX9_checksum_21 rfl ?_
      refine j_lstore_n 23 (L2 := [(1, .long (i64 (((31) * (s)) + (bm (s_told d q))))), (3, .int (i32 ((q : Int)))), (0, .ref (B))]) dX9_checksum_22 rfl rfl (Nat.le_of_ble_eq_true rfl) rfl ?_
      refine j_iinc 26 1 (y := ((q + 1 : Nat) : Int)) (L2 := [(3, .int (i32 (((q + 1 : Nat) : Int)))), (1, .long (i64 (((31) * (s)) + (bm (s_told d q))))), (0, .ref (B))]) dX9_checksum_23 rfl rfl (by omega) (Nat.le_of_ble_eq_true rfl) rfl ?_
      refine j_goto 4 dX9_checksum_26 rfl ?_
      refine j_widen (kc2 := 578 - (q + 1)) (ks2 := 3468 - 6 * (q + 1)) (by omega) (by omega) ?_
      exact ih_4 (q + 1) _ (by omega) (by omega) (by rw [hs]; rfl)
