/-! the law's draws: both sides of each -/
theorem lsMd {B : Nat} {sh : Shp} (h : LSh B sh) : MdS sh.1 (B + 831) := h.2.2.2.1
section OPQ
variable {w : Wd} {B n : Nat} {sh : Shp} {g : Mem} {d : Nat → Int} {hist : Nat → (Nat → Int)} {c : Nat}
theorem lm_d (h : LM B n g d hist c) : g (B + 831 + 2) = d := h.2.2.2.1
theorem lm_t (h : LM B n g d hist c) : ExI g (B + 77) := h.2.2.2.2.1
theorem lm_e (h : LM B n g d hist c) : ExI g (B + 754 + 1) := h.2.2.2.2.2.1
theorem lm_6 (h : LM B n g d hist c) : 0 ≤ d 6 ∧ d 6 ≤ 300 * (n : Int) := h.2.2.2.2.2.2.1
theorem lm_h (h : LM B n g d hist c) : ∀ j, j < c → 0 ≤ hist j 6 ∧ hist j 6 ≤ 300 * (n : Int) := h.2.2.2.2.2.2.2.1
theorem lm_b (h : LM B n g d hist c) : g B 1 = g (B + 831) 2 ∧ 0 ≤ g B 1 ∧ g B 1 ≤ 700 := h.2.2.2.2.2.2.2.2.1
theorem lm_y (h : LM B n g d hist c) : ∀ k : Nat, (k : Int) < g B 1 → g (B + 1) k = sb (g (B + 831 + 1) k) ∧ 0 ≤ g (B + 831 + 1) k ∧ g (B + 831 + 1) k ≤ 255 := h.2.2.2.2.2.2.2.2.2.1
theorem lm_7 (h : LM B n g d hist c) : g B 2 = g (B + 831) 7 := h.2.2.2.2.2.2.2.2.2.2
theorem ct_up {Y : MD} {args : List Value} {a : Nat} {Q : Post} (h : g a = d) (hc : CT w Y args sh (upR g a d) Q) : CT w Y args sh g Q := by rw [upR_id2 h] at hc; exact hc
theorem ks1 {E : String} {k : Int} : ∀ k', (E, k') ∈ [(E, k)] → k' = k := fun k' h => by
  simp only [List.mem_cons, Prod.mk.injEq, List.not_mem_nil, or_false] at h
  exact h.2
theorem ks2a {E F : String} {k j : Int} (hn : E ≠ F) : ∀ k', (E, k') ∈ [(E, k), (F, j)] → k' = k := fun k' h => by
  simp only [List.mem_cons, Prod.mk.injEq, List.not_mem_nil, or_false] at h
  rcases h with ⟨-, h⟩ | ⟨h, -⟩
  · exact h
  · exact absurd h hn
theorem ks2b {E F : String} {k j : Int} (hn : E ≠ F) : ∀ k', (F, k') ∈ [(E, k), (F, j)] → k' = j := fun k' h => by
  simp only [List.mem_cons, Prod.mk.injEq, List.not_mem_nil, or_false] at h
  rcases h with ⟨h, -⟩ | ⟨-, h⟩
  · exact absurd h.symm hn
  · exact h
theorem ks3a {E F G : String} {k j i : Int} (hn : E ≠ F) (hm : E ≠ G) : ∀ k', (E, k') ∈ [(E, k), (F, j), (G, i)] → k' = k := fun k' h => by
  simp only [List.mem_cons, Prod.mk.injEq, List.not_mem_nil, or_false] at h
  rcases h with ⟨-, h⟩ | ⟨h, -⟩ | ⟨h, -⟩
  · exact h
  · exact absurd h hn
  · exact absurd h hm
theorem ks3b {E F G : String} {k j i : Int} (hn : E ≠ F) (hm : F ≠ G) : ∀ k', (F, k') ∈ [(E, k), (F, j), (G, i)] → k' = j := fun k' h => by
  simp only [List.mem_cons, Prod.mk.injEq, List.not_mem_nil, or_false] at h
  rcases h with ⟨h, -⟩ | ⟨-, h⟩ | ⟨h, -⟩
  · exact absurd h.symm hn
  · exact h
  · exact absurd h hm
theorem ks3c {E F G : String} {k j i : Int} (hn : E ≠ G) (hm : F ≠ G) : ∀ k', (G, k') ∈ [(E, k), (F, j), (G, i)] → k' = i := fun k' h => by
  simp only [List.mem_cons, Prod.mk.injEq, List.not_mem_nil, or_false] at h
  rcases h with ⟨h, -⟩ | ⟨h, -⟩ | ⟨-, h⟩
  · exact absurd h.symm hn
  · exact absurd h.symm hm
  · exact h
theorem nBI : xB ≠ xI := by decide
theorem nBN : xB ≠ xN := by decide
theorem nBS : xB ≠ xS := by decide
theorem nIS : xI ≠ xS := by decide
theorem q_oB {E : String} : ∀ (r : Res) (sh1 : Shp) (g1 : Mem), (r = .inr E ∧ sh1 = (sh.1, none) ∧ (∀ a, a < B + 77 ∨ B + 152 ≤ a → g1 a = g a) ∧ ExI g1 (B + 77)) → r = .inr E ∧ sh1.1 = sh.1 ∧ Ask B g g1 := fun r sh1 g1 h => by
  obtain ⟨h1, rfl, h2, h3⟩ := h
  exact ⟨h1, rfl, Ask.tri h2 h3⟩
theorem lm_40 (h : LM B n g d hist c) : d 5 ≤ 40 := by
  have hb := h.1.2.1.1
  have := hb.2.2.2.2.2.1
  omega
/-- bytes that are digits are the same on both sides -/
theorem bd_sb {f h : Nat → Int} : ∀ {n : Nat}, (∀ k, k < n → f k = sb (h k) ∧ 0 ≤ h k ∧ h k ≤ 255) → bdB f n = bdB h n ∧ (bdB f n = true → bv f n = bv h n)
  | 0, _ => ⟨rfl, fun _ => rfl⟩
  | n + 1, q => by
    obtain ⟨a, b⟩ := bd_sb (n := n) (fun k hk => q k (by omega))
    obtain ⟨h1, h2, h3⟩ := q n (by omega)
    unfold sb at h1
    have e1 : decide (48 ≤ f n ∧ f n ≤ 57) = decide (48 ≤ h n ∧ h n ≤ 57) := by
      refine decide_eq_decide.mpr ?_
      split at h1 <;> omega
    refine ⟨?_, fun h9 => ?_⟩
    · show (bdB f n && decide (48 ≤ f n ∧ f n ≤ 57)) = (bdB h n && decide (48 ≤ h n ∧ h n ≤ 57))
      rw [a, e1]
    · have h8 : (bdB f n && decide (48 ≤ f n ∧ f n ≤ 57)) = true := h9
      rw [Bool.and_eq_true, decide_eq_true_iff] at h8
      show 10 * bv f n + f n - 48 = 10 * bv h n + h n - 48
      rw [b h8.1]
      split at h1 <;> omega
/-- the digits at the buffer's head -/
theorem lm_bd (h : LM B n g d hist c) {k : Nat} (hk : (k : Int) ≤ g B 1) : bdB (g (B + 1)) k = bdB (g (B + 831 + 1)) k ∧ (bdB (g (B + 1)) k = true → bv (g (B + 1)) k = bv (g (B + 831 + 1)) k) :=
  bd_sb (fun j hj => lm_y h j (by omega))

theorem o_state (hS : LSh B sh) (hL : LM B n g d hist c) {q : Int} (hq : R32 q) : OPH w mL_state mX10_state [.int (i32 q)] B (n + 1) sh g := by
  have hI := hL.1.2.1
  have hK := hL.1
  by_cases hb : 0 ≤ q ∧ q ≤ 24
  · obtain ⟨k, rfl⟩ : ∃ k : Nat, q = (k : Int) := ⟨q.toNat, by omega⟩
    exact op_good hS hL (h_state hS.1.1 rfl (c_state hS.1 hK hb) (hv_of (B := B) q_dQ) (ho_of hS q_dQ) (hE_of (B := B) q_dQ)) q_dQ (fun sh1 g1 hS1 hL1 _ => ⟨_, _, ct_up (lm_d hL1) (r_state (lsMd hS1) hI (q := k) (by omega)), rfl, ar_0 (lm_d hL1)⟩)
  · exact op_thr (k := 1) (by decide) hS hL (h_state hS.1.1 rfl (c_stateI hS.1 hq (by omega)) (hv_ofE (B := B) q_tQ) (ho_ofE hS q_tQ) (hE_ofE (B := B) (by simp) q_tQ)) ks1 q_tQ (fun sh1 g1 hS1 hL1 => ⟨_, _, ct_up (lm_d hL1) (r_stateI (lsMd hS1) hI hq (by omega)), ar_k (lm_d hL1)⟩)

theorem o_line (hS : LSh B sh) (hL : LM B n g d hist c) {x q : Int} (hx : R32 x) (hq : R32 q) : OPH w mL_line mX10_line [.int (i32 x), .int (i32 q)] B (n + 1) sh g := by
  have hI := hL.1.2.1
  have hK := hL.1
  by_cases h0 : 0 ≤ x ∧ x < d 2
  · by_cases hb : 0 ≤ q ∧ q ≤ 4
    · obtain ⟨k, rfl⟩ : ∃ k : Nat, q = (k : Int) := ⟨q.toNat, by omega⟩
      exact op_good hS hL (h_line hS.1.1 rfl (c_lineV hS.1 hK hx h0 hb) (hv_of (B := B) q_dQ) (ho_of hS q_dQ) (hE_of (B := B) q_dQ)) q_dQ (fun sh1 g1 hS1 hL1 _ => ⟨_, _, ct_up (lm_d hL1) (r_line (lsMd hS1) hI hx h0 (q := k) (by omega)), rfl, ar_0 (lm_d hL1)⟩)
    · exact op_thr (k := 2) (by decide) hS hL (h_line hS.1.1 rfl (c_lineI hS.1 hK hx hq h0 (by omega)) (hv_ofE (B := B) q_tQ) (ho_ofE hS q_tQ) (hE_ofE (B := B) (by simp) q_tQ)) (ks2b nBI) q_tQ (fun sh1 g1 hS1 hL1 => ⟨_, _, ct_up (lm_d hL1) (r_lineI (lsMd hS1) hI hx hq h0 (by omega)), ar_k (lm_d hL1)⟩)
  · exact op_thr (k := 1) (by decide) hS hL (h_line hS.1.1 rfl (c_lineB hS.1 hK hx hq h0) (hv_ofE (B := B) q_tQ) (ho_ofE hS q_tQ) (hE_ofE (B := B) (by simp) q_tQ)) (ks2a nBI) q_tQ (fun sh1 g1 hS1 hL1 => ⟨_, _, ct_up (lm_d hL1) (r_lineB (lsMd hS1) hI hx hq h0), ar_k (lm_d hL1)⟩)

theorem o_group (hS : LSh B sh) (hL : LM B n g d hist c) {x q : Int} (hx : R32 x) (hq : R32 q) : OPH w mL_group mX10_group [.int (i32 x), .int (i32 q)] B (n + 1) sh g := by
  have hI := hL.1.2.1
  have hK := hL.1
  by_cases h0 : 0 ≤ x ∧ x < d 3
  · obtain ⟨i, rfl⟩ : ∃ i : Nat, x = (i : Int) := ⟨x.toNat, by omega⟩
    by_cases hb : 0 ≤ q ∧ q ≤ 6
    · obtain ⟨k, rfl⟩ : ∃ k : Nat, q = (k : Int) := ⟨q.toNat, by omega⟩
      exact op_good hS hL (h_group hS.1.1 rfl (c_groupV hS.1 hK (i := i) (by omega) hb) (hv_of (B := B) q_dQ) (ho_of hS q_dQ) (hE_of (B := B) q_dQ)) q_dQ (fun sh1 g1 hS1 hL1 _ => ⟨_, _, ct_up (lm_d hL1) (r_group (lsMd hS1) hI (i := i) (q := k) (by omega) (by omega)), rfl, ar_0 (lm_d hL1)⟩)
    · exact op_thr (k := 2) (by decide) hS hL (h_group hS.1.1 rfl (c_groupI hS.1 hK (i := i) (by omega) hq (by omega)) (hv_ofE (B := B) q_tQ) (ho_ofE hS q_tQ) (hE_ofE (B := B) (by simp) q_tQ)) (ks2b nBI) q_tQ (fun sh1 g1 hS1 hL1 => ⟨_, _, ct_up (lm_d hL1) (r_groupI (lsMd hS1) hI (i := i) (by omega) hq (by omega)), ar_k (lm_d hL1)⟩)
  · exact op_thr (k := 1) (by decide) hS hL (h_group hS.1.1 rfl (c_groupB hS.1 hK hx hq h0) (hv_ofE (B := B) q_tQ) (ho_ofE hS q_tQ) (hE_ofE (B := B) (by simp) q_tQ)) (ks2a nBI) q_tQ (fun sh1 g1 hS1 hL1 => ⟨_, _, ct_up (lm_d hL1) (r_groupB (lsMd hS1) hI hx hq h0), ar_k (lm_d hL1)⟩)

theorem o_register (hS : LSh B sh) (hL : LM B n g d hist c) {x q : Int} (hx : R32 x) (hq : R32 q) : OPH w mL_register mX10_register [.int (i32 x), .int (i32 q)] B (n + 1) sh g := by
  have hI := hL.1.2.1
  have hK := hL.1
  by_cases h0 : 0 ≤ x ∧ x < d 0
  · obtain ⟨i, rfl⟩ : ∃ i : Nat, x = (i : Int) := ⟨x.toNat, by omega⟩
    by_cases hb : 0 ≤ q ∧ q ≤ 2
    · obtain ⟨k, rfl⟩ : ∃ k : Nat, q = (k : Int) := ⟨q.toNat, by omega⟩
      exact op_good hS hL (h_register hS.1.1 rfl (c_registerV hS.1 hK (i := i) (by omega) hb) (hv_of (B := B) q_dQ) (ho_of hS q_dQ) (hE_of (B := B) q_dQ)) q_dQ (fun sh1 g1 hS1 hL1 _ => ⟨_, _, ct_up (lm_d hL1) (r_register (lsMd hS1) hI (i := i) (q := k) (by omega) (by omega)), rfl, ar_0 (lm_d hL1)⟩)
    · exact op_thr (k := 2) (by decide) hS hL (h_register hS.1.1 rfl (c_registerI hS.1 hK (i := i) (by omega) hq (by omega)) (hv_ofE (B := B) q_tQ) (ho_ofE hS q_tQ) (hE_ofE (B := B) (by simp) q_tQ)) (ks2b nBI) q_tQ (fun sh1 g1 hS1 hL1 => ⟨_, _, ct_up (lm_d hL1) (r_registerI (lsMd hS1) hI (i := i) (by omega) hq (by omega)), ar_k (lm_d hL1)⟩)
  · exact op_thr (k := 1) (by decide) hS hL (h_register hS.1.1 rfl (c_registerB hS.1 hK hx hq h0) (hv_ofE (B := B) q_tQ) (ho_ofE hS q_tQ) (hE_ofE (B := B) (by simp) q_tQ)) (ks2a nBI) q_tQ (fun sh1 g1 hS1 hL1 => ⟨_, _, ct_up (lm_d hL1) (r_registerB (lsMd hS1) hI hx hq h0), ar_k (lm_d hL1)⟩)

theorem o_marker (hS : LSh B sh) (hL : LM B n g d hist c) {x q : Int} (hx : R32 x) (hq : R32 q) : OPH w mL_marker mX10_marker [.int (i32 x), .int (i32 q)] B (n + 1) sh g := by
  have hI := hL.1.2.1
  have hK := hL.1
  by_cases h0 : 0 ≤ x ∧ x < d 1
  · obtain ⟨i, rfl⟩ : ∃ i : Nat, x = (i : Int) := ⟨x.toNat, by omega⟩
    by_cases hb : 0 ≤ q ∧ q ≤ 1
    · obtain ⟨k, rfl⟩ : ∃ k : Nat, q = (k : Int) := ⟨q.toNat, by omega⟩
      exact op_good hS hL (h_marker hS.1.1 rfl (c_markerV hS.1 hK (i := i) (by omega) hb) (hv_of (B := B) q_dQ) (ho_of hS q_dQ) (hE_of (B := B) q_dQ)) q_dQ (fun sh1 g1 hS1 hL1 _ => ⟨_, _, ct_up (lm_d hL1) (r_marker (lsMd hS1) hI (i := i) (q := k) (by omega) (by omega)), rfl, ar_0 (lm_d hL1)⟩)
    · exact op_thr (k := 2) (by decide) hS hL (h_marker hS.1.1 rfl (c_markerI hS.1 hK (i := i) (by omega) hq (by omega)) (hv_ofE (B := B) q_tQ) (ho_ofE hS q_tQ) (hE_ofE (B := B) (by simp) q_tQ)) (ks2b nBI) q_tQ (fun sh1 g1 hS1 hL1 => ⟨_, _, ct_up (lm_d hL1) (r_markerI (lsMd hS1) hI (i := i) (by omega) hq (by omega)), ar_k (lm_d hL1)⟩)
  · exact op_thr (k := 1) (by decide) hS hL (h_marker hS.1.1 rfl (c_markerB hS.1 hK hx hq h0) (hv_ofE (B := B) q_tQ) (ho_ofE hS q_tQ) (hE_ofE (B := B) (by simp) q_tQ)) (ks2a nBI) q_tQ (fun sh1 g1 hS1 hL1 => ⟨_, _, ct_up (lm_d hL1) (r_markerB (lsMd hS1) hI hx hq h0), ar_k (lm_d hL1)⟩)

theorem o_call (hS : LSh B sh) (hL : LM B n g d hist c) {x q : Int} (hx : R32 x) (hq : R32 q) : OPH w mL_call mX10_call [.int (i32 x), .int (i32 q)] B (n + 1) sh g := by
  have hI := hL.1.2.1
  have hK := hL.1
  by_cases h0 : 0 ≤ x ∧ x < d 5
  · obtain ⟨i, rfl⟩ : ∃ i : Nat, x = (i : Int) := ⟨x.toNat, by omega⟩
    by_cases hb : 0 ≤ q ∧ q ≤ 10
    · obtain ⟨k, rfl⟩ : ∃ k : Nat, q = (k : Int) := ⟨q.toNat, by omega⟩
      exact op_good hS hL (h_call hS.1.1 rfl (c_callV hS.1 hK (i := i) (by omega) hb) (hv_of (B := B) q_dQ) (ho_of hS q_dQ) (hE_of (B := B) q_dQ)) q_dQ (fun sh1 g1 hS1 hL1 _ => ⟨_, _, ct_up (lm_d hL1) (r_call (lsMd hS1) hI (i := i) (q := k) (by omega) (by omega)), rfl, ar_0 (lm_d hL1)⟩)
    · exact op_thr (k := 2) (by decide) hS hL (h_call hS.1.1 rfl (c_callI hS.1 hK (i := i) (by omega) hq (by omega)) (hv_ofE (B := B) q_tQ) (ho_ofE hS q_tQ) (hE_ofE (B := B) (by simp) q_tQ)) (ks2b nBI) q_tQ (fun sh1 g1 hS1 hL1 => ⟨_, _, ct_up (lm_d hL1) (r_callI (lsMd hS1) hI (i := i) (by omega) hq (by omega)), ar_k (lm_d hL1)⟩)
  · exact op_thr (k := 1) (by decide) hS hL (h_call hS.1.1 rfl (c_callB hS.1 hK hx hq h0) (hv_ofE (B := B) q_tQ) (ho_ofE hS q_tQ) (hE_ofE (B := B) (by simp) q_tQ)) (ks2a nBI) q_tQ (fun sh1 g1 hS1 hL1 => ⟨_, _, ct_up (lm_d hL1) (r_callB (lsMd hS1) hI hx hq h0), ar_k (lm_d hL1)⟩)

theorem o_digit (hS : LSh B sh) (hL : LM B n g d hist c) {x q : Int} (hx : R32 x) (hq : R32 q) : OPH w mL_digit mX10_digit [.int (i32 x), .int (i32 q)] B (n + 1) sh g := by
  have hI := hL.1.2.1
  have hK := hL.1
  by_cases h0 : 0 ≤ x ∧ x < d 5
  · obtain ⟨i, rfl⟩ : ∃ i : Nat, x = (i : Int) := ⟨x.toNat, by omega⟩
    by_cases hb : 0 ≤ q ∧ q < d (170 + 14 * i)
    · obtain ⟨k, rfl⟩ : ∃ k : Nat, q = (k : Int) := ⟨q.toNat, by omega⟩
      exact op_good hS hL (h_digit hS.1.1 rfl (c_digit1 hS.1 hK (i := i) (j := k) (by omega) (by omega)) (hv_of (B := B) q_dQ) (ho_of hS q_dQ) (hE_of (B := B) q_dQ)) q_dQ (fun sh1 g1 hS1 hL1 _ => ⟨_, _, ct_up (lm_d hL1) (r_digit (lsMd hS1) hI (i := i) (j := k) (by omega) (by omega)), rfl, ar_0 (lm_d hL1)⟩)
    · exact op_thr (k := 2) (by decide) hS hL (h_digit hS.1.1 rfl (c_digitN hS.1 hK (i := i) (by omega) hq (by omega)) (hv_ofE (B := B) q_tQ) (ho_ofE hS q_tQ) (hE_ofE (B := B) (by simp) q_tQ)) (ks2b nBN) q_tQ (fun sh1 g1 hS1 hL1 => ⟨_, _, ct_up (lm_d hL1) (r_digitN (lsMd hS1) hI (i := i) (by omega) hq (by omega)), ar_k (lm_d hL1)⟩)
  · exact op_thr (k := 1) (by decide) hS hL (h_digit hS.1.1 rfl (c_digitB hS.1 hK hx hq h0) (hv_ofE (B := B) q_tQ) (ho_ofE hS q_tQ) (hE_ofE (B := B) (by simp) q_tQ)) (ks2a nBN) q_tQ (fun sh1 g1 hS1 hL1 => ⟨_, _, ct_up (lm_d hL1) (r_digitB (lsMd hS1) hI hx hq h0), ar_k (lm_d hL1)⟩)

theorem o_foretold (hS : LSh B sh) (hL : LM B n g d hist c) (hP : PI d) {x q : Int} (hx : R32 x) (hq : R32 q) : OPH w mL_foretold mX10_foretold [.int (i32 x), .int (i32 q)] B (n + 1) sh g := by
  have hI := hL.1.2.1
  have hK := hL.1
  by_cases hb : (1 ≤ x ∧ x ≤ 600) ∧ 0 ≤ q ∧ q ≤ 11
  · obtain ⟨k, rfl⟩ : ∃ k : Nat, x = (k : Int) := ⟨x.toNat, by omega⟩
    exact op_good hS hL (h_foretold hS.1.1 rfl (c_foretold hS.1 hK (lm_t hL) (n := k) (by omega) hb.2) (hv_of (B := B) q_triQ) (ho_of hS q_triQ) (hE_of (B := B) q_triQ)) q_triQ (fun sh1 g1 hS1 hL1 _ => ⟨_, _, ct_up (lm_d hL1) (r_foretold (lsMd hS1) hP (n := k) (by omega) hb.2), rfl, ar_a (lm_d hL1)⟩)
  · exact op_thr (k := 1) (by decide) hS hL (h_foretold hS.1.1 rfl (c_foretold_bad hS.1 hx hq (by omega)) (hv_ofE (B := B) q_tQ) (ho_ofE hS q_tQ) (hE_ofE (B := B) (by simp) q_tQ)) ks1 q_tQ (fun sh1 g1 hS1 hL1 => ⟨_, _, ct_up (lm_d hL1) (r_foretoldI (lsMd hS1) hP hx hq (by omega)), ar_k (lm_d hL1)⟩)

theorem o_overIn (hS : LSh B sh) (hL : LM B n g d hist c) (hP : PI d) {x : Int} (hx : R32 x) : OPH w mL_overIn mX10_overIn [.int (i32 x)] B (n + 1) sh g := by
  have hI := hL.1.2.1
  have hK := hL.1
  have h40 := lm_40 hL
  by_cases hb : 0 ≤ x ∧ x < d 5
  · obtain ⟨k, rfl⟩ : ∃ k : Nat, x = (k : Int) := ⟨x.toNat, by omega⟩
    exact op_good hS hL (h_overIn hS.1.1 rfl (c_overIn1 hS.1 hK (lm_t hL) (c := k) (by omega) (by omega)) (hv_of (B := B) q_triQ) (ho_of hS q_triQ) (hE_of (B := B) q_triQ)) q_triQ (fun sh1 g1 hS1 hL1 _ => ⟨_, _, ct_up (lm_d hL1) (r_overIn (lsMd hS1) hP (c := k) (by omega) (by omega)), rfl, ar_a (lm_d hL1)⟩)
  · exact op_thr (k := 1) (by decide) hS hL (h_overIn hS.1.1 rfl (c_overIn0 hS.1 hK (lm_t hL) hx hb) (hv_ofE (B := B) q_oB) (ho_ofE hS q_oB) (hE_ofE (B := B) (by simp) q_oB)) ks1 q_oB (fun sh1 g1 hS1 hL1 => ⟨_, _, ct_up (lm_d hL1) (r_overInB (lsMd hS1) hP hx hb), ar_k (lm_d hL1)⟩)

/-- as op_thr, with the rows that stay -/
theorem op_thr3 {mh mr : MD} {As : List Value} {Qc : Post} {ks : List (String × Int)} {E : String} {k : Int} (hk : 1 ≤ k ∧ k ≤ 3) (hS : LSh B sh) (hL : LM B n g d hist c) (hH : CT w mh (.ref B :: (As ++ [.ref (B + 845)])) sh g (LQ Qc (B + 845) ks)) (hks : ∀ k', (E, k') ∈ ks → k' = k)
    (hQ : ∀ r sh1 g1, Qc r sh1 g1 → r = .inr E ∧ sh1.1 = sh.1 ∧ Ask B g g1)
    (hr : ∀ sh1 g1, LSh B sh1 → LM B n g1 d hist c → (∀ a, (a < B + 77 ∨ B + 152 ≤ a) → a ≠ B + 831 → (a < B + 835 ∨ B + 847 ≤ a) → g1 a = g a) → ∃ x g2, CT w mr (.ref (B + 831) :: As) sh1 g1 (dQ (some (.int x)) sh1 g2) ∧ AR g1 g2 (B + 831) k) : OPH w mh mr As B (n + 1) sh g := by
  refine ⟨_, hH, x_lq, fun v sh1 g1 h1 => ?_⟩
  rcases h1 with ⟨x2, g', q1, q2, q3⟩ | ⟨E2, k2, hm, q1, q2⟩
  · obtain ⟨e1, -, -⟩ := hQ _ _ _ q1
    cases e1
  · obtain ⟨e1, e2, e3⟩ := hQ _ _ _ q1
    cases e1
    cases q2
    have hk2 := hks k2 hm
    subst hk2
    have hS1 := hS.same e2
    obtain ⟨x, g2, c1, c3⟩ := hr sh1 g1 hS1 (hL.ask (Nat.le_refl _) e3) (fun a a1 a2 a3 => e3.1 a a1 a2 (by omega) (by omega) (by omega))
    refine ⟨k2, by omega, rfl, hS1, _, c1, x_d, fun v2 sh3 g3 h3 => ?_⟩
    obtain ⟨d1, rfl, rfl⟩ := h3
    cases d1
    exact ⟨x, rfl, c3.1, fun h => absurd h (by omega), hS1, d, hist, c, hL.ask (Nat.le_succ _) (e3.tr c3.ask)⟩

theorem o_look (hS : LSh B sh) (hL : LM B n g d hist c) {x q : Int} (hx : R32 x) (hq : R32 q) : OPH w mL_look mX10_look [.int (i32 x), .int (i32 q)] B (n + 1) sh g := by
  have hI := hL.1.2.1
  have hK := hL.1
  have hbu := lm_b hL
  by_cases hb : (1 ≤ x ∧ x ≤ 6 ∧ x ≤ g B 1) ∧ 0 ≤ q ∧ q ≤ 3
  · obtain ⟨k, rfl⟩ : ∃ k : Nat, x = (k : Int) := ⟨x.toNat, by omega⟩
    obtain ⟨e1, e2⟩ := lm_bd hL (k := k) (by omega)
    by_cases hd : bdB (g (B + 1)) k = true
    · refine op_good hS hL (h_look hS.1.1 rfl (c_look hS.1 hK (n := k) (by omega) (by omega) hd hb.2) (hv_of (B := B) q_dQ) (ho_of hS q_dQ) (hE_of (B := B) q_dQ)) q_dQ (fun sh1 g1 hS1 hL1 hf => ?_)
      have hbu1 := lm_b hL1
      have e3 : g1 (B + 831 + 1) = g (B + 831 + 1) := by
        rcases hf (B + 831 + 1) (by omega) (by omega) (by omega) with h | h | h
        · exact h
        · omega
        · omega
      have e4 : g1 B 1 = g B 1 := by
        rcases hf B (by omega) (by omega) (by omega) with h | h | h
        · rw [h]
        · omega
        · omega
      have key := r_look (w := w) (g := g1) (d := d) (lsMd hS1) hI (n := k) (by omega) (by omega) (by rw [e3, ← e1]; exact hd) hb.2
      rw [e3, ← e2 hd] at key
      exact ⟨_, _, ct_up (lm_d hL1) key, rfl, ar_0 (lm_d hL1)⟩
    · have hd9 : bdB (g (B + 1)) k = false := by cases h : bdB (g (B + 1)) k; exact rfl; exact absurd h hd
      refine op_thr3 (k := 1) (by decide) hS hL (h_look hS.1.1 rfl (c_lookD hS.1 (n := k) (by omega) (by omega) hd9 hb.2) (hv_ofE (B := B) q_tQ) (ho_ofE hS q_tQ) (hE_ofE (B := B) (by simp) q_tQ)) ks1 q_tQ (fun sh1 g1 hS1 hL1 hf => ?_)
      have hbu1 := lm_b hL1
      have e3 := hf (B + 831 + 1) (by omega) (by omega) (by omega)
      have e4 := hf B (by omega) (by omega) (by omega)
      exact ⟨_, _, ct_up (lm_d hL1) (r_lookD (lsMd hS1) hI (n := k) (by omega) (by rw [← hbu1.1, e4]; omega) (by rw [e3, ← e1]; exact hd9) hb.2), ar_k (lm_d hL1)⟩
  · refine op_thr3 (k := 1) (by decide) hS hL (h_look hS.1.1 rfl (c_lookI hS.1 hx hq (by omega)) (hv_ofE (B := B) q_tQ) (ho_ofE hS q_tQ) (hE_ofE (B := B) (by simp) q_tQ)) ks1 q_tQ (fun sh1 g1 hS1 hL1 hf => ?_)
    have hbu1 := lm_b hL1
    have e4 := hf B (by omega) (by omega) (by omega)
    exact ⟨_, _, ct_up (lm_d hL1) (r_lookI (lsMd hS1) hI hx hq (by rw [← hbu1.1, e4]; omega)), ar_k (lm_d hL1)⟩

/-- after a change: both sides have the new row -/
theorem LM.chg {n' c2 : Nat} {d2 : Nat → Int} {hist2 : Nat → (Nat → Int)} {g1 g2 : Mem} (hL : LM B n g d hist c)
    (k1 : KX g1 (B + 2) d2) (k2 : HX g1 (B + 152) hist2 c2) (f1 : ∀ a, (a = B + 1 ∨ (B + 77 ≤ a ∧ a < B + 152) ∨ B + 831 ≤ a) → a ≠ B + 845 → g1 a = g a) (e1 : ExI g1 (B + 754 + 1))
    (r1 : g2 (B + 831 + 2) = d2) (r2 : HR g2 (B + 831) hist2 c2) (f2 : ∀ a, a ≠ B + 831 → a ≠ B + 831 + 2 → a ≠ B + 831 + 3 → (a < B + 831 + 6 ∨ B + 831 + 14 ≤ a) → g2 a = g1 a)
    (h2 : g1 B 1 = g2 (B + 831) 2 ∧ 0 ≤ g1 B 1 ∧ g1 B 1 ≤ g B 1) (h7 : g1 B 2 = g2 (B + 831) 7) (h6 : 0 ≤ d2 6 ∧ d2 6 ≤ 300 * (n' : Int)) (hh : ∀ j, j < c2 → 0 ≤ hist2 j 6 ∧ hist2 j 6 ≤ 300 * (n' : Int)) : LM B n' g2 d2 hist2 c2 := by
  have hb := lm_b hL
  have eB : g2 B = g1 B := f2 B (by omega) (by omega) (by omega) (by omega)
  refine ⟨k1.rows (fun a a1 a2 => f2 a (by omega) (by omega) (by omega) (by omega)), k2.rows (fun a a1 a2 => f2 a (by omega) (by omega) (by omega) (by omega)), r2, r1, (lm_t hL).fr (fun a a1 a2 => (f2 a (by omega) (by omega) (by omega) (by omega)).trans (f1 a (by omega) (by omega))), e1.fr (fun a a1 a2 => f2 a (by omega) (by omega) (by omega) (by omega)), h6, hh, ?_, ?_, ?_⟩
  · rw [eB]; exact ⟨h2.1, h2.2.1, by omega⟩
  · rw [eB, f2 (B + 1) (by omega) (by omega) (by omega) (by omega), f1 (B + 1) (by omega) (by omega), f2 (B + 831 + 1) (by omega) (by omega) (by omega) (by omega), f1 (B + 831 + 1) (by omega) (by omega)]
    exact fun k hk => lm_y hL k (by omega)
  · rw [eB]; exact h7
/-- a change that both sides answer -/
theorem op_chg {n' : Nat} {mh mr : MD} {As : List Value} {Qc : Post} {ks : List (String × Int)} {P : Shp → Mem → Prop} {x : Int32} (hH : CT w mh (.ref B :: (As ++ [.ref (B + 845)])) sh g (LQ Qc (B + 845) ks))
    (hQ : ∀ r sh1 g1, Qc r sh1 g1 → r = .inl (some (.int x)) ∧ LSh B sh1 ∧ P sh1 g1)
    (hr : ∀ sh1 g1 v, LSh B sh1 → P sh1 g1 → ∃ Q2, CT w mr (.ref (B + 831) :: As) sh1 (up2 g1 (B + 845) 0 v) Q2 ∧ ∀ r sh2 g2, Q2 r sh2 g2 → r = .inl (some (.int x)) ∧ g2 (B + 831) 0 = 0 ∧ g2 (B + 845) = (up2 g1 (B + 845) 0 v) (B + 845) ∧ LI B n' sh2 g2) : OPH w mh mr As B n' sh g := by
  refine ⟨_, hH, x_lq, fun v sh1 g1 h1 => ?_⟩
  rcases h1 with ⟨x2, g', q1, q2, q3⟩ | ⟨E, k, -, q1, -⟩
  · obtain ⟨e1, e2, e3⟩ := hQ _ _ _ q1
    cases e1
    cases q2
    obtain ⟨Q2, c1, c2⟩ := hr sh1 g' x.toInt e2 e3
    rw [← q3] at c1 c2
    refine ⟨0, by decide, rfl, e2, Q2, c1, fun E sh2 g2 h2 => ?_, fun v2 sh2 g2 h2 => ?_⟩
    · obtain ⟨d1, -⟩ := c2 _ _ _ h2
      cases d1
    · obtain ⟨d1, d2, d3, d4⟩ := c2 _ _ _ h2
      cases d1
      refine ⟨x, rfl, d2, fun _ => ?_, d4⟩
      rw [d3, q3]
      exact up2_s
  · obtain ⟨e1, -, -⟩ := hQ _ _ _ q1
    cases e1
theorem HR.fr {g2 : Mem} {m : Nat} (H : HR g m hist c) (q : ∀ a, m ≤ a → a < m + 14 → g2 a = g a) : HR g2 m hist c := H.same (by rw [q m (by omega) (by omega)]) (fun a a1 a2 => q a (by omega) (by omega))
/-- pass, rule, hang, dial -/
theorem op_ch2 {n' c2 : Nat} {mh mr : MD} {As : List Value} {Qc : Post} {ks : List (String × Int)} {z b1 : Int} {d2 : Nat → Int} {hist2 : Nat → (Nat → Int)} (hS : LSh B sh) (hL : LM B n g d hist c) (hH : CT w mh (.ref B :: (As ++ [.ref (B + 845)])) sh g (LQ Qc (B + 845) ks))
    (hQ : ∀ r sh1 g1, Qc r sh1 g1 → r = .inl (some (.int (i32 z))) ∧ sh1 = sh ∧ KX g1 (B + 2) d2 ∧ HX g1 (B + 152) hist2 c2 ∧ (∀ a, a < B ∨ a = B + 1 ∨ (B + 77 ≤ a ∧ a < B + 152) ∨ B + 754 ≤ a → g1 a = g a) ∧ g1 B 1 = b1 ∧ g1 B 2 = g B 2) (hb : 0 ≤ b1 ∧ b1 ≤ g B 1)
    (hr : ∀ g1, HR g1 (B + 831) hist c → g1 (B + 831 + 2) = d → g1 (B + 831) = g (B + 831) → g1 (B + 831 + 1) = g (B + 831 + 1) → ∃ Q2, CT w mr (.ref (B + 831) :: As) sh g1 Q2 ∧ ∀ r sh2 g2, Q2 r sh2 g2 → r = .inl (some (.int (i32 z))) ∧ sh2 = sh ∧ g2 (B + 831 + 2) = d2 ∧ HR g2 (B + 831) hist2 c2 ∧ (∀ a, a ≠ B + 831 → a ≠ B + 831 + 2 → (a < B + 831 + 6 ∨ B + 831 + 14 ≤ a) → g2 a = g1 a) ∧ g2 (B + 831) 0 = 0 ∧ g2 (B + 831) 2 = b1 ∧ g2 (B + 831) 7 = g (B + 831) 7)
    (h6 : 0 ≤ d2 6 ∧ d2 6 ≤ 300 * (n' : Int)) (hh : ∀ j, j < c2 → 0 ≤ hist2 j 6 ∧ hist2 j 6 ≤ 300 * (n' : Int)) : OPH w mh mr As B n' sh g := by
  refine op_chg (P := fun sh1 g1 => sh1 = sh ∧ KX g1 (B + 2) d2 ∧ HX g1 (B + 152) hist2 c2 ∧ (∀ a, a < B ∨ a = B + 1 ∨ (B + 77 ≤ a ∧ a < B + 152) ∨ B + 754 ≤ a → g1 a = g a) ∧ g1 B 1 = b1 ∧ g1 B 2 = g B 2) (x := i32 z) hH (fun r sh1 g1 h => ?_) (fun sh1 g1 v hS1 hP => ?_)
  · obtain ⟨a1, a2, a3⟩ := hQ r sh1 g1 h
    exact ⟨a1, a2 ▸ hS, a2, a3⟩
  · obtain ⟨rfl, k1, k2, f1, b1e, b2e⟩ := hP
    generalize hg1 : up2 g1 (B + 845) 0 v = gv
    have hg : ∀ a, a ≠ B + 845 → gv a = g1 a := fun a h => by rw [← hg1]; exact up2_row h
    have H1 : HR gv (B + 831) hist c := HR.fr hL.2.2.1 (fun a a1 a2 => (hg a (by omega)).trans (f1 a (by omega)))
    obtain ⟨Q2, c1, c2'⟩ := hr gv H1 (by rw [hg _ (by omega), f1 _ (by omega)]; exact lm_d hL) (by rw [hg _ (by omega), f1 _ (by omega)]) (by rw [hg _ (by omega), f1 _ (by omega)])
    refine ⟨Q2, c1, fun r sh2 g2 h => ?_⟩
    obtain ⟨a1, rfl, a3, a4, a5, a6, a7, a8⟩ := c2' _ _ _ h
    refine ⟨a1, a6, a5 _ (by omega) (by omega) (by omega), hS1, d2, hist2, c2, hL.chg (g1 := gv) (k1.rows fun a a1 a2 => hg a (by omega)) (k2.rows fun a a1 a2 => hg a (by omega)) (fun a a1 a2 => (hg a a2).trans (f1 a (by omega))) ((lm_e hL).fr fun a a1 a2 => (hg a (by omega)).trans (f1 a (by omega))) a3 a4 (fun a x1 x2 x3 x4 => a5 a x1 x2 x4) ?_ ?_ h6 hh⟩
    · rw [hg B (by omega), b1e]; exact ⟨a7.symm, hb⟩
    · rw [hg B (by omega), b2e, a8]; exact lm_7 hL
theorem push_6 {N : Nat} (h6 : 0 ≤ d 6 ∧ d 6 ≤ 300 * (N : Int)) (hh : ∀ j, j < c → 0 ≤ hist j 6 ∧ hist j 6 ≤ 300 * (N : Int)) : ∀ j, j < (if c < 8 then c + 1 else 8) → 0 ≤ push d hist j 6 ∧ push d hist j 6 ≤ 300 * ((N + 1 : Nat) : Int) := by
  intro j hj
  unfold push
  split
  · omega
  · have := hh (j - 1) (by split at hj <;> omega)
    omega
theorem hv_i {sh9 : Shp} {P : Int → Mem → Prop} : ∀ v sh' g', iQ sh9 P (.inl v) sh' g' → ∃ x : Int32, v = some (.int x) := fun v sh' g' h => by
  obtain ⟨z, h, -⟩ := h
  cases h
  exact ⟨_, rfl⟩
theorem ho_i {sh9 : Shp} {P : Int → Mem → Prop} (hS : LSh B sh9) : ∀ v sh' g', iQ sh9 P (.inl v) sh' g' → sh'.1 (B + 845) = some (12, 1, kN) := fun v sh' g' h => by
  obtain ⟨z, -, h, -⟩ := h
  rw [h]; exact hS.2.2.2.2.1
theorem hE_i {sh9 : Shp} {P : Int → Mem → Prop} {l : List String} : ∀ E sh' g', iQ sh9 P (.inr E) sh' g' → E ∈ l := fun E sh' g' h => absurd h (x_i E sh' g')
theorem hang_6 {i : Nat} : s_hang d i 6 = d 6 := by
  unfold s_hang s_isOver
  rw [ud_n (by omega), ud_n (by omega), ud_n (by omega)]
  unfold unmN
  rw [if_neg (by omega)]
  unfold s_freeReg
  split
  · rfl
  · show ud (ud (ud (ud d (151 + 3 * (d (179 + 14 * i)).toNat) (-1)) (152 + 3 * (d (179 + 14 * i)).toNat) 0) (153 + 3 * (d (179 + 14 * i)).toNat) 0) (179 + 14 * i) (-1) 6 = d 6
    rw [ud_n (by omega), ud_n (by omega), ud_n (by omega), ud_n (by omega)]

theorem o_pass (hS : LSh B sh) (hL : LM B n g d hist c) (hP : PI d) (hn : n ≤ 600) {x : Int} (hx : R32 x) : OPH w mL_pass mX10_pass [.int (i32 x)] B (n + 1) sh g := by
  have hI := hL.1.2.1
  have hK := hL.1
  have h6 := lm_6 hL
  by_cases hb : 1 ≤ x ∧ x ≤ 300
  · obtain ⟨k, rfl⟩ : ∃ k : Nat, x = (k : Int) := ⟨x.toNat, by omega⟩
    have e6 : tk d k 6 = d 6 + (k : Int) := tk_6 (N := 300) h6.1 (by omega) (by omega)
    exact op_ch2 (b1 := g B 1) (z := (s_cnt (tk d k) 6 : Int) - (s_cnt d 6 : Int)) (d2 := tk d k) hS hL (h_pass hS.1.1 rfl (c_pass hS.1 hK hL.2.1 (n := k) (by omega)) hv_i (ho_i hS) hE_i) (fun r sh1 g1 h => by
      obtain ⟨z, rfl, rfl, rfl, a1, a2, a3⟩ := h
      exact ⟨rfl, rfl, a1, a2, fun a ha => a3 a (by omega), by rw [a3 B (by omega)], by rw [a3 B (by omega)]⟩) ⟨(lm_b hL).2.1, Int.le_refl _⟩ (fun g1 H1 hd e1 e2 => ⟨_, ct_up hd (r_pass (lsMd hS) hP H1 (n := k) (by omega)), fun r sh2 g2 h => by
      obtain ⟨z, rfl, rfl, rfl, a1, a2, a3, a4, a5⟩ := h
      exact ⟨rfl, rfl, a1, a2, a3, a5, by rw [a4 2 (by decide) (by decide), e1]; exact (lm_b hL).1.symm, by rw [a4 7 (by decide) (by decide), e1]⟩⟩) (by rw [e6]; omega) (push_6 (lm_6 hL) (lm_h hL))
  · exact op_thr (k := 1) (by decide) hS hL (h_pass hS.1.1 rfl (c_pass_bad hS.1 hx (by omega)) (hv_ofE (B := B) q_tQ) (ho_ofE hS q_tQ) (hE_ofE (B := B) (by simp) q_tQ)) ks1 q_tQ (fun sh1 g1 hS1 hL1 => ⟨_, _, ct_up (lm_d hL1) (r_passI (lsMd hS1) hP hx (by omega)), ar_k (lm_d hL1)⟩)

theorem o_rule (hS : LSh B sh) (hL : LM B n g d hist c) (hP : PI d) {q x : Int} (hq : R32 q) (hx : R32 x) : OPH w mL_rule mX10_rule [.int (i32 q), .int (i32 x)] B (n + 1) sh g := by
  have hI := hL.1.2.1
  have hK := hL.1
  have h6 := lm_6 hL
  by_cases hb : 1 ≤ x ∧ x ≤ most q
  · have hq3 : q = 19 ∨ q = 20 ∨ q = 21 := by
      have := hb.2
      unfold most at this
      repeat' split at this
      all_goals omega
    rcases hq3 with rfl | rfl | rfl
    · exact op_ch2 (b1 := g B 1) (z := d 19) (d2 := ud d 19 x) hS hL (h_rule hS.1.1 rfl (c_rule19 hS.1 hK hL.2.1 hb.1 hb.2) hv_i (ho_i hS) hE_i) (fun r sh1 g1 h => by
        obtain ⟨z, rfl, rfl, rfl, a1, a2, a3⟩ := h
        exact ⟨rfl, rfl, a1, a2, fun a ha => a3 a (by omega), by rw [a3 B (by omega)], by rw [a3 B (by omega)]⟩) ⟨(lm_b hL).2.1, Int.le_refl _⟩ (fun g1 H1 hd e1 e2 => ⟨_, ct_up hd (r_rule19 (lsMd hS) hP H1 hb.1 hb.2), fun r sh2 g2 h => by
        obtain ⟨z, rfl, rfl, rfl, a1, a2, a3, a4, a5⟩ := h
        exact ⟨rfl, rfl, a1, a2, a3, a5, by rw [a4 2 (by decide) (by decide), e1]; exact (lm_b hL).1.symm, by rw [a4 7 (by decide) (by decide), e1]⟩⟩) (by rw [ud_n (by decide)]; omega) (push_6 (lm_6 hL) (lm_h hL))
    · exact op_ch2 (b1 := g B 1) (z := d 20) (d2 := ud d 20 x) hS hL (h_rule hS.1.1 rfl (c_rule20 hS.1 hK hL.2.1 hb.1 hb.2) hv_i (ho_i hS) hE_i) (fun r sh1 g1 h => by
        obtain ⟨z, rfl, rfl, rfl, a1, a2, a3⟩ := h
        exact ⟨rfl, rfl, a1, a2, fun a ha => a3 a (by omega), by rw [a3 B (by omega)], by rw [a3 B (by omega)]⟩) ⟨(lm_b hL).2.1, Int.le_refl _⟩ (fun g1 H1 hd e1 e2 => ⟨_, ct_up hd (r_rule20 (lsMd hS) hP H1 hb.1 hb.2), fun r sh2 g2 h => by
        obtain ⟨z, rfl, rfl, rfl, a1, a2, a3, a4, a5⟩ := h
        exact ⟨rfl, rfl, a1, a2, a3, a5, by rw [a4 2 (by decide) (by decide), e1]; exact (lm_b hL).1.symm, by rw [a4 7 (by decide) (by decide), e1]⟩⟩) (by rw [ud_n (by decide)]; omega) (push_6 (lm_6 hL) (lm_h hL))
    · exact op_ch2 (b1 := g B 1) (z := d 21) (d2 := ud d 21 x) hS hL (h_rule hS.1.1 rfl (c_rule21 hS.1 hK hL.2.1 hb.1 hb.2) hv_i (ho_i hS) hE_i) (fun r sh1 g1 h => by
        obtain ⟨z, rfl, rfl, rfl, a1, a2, a3⟩ := h
        exact ⟨rfl, rfl, a1, a2, fun a ha => a3 a (by omega), by rw [a3 B (by omega)], by rw [a3 B (by omega)]⟩) ⟨(lm_b hL).2.1, Int.le_refl _⟩ (fun g1 H1 hd e1 e2 => ⟨_, ct_up hd (r_rule21 (lsMd hS) hP H1 hb.1 hb.2), fun r sh2 g2 h => by
        obtain ⟨z, rfl, rfl, rfl, a1, a2, a3, a4, a5⟩ := h
        exact ⟨rfl, rfl, a1, a2, a3, a5, by rw [a4 2 (by decide) (by decide), e1]; exact (lm_b hL).1.symm, by rw [a4 7 (by decide) (by decide), e1]⟩⟩) (by rw [ud_n (by decide)]; omega) (push_6 (lm_6 hL) (lm_h hL))
  · exact op_thr (k := 1) (by decide) hS hL (h_rule hS.1.1 rfl (c_ruleI hS.1 hq hx (by omega)) (hv_ofE (B := B) q_tQ) (ho_ofE hS q_tQ) (hE_ofE (B := B) (by simp) q_tQ)) ks1 q_tQ (fun sh1 g1 hS1 hL1 => ⟨_, _, ct_up (lm_d hL1) (r_ruleI (lsMd hS1) hP hq hx (by omega)), ar_k (lm_d hL1)⟩)

theorem o_hang (hS : LSh B sh) (hL : LM B n g d hist c) (hP : PI d) {x : Int} (hx : R32 x) : OPH w mL_hang mX10_hang [.int (i32 x)] B (n + 1) sh g := by
  have hI := hL.1.2.1
  have hK := hL.1
  have h6 := lm_6 hL
  have h40 := lm_40 hL
  by_cases h0 : 0 ≤ x ∧ x < d 5
  · obtain ⟨k, rfl⟩ : ∃ k : Nat, x = (k : Int) := ⟨x.toNat, by omega⟩
    by_cases hb : d (173 + 14 * k) ≤ 5
    · exact op_ch2 (b1 := g B 1) (z := d (173 + 14 * k)) (d2 := s_hang d k) hS hL (h_hang hS.1.1 rfl (c_hang hS.1 hK hL.2.1 (i := k) (by omega) hb) hv_i (ho_i hS) hE_i) (fun r sh1 g1 h => by
        obtain ⟨z, rfl, rfl, rfl, a1, a2, a3⟩ := h
        exact ⟨rfl, rfl, a1, a2, fun a ha => a3 a (by omega), by rw [a3 B (by omega)], by rw [a3 B (by omega)]⟩) ⟨(lm_b hL).2.1, Int.le_refl _⟩ (fun g1 H1 hd e1 e2 => ⟨_, ct_up hd (r_hang (lsMd hS) hP H1 (c := k) (by omega) (by omega) hb), fun r sh2 g2 h => by
        obtain ⟨z, rfl, rfl, rfl, a1, a2, a3, a4, a5⟩ := h
        exact ⟨rfl, rfl, a1, a2, a3, a5, by rw [a4 2 (by decide) (by decide), e1]; exact (lm_b hL).1.symm, by rw [a4 7 (by decide) (by decide), e1]⟩⟩) (by rw [hang_6]; omega) (push_6 (lm_6 hL) (lm_h hL))
    · exact op_thr (k := 2) (by decide) hS hL (h_hang hS.1.1 rfl (c_hangS hS.1 hK (i := k) (by omega) (by omega)) (hv_ofE (B := B) q_tQ) (ho_ofE hS q_tQ) (hE_ofE (B := B) (by simp) q_tQ)) (ks2b nBS) q_tQ (fun sh1 g1 hS1 hL1 => ⟨_, _, ct_up (lm_d hL1) (r_hangS (lsMd hS1) hP (c := k) (by omega) (by omega) (by omega)), ar_k (lm_d hL1)⟩)
  · exact op_thr (k := 1) (by decide) hS hL (h_hang hS.1.1 rfl (c_hangB hS.1 hK hx h0) (hv_ofE (B := B) q_tQ) (ho_ofE hS q_tQ) (hE_ofE (B := B) (by simp) q_tQ)) (ks2a nBS) q_tQ (fun sh1 g1 hS1 hL1 => ⟨_, _, ct_up (lm_d hL1) (r_hangB (lsMd hS1) hP hx h0), ar_k (lm_d hL1)⟩)

end OPQ
