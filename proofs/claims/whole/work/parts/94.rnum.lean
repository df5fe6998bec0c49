/-! the reference's reader: signs, numbers, digits, names -/
def expS (T : Tx) (c : Int) : Sx → Sx
  | .inl p => if byT T (sk T p) = c then .inl (sk T p + 1) else .inr (-2, sk T p)
  | .inr e => .inr e
def numS (T : Tx) (lo hi : Int) : Sx → Int × Sx
  | .inl p => if dn T (sk T p) = 0 then (0, .inr (-2, sk T p)) else if lo ≤ nv T (sk T p) ∧ nv T (sk T p) ≤ hi then (nv T (sk T p), .inl (sk T p + dn T (sk T p))) else (0, .inr (-3, sk T p))
  | .inr e => (0, .inr e)
def digS (T : Tx) (most : Nat) : Sx → Sx
  | .inl p => if dn T (sk T p) = 0 then .inr (-2, sk T p) else if dn T (sk T p) ≤ most then .inl (sk T p + dn T (sk T p)) else .inr (-3, sk T p)
  | .inr e => .inr e
def namS (T : Tx) : Sx → Sx
  | .inl p => if ln T (sk T p) = 0 then .inr (-2, sk T p) else if ln T (sk T p) ≤ 8 then .inl (sk T p + ln T (sk T p)) else .inr (-3, sk T p)
  | .inr e => .inr e
section NUS
variable {T : Tx} {p q : Nat} {lo hi : Int} {f : Nat → Int} {k most : Nat}
theorem numS_1 (h : dn T (sk T p) ≠ 0 ∧ lo ≤ nv T (sk T p) ∧ nv T (sk T p) ≤ hi) : numS T lo hi (.inl p) = (nv T (sk T p), .inl (sk T p + dn T (sk T p))) := (if_neg h.1).trans (if_pos h.2)
theorem numS_2 (h : dn T (sk T p) = 0) : numS T lo hi (.inl p) = (0, .inr (-2, sk T p)) := if_pos h
theorem numS_3 (h : dn T (sk T p) ≠ 0 ∧ ¬ (lo ≤ nv T (sk T p) ∧ nv T (sk T p) ≤ hi)) : numS T lo hi (.inl p) = (0, .inr (-3, sk T p)) := (if_neg h.1).trans (if_neg h.2)
theorem digS_1 (h : dn T (sk T p) ≠ 0 ∧ dn T (sk T p) ≤ most) : digS T most (.inl p) = .inl (sk T p + dn T (sk T p)) := (if_neg h.1).trans (if_pos h.2)
theorem digS_2 (h : dn T (sk T p) = 0) : digS T most (.inl p) = .inr (-2, sk T p) := if_pos h
theorem digS_3 (h : dn T (sk T p) ≠ 0 ∧ ¬ dn T (sk T p) ≤ most) : digS T most (.inl p) = .inr (-3, sk T p) := (if_neg h.1).trans (if_neg h.2)
theorem namS_1 (h : ln T (sk T p) ≠ 0 ∧ ln T (sk T p) ≤ 8) : namS T (.inl p) = .inl (sk T p + ln T (sk T p)) := (if_neg h.1).trans (if_pos h.2)
theorem namS_2 (h : ln T (sk T p) = 0) : namS T (.inl p) = .inr (-2, sk T p) := if_pos h
theorem namS_3 (h : ln T (sk T p) ≠ 0 ∧ ¬ ln T (sk T p) ≤ 8) : namS T (.inl p) = .inr (-3, sk T p) := (if_neg h.1).trans (if_neg h.2)
/-- the reference's number -/
def nuF (f : Nat → Int) : Nat → Int
  | 0 => 0
  | n + 1 => if 100000000 < 10 * nuF f n + f n - 48 then 100000000 else 10 * nuF f n + f n - 48
theorem nuF_bv : ∀ k, (∀ j, j < k → 48 ≤ f j ∧ f j ≤ 57) → 0 ≤ bv f k ∧ nuF f k = if bv f k ≤ 100000000 then bv f k else 100000000
  | 0, _ => ⟨Int.le_refl 0, rfl⟩
  | k + 1, h => by
    obtain ⟨h1, h2⟩ := nuF_bv k (fun j hj => h j (by omega))
    have h3 := h k (by omega)
    have e0 : bv f (k + 1) = 10 * bv f k + f k - 48 := rfl
    have e1 : bv f (k + 1) = 10 * bv f k + (f k - 48) := by omega
    have e2 : nuF f (k + 1) = if 100000000 < 10 * nuF f k + f k - 48 then 100000000 else 10 * nuF f k + f k - 48 := rfl
    refine ⟨by omega, ?_⟩
    rw [e2, e1, h2]
    split <;> split <;> split <;> omega
theorem dn_lt {j : Nat} (h : j < dn T q) : isD (byT T (q + j)) = true := (rn_spec (T := T) hD q).1 j h
theorem dn_at : isD (byT T (q + dn T q)) = false := (rn_spec (T := T) hD q).2
theorem ln_lt {j : Nat} (h : j < ln T q) : isL (byT T (q + j)) = true := (rn_spec (T := T) hL q).1 j h
theorem ln_at : isL (byT T (q + ln T q)) = false := (rn_spec (T := T) hL q).2
theorem dn_is (hk : k ≤ dn T q) : isD (byT T (q + k)) = true ↔ k < dn T q := by
  constructor
  · intro h
    rcases Nat.lt_or_ge k (dn T q) with z | z
    · exact z
    · rw [show k = dn T q by omega, dn_at] at h; cases h
  · exact dn_lt
theorem ln_is (hk : k ≤ ln T q) : isL (byT T (q + k)) = true ↔ k < ln T q := by
  constructor
  · intro h
    rcases Nat.lt_or_ge k (ln T q) with z | z
    · exact z
    · rw [show k = ln T q by omega, ln_at] at h; cases h
  · exact ln_lt
theorem b01_ne {b : Bool} : b01 b = 0 ↔ ¬ b = true := by cases b <;> simp [b01]
theorem up2_comm {g : Mem} {a i j : Nat} {x y : Int} (h : i ≠ j) : up2 (up2 g a i x) a j y = up2 (up2 g a j y) a i x := by
  funext b k
  by_cases h1 : b = a
  · subst h1
    by_cases h2 : k = i
    · subst h2; rw [up2_k h, up2_s, up2_s]
    · rw [up2_k (k := i) h2]
      by_cases h3 : k = j
      · subst h3; rw [up2_s, up2_s]
      · rw [up2_k h3, up2_k h2, up2_k h3]
  · rw [up2_a h1, up2_a h1, up2_a h1, up2_a h1]
/-- the reference's value of digits: of the first six -/
def dvF (f : Nat → Int) : Nat → Int
  | 0 => 0
  | n + 1 => if n < 6 then 10 * dvF f n + f n - 48 else dvF f n
theorem dvF_bv : ∀ k, k ≤ 6 → dvF f k = bv f k
  | 0, _ => rfl
  | k + 1, h => by
    have e0 : bv f (k + 1) = 10 * bv f k + f k - 48 := rfl
    have e1 : bv f (k + 1) = 10 * bv f k + (f k - 48) := by omega
    have e2 : dvF f (k + 1) = if k < 6 then 10 * dvF f k + f k - 48 else dvF f k := rfl
    rw [e2, if_pos (by omega), dvF_bv k (by omega), e1]
    omega
/-- the cells behind so many digits, or letters -/
def dgM (g : Mem) (m q k : Nat) (f : Nat → Int) : Mem := fun a j => if a = m then (if j = 4 then ((q + k : Nat) : Int) else if j = 15 then (q : Int) else if j = 16 then (k : Int) else if j = 17 then dvF f k else g a j) else g a j
def naM (g : Mem) (m q k : Nat) (f : Nat → Int) : Mem := fun a j => if a = m then (if j = 4 then (q : Int) else if j = 18 then (q : Int) else if j = 19 then l27 f (min k 4) else if j = 20 then l27 (fun i => f (4 + i)) (min (k - 4) 4) else g a j) else g a j
end NUS
section DGM
variable {g : Mem} {m q k j : Nat} {f : Nat → Int} {T : Tx} {st : Sx} {e : PE} {p : Nat}
theorem dgM_o {a : Nat} (h : a ≠ m) : dgM g m q k f a = g a := funext fun j => if_neg h
theorem dgM_at : dgM g m q k f m j = (if j = 4 then ((q + k : Nat) : Int) else if j = 15 then (q : Int) else if j = 16 then (k : Int) else if j = 17 then dvF f k else g m j) := if_pos rfl
theorem naM_o {a : Nat} (h : a ≠ m) : naM g m q k f a = g a := funext fun j => if_neg h
theorem naM_at : naM g m q k f m j = (if j = 4 then (q : Int) else if j = 18 then (q : Int) else if j = 19 then l27 f (min k 4) else if j = 20 then l27 (fun i => f (4 + i)) (min (k - 4) 4) else g m j) := if_pos rfl
theorem dgM_FM : FM g (dgM g m q k f) m := ⟨fun a ha => dgM_o ha, fun j hj => by rw [dgM_at, if_neg (by omega), if_neg (by omega), if_neg (by omega), if_neg (by omega)]⟩
theorem naM_FM : FM g (naM g m q k f) m := ⟨fun a ha => naM_o ha, fun j hj => by rw [naM_at, if_neg (by omega), if_neg (by omega), if_neg (by omega), if_neg (by omega)]⟩
theorem dgM_5 : dgM g m q k f m 5 = g m 5 := by rw [dgM_at]; rfl
theorem dgM_6 : dgM g m q k f m 6 = g m 6 := by rw [dgM_at]; rfl
theorem naM_5 : naM g m q k f m 5 = g m 5 := by rw [naM_at]; rfl
theorem naM_6 : naM g m q k f m 6 = g m 6 := by rw [naM_at]; rfl
theorem dgM_RG (h : RG g m T p) (hq : q + k ≤ T.2) : RG (dgM g m q k f) m T (q + k) := ⟨h.1.fm dgM_FM, by rw [dgM_at]; rfl, hq, by rw [dgM_5]; exact h.2.2.2.1, by rw [dgM_6]; exact h.2.2.2.2⟩
theorem dgM_RE (h : RE g m T e) (hq : q + k ≤ T.2) : RE (dgM g m q k f) m T e := ⟨h.1.fm dgM_FM, ⟨q + k, by rw [dgM_at]; rfl, hq⟩, by rw [dgM_5]; exact h.2.2.1, by rw [dgM_6]; exact h.2.2.2.1, h.2.2.2.2⟩
theorem naM_RG (h : RG g m T p) (hq : q ≤ T.2) : RG (naM g m q k f) m T q := ⟨h.1.fm naM_FM, by rw [naM_at]; rfl, hq, by rw [naM_5]; exact h.2.2.2.1, by rw [naM_6]; exact h.2.2.2.2⟩
theorem naM_RE (h : RE g m T e) (hq : q ≤ T.2) : RE (naM g m q k f) m T e := ⟨h.1.fm naM_FM, ⟨q, by rw [naM_at]; rfl, hq⟩, by rw [naM_5]; exact h.2.2.1, by rw [naM_6]; exact h.2.2.2.1, h.2.2.2.2⟩
theorem up2_at {g : Mem} {a k b j : Nat} {x : Int} : up2 g a k x b j = if b = a ∧ j = k then x else g b j := rfl
theorem dg_0 : up2 (up2 (up2 (up2 g m 4 (q : Int)) m 15 (q : Int)) m 16 0) m 17 0 = dgM g m q 0 f := by
  funext b j
  simp only [up2_at, dgM, dvF, Nat.add_zero]
  by_cases h1 : b = m
  · subst h1
    by_cases h2 : j = 4
    · subst h2; simp
    · by_cases h3 : j = 15
      · subst h3; simp
      · by_cases h4 : j = 16
        · subst h4; simp
        · by_cases h5 : j = 17
          · subst h5; simp
          · simp [h2, h3, h4, h5]
  · simp [h1]
theorem dg_s {x : Int} (hx : x = dvF f (k + 1)) : up2 (up2 (up2 (dgM g m q k f) m 17 x) m 16 ((k + 1 : Nat) : Int)) m 4 ((q + (k + 1) : Nat) : Int) = dgM g m q (k + 1) f := by
  subst hx
  funext b j
  simp only [up2_at, dgM]
  by_cases h1 : b = m
  · subst h1
    by_cases h2 : j = 4
    · subst h2; simp
    · by_cases h4 : j = 16
      · subst h4; simp
      · by_cases h5 : j = 17
        · subst h5; simp
        · simp [h2, h4, h5]
  · simp [h1]
theorem dg_t (hx : dvF f k = dvF f (k + 1)) : up2 (up2 (dgM g m q k f) m 16 ((k + 1 : Nat) : Int)) m 4 ((q + (k + 1) : Nat) : Int) = dgM g m q (k + 1) f := by
  rw [← dg_s (g := g) (m := m) (q := q) (f := f) (k := k) rfl, up2_id (x := dvF f (k + 1)) (by rw [← hx, dgM_at]; rfl)]
theorem na_0 : up2 (up2 (up2 (up2 g m 4 (q : Int)) m 18 (q : Int)) m 19 0) m 20 0 = naM g m q 0 f := by
  funext b j
  simp only [up2_at, naM]
  by_cases h1 : b = m
  · subst h1
    by_cases h2 : j = 4
    · subst h2; simp
    · by_cases h3 : j = 18
      · subst h3; simp
      · by_cases h4 : j = 19
        · subst h4; simp [l27]
        · by_cases h5 : j = 20
          · subst h5; simp [l27]
          · simp [h2, h3, h4, h5]
  · simp [h1]
theorem na_h {x : Int} (hk : k < 4) (hx : x = l27 f (k + 1)) : up2 (naM g m q k f) m 19 x = naM g m q (k + 1) f := by
  subst hx
  funext b j
  simp only [up2_at, naM]
  by_cases h1 : b = m
  · subst h1
    by_cases h4 : j = 19
    · subst h4; simp [show min (k + 1) 4 = k + 1 by omega]
    · rw [show k - 4 = 0 by omega, show k + 1 - 4 = 0 by omega]; simp [h4]
  · simp [h1]
theorem na_t {x : Int} (hk : 4 ≤ k ∧ k < 8) (hx : x = l27 (fun i => f (4 + i)) (k + 1 - 4)) : up2 (naM g m q k f) m 20 x = naM g m q (k + 1) f := by
  subst hx
  funext b j
  simp only [up2_at, naM]
  by_cases h1 : b = m
  · subst h1
    by_cases h4 : j = 20
    · subst h4; simp [show min (k - 3) 4 = k - 3 by omega]
    · rw [show min k 4 = 4 by omega, show min (k + 1) 4 = 4 by omega]; simp [h4]
  · simp [h1]
theorem na_8 (hk : 8 ≤ k) : naM g m q k f = naM g m q (k + 1) f := by
  unfold naM
  rw [show min k 4 = 4 by omega, show min (k + 1) 4 = 4 by omega, show min (k - 4) 4 = 4 by omega, show min (k + 1 - 4) 4 = 4 by omega]
end DGM

set_option maxRecDepth 20000 in
theorem rp_expectG {w : Wd} {sh : Shp} {g : Mem} {m : Nat} (hM : MdS sh.1 m) {T : Tx} {p : Nat} (h0 : RG g m T p) : CT w mX10_expect [.ref (m), .int (i32 (59))] sh g (vQ sh (fun g2 => FM g g2 m ∧ RS g2 m T (expS T 59 (.inl p)))) := by
  have hX := h0.1
  have h7 := hX.1
  have hsk2 := sk_le h0.2.2.1
  refine j_entry (by decide) rfl (Nat.le_of_ble_eq_true rfl) (fun h => by cases h) rfl ?_
  show J w mX10_expect 0 [(0, .ref (m)), (1, .int (i32 (59)))] [] sh g 0 0 _
  refine j_aload_n 1 0 dX10_expect_0 rfl rfl ?_
  refine j_callV 4 (As := []) (kc2 := 0) (ks2 := 0) dX10_expect_1 rfl mvX10_isGood lk_X10_61 hM.md rfl ⟨Nat.le_of_ble_eq_true rfl, rfl⟩ rfl rfl (Nat.le_of_ble_eq_true rfl) ⟨Nat.le_of_ble_eq_true rfl, Nat.le_of_ble_eq_true rfl⟩ ⟨Nat.le_of_ble_eq_true rfl, Nat.le_of_ble_eq_true rfl⟩ (rp_isGood hM) x_d (k_d1 ?_)
  refine j_top (y := 1) (by rw [decide_eq_true h0.2.2.2.1]; rfl) ?_
  refine j_if_ne 7 8 dX10_expect_4 rfl rfl (r32 (by decide) (by decide)) (fun c_4 => ?_) (fun c_4 => absurd c_4 (by decide))
  refine j_aload_n 9 0 dX10_expect_8 rfl rfl ?_
  refine j_callV 12 (As := []) (kc2 := 0) (ks2 := 0) dX10_expect_9 rfl mvX10_ahead lk_X10_65 hM.md rfl ⟨Nat.le_of_ble_eq_true rfl, rfl⟩ rfl rfl (Nat.le_of_ble_eq_true rfl) ⟨Nat.le_of_ble_eq_true rfl, Nat.le_of_ble_eq_true rfl⟩ ⟨Nat.le_of_ble_eq_true rfl, Nat.le_of_ble_eq_true rfl⟩ (rp_ahead hM hX h0.2.1 h0.2.2.1) x_d (k_d1 ?_)
  refine j_iload_n 13 1 dX10_expect_12 rfl rfl ?_
  refine j_icmp_ne 16 29 dX10_expect_13 rfl rfl (by have := byT_r hX.2.2.2 (sk T p); exact ⟨by omega, by omega⟩) (r32 (by decide) (by decide)) (fun c_13 => ?_) (fun c_13 => ?_)
  · refine j_aload_n 30 0 dX10_expect_29 rfl rfl ?_
    refine j_bipush 32 dX10_expect_30 rfl (by decide) ?_
    refine j_aload_n 33 0 dX10_expect_32 rfl rfl ?_
    refine j_geti 36 dX10_expect_33 rfl fl_X10_44 hM.md rfl rfl (fun r_33 => ?_)
    refine j_top (y := ((sk T p : Nat) : Int)) (up2_s) ?_
    refine j_callV 39 (As := [.int (i32 (-2)), .int (i32 (((sk T p : Nat) : Int)))]) (kc2 := 0) (ks2 := 0) dX10_expect_36 rfl mvX10_report lk_X10_78 hM.md rfl ⟨Nat.le_of_ble_eq_true rfl, rfl⟩ rfl rfl (Nat.le_of_ble_eq_true rfl) ⟨Nat.le_of_ble_eq_true rfl, Nat.le_of_ble_eq_true rfl⟩ ⟨Nat.le_of_ble_eq_true rfl, Nat.le_of_ble_eq_true rfl⟩ (rp_report0 hM (by rw [up2_k (by decide)]; exact h0.2.2.2.1) (r32 (by decide) (by decide)) (r32 (by omega) (by omega))) x_d (k_d0 ?_)
    exact j_vret dX10_expect_39 rfl (by first
      | (refine ⟨rfl, rfl, (((FM.rf.up (by decide)).up (by decide)).up (by decide)), ?_⟩; rw [show expS T 59 (.inl p) = .inr (-2, sk T p) from if_neg c_13]; exact (h0.mv hsk2).err (by decide))
      | (refine ⟨rfl, rfl, FM.rf.up (by decide), ?_⟩; rw [show expS T 59 (.inl p) = .inl (sk T p + 1) from if_pos c_13]; exact h0.mv (by omega)))
  · have hlt := by_lt c_13 (by decide)
    refine j_aload_n 17 0 dX10_expect_16 rfl rfl ?_
    refine j_dup 18 dX10_expect_17 rfl rfl ?_
    refine j_geti 21 dX10_expect_18 rfl fl_X10_44 hM.md rfl rfl (fun r_18 => ?_)
    refine j_top (y := ((sk T p : Nat) : Int)) (up2_s) ?_
    refine j_iconst 22 dX10_expect_21 rfl ?_
    refine j_iadd 23 dX10_expect_22 rfl ?_
    refine j_top (y := ((sk T p + 1 : Nat) : Int)) (by omega) ?_
    refine j_puti 26 dX10_expect_23 rfl fl_X10_44 hM.md rfl rfl rfl (r32 (by omega) (by omega)) ?_
    refine j_mem up2_up2 ?_
    refine j_goto 39 dX10_expect_26 rfl ?_
    exact j_vret dX10_expect_39 rfl (by first
      | (refine ⟨rfl, rfl, (((FM.rf.up (by decide)).up (by decide)).up (by decide)), ?_⟩; rw [show expS T 59 (.inl p) = .inr (-2, sk T p) from if_neg c_13]; exact (h0.mv hsk2).err (by decide))
      | (refine ⟨rfl, rfl, FM.rf.up (by decide), ?_⟩; rw [show expS T 59 (.inl p) = .inl (sk T p + 1) from if_pos c_13]; exact h0.mv (by omega)))

set_option maxRecDepth 20000 in
theorem rp_expectE {w : Wd} {sh : Shp} {g : Mem} {m : Nat} (hM : MdS sh.1 m) {T : Tx} {e : PE} (h0 : RE g m T e) : CT w mX10_expect [.ref (m), .int (i32 (59))] sh g (vQ sh (fun g2 => FM g g2 m ∧ RS g2 m T (expS T 59 (.inr e)))) := by
  have hX := h0.1
  have h7 := hX.1
  obtain ⟨p, hp4, hpT⟩ := h0.2.1
  have hsk2 := sk_le hpT
  have h5 := h0.2.2.1
  have h51 := h0.2.2.2.2
  refine j_entry (by decide) rfl (Nat.le_of_ble_eq_true rfl) (fun h => by cases h) rfl ?_
  show J w mX10_expect 0 [(0, .ref (m)), (1, .int (i32 (59)))] [] sh g 0 0 _
  refine j_aload_n 1 0 dX10_expect_0 rfl rfl ?_
  refine j_callV 4 (As := []) (kc2 := 0) (ks2 := 0) dX10_expect_1 rfl mvX10_isGood lk_X10_61 hM.md rfl ⟨Nat.le_of_ble_eq_true rfl, rfl⟩ rfl rfl (Nat.le_of_ble_eq_true rfl) ⟨Nat.le_of_ble_eq_true rfl, Nat.le_of_ble_eq_true rfl⟩ ⟨Nat.le_of_ble_eq_true rfl, Nat.le_of_ble_eq_true rfl⟩ (rp_isGood hM) x_d (k_d1 ?_)
  refine j_top (y := 0) (by rw [decide_eq_false (show ¬ _ = (0 : Int) by have := h51; omega)]; rfl) ?_
  refine j_if_ne 7 8 dX10_expect_4 rfl rfl (r32 (by decide) (by decide)) (fun c_4 => absurd c_4 (by decide)) (fun c_4 => ?_)
  exact j_vret dX10_expect_7 rfl (⟨rfl, rfl, FM.rf, h0⟩)

theorem rp_expect {w : Wd} {sh : Shp} {g : Mem} {m : Nat} (hM : MdS sh.1 m) {T : Tx} {st : Sx} (h0 : RS g m T st) : CT w mX10_expect [.ref m, .int (i32 59)] sh g (vQ sh (fun g2 => FM g g2 m ∧ RS g2 m T (expS T 59 st))) := by
  cases st with
  | inl p => exact rp_expectG hM h0
  | inr e => exact rp_expectE hM h0

set_option maxRecDepth 20000 in
theorem rp_numberG {w : Wd} {sh : Shp} {g : Mem} {m : Nat} (hM : MdS sh.1 m) {T : Tx} {lo hi : Int} (hlo : 0 ≤ lo) (hhi : hi ≤ 999) (hlr : lo ≤ 1000) (hhr : -1000 ≤ hi) {p : Nat} (h0 : RG g m T p) : CT w mX10_number [.ref (m), .int (i32 (lo)), .int (i32 (hi))] sh g (iQ sh (fun z g2 => FM g g2 m ∧ z = (numS T lo hi (.inl p)).1 ∧ RS g2 m T (numS T lo hi (.inl p)).2)) := by
  have hX := h0.1
  have h7 := hX.1
  have hsk2 := sk_le h0.2.2.1
  refine j_entry (by decide) rfl (Nat.le_of_ble_eq_true rfl) (fun h => by cases h) rfl ?_
  show J w mX10_number 0 [(0, .ref (m)), (1, .int (i32 (lo))), (2, .int (i32 (hi)))] [] sh g 0 0 _
  refine j_aload_n 1 0 dX10_number_0 rfl rfl ?_
  refine j_callV 4 (As := []) (kc2 := 0) (ks2 := 0) dX10_number_1 rfl mvX10_isGood lk_X10_61 hM.md rfl ⟨Nat.le_of_ble_eq_true rfl, rfl⟩ rfl rfl (Nat.le_of_ble_eq_true rfl) ⟨Nat.le_of_ble_eq_true rfl, Nat.le_of_ble_eq_true rfl⟩ ⟨Nat.le_of_ble_eq_true rfl, Nat.le_of_ble_eq_true rfl⟩ (rp_isGood hM) x_d (k_d1 ?_)
  refine j_top (y := 1) (by rw [decide_eq_true h0.2.2.2.1]; rfl) ?_
  refine j_if_ne 7 9 dX10_number_4 rfl rfl (r32 (by decide) (by decide)) (fun c_4 => ?_) (fun c_4 => absurd c_4 (by decide))
  refine j_aload_n 10 0 dX10_number_9 rfl rfl ?_
  refine j_callV 13 (As := []) (kc2 := 0) (ks2 := 0) dX10_number_10 rfl mvX10_ahead lk_X10_65 hM.md rfl ⟨Nat.le_of_ble_eq_true rfl, rfl⟩ rfl rfl (Nat.le_of_ble_eq_true rfl) ⟨Nat.le_of_ble_eq_true rfl, Nat.le_of_ble_eq_true rfl⟩ ⟨Nat.le_of_ble_eq_true rfl, Nat.le_of_ble_eq_true rfl⟩ (rp_ahead hM hX h0.2.1 h0.2.2.1) x_d (k_d1 ?_)
  rcases numC T (sk T p) lo hi with hA | hA | hA
  ·
    refine j_callS 16 (As := [.int (i32 (byT T (sk T p)))]) (kc2 := 0) (ks2 := 0) dX10_number_13 rfl msX10_isDigit lk_X10_82 rfl rfl (Nat.le_of_ble_eq_true rfl) ⟨Nat.le_of_ble_eq_true rfl, Nat.le_of_ble_eq_true rfl⟩ ⟨Nat.le_of_ble_eq_true rfl, Nat.le_of_ble_eq_true rfl⟩ (rp_isDigit (by have := byT_r hX.2.2.2 (sk T p); exact ⟨by omega, by omega⟩)) x_d (k_d1 ?_)
    refine j_top (y := 1) (by rw [show isD (byT T (sk T p)) = true from dn_lt (T := T) (q := sk T p) (j := 0) (by omega)]; rfl) ?_
    refine j_if_ne 19 31 dX10_number_16 rfl rfl (r32 (by decide) (by decide)) (fun c_16 => ?_) (fun c_16 => absurd c_16 (by decide))
    refine j_aload_n 32 0 dX10_number_31 rfl rfl ?_
    refine j_aload_n 33 0 dX10_number_32 rfl rfl ?_
    refine j_geti 36 dX10_number_33 rfl fl_X10_44 hM.md rfl rfl (fun r_33 => ?_)
    refine j_top (y := ((sk T p : Nat) : Int)) (up2_s) ?_
    refine j_puti 39 dX10_number_36 rfl fl_X10_86 hM.md rfl rfl rfl (r32 (by omega) (by omega)) ?_
    refine j_mn (fun g_36 hg_36 => ?_)
    refine j_mem (hg_36.trans (up2_comm (by decide))) ?_
    refine j_iconst 40 dX10_number_39 rfl ?_
    refine j_istore_n 41 (L2 := [(3, .int (i32 (0))), (0, .ref (m)), (1, .int (i32 (lo))), (2, .int (i32 (hi)))]) dX10_number_40 rfl rfl (Nat.le_of_ble_eq_true rfl) rfl ?_
    suffices lp_41 : ∀ (n_41 : Nat) (k : Nat), dn T (sk T p) - k < n_41 → k ≤ dn T (sk T p) → J w mX10_number 41 [(3, .int (i32 (nuF (fT T (sk T p)) k))), (0, .ref (m)), (1, .int (i32 (lo))), (2, .int (i32 (hi)))] [] sh (up2 (up2 g m 13 (((sk T p) : Nat) : Int)) m 4 (((sk T p) + k : Nat) : Int)) 0 0 (iQ sh (fun z g2 => FM g g2 m ∧ z = (numS T lo hi (.inl p)).1 ∧ RS g2 m T (numS T lo hi (.inl p)).2)) by
      exact lp_41 _ 0 (Nat.lt_succ_self _) (by omega)
    intro n_41
    induction n_41 with
    | zero => intro k h_; exact absurd h_ (Nat.not_lt_zero _)
    | succ n_41 ih_41 =>
      intro k hn_41 hk
      have hnb := nuF_bv k (f := fT T (sk T p)) (fun j hj => of_decide_eq_true (dn_lt (by omega)))
      have hnr : 0 ≤ nuF (fT T (sk T p)) k ∧ nuF (fT T (sk T p)) k ≤ 100000000 := by rw [hnb.2]; split <;> omega
      have hdl : sk T p + dn T (sk T p) ≤ T.2 := rn_le hD hsk2
      refine j_aload_n 42 1 dX10_number_41 rfl rfl ?_
      refine j_aload_n 43 1 dX10_number_42 rfl rfl ?_
      refine j_geti 46 dX10_number_43 rfl fl_X10_44 hM.md rfl rfl (fun r_43 => ?_)
      refine j_top (y := (((sk T p) + k : Nat) : Int)) (up2_s) ?_
      refine j_callV 49 (As := [.int (i32 ((((sk T p) + k : Nat) : Int)))]) (kc2 := 0) (ks2 := 0) dX10_number_46 rfl mvX10_byteAt lk_X10_47 hM.md rfl ⟨Nat.le_of_ble_eq_true rfl, rfl⟩ rfl rfl (Nat.le_of_ble_eq_true rfl) ⟨Nat.le_of_ble_eq_true rfl, Nat.le_of_ble_eq_true rfl⟩ ⟨Nat.le_of_ble_eq_true rfl, Nat.le_of_ble_eq_true rfl⟩ (rp_byteAt hM ((hX.up (by decide)).up (by decide)) (k := (sk T p) + k) (by omega)) x_d (k_d1 ?_)
      refine j_callS 52 (As := [.int (i32 (byT T ((sk T p) + k)))]) (kc2 := 0) (ks2 := 0) dX10_number_49 rfl msX10_isDigit lk_X10_82 rfl rfl (Nat.le_of_ble_eq_true rfl) ⟨Nat.le_of_ble_eq_true rfl, Nat.le_of_ble_eq_true rfl⟩ ⟨Nat.le_of_ble_eq_true rfl, Nat.le_of_ble_eq_true rfl⟩ (rp_isDigit (by have := byT_r hX.2.2.2 ((sk T p) + k); exact ⟨by omega, by omega⟩)) x_d (k_d1 ?_)
      refine j_if_eq 55 90 dX10_number_52 rfl rfl (r01 (b01_r _)) (fun c_52 => ?_) (fun c_52 => ?_)
      · have hkd : k = dn T (sk T p) := by have h : ¬ k < dn T (sk T p) := fun z => b01_ne.mp c_52 ((dn_is hk).mpr z); omega
        subst hkd
        have e9 : fT T (sk T p) = fT T (sk T p) := rfl
        have hnq : (lo ≤ nuF (fT T (sk T p)) (dn T (sk T p)) ∧ nuF (fT T (sk T p)) (dn T (sk T p)) ≤ hi) ↔ (lo ≤ nv T (sk T p) ∧ nv T (sk T p) ≤ hi) := by
          have h1 : nv T (sk T p) = bv (fT T (sk T p)) (dn T (sk T p)) := rfl
          rw [hnb.2, h1]
          split <;> omega
        have hnv : nuF (fT T (sk T p)) (dn T (sk T p)) ≤ 999 → nuF (fT T (sk T p)) (dn T (sk T p)) = nv T (sk T p) := by
          have h1 : nv T (sk T p) = bv (fT T (sk T p)) (dn T (sk T p)) := rfl
          rw [hnb.2, h1]
          split <;> omega
        refine j_iload_n 91 0 dX10_number_90 rfl rfl ?_
        refine j_iload_n 92 2 dX10_number_91 rfl rfl ?_
        refine j_iload_n 93 3 dX10_number_92 rfl rfl ?_
        refine j_callS 96 (As := [.int (i32 (nuF (fT T (sk T p)) (dn T (sk T p)))), .int (i32 (lo)), .int (i32 (hi))]) (kc2 := 0) (ks2 := 0) dX10_number_93 rfl msX10_in lk_X10_57 rfl rfl (Nat.le_of_ble_eq_true rfl) ⟨Nat.le_of_ble_eq_true rfl, Nat.le_of_ble_eq_true rfl⟩ ⟨Nat.le_of_ble_eq_true rfl, Nat.le_of_ble_eq_true rfl⟩ (r_in (r32 (by omega) (by omega)) ⟨by omega, by omega⟩ ⟨by omega, by omega⟩) x_d (k_d1 ?_)
        refine j_top (y := 1) (by rw [decide_eq_true (hnq.mpr hA.2)]; rfl) ?_
        refine j_if_ne 99 109 dX10_number_96 rfl rfl (r32 (by decide) (by decide)) (fun c_96 => ?_) (fun c_96 => absurd c_96 (by decide))
        refine j_aload_n 110 1 dX10_number_109 rfl rfl ?_
        refine j_callV 113 (As := []) (kc2 := 0) (ks2 := 0) dX10_number_110 rfl mvX10_isGood lk_X10_61 hM.md rfl ⟨Nat.le_of_ble_eq_true rfl, rfl⟩ rfl rfl (Nat.le_of_ble_eq_true rfl) ⟨Nat.le_of_ble_eq_true rfl, Nat.le_of_ble_eq_true rfl⟩ ⟨Nat.le_of_ble_eq_true rfl, Nat.le_of_ble_eq_true rfl⟩ (rp_isGood hM) x_d (k_d1 ?_)
        refine j_top (y := 1) (by rw [decide_eq_true (show _ = (0 : Int) by rw [up2_k (by decide), up2_k (by decide)]; exact h0.2.2.2.1)]; rfl) ?_
        refine j_if_eq 116 120 dX10_number_113 rfl rfl (r32 (by decide) (by decide)) (fun c_113 => absurd c_113 (by decide)) (fun c_113 => ?_)
        refine j_iload_n 117 0 dX10_number_116 rfl rfl ?_
        refine j_goto 121 dX10_number_117 rfl ?_
        exact j_iret dX10_number_121 rfl (⟨_, rfl, rfl, (FM.rf.up (by decide)).up (by decide), by rw [numS_1 hA]; exact hnv (by omega), by rw [numS_1 hA]; exact (h0.up (by decide)).mv (by omega)⟩)
      · have hkl := (dn_is hk).mp (Classical.byContradiction fun z => c_52 (b01_ne.mpr z))
        have hby := of_decide_eq_true (dn_lt hkl)
        refine j_ldc 57 dX10_number_55 rfl k1e8 ?_
        refine j_bipush 59 dX10_number_57 rfl (by decide) ?_
        refine j_iload_n 60 0 dX10_number_59 rfl rfl ?_
        refine j_imul 61 dX10_number_60 rfl ?_
        refine j_aload_n 62 1 dX10_number_61 rfl rfl ?_
        refine j_aload_n 63 1 dX10_number_62 rfl rfl ?_
        refine j_geti 66 dX10_number_63 rfl fl_X10_44 hM.md rfl rfl (fun r_63 => ?_)
        refine j_top (y := (((sk T p) + k : Nat) : Int)) (up2_s) ?_
        refine j_callV 69 (As := [.int (i32 ((((sk T p) + k : Nat) : Int)))]) (kc2 := 0) (ks2 := 0) dX10_number_66 rfl mvX10_byteAt lk_X10_47 hM.md rfl ⟨Nat.le_of_ble_eq_true rfl, rfl⟩ rfl rfl (Nat.le_of_ble_eq_true rfl) ⟨Nat.le_of_ble_eq_true rfl, Nat.le_of_ble_eq_true rfl⟩ ⟨Nat.le_of_ble_eq_true rfl, Nat.le_of_ble_eq_true rfl⟩ (rp_byteAt hM ((hX.up (by decide)).up (by decide)) (k := (sk T p) + k) (by omega)) x_d (k_d1 ?_)
        refine j_iadd 70 dX10_number_69 rfl ?_
        refine j_bipush 72 dX10_number_70 rfl (by decide) ?_
        refine j_isub 73 dX10_number_72 rfl ?_
        refine j_top (y := 10 * nuF (fT T (sk T p)) k + byT T ((sk T p) + k) - 48) (by omega) ?_
        refine j_callS 76 (As := [.int (i32 (100000000)), .int (i32 (10 * nuF (fT T (sk T p)) k + byT T ((sk T p) + k) - 48))]) (kc2 := 0) (ks2 := 0) dX10_number_73 rfl msX10_min lk_X10_90 rfl rfl (Nat.le_of_ble_eq_true rfl) ⟨Nat.le_of_ble_eq_true rfl, Nat.le_of_ble_eq_true rfl⟩ ⟨Nat.le_of_ble_eq_true rfl, Nat.le_of_ble_eq_true rfl⟩ (r_min (r32 (by decide) (by decide)) (r32 (by omega) (by omega))) x_d (k_d1 ?_)
        refine j_istore_n 77 (L2 := [(3, .int (i32 (nuF (fT T (sk T p)) (k + 1)))), (0, .ref (m)), (1, .int (i32 (lo))), (2, .int (i32 (hi)))]) dX10_number_76 rfl rfl (Nat.le_of_ble_eq_true rfl) rfl ?_
        refine j_aload_n 78 1 dX10_number_77 rfl rfl ?_
        refine j_dup 79 dX10_number_78 rfl rfl ?_
        refine j_geti 82 dX10_number_79 rfl fl_X10_44 hM.md rfl rfl (fun r_79 => ?_)
        refine j_top (y := (((sk T p) + k : Nat) : Int)) (up2_s) ?_
        refine j_iconst 83 dX10_number_82 rfl ?_
        refine j_iadd 84 dX10_number_83 rfl ?_
        refine j_top (y := (((sk T p) + (k + 1) : Nat) : Int)) (by omega) ?_
        refine j_puti 87 dX10_number_84 rfl fl_X10_44 hM.md rfl rfl rfl (r32 (by omega) (by omega)) ?_
        refine j_mem up2_up2 ?_
        refine j_goto 41 dX10_number_87 rfl ?_
        exact ih_41 (k + 1) (by omega) (by omega)
  ·
    refine j_callS 16 (As := [.int (i32 (byT T (sk T p)))]) (kc2 := 0) (ks2 := 0) dX10_number_13 rfl msX10_isDigit lk_X10_82 rfl rfl (Nat.le_of_ble_eq_true rfl) ⟨Nat.le_of_ble_eq_true rfl, Nat.le_of_ble_eq_true rfl⟩ ⟨Nat.le_of_ble_eq_true rfl, Nat.le_of_ble_eq_true rfl⟩ (rp_isDigit (by have := byT_r hX.2.2.2 (sk T p); exact ⟨by omega, by omega⟩)) x_d (k_d1 ?_)
    refine j_top (y := 0) (by rw [show isD (byT T (sk T p)) = false from (by have h := dn_at (T := T) (q := sk T p); rw [hA] at h; exact h)]; rfl) ?_
    refine j_if_ne 19 31 dX10_number_16 rfl rfl (r32 (by decide) (by decide)) (fun c_16 => absurd c_16 (by decide)) (fun c_16 => ?_)
    refine j_aload_n 20 0 dX10_number_19 rfl rfl ?_
    refine j_bipush 22 dX10_number_20 rfl (by decide) ?_
    refine j_aload_n 23 0 dX10_number_22 rfl rfl ?_
    refine j_geti 26 dX10_number_23 rfl fl_X10_44 hM.md rfl rfl (fun r_23 => ?_)
    refine j_top (y := ((sk T p : Nat) : Int)) (up2_s) ?_
    refine j_callV 29 (As := [.int (i32 (-2)), .int (i32 (((sk T p : Nat) : Int)))]) (kc2 := 0) (ks2 := 0) dX10_number_26 rfl mvX10_report lk_X10_78 hM.md rfl ⟨Nat.le_of_ble_eq_true rfl, rfl⟩ rfl rfl (Nat.le_of_ble_eq_true rfl) ⟨Nat.le_of_ble_eq_true rfl, Nat.le_of_ble_eq_true rfl⟩ ⟨Nat.le_of_ble_eq_true rfl, Nat.le_of_ble_eq_true rfl⟩ (rp_report0 hM (by rw [up2_k (by decide)]; exact h0.2.2.2.1) (r32 (by decide) (by decide)) (r32 (by omega) (by omega))) x_d (k_d0 ?_)
    refine j_iconst 30 dX10_number_29 rfl ?_
    exact j_iret dX10_number_30 rfl (⟨_, rfl, rfl, ((FM.rf.up (by decide)).up (by decide)).up (by decide), by rw [numS_2 hA], by rw [numS_2 hA]; exact (h0.mv hsk2).err (by decide)⟩)
  ·
    refine j_callS 16 (As := [.int (i32 (byT T (sk T p)))]) (kc2 := 0) (ks2 := 0) dX10_number_13 rfl msX10_isDigit lk_X10_82 rfl rfl (Nat.le_of_ble_eq_true rfl) ⟨Nat.le_of_ble_eq_true rfl, Nat.le_of_ble_eq_true rfl⟩ ⟨Nat.le_of_ble_eq_true rfl, Nat.le_of_ble_eq_true rfl⟩ (rp_isDigit (by have := byT_r hX.2.2.2 (sk T p); exact ⟨by omega, by omega⟩)) x_d (k_d1 ?_)
    refine j_top (y := 1) (by rw [show isD (byT T (sk T p)) = true from dn_lt (T := T) (q := sk T p) (j := 0) (by omega)]; rfl) ?_
    refine j_if_ne 19 31 dX10_number_16 rfl rfl (r32 (by decide) (by decide)) (fun c_16 => ?_) (fun c_16 => absurd c_16 (by decide))
    refine j_aload_n 32 0 dX10_number_31 rfl rfl ?_
    refine j_aload_n 33 0 dX10_number_32 rfl rfl ?_
    refine j_geti 36 dX10_number_33 rfl fl_X10_44 hM.md rfl rfl (fun r_33 => ?_)
    refine j_top (y := ((sk T p : Nat) : Int)) (up2_s) ?_
    refine j_puti 39 dX10_number_36 rfl fl_X10_86 hM.md rfl rfl rfl (r32 (by omega) (by omega)) ?_
    refine j_mn (fun g_36 hg_36 => ?_)
    refine j_mem (hg_36.trans (up2_comm (by decide))) ?_
    refine j_iconst 40 dX10_number_39 rfl ?_
    refine j_istore_n 41 (L2 := [(3, .int (i32 (0))), (0, .ref (m)), (1, .int (i32 (lo))), (2, .int (i32 (hi)))]) dX10_number_40 rfl rfl (Nat.le_of_ble_eq_true rfl) rfl ?_
    suffices lp_41 : ∀ (n_41 : Nat) (k : Nat), dn T (sk T p) - k < n_41 → k ≤ dn T (sk T p) → J w mX10_number 41 [(3, .int (i32 (nuF (fT T (sk T p)) k))), (0, .ref (m)), (1, .int (i32 (lo))), (2, .int (i32 (hi)))] [] sh (up2 (up2 g m 13 (((sk T p) : Nat) : Int)) m 4 (((sk T p) + k : Nat) : Int)) 0 0 (iQ sh (fun z g2 => FM g g2 m ∧ z = (numS T lo hi (.inl p)).1 ∧ RS g2 m T (numS T lo hi (.inl p)).2)) by
      exact lp_41 _ 0 (Nat.lt_succ_self _) (by omega)
    intro n_41
    induction n_41 with
    | zero => intro k h_; exact absurd h_ (Nat.not_lt_zero _)
    | succ n_41 ih_41 =>
      intro k hn_41 hk
      have hnb := nuF_bv k (f := fT T (sk T p)) (fun j hj => of_decide_eq_true (dn_lt (by omega)))
      have hnr : 0 ≤ nuF (fT T (sk T p)) k ∧ nuF (fT T (sk T p)) k ≤ 100000000 := by rw [hnb.2]; split <;> omega
      have hdl : sk T p + dn T (sk T p) ≤ T.2 := rn_le hD hsk2
      refine j_aload_n 42 1 dX10_number_41 rfl rfl ?_
      refine j_aload_n 43 1 dX10_number_42 rfl rfl ?_
      refine j_geti 46 dX10_number_43 rfl fl_X10_44 hM.md rfl rfl (fun r_43 => ?_)
      refine j_top (y := (((sk T p) + k : Nat) : Int)) (up2_s) ?_
      refine j_callV 49 (As := [.int (i32 ((((sk T p) + k : Nat) : Int)))]) (kc2 := 0) (ks2 := 0) dX10_number_46 rfl mvX10_byteAt lk_X10_47 hM.md rfl ⟨Nat.le_of_ble_eq_true rfl, rfl⟩ rfl rfl (Nat.le_of_ble_eq_true rfl) ⟨Nat.le_of_ble_eq_true rfl, Nat.le_of_ble_eq_true rfl⟩ ⟨Nat.le_of_ble_eq_true rfl, Nat.le_of_ble_eq_true rfl⟩ (rp_byteAt hM ((hX.up (by decide)).up (by decide)) (k := (sk T p) + k) (by omega)) x_d (k_d1 ?_)
      refine j_callS 52 (As := [.int (i32 (byT T ((sk T p) + k)))]) (kc2 := 0) (ks2 := 0) dX10_number_49 rfl msX10_isDigit lk_X10_82 rfl rfl (Nat.le_of_ble_eq_true rfl) ⟨Nat.le_of_ble_eq_true rfl, Nat.le_of_ble_eq_true rfl⟩ ⟨Nat.le_of_ble_eq_true rfl, Nat.le_of_ble_eq_true rfl⟩ (rp_isDigit (by have := byT_r hX.2.2.2 ((sk T p) + k); exact ⟨by omega, by omega⟩)) x_d (k_d1 ?_)
      refine j_if_eq 55 90 dX10_number_52 rfl rfl (r01 (b01_r _)) (fun c_52 => ?_) (fun c_52 => ?_)
      · have hkd : k = dn T (sk T p) := by have h : ¬ k < dn T (sk T p) := fun z => b01_ne.mp c_52 ((dn_is hk).mpr z); omega
        subst hkd
        have e9 : fT T (sk T p) = fT T (sk T p) := rfl
        have hnq : (lo ≤ nuF (fT T (sk T p)) (dn T (sk T p)) ∧ nuF (fT T (sk T p)) (dn T (sk T p)) ≤ hi) ↔ (lo ≤ nv T (sk T p) ∧ nv T (sk T p) ≤ hi) := by
          have h1 : nv T (sk T p) = bv (fT T (sk T p)) (dn T (sk T p)) := rfl
          rw [hnb.2, h1]
          split <;> omega
        have hnv : nuF (fT T (sk T p)) (dn T (sk T p)) ≤ 999 → nuF (fT T (sk T p)) (dn T (sk T p)) = nv T (sk T p) := by
          have h1 : nv T (sk T p) = bv (fT T (sk T p)) (dn T (sk T p)) := rfl
          rw [hnb.2, h1]
          split <;> omega
        refine j_iload_n 91 0 dX10_number_90 rfl rfl ?_
        refine j_iload_n 92 2 dX10_number_91 rfl rfl ?_
        refine j_iload_n 93 3 dX10_number_92 rfl rfl ?_
        refine j_callS 96 (As := [.int (i32 (nuF (fT T (sk T p)) (dn T (sk T p)))), .int (i32 (lo)), .int (i32 (hi))]) (kc2 := 0) (ks2 := 0) dX10_number_93 rfl msX10_in lk_X10_57 rfl rfl (Nat.le_of_ble_eq_true rfl) ⟨Nat.le_of_ble_eq_true rfl, Nat.le_of_ble_eq_true rfl⟩ ⟨Nat.le_of_ble_eq_true rfl, Nat.le_of_ble_eq_true rfl⟩ (r_in (r32 (by omega) (by omega)) ⟨by omega, by omega⟩ ⟨by omega, by omega⟩) x_d (k_d1 ?_)
        refine j_top (y := 0) (by rw [decide_eq_false (fun z => hA.2 (hnq.mp z))]; rfl) ?_
        refine j_if_ne 99 109 dX10_number_96 rfl rfl (r32 (by decide) (by decide)) (fun c_96 => absurd c_96 (by decide)) (fun c_96 => ?_)
        refine j_aload_n 100 1 dX10_number_99 rfl rfl ?_
        refine j_bipush 102 dX10_number_100 rfl (by decide) ?_
        refine j_aload_n 103 1 dX10_number_102 rfl rfl ?_
        refine j_geti 106 dX10_number_103 rfl fl_X10_86 hM.md rfl rfl (fun r_103 => ?_)
        refine j_top (y := (((sk T p) : Nat) : Int)) ((by rw [up2_k (by decide)]; exact up2_s)) ?_
        refine j_callV 109 (As := [.int (i32 (-3)), .int (i32 ((((sk T p) : Nat) : Int)))]) (kc2 := 0) (ks2 := 0) dX10_number_106 rfl mvX10_report lk_X10_78 hM.md rfl ⟨Nat.le_of_ble_eq_true rfl, rfl⟩ rfl rfl (Nat.le_of_ble_eq_true rfl) ⟨Nat.le_of_ble_eq_true rfl, Nat.le_of_ble_eq_true rfl⟩ ⟨Nat.le_of_ble_eq_true rfl, Nat.le_of_ble_eq_true rfl⟩ (rp_report0 hM (by rw [up2_k (by decide), up2_k (by decide)]; exact h0.2.2.2.1) (r32 (by decide) (by decide)) (r32 (by omega) (by omega))) x_d (k_d0 ?_)
        refine j_aload_n 110 1 dX10_number_109 rfl rfl ?_
        refine j_callV 113 (As := []) (kc2 := 0) (ks2 := 0) dX10_number_110 rfl mvX10_isGood lk_X10_61 hM.md rfl ⟨Nat.le_of_ble_eq_true rfl, rfl⟩ rfl rfl (Nat.le_of_ble_eq_true rfl) ⟨Nat.le_of_ble_eq_true rfl, Nat.le_of_ble_eq_true rfl⟩ ⟨Nat.le_of_ble_eq_true rfl, Nat.le_of_ble_eq_true rfl⟩ (rp_isGood hM) x_d (k_d1 ?_)
        refine j_top (y := 0) (by rw [up2_k (by decide), up2_s]; rfl) ?_
        refine j_if_eq 116 120 dX10_number_113 rfl rfl (r32 (by decide) (by decide)) (fun c_113 => ?_) (fun c_113 => absurd c_113 (by decide))
        refine j_iconst 121 dX10_number_120 rfl ?_
        exact j_iret dX10_number_121 rfl (⟨_, rfl, rfl, (((FM.rf.up (by decide)).up (by decide)).up (by decide)).up (by decide), by rw [numS_3 hA], by rw [numS_3 hA]; exact ((h0.up (by decide)).mv (q := sk T p + dn T (sk T p)) (by omega)).err (by decide)⟩)
      · have hkl := (dn_is hk).mp (Classical.byContradiction fun z => c_52 (b01_ne.mpr z))
        have hby := of_decide_eq_true (dn_lt hkl)
        refine j_ldc 57 dX10_number_55 rfl k1e8 ?_
        refine j_bipush 59 dX10_number_57 rfl (by decide) ?_
        refine j_iload_n 60 0 dX10_number_59 rfl rfl ?_
        refine j_imul 61 dX10_number_60 rfl ?_
        refine j_aload_n 62 1 dX10_number_61 rfl rfl ?_
        refine j_aload_n 63 1 dX10_number_62 rfl rfl ?_
        refine j_geti 66 dX10_number_63 rfl fl_X10_44 hM.md rfl rfl (fun r_63 => ?_)
        refine j_top (y := (((sk T p) + k : Nat) : Int)) (up2_s) ?_
        refine j_callV 69 (As := [.int (i32 ((((sk T p) + k : Nat) : Int)))]) (kc2 := 0) (ks2 := 0) dX10_number_66 rfl mvX10_byteAt lk_X10_47 hM.md rfl ⟨Nat.le_of_ble_eq_true rfl, rfl⟩ rfl rfl (Nat.le_of_ble_eq_true rfl) ⟨Nat.le_of_ble_eq_true rfl, Nat.le_of_ble_eq_true rfl⟩ ⟨Nat.le_of_ble_eq_true rfl, Nat.le_of_ble_eq_true rfl⟩ (rp_byteAt hM ((hX.up (by decide)).up (by decide)) (k := (sk T p) + k) (by omega)) x_d (k_d1 ?_)
        refine j_iadd 70 dX10_number_69 rfl ?_
        refine j_bipush 72 dX10_number_70 rfl (by decide) ?_
        refine j_isub 73 dX10_number_72 rfl ?_
        refine j_top (y := 10 * nuF (fT T (sk T p)) k + byT T ((sk T p) + k) - 48) (by omega) ?_
        refine j_callS 76 (As := [.int (i32 (100000000)), .int (i32 (10 * nuF (fT T (sk T p)) k + byT T ((sk T p) + k) - 48))]) (kc2 := 0) (ks2 := 0) dX10_number_73 rfl msX10_min lk_X10_90 rfl rfl (Nat.le_of_ble_eq_true rfl) ⟨Nat.le_of_ble_eq_true rfl, Nat.le_of_ble_eq_true rfl⟩ ⟨Nat.le_of_ble_eq_true rfl, Nat.le_of_ble_eq_true rfl⟩ (r_min (r32 (by decide) (by decide)) (r32 (by omega) (by omega))) x_d (k_d1 ?_)
        refine j_istore_n 77 (L2 := [(3, .int (i32 (nuF (fT T (sk T p)) (k + 1)))), (0, .ref (m)), (1, .int (i32 (lo))), (2, .int (i32 (hi)))]) dX10_number_76 rfl rfl (Nat.le_of_ble_eq_true rfl) rfl ?_
        refine j_aload_n 78 1 dX10_number_77 rfl rfl ?_
        refine j_dup 79 dX10_number_78 rfl rfl ?_
        refine j_geti 82 dX10_number_79 rfl fl_X10_44 hM.md rfl rfl (fun r_79 => ?_)
        refine j_top (y := (((sk T p) + k : Nat) : Int)) (up2_s) ?_
        refine j_iconst 83 dX10_number_82 rfl ?_
        refine j_iadd 84 dX10_number_83 rfl ?_
        refine j_top (y := (((sk T p) + (k + 1) : Nat) : Int)) (by omega) ?_
        refine j_puti 87 dX10_number_84 rfl fl_X10_44 hM.md rfl rfl rfl (r32 (by omega) (by omega)) ?_
        refine j_mem up2_up2 ?_
        refine j_goto 41 dX10_number_87 rfl ?_
        exact ih_41 (k + 1) (by omega) (by omega)

set_option maxRecDepth 20000 in
theorem rp_numberE {w : Wd} {sh : Shp} {g : Mem} {m : Nat} (hM : MdS sh.1 m) {T : Tx} {lo hi : Int} (hlo : 0 ≤ lo) (hhi : hi ≤ 999) (hlr : lo ≤ 1000) (hhr : -1000 ≤ hi) {e : PE} (h0 : RE g m T e) : CT w mX10_number [.ref (m), .int (i32 (lo)), .int (i32 (hi))] sh g (iQ sh (fun z g2 => FM g g2 m ∧ z = (numS T lo hi (.inr e)).1 ∧ RS g2 m T (numS T lo hi (.inr e)).2)) := by
  have hX := h0.1
  have h7 := hX.1
  obtain ⟨p, hp4, hpT⟩ := h0.2.1
  have hsk2 := sk_le hpT
  have h5 := h0.2.2.1
  have h51 := h0.2.2.2.2
  refine j_entry (by decide) rfl (Nat.le_of_ble_eq_true rfl) (fun h => by cases h) rfl ?_
  show J w mX10_number 0 [(0, .ref (m)), (1, .int (i32 (lo))), (2, .int (i32 (hi)))] [] sh g 0 0 _
  refine j_aload_n 1 0 dX10_number_0 rfl rfl ?_
  refine j_callV 4 (As := []) (kc2 := 0) (ks2 := 0) dX10_number_1 rfl mvX10_isGood lk_X10_61 hM.md rfl ⟨Nat.le_of_ble_eq_true rfl, rfl⟩ rfl rfl (Nat.le_of_ble_eq_true rfl) ⟨Nat.le_of_ble_eq_true rfl, Nat.le_of_ble_eq_true rfl⟩ ⟨Nat.le_of_ble_eq_true rfl, Nat.le_of_ble_eq_true rfl⟩ (rp_isGood hM) x_d (k_d1 ?_)
  refine j_top (y := 0) (by rw [decide_eq_false (show ¬ _ = (0 : Int) by have := h51; omega)]; rfl) ?_
  refine j_if_ne 7 9 dX10_number_4 rfl rfl (r32 (by decide) (by decide)) (fun c_4 => absurd c_4 (by decide)) (fun c_4 => ?_)
  refine j_iconst 8 dX10_number_7 rfl ?_
  exact j_iret dX10_number_8 rfl (⟨_, rfl, rfl, FM.rf, rfl, h0⟩)

theorem rp_number {w : Wd} {sh : Shp} {g : Mem} {m : Nat} (hM : MdS sh.1 m) {T : Tx} {lo hi : Int} (hlo : 0 ≤ lo) (hhi : hi ≤ 999) (hlr : lo ≤ 1000) (hhr : -1000 ≤ hi) {st : Sx} (h0 : RS g m T st) : CT w mX10_number [.ref m, .int (i32 lo), .int (i32 hi)] sh g (iQ sh (fun z g2 => FM g g2 m ∧ z = (numS T lo hi st).1 ∧ RS g2 m T (numS T lo hi st).2)) := by
  cases st with
  | inl p => exact rp_numberG hM hlo hhi hlr hhr h0
  | inr e => exact rp_numberE hM hlo hhi hlr hhr h0
