/-! the reader of the class: its tokens -/
def kRd (R tx : Nat) : Kd := (7, 0, fun j => match j with | 0 => some (R + 1) | 3 => some tx | _ => none)
def RdS (sh : Nat → Option Kd) (R tx : Nat) : Prop := sh R = some (kRd R tx) ∧ ExS sh (R + 1) ∧ sh tx = some (11, 700, kN)
theorem RdS.rd {sh : Nat → Option Kd} {R tx : Nat} (h : RdS sh R tx) : sh R = some (kRd R tx) := h.1
theorem RdS.told {sh : Nat → Option Kd} {R tx : Nat} (h : RdS sh R tx) : ExS sh (R + 1) := h.2.1
theorem RdS.txt {sh : Nat → Option Kd} {R tx : Nat} (h : RdS sh R tx) : sh tx = some (11, 700, kN) := h.2.2
/-- the text lies in the memory -/
def TxR (g : Mem) (R tx : Nat) (T : Tx) : Prop := T.2 ≤ 700 ∧ g R 4 = (T.2 : Int) ∧ (∀ k, k < T.2 → g tx k = sb (T.1 k)) ∧ ∀ k, 0 ≤ T.1 k ∧ T.1 k ≤ 255
def sgn (T : Tx) (k : Nat) : Int := if k < T.2 then sb (T.1 k) else 0
def kindI (x : Int) : Int := if 48 ≤ x ∧ x ≤ 57 then 1 else if 97 ≤ x ∧ x ≤ 122 then 2 else if x = 59 then 3 else 4
def nmF (f : Nat → Int) : Nat → Int
  | 0 => 0
  | n + 1 => if nmF f n < 1000 then nmF f n * 10 + (f n - 48) else 1000
def rwF (f : Nat → Int) : Nat → Int
  | 0 => 1
  | n + 1 => if n < 6 then rwF f n * 10 + (f n - 48) else 0
def naF (f : Nat → Int) : Nat → Int
  | 0 => 0
  | n + 1 => if n < 8 then naF f n * 27 + (f n - 97 + 1) else 0
/-- the reader at a place, with a token of the kind κ begun at q, of which k signs are read -/
def tokM (g : Mem) (R pl q : Nat) (κ : Int) (k : Nat) (f : Nat → Int) : Mem := fun a j => if a = R then (if j = 5 then (pl : Int) else if j = 9 then κ else if j = 10 then (q : Int) else if j = 11 then (k : Int) else if j = 12 then (if κ = 1 then nmF f k else 0) else if j = 13 then (if κ = 1 then rwF f k else 1) else if j = 14 then (if κ = 2 then naF f k else 0) else g a j) else g a j
section TK
variable {T : Tx} {g : Mem} {R tx pl q k : Nat} {κ : Int} {f : Nat → Int}
theorem sgn_D (hT : ∀ k, 0 ≤ T.1 k ∧ T.1 k ≤ 255) (k : Nat) : (48 ≤ sgn T k ∧ sgn T k ≤ 57) ↔ isD (byT T k) = true := by
  unfold sgn byT isD sb
  rw [decide_eq_true_iff]
  have := hT k
  split
  · split <;> omega
  · omega
theorem sgn_L (hT : ∀ k, 0 ≤ T.1 k ∧ T.1 k ≤ 255) (k : Nat) : (97 ≤ sgn T k ∧ sgn T k ≤ 122) ↔ isL (byT T k) = true := by
  unfold sgn byT isL sb
  rw [decide_eq_true_iff]
  have := hT k
  split
  · split <;> omega
  · omega
theorem sgn_eq (hT : ∀ k, 0 ≤ T.1 k ∧ T.1 k ≤ 255) {k : Nat} {c : Int} (hc : 1 ≤ c ∧ c ≤ 127) : sgn T k = c ↔ byT T k = c := by
  unfold sgn byT sb
  have := hT k
  split
  · split <;> omega
  · omega
theorem sgn_r (hT : ∀ k, 0 ≤ T.1 k ∧ T.1 k ≤ 255) (k : Nat) : -128 ≤ sgn T k ∧ sgn T k ≤ 127 := by
  unfold sgn sb
  have := hT k
  split
  · split <;> omega
  · omega
theorem kindI_1 (hT : ∀ k, 0 ≤ T.1 k ∧ T.1 k ≤ 255) {k : Nat} : kindI (sgn T k) = 1 ↔ isD (byT T k) = true := by
  rw [← sgn_D hT]
  unfold kindI
  constructor
  · intro h
    split at h
    · assumption
    · split at h
      · omega
      · split at h <;> omega
  · intro h; rw [if_pos h]
theorem kindI_2 (hT : ∀ k, 0 ≤ T.1 k ∧ T.1 k ≤ 255) {k : Nat} : kindI (sgn T k) = 2 ↔ isL (byT T k) = true := by
  rw [← sgn_L hT]
  unfold kindI
  constructor
  · intro h
    split at h
    · omega
    · split at h
      · assumption
      · split at h <;> omega
  · intro h; rw [if_neg (by omega), if_pos h]
theorem kindI_3 (hT : ∀ k, 0 ≤ T.1 k ∧ T.1 k ≤ 255) {k : Nat} : kindI (sgn T k) = 3 ↔ byT T k = 59 := by
  rw [← sgn_eq hT (by decide)]
  unfold kindI
  constructor
  · intro h
    split at h
    · omega
    · split at h
      · omega
      · split at h
        · assumption
        · omega
  · intro h; rw [if_neg (by omega), if_neg (by omega), if_pos h]
theorem kindI_r (x : Int) : 1 ≤ kindI x ∧ kindI x ≤ 4 := by
  unfold kindI
  split
  · omega
  · split
    · omega
    · split <;> omega
/-- kind and size of the token at q -/
def kdT (T : Tx) (q : Nat) : Int := if q < T.2 then kindI (sgn T q) else 0
def szT (T : Tx) (q : Nat) : Nat := if kdT T q = 1 then dn T q else if kdT T q = 2 then ln T q else if kdT T q = 0 then 0 else 1
theorem nmF_r (h : ∀ j, j < k → 48 ≤ f j ∧ f j ≤ 57) : 0 ≤ nmF f k ∧ nmF f k ≤ 9999 := by
  induction k with
  | zero => exact ⟨Int.le_refl 0, show (0 : Int) ≤ 9999 by decide⟩
  | succ k ih =>
    have := ih (fun j hj => h j (by omega))
    have := h k (by omega)
    unfold nmF
    split <;> omega
theorem rwF_r (h : ∀ j, j < k → 48 ≤ f j ∧ f j ≤ 57) : 0 ≤ rwF f k ∧ rwF f k < 2000000 ∧ (k ≤ 6 → rwF f k = pw k + bv f k) ∧ (6 < k → rwF f k = 0) := by
  have hb : ∀ k, (∀ j, j < k → 48 ≤ f j ∧ f j ≤ 57) → bdB f k = true := by
    intro k
    induction k with
    | zero => intro _; rfl
    | succ k ih => intro h; exact bdB_s (ih (fun j hj => h j (by omega))) (h k (by omega)).1 (h k (by omega)).2
  have key : ∀ k, (∀ j, j < k → 48 ≤ f j ∧ f j ≤ 57) → k ≤ 6 → rwF f k = pw k + bv f k := by
    intro k
    induction k with
    | zero => intro _ _; rfl
    | succ k ih =>
      intro h hk
      show (if k < 6 then rwF f k * 10 + (f k - 48) else 0) = pw k * 10 + (10 * bv f k + f k - 48)
      rw [if_pos (by omega), ih (fun j hj => h j (by omega)) (by omega)]
      omega
  have k0 : 6 < k → rwF f k = 0 := fun hk => by
    obtain ⟨j, rfl⟩ : ∃ j, k = j + 1 := ⟨k - 1, by omega⟩
    show (if j < 6 then rwF f j * 10 + (f j - 48) else 0) = 0
    rw [if_neg (by omega)]
  by_cases h6 : k ≤ 6
  · have e := key k h h6
    have hr := bv_rng (hb k h)
    have hp : pw k ≤ pw 6 := pw_le h6
    have hp6 : pw 6 = 1000000 := rfl
    have hpp := pw_pos k
    rw [e]
    exact ⟨by omega, by omega, fun _ => rfl, fun q => absurd q (by omega)⟩
  · have e := k0 (by omega)
    rw [e]
    exact ⟨by decide, by decide, fun q => absurd q h6, fun _ => rfl⟩
theorem nmF_bv (h : ∀ j, j < k → 48 ≤ f j ∧ f j ≤ 57) : (bv f k < 1000 → nmF f k = bv f k) ∧ (1000 ≤ bv f k → 1000 ≤ nmF f k) ∧ 0 ≤ bv f k := by
  induction k with
  | zero => exact ⟨fun _ => rfl, fun q => absurd (show (1000 : Int) ≤ 0 from q) (by decide), Int.le_refl 0⟩
  | succ k ih =>
    have h1 := ih (fun j hj => h j (by omega))
    have h2 := h k (by omega)
    show (10 * bv f k + f k - 48 < 1000 → (if nmF f k < 1000 then nmF f k * 10 + (f k - 48) else 1000) = 10 * bv f k + f k - 48) ∧ (1000 ≤ 10 * bv f k + f k - 48 → 1000 ≤ (if nmF f k < 1000 then nmF f k * 10 + (f k - 48) else 1000)) ∧ 0 ≤ 10 * bv f k + f k - 48
    by_cases hq : bv f k < 1000
    · rw [h1.1 hq, if_pos hq]
      exact ⟨fun _ => by omega, fun _ => by omega, by omega⟩
    · have := h1.2.1 (by omega)
      rw [if_neg (by omega)]
      exact ⟨fun q => by omega, fun _ => by omega, by omega⟩
theorem naF_r (h : ∀ j, j < k → 97 ≤ f j ∧ f j ≤ 122) : 0 ≤ naF f k ∧ naF f k < 282429536481 ∧ (k ≤ 8 → naF f k = l27 f k) := by
  have key : ∀ k, (∀ j, j < k → 97 ≤ f j ∧ f j ≤ 122) → k ≤ 8 → naF f k = l27 f k ∧ 0 ≤ naF f k ∧ naF f k < 27 ^ k := by
    intro k
    induction k with
    | zero => intro _ _; exact ⟨rfl, Int.le_refl 0, show (0 : Int) < 27 ^ 0 by decide⟩
    | succ k ih =>
      intro h hk
      obtain ⟨a1, a2, a3⟩ := ih (fun j hj => h j (by omega)) (by omega)
      have h2 := h k (by omega)
      have e : naF f (k + 1) = naF f k * 27 + (f k - 97 + 1) := by show (if k < 8 then naF f k * 27 + (f k - 97 + 1) else 0) = _; rw [if_pos (by omega)]
      have e2 : (27 : Int) ^ (k + 1) = 27 ^ k * 27 := rfl
      rw [e, e2]
      refine ⟨?_, by omega, by omega⟩
      show _ = 27 * l27 f k + (f k - 96)
      rw [← a1]; omega
  by_cases h8 : k ≤ 8
  · obtain ⟨a1, a2, a3⟩ := key k h h8
    have hp : (27 : Int) ^ k ≤ 282429536481 := (by decide : ∀ k, k < 9 → (27 : Int) ^ k ≤ 282429536481) k (by omega)
    exact ⟨a2, by omega, fun _ => a1⟩
  · obtain ⟨j, rfl⟩ : ∃ j, k = j + 1 := ⟨k - 1, by omega⟩
    have e : naF f (j + 1) = 0 := by show (if j < 8 then naF f j * 27 + (f j - 97 + 1) else 0) = 0; rw [if_neg (by omega)]
    rw [e]
    exact ⟨by decide, by decide, fun q => absurd q h8⟩
theorem tokM_o {a : Nat} (h : a ≠ R) : tokM g R pl q κ k f a = g a := funext fun j => if_neg h
theorem tokM_at {j : Nat} : tokM g R pl q κ k f R j = (if j = 5 then (pl : Int) else if j = 9 then κ else if j = 10 then (q : Int) else if j = 11 then (k : Int) else if j = 12 then (if κ = 1 then nmF f k else 0) else if j = 13 then (if κ = 1 then rwF f k else 1) else if j = 14 then (if κ = 2 then naF f k else 0) else g R j) := if_pos rfl
end TK

set_option maxRecDepth 20000 in
theorem c_signAt {w : Wd} {sh : Shp} {g : Mem} {R tx : Nat} (hR : RdS sh.1 R tx) {T : Tx} (hX : TxR g R tx T) {k : Nat} (hk : k ≤ 100000) : CT w mX8_signAt [.ref (R), .int (i32 ((k : Int)))] sh g (dQ (some (.int (i32 (sgn T k)))) sh g) := by
  have hT7 := hX.1
  refine j_entry (by decide) rfl (Nat.le_of_ble_eq_true rfl) (fun h => by cases h) rfl ?_
  show J w mX8_signAt 0 [(0, .ref (R)), (1, .int (i32 ((k : Int))))] [] sh g 0 0 _
  refine j_iload_n 1 1 dX8_signAt_0 rfl rfl ?_
  refine j_if_lt 4 30 dX8_signAt_1 rfl rfl (r32 (by omega) (by omega)) (fun c_1 => absurd c_1 (by omega)) (fun c_1 => ?_)
  refine j_iload_n 5 1 dX8_signAt_4 rfl rfl ?_
  refine j_aload_n 6 0 dX8_signAt_5 rfl rfl ?_
  refine j_geti 9 dX8_signAt_6 rfl fl_X8_22 hR.rd rfl rfl (fun r_6 => ?_)
  refine j_top (y := (T.2 : Int)) (hX.2.1) ?_
  refine j_icmp_ge 12 30 dX8_signAt_9 rfl rfl (r32 (by omega) (by omega)) (r32 (by omega) (by omega)) (fun c_9 => ?_) (fun c_9 => ?_)
  · have hz : sgn T k = 0 := if_neg (by omega)
    refine j_iconst 31 dX8_signAt_30 rfl ?_
    exact j_iret dX8_signAt_31 rfl (q_i (by first | rfl | exact hz.symm))
  · refine j_iload_n 13 1 dX8_signAt_12 rfl rfl ?_
    refine j_aload_n 14 0 dX8_signAt_13 rfl rfl ?_
    refine j_getr 17 dX8_signAt_14 rfl fl_X8_18 hR.rd rfl (fun _ _ => rfl) rfl ?_
    refine j_alen 18 dX8_signAt_17 rfl hR.txt (Nat.le_of_ble_eq_true rfl) rfl ?_
    refine j_top (y := 700) rfl ?_
    refine j_icmp_ge 21 30 dX8_signAt_18 rfl rfl (r32 (by omega) (by omega)) (r32 (by decide) (by decide)) (fun c_18 => absurd c_18 (by omega)) (fun c_18 => ?_)
    refine j_aload_n 22 0 dX8_signAt_21 rfl rfl ?_
    refine j_getr 25 dX8_signAt_22 rfl fl_X8_18 hR.rd rfl (fun _ _ => rfl) rfl ?_
    refine j_iload_n 26 1 dX8_signAt_25 rfl rfl ?_
    refine j_bald 27 ((k : Int)).toNat dX8_signAt_26 rfl hR.txt rfl (by omega) (show ((k : Int)).toNat < 700 by omega) (fun r_26 => ?_)
    refine j_top (y := sgn T k) ((hX.2.2.1 k (by omega)).trans (if_pos (by omega)).symm) ?_
    refine j_goto 31 dX8_signAt_27 rfl ?_
    exact j_iret dX8_signAt_31 rfl (q_i (by first | rfl | exact hz.symm))

set_option maxRecDepth 20000 in
theorem c_kindOf {w : Wd} {sh : Shp} {g : Mem} {x : Int} (hx : R32 x) : CT w mX8_kindOf [.int (i32 (x))] sh g (dQ (some (.int (i32 (kindI x)))) sh g) := by
  refine j_entry (by decide) rfl (Nat.le_of_ble_eq_true rfl) (fun h => by cases h) rfl ?_
  show J w mX8_kindOf 0 [(0, .int (i32 (x)))] [] sh g 0 0 _
  refine j_iload_n 1 0 dX8_kindOf_0 rfl rfl ?_
  refine j_bipush 3 dX8_kindOf_1 rfl (by decide) ?_
  refine j_icmp_lt 6 14 dX8_kindOf_3 rfl rfl hx (r32 (by decide) (by decide)) (fun c_3 => ?_) (fun c_3 => ?_)
  · refine j_iload_n 15 0 dX8_kindOf_14 rfl rfl ?_
    refine j_bipush 17 dX8_kindOf_15 rfl (by decide) ?_
    refine j_icmp_lt 20 28 dX8_kindOf_17 rfl rfl hx (r32 (by decide) (by decide)) (fun c_17 => ?_) (fun c_17 => ?_)
    · refine j_iload_n 29 0 dX8_kindOf_28 rfl rfl ?_
      refine j_bipush 31 dX8_kindOf_29 rfl (by decide) ?_
      refine j_icmp_ne 34 38 dX8_kindOf_31 rfl rfl hx (r32 (by decide) (by decide)) (fun c_31 => ?_) (fun c_31 => ?_)
      · refine j_iconst 39 dX8_kindOf_38 rfl ?_
        exact j_iret dX8_kindOf_39 rfl (q_i (by first | (exfalso; omega) | skip; unfold kindI; rw [if_neg (by omega), if_neg (by omega)]; first | (rw [if_pos (by omega)]) | (rw [if_neg (by omega)])))
      · refine j_iconst 35 dX8_kindOf_34 rfl ?_
        refine j_goto 39 dX8_kindOf_35 rfl ?_
        exact j_iret dX8_kindOf_39 rfl (q_i (by first | (exfalso; omega) | skip; unfold kindI; rw [if_neg (by omega), if_neg (by omega)]; first | (rw [if_pos (by omega)]) | (rw [if_neg (by omega)])))
    · refine j_iload_n 21 0 dX8_kindOf_20 rfl rfl ?_
      refine j_bipush 23 dX8_kindOf_21 rfl (by decide) ?_
      refine j_icmp_gt 26 28 dX8_kindOf_23 rfl rfl hx (r32 (by decide) (by decide)) (fun c_23 => ?_) (fun c_23 => ?_)
      · refine j_iload_n 29 0 dX8_kindOf_28 rfl rfl ?_
        refine j_bipush 31 dX8_kindOf_29 rfl (by decide) ?_
        refine j_icmp_ne 34 38 dX8_kindOf_31 rfl rfl hx (r32 (by decide) (by decide)) (fun c_31 => ?_) (fun c_31 => ?_)
        · refine j_iconst 39 dX8_kindOf_38 rfl ?_
          exact j_iret dX8_kindOf_39 rfl (q_i (by first | (exfalso; omega) | skip; unfold kindI; rw [if_neg (by omega), if_neg (by omega)]; first | (rw [if_pos (by omega)]) | (rw [if_neg (by omega)])))
        · refine j_iconst 35 dX8_kindOf_34 rfl ?_
          refine j_goto 39 dX8_kindOf_35 rfl ?_
          exact j_iret dX8_kindOf_39 rfl (q_i (by first | (exfalso; omega) | skip; unfold kindI; rw [if_neg (by omega), if_neg (by omega)]; first | (rw [if_pos (by omega)]) | (rw [if_neg (by omega)])))
      · refine j_iconst 27 dX8_kindOf_26 rfl ?_
        exact j_iret dX8_kindOf_27 rfl (q_i (by first | (exfalso; omega) | skip; unfold kindI; rw [if_neg (by omega), if_pos (by omega)]))
  · refine j_iload_n 7 0 dX8_kindOf_6 rfl rfl ?_
    refine j_bipush 9 dX8_kindOf_7 rfl (by decide) ?_
    refine j_icmp_gt 12 14 dX8_kindOf_9 rfl rfl hx (r32 (by decide) (by decide)) (fun c_9 => ?_) (fun c_9 => ?_)
    · refine j_iload_n 15 0 dX8_kindOf_14 rfl rfl ?_
      refine j_bipush 17 dX8_kindOf_15 rfl (by decide) ?_
      refine j_icmp_lt 20 28 dX8_kindOf_17 rfl rfl hx (r32 (by decide) (by decide)) (fun c_17 => ?_) (fun c_17 => ?_)
      · refine j_iload_n 29 0 dX8_kindOf_28 rfl rfl ?_
        refine j_bipush 31 dX8_kindOf_29 rfl (by decide) ?_
        refine j_icmp_ne 34 38 dX8_kindOf_31 rfl rfl hx (r32 (by decide) (by decide)) (fun c_31 => ?_) (fun c_31 => ?_)
        · refine j_iconst 39 dX8_kindOf_38 rfl ?_
          exact j_iret dX8_kindOf_39 rfl (q_i (by first | (exfalso; omega) | skip; unfold kindI; rw [if_neg (by omega), if_neg (by omega)]; first | (rw [if_pos (by omega)]) | (rw [if_neg (by omega)])))
        · refine j_iconst 35 dX8_kindOf_34 rfl ?_
          refine j_goto 39 dX8_kindOf_35 rfl ?_
          exact j_iret dX8_kindOf_39 rfl (q_i (by first | (exfalso; omega) | skip; unfold kindI; rw [if_neg (by omega), if_neg (by omega)]; first | (rw [if_pos (by omega)]) | (rw [if_neg (by omega)])))
      · refine j_iload_n 21 0 dX8_kindOf_20 rfl rfl ?_
        refine j_bipush 23 dX8_kindOf_21 rfl (by decide) ?_
        refine j_icmp_gt 26 28 dX8_kindOf_23 rfl rfl hx (r32 (by decide) (by decide)) (fun c_23 => ?_) (fun c_23 => ?_)
        · refine j_iload_n 29 0 dX8_kindOf_28 rfl rfl ?_
          refine j_bipush 31 dX8_kindOf_29 rfl (by decide) ?_
          refine j_icmp_ne 34 38 dX8_kindOf_31 rfl rfl hx (r32 (by decide) (by decide)) (fun c_31 => ?_) (fun c_31 => ?_)
          · refine j_iconst 39 dX8_kindOf_38 rfl ?_
            exact j_iret dX8_kindOf_39 rfl (q_i (by first | (exfalso; omega) | skip; unfold kindI; rw [if_neg (by omega), if_neg (by omega)]; first | (rw [if_pos (by omega)]) | (rw [if_neg (by omega)])))
          · refine j_iconst 35 dX8_kindOf_34 rfl ?_
            refine j_goto 39 dX8_kindOf_35 rfl ?_
            exact j_iret dX8_kindOf_39 rfl (q_i (by first | (exfalso; omega) | skip; unfold kindI; rw [if_neg (by omega), if_neg (by omega)]; first | (rw [if_pos (by omega)]) | (rw [if_neg (by omega)])))
        · refine j_iconst 27 dX8_kindOf_26 rfl ?_
          exact j_iret dX8_kindOf_27 rfl (q_i (by first | (exfalso; omega) | skip; unfold kindI; rw [if_neg (by omega), if_pos (by omega)]))
    · refine j_iconst 13 dX8_kindOf_12 rfl ?_
      exact j_iret dX8_kindOf_13 rfl (q_i (by first | (exfalso; omega) | skip; unfold kindI; rw [if_pos (by omega)]))

theorem tok_1 {g : Mem} {R pl q k : Nat} {f : Nat → Int} {x y : Int} (hx : x = nmF f (k + 1)) (hy : y = rwF f (k + 1)) : up2 (up2 (up2 (tokM g R pl q 1 k f) R 12 x) R 13 y) R 11 ((k : Int) + 1) = tokM g R pl q 1 (k + 1) f := by
  funext a j
  by_cases ha : a = R
  · subst ha
    unfold up2
    simp only [true_and]
    rw [tokM_at, tokM_at]
    by_cases h11 : j = 11
    · subst h11; simp
    · by_cases h13 : j = 13
      · subst h13; simp [hy]
      · by_cases h12 : j = 12
        · subst h12; simp [hx]
        · simp [h11, h12, h13]
  · rw [up2_a ha, up2_a ha, up2_a ha, tokM_o ha, tokM_o ha]
theorem tok_2 {g : Mem} {R pl q k : Nat} {f : Nat → Int} {x : Int} (hx : x = naF f (k + 1)) : up2 (up2 (tokM g R pl q 2 k f) R 14 x) R 11 ((k : Int) + 1) = tokM g R pl q 2 (k + 1) f := by
  funext a j
  by_cases ha : a = R
  · subst ha
    unfold up2
    simp only [true_and]
    rw [tokM_at, tokM_at]
    by_cases h11 : j = 11
    · subst h11; simp
    · by_cases h14 : j = 14
      · subst h14; simp [hx]
      · simp [h11, h14]
  · rw [up2_a ha, up2_a ha, tokM_o ha, tokM_o ha]
theorem tok_3 {g : Mem} {R pl q k : Nat} {f : Nat → Int} {κ : Int} (h1 : κ ≠ 1) (h2 : κ ≠ 2) : up2 (tokM g R pl q κ k f) R 11 ((k : Int) + 1) = tokM g R pl q κ (k + 1) f := by
  funext a j
  by_cases ha : a = R
  · subst ha
    unfold up2
    simp only [true_and]
    rw [tokM_at, tokM_at]
    by_cases h11 : j = 11
    · subst h11; simp
    · simp [h11, h1, h2]
  · rw [up2_a ha, tokM_o ha, tokM_o ha]

set_option maxRecDepth 20000 in
theorem c_addTok1 {w : Wd} {sh : Shp} {g : Mem} {R tx : Nat} (hR : RdS sh.1 R tx) {pl q k : Nat} {f : Nat → Int} (hk : k ≤ 1000) (hf : ∀ j, j ≤ k → 48 ≤ f j ∧ f j ≤ 57) : CT w mX8_addToToken [.ref (R), .int (i32 (f k))] sh (tokM g R pl q 1 k f) (dQ none sh (tokM g R pl q 1 (k + 1) f)) := by
  have hfk := hf k (Nat.le_refl k)
  have hn0 := nmF_r (f := f) (k := k) (fun j hj => hf j (by omega))
  have hw0 := rwF_r (f := f) (k := k) (fun j hj => hf j (by omega))
  have hn2 := nmF_r (f := f) (k := k + 1) (fun j hj => hf j (by omega))
  have hw2 := rwF_r (f := f) (k := k + 1) (fun j hj => hf j (by omega))
  refine j_entry (by decide) rfl (Nat.le_of_ble_eq_true rfl) (fun h => by cases h) rfl ?_
  show J w mX8_addToToken 0 [(0, .ref (R)), (1, .int (i32 (f k)))] [] sh (tokM g R pl q 1 k f) 0 0 _
  refine j_aload_n 1 0 dX8_addToToken_0 rfl rfl ?_
  refine j_geti 4 dX8_addToToken_1 rfl fl_X8_52 hR.rd rfl rfl (fun r_1 => ?_)
  refine j_top (y := 1) (tokM_at) ?_
  refine j_iconst 5 dX8_addToToken_4 rfl ?_
  refine j_icmp_ne 8 72 dX8_addToToken_5 rfl rfl (r32 (by decide) (by decide)) (r32 (by decide) (by decide)) (fun c_5 => absurd c_5 (fun c => c rfl)) (fun c_5 => ?_)
  refine j_aload_n 9 0 dX8_addToToken_8 rfl rfl ?_
  refine j_aload_n 10 0 dX8_addToToken_9 rfl rfl ?_
  refine j_geti 13 dX8_addToToken_10 rfl fl_X8_75 hR.rd rfl rfl (fun r_10 => ?_)
  refine j_top (y := nmF f k) (tokM_at) ?_
  refine j_sipush 16 dX8_addToToken_13 rfl (by decide) ?_
  refine j_icmp_ge 19 34 dX8_addToToken_16 rfl rfl ⟨by omega, by omega⟩ (r32 (by decide) (by decide)) (fun c_16 => ?_) (fun c_16 => ?_)
  · have hn1 : nmF f (k + 1) = 1000 := if_neg (by omega)
    refine j_sipush 37 dX8_addToToken_34 rfl (by decide) ?_
    refine j_puti 40 dX8_addToToken_37 rfl fl_X8_75 hR.rd rfl rfl rfl ⟨by omega, by omega⟩ ?_
    refine j_mn (fun g_37 hg_37 => ?_)
    refine j_aload_n 41 0 dX8_addToToken_40 rfl rfl ?_
    refine j_aload_n 42 0 dX8_addToToken_41 rfl rfl ?_
    refine j_geti 45 dX8_addToToken_42 rfl fl_X8_187 hR.rd rfl rfl (fun r_42 => ?_)
    refine j_top (y := (k : Int)) ((by rw [hg_37, up2_k (by decide)]; exact tokM_at)) ?_
    refine j_bipush 47 dX8_addToToken_45 rfl (by decide) ?_
    refine j_icmp_ge 50 65 dX8_addToToken_47 rfl rfl ⟨by omega, by omega⟩ (r32 (by decide) (by decide)) (fun c_47 => ?_) (fun c_47 => ?_)
    · have hw1 : rwF f (k + 1) = 0 := if_neg (by omega)
      refine j_iconst 66 dX8_addToToken_65 rfl ?_
      refine j_puti 69 dX8_addToToken_66 rfl fl_X8_111 hR.rd rfl rfl rfl ⟨by omega, by omega⟩ ?_
      refine j_mn (fun g_66 hg_66 => ?_)
      refine j_goto 113 dX8_addToToken_69 rfl ?_
      refine j_aload_n 114 0 dX8_addToToken_113 rfl rfl ?_
      refine j_dup 115 dX8_addToToken_114 rfl rfl ?_
      refine j_geti 118 dX8_addToToken_115 rfl fl_X8_187 hR.rd rfl rfl (fun r_115 => ?_)
      refine j_top (y := (k : Int)) ((by rw [hg_66, up2_k (by decide), hg_37, up2_k (by decide)]; exact tokM_at)) ?_
      refine j_iconst 119 dX8_addToToken_118 rfl ?_
      refine j_iadd 120 dX8_addToToken_119 rfl ?_
      refine j_puti 123 dX8_addToToken_120 rfl fl_X8_187 hR.rd rfl rfl rfl ⟨by omega, by omega⟩ ?_
      refine j_mn (fun g_120 hg_120 => ?_)
      exact j_vret dX8_addToToken_123 rfl (q_m (by rw [hg_120, hg_66, hg_37]; exact tok_1 (by omega) (by omega)))
    · have hw1 : rwF f (k + 1) = rwF f k * 10 + (f k - 48) := if_pos (by omega)
      refine j_aload_n 51 0 dX8_addToToken_50 rfl rfl ?_
      refine j_geti 54 dX8_addToToken_51 rfl fl_X8_111 hR.rd rfl rfl (fun r_51 => ?_)
      refine j_top (y := rwF f k) ((by rw [hg_37, up2_k (by decide)]; exact tokM_at)) ?_
      refine j_bipush 56 dX8_addToToken_54 rfl (by decide) ?_
      refine j_imul 57 dX8_addToToken_56 rfl ?_
      refine j_iload_n 58 1 dX8_addToToken_57 rfl rfl ?_
      refine j_bipush 60 dX8_addToToken_58 rfl (by decide) ?_
      refine j_isub 61 dX8_addToToken_60 rfl ?_
      refine j_iadd 62 dX8_addToToken_61 rfl ?_
      refine j_goto 66 dX8_addToToken_62 rfl ?_
      refine j_puti 69 dX8_addToToken_66 rfl fl_X8_111 hR.rd rfl rfl rfl ⟨by omega, by omega⟩ ?_
      refine j_mn (fun g_66 hg_66 => ?_)
      refine j_goto 113 dX8_addToToken_69 rfl ?_
      refine j_aload_n 114 0 dX8_addToToken_113 rfl rfl ?_
      refine j_dup 115 dX8_addToToken_114 rfl rfl ?_
      refine j_geti 118 dX8_addToToken_115 rfl fl_X8_187 hR.rd rfl rfl (fun r_115 => ?_)
      refine j_top (y := (k : Int)) ((by rw [hg_66, up2_k (by decide), hg_37, up2_k (by decide)]; exact tokM_at)) ?_
      refine j_iconst 119 dX8_addToToken_118 rfl ?_
      refine j_iadd 120 dX8_addToToken_119 rfl ?_
      refine j_puti 123 dX8_addToToken_120 rfl fl_X8_187 hR.rd rfl rfl rfl ⟨by omega, by omega⟩ ?_
      refine j_mn (fun g_120 hg_120 => ?_)
      exact j_vret dX8_addToToken_123 rfl (q_m (by rw [hg_120, hg_66, hg_37]; exact tok_1 (by omega) (by omega)))
  · have hn1 : nmF f (k + 1) = nmF f k * 10 + (f k - 48) := if_pos (by omega)
    refine j_aload_n 20 0 dX8_addToToken_19 rfl rfl ?_
    refine j_geti 23 dX8_addToToken_20 rfl fl_X8_75 hR.rd rfl rfl (fun r_20 => ?_)
    refine j_top (y := nmF f k) (tokM_at) ?_
    refine j_bipush 25 dX8_addToToken_23 rfl (by decide) ?_
    refine j_imul 26 dX8_addToToken_25 rfl ?_
    refine j_iload_n 27 1 dX8_addToToken_26 rfl rfl ?_
    refine j_bipush 29 dX8_addToToken_27 rfl (by decide) ?_
    refine j_isub 30 dX8_addToToken_29 rfl ?_
    refine j_iadd 31 dX8_addToToken_30 rfl ?_
    refine j_goto 37 dX8_addToToken_31 rfl ?_
    refine j_puti 40 dX8_addToToken_37 rfl fl_X8_75 hR.rd rfl rfl rfl ⟨by omega, by omega⟩ ?_
    refine j_mn (fun g_37 hg_37 => ?_)
    refine j_aload_n 41 0 dX8_addToToken_40 rfl rfl ?_
    refine j_aload_n 42 0 dX8_addToToken_41 rfl rfl ?_
    refine j_geti 45 dX8_addToToken_42 rfl fl_X8_187 hR.rd rfl rfl (fun r_42 => ?_)
    refine j_top (y := (k : Int)) ((by rw [hg_37, up2_k (by decide)]; exact tokM_at)) ?_
    refine j_bipush 47 dX8_addToToken_45 rfl (by decide) ?_
    refine j_icmp_ge 50 65 dX8_addToToken_47 rfl rfl ⟨by omega, by omega⟩ (r32 (by decide) (by decide)) (fun c_47 => ?_) (fun c_47 => ?_)
    · have hw1 : rwF f (k + 1) = 0 := if_neg (by omega)
      refine j_iconst 66 dX8_addToToken_65 rfl ?_
      refine j_puti 69 dX8_addToToken_66 rfl fl_X8_111 hR.rd rfl rfl rfl ⟨by omega, by omega⟩ ?_
      refine j_mn (fun g_66 hg_66 => ?_)
      refine j_goto 113 dX8_addToToken_69 rfl ?_
      refine j_aload_n 114 0 dX8_addToToken_113 rfl rfl ?_
      refine j_dup 115 dX8_addToToken_114 rfl rfl ?_
      refine j_geti 118 dX8_addToToken_115 rfl fl_X8_187 hR.rd rfl rfl (fun r_115 => ?_)
      refine j_top (y := (k : Int)) ((by rw [hg_66, up2_k (by decide), hg_37, up2_k (by decide)]; exact tokM_at)) ?_
      refine j_iconst 119 dX8_addToToken_118 rfl ?_
      refine j_iadd 120 dX8_addToToken_119 rfl ?_
      refine j_puti 123 dX8_addToToken_120 rfl fl_X8_187 hR.rd rfl rfl rfl ⟨by omega, by omega⟩ ?_
      refine j_mn (fun g_120 hg_120 => ?_)
      exact j_vret dX8_addToToken_123 rfl (q_m (by rw [hg_120, hg_66, hg_37]; exact tok_1 (by omega) (by omega)))
    · have hw1 : rwF f (k + 1) = rwF f k * 10 + (f k - 48) := if_pos (by omega)
      refine j_aload_n 51 0 dX8_addToToken_50 rfl rfl ?_
      refine j_geti 54 dX8_addToToken_51 rfl fl_X8_111 hR.rd rfl rfl (fun r_51 => ?_)
      refine j_top (y := rwF f k) ((by rw [hg_37, up2_k (by decide)]; exact tokM_at)) ?_
      refine j_bipush 56 dX8_addToToken_54 rfl (by decide) ?_
      refine j_imul 57 dX8_addToToken_56 rfl ?_
      refine j_iload_n 58 1 dX8_addToToken_57 rfl rfl ?_
      refine j_bipush 60 dX8_addToToken_58 rfl (by decide) ?_
      refine j_isub 61 dX8_addToToken_60 rfl ?_
      refine j_iadd 62 dX8_addToToken_61 rfl ?_
      refine j_goto 66 dX8_addToToken_62 rfl ?_
      refine j_puti 69 dX8_addToToken_66 rfl fl_X8_111 hR.rd rfl rfl rfl ⟨by omega, by omega⟩ ?_
      refine j_mn (fun g_66 hg_66 => ?_)
      refine j_goto 113 dX8_addToToken_69 rfl ?_
      refine j_aload_n 114 0 dX8_addToToken_113 rfl rfl ?_
      refine j_dup 115 dX8_addToToken_114 rfl rfl ?_
      refine j_geti 118 dX8_addToToken_115 rfl fl_X8_187 hR.rd rfl rfl (fun r_115 => ?_)
      refine j_top (y := (k : Int)) ((by rw [hg_66, up2_k (by decide), hg_37, up2_k (by decide)]; exact tokM_at)) ?_
      refine j_iconst 119 dX8_addToToken_118 rfl ?_
      refine j_iadd 120 dX8_addToToken_119 rfl ?_
      refine j_puti 123 dX8_addToToken_120 rfl fl_X8_187 hR.rd rfl rfl rfl ⟨by omega, by omega⟩ ?_
      refine j_mn (fun g_120 hg_120 => ?_)
      exact j_vret dX8_addToToken_123 rfl (q_m (by rw [hg_120, hg_66, hg_37]; exact tok_1 (by omega) (by omega)))

theorem j_topL {w : Wd} {Y : MD} {pc : Nat} {L : List (Nat × Value)} {S : List Value} {sh : Shp} {g : Mem} {kc ks : Nat} {Q : Post} {x y : Int} (h : x = y) (kk : J w Y pc L (.long (i64 y) :: S) sh g kc ks Q) : J w Y pc L (.long (i64 x) :: S) sh g kc ks Q := h ▸ kk
theorem k27 : Cond.constantLong RX8 212 (i64 27) ∈ lw_good := by decide +kernel

set_option maxRecDepth 20000 in
theorem c_addTok2 {w : Wd} {sh : Shp} {g : Mem} {R tx : Nat} (hR : RdS sh.1 R tx) {pl q k : Nat} {f : Nat → Int} (hk : k ≤ 1000) (hf : ∀ j, j ≤ k → 97 ≤ f j ∧ f j ≤ 122) : CT w mX8_addToToken [.ref (R), .int (i32 (f k))] sh (tokM g R pl q 2 k f) (dQ none sh (tokM g R pl q 2 (k + 1) f)) := by
  have hfk := hf k (Nat.le_refl k)
  have hw0 := naF_r (f := f) (k := k) (fun j hj => hf j (by omega))
  have hw2 := naF_r (f := f) (k := k + 1) (fun j hj => hf j (by omega))
  refine j_entry (by decide) rfl (Nat.le_of_ble_eq_true rfl) (fun h => by cases h) rfl ?_
  show J w mX8_addToToken 0 [(0, .ref (R)), (1, .int (i32 (f k)))] [] sh (tokM g R pl q 2 k f) 0 0 _
  refine j_aload_n 1 0 dX8_addToToken_0 rfl rfl ?_
  refine j_geti 4 dX8_addToToken_1 rfl fl_X8_52 hR.rd rfl rfl (fun r_1 => ?_)
  refine j_top (y := 2) (tokM_at) ?_
  refine j_iconst 5 dX8_addToToken_4 rfl ?_
  refine j_icmp_ne 8 72 dX8_addToToken_5 rfl rfl (r32 (by decide) (by decide)) (r32 (by decide) (by decide)) (fun c_5 => ?_) (fun c_5 => absurd c_5 (by decide))
  refine j_aload_n 73 0 dX8_addToToken_72 rfl rfl ?_
  refine j_geti 76 dX8_addToToken_73 rfl fl_X8_52 hR.rd rfl rfl (fun r_73 => ?_)
  refine j_top (y := 2) (tokM_at) ?_
  refine j_iconst 77 dX8_addToToken_76 rfl ?_
  refine j_icmp_ne 80 113 dX8_addToToken_77 rfl rfl (r32 (by decide) (by decide)) (r32 (by decide) (by decide)) (fun c_77 => absurd c_77 (fun c => c rfl)) (fun c_77 => ?_)
  refine j_aload_n 81 0 dX8_addToToken_80 rfl rfl ?_
  refine j_aload_n 82 0 dX8_addToToken_81 rfl rfl ?_
  refine j_geti 85 dX8_addToToken_82 rfl fl_X8_187 hR.rd rfl rfl (fun r_82 => ?_)
  refine j_top (y := (k : Int)) (tokM_at) ?_
  refine j_bipush 87 dX8_addToToken_85 rfl (by decide) ?_
  refine j_icmp_ge 90 109 dX8_addToToken_87 rfl rfl ⟨by omega, by omega⟩ (r32 (by decide) (by decide)) (fun c_87 => ?_) (fun c_87 => ?_)
  · have hw1 : naF f (k + 1) = 0 := if_neg (by omega)
    refine j_lconst 110 dX8_addToToken_109 rfl (x := 0) rfl ?_
    refine j_putl 113 dX8_addToToken_110 rfl fl_X8_128 hR.rd rfl rfl rfl (by omega) ?_
    refine j_mn (fun g_110 hg_110 => ?_)
    refine j_aload_n 114 0 dX8_addToToken_113 rfl rfl ?_
    refine j_dup 115 dX8_addToToken_114 rfl rfl ?_
    refine j_geti 118 dX8_addToToken_115 rfl fl_X8_187 hR.rd rfl rfl (fun r_115 => ?_)
    refine j_top (y := (k : Int)) ((by rw [hg_110, up2_k (by decide)]; exact tokM_at)) ?_
    refine j_iconst 119 dX8_addToToken_118 rfl ?_
    refine j_iadd 120 dX8_addToToken_119 rfl ?_
    refine j_puti 123 dX8_addToToken_120 rfl fl_X8_187 hR.rd rfl rfl rfl ⟨by omega, by omega⟩ ?_
    refine j_mn (fun g_120 hg_120 => ?_)
    exact j_vret dX8_addToToken_123 rfl (q_m (by rw [hg_120, hg_110]; exact tok_2 (by omega)))
  · have hw1 : naF f (k + 1) = naF f k * 27 + (f k - 97 + 1) := if_pos (by omega)
    refine j_aload_n 91 0 dX8_addToToken_90 rfl rfl ?_
    refine j_getl 94 dX8_addToToken_91 rfl fl_X8_128 hR.rd rfl rfl (fun r_91 => ?_)
    refine j_topL (y := naF f k) tokM_at ?_
    refine j_ldc2 97 dX8_addToToken_94 rfl k27 ?_
    refine j_lmul 98 dX8_addToToken_97 rfl ?_
    refine j_iload_n 99 1 dX8_addToToken_98 rfl rfl ?_
    refine j_bipush 101 dX8_addToToken_99 rfl (by decide) ?_
    refine j_isub 102 dX8_addToToken_101 rfl ?_
    refine j_iconst 103 dX8_addToToken_102 rfl ?_
    refine j_iadd 104 dX8_addToToken_103 rfl ?_
    refine j_i2l 105 dX8_addToToken_104 rfl (r32 (by omega) (by omega)) ?_
    refine j_ladd 106 dX8_addToToken_105 rfl ?_
    refine j_goto 110 dX8_addToToken_106 rfl ?_
    refine j_putl 113 dX8_addToToken_110 rfl fl_X8_128 hR.rd rfl rfl rfl (by omega) ?_
    refine j_mn (fun g_110 hg_110 => ?_)
    refine j_aload_n 114 0 dX8_addToToken_113 rfl rfl ?_
    refine j_dup 115 dX8_addToToken_114 rfl rfl ?_
    refine j_geti 118 dX8_addToToken_115 rfl fl_X8_187 hR.rd rfl rfl (fun r_115 => ?_)
    refine j_top (y := (k : Int)) ((by rw [hg_110, up2_k (by decide)]; exact tokM_at)) ?_
    refine j_iconst 119 dX8_addToToken_118 rfl ?_
    refine j_iadd 120 dX8_addToToken_119 rfl ?_
    refine j_puti 123 dX8_addToToken_120 rfl fl_X8_187 hR.rd rfl rfl rfl ⟨by omega, by omega⟩ ?_
    refine j_mn (fun g_120 hg_120 => ?_)
    exact j_vret dX8_addToToken_123 rfl (q_m (by rw [hg_120, hg_110]; exact tok_2 (by omega)))

set_option maxRecDepth 20000 in
theorem c_addTok3 {w : Wd} {sh : Shp} {g : Mem} {R tx : Nat} (hR : RdS sh.1 R tx) {pl q k : Nat} {f : Nat → Int} (hk : k ≤ 1000) {κ x : Int} (hx : R32 x) (hκ : κ = 3 ∨ κ = 4) : CT w mX8_addToToken [.ref (R), .int (i32 (x))] sh (tokM g R pl q κ k f) (dQ none sh (tokM g R pl q κ (k + 1) f)) := by
  refine j_entry (by decide) rfl (Nat.le_of_ble_eq_true rfl) (fun h => by cases h) rfl ?_
  show J w mX8_addToToken 0 [(0, .ref (R)), (1, .int (i32 (x)))] [] sh (tokM g R pl q κ k f) 0 0 _
  refine j_aload_n 1 0 dX8_addToToken_0 rfl rfl ?_
  refine j_geti 4 dX8_addToToken_1 rfl fl_X8_52 hR.rd rfl rfl (fun r_1 => ?_)
  refine j_top (y := κ) (tokM_at) ?_
  refine j_iconst 5 dX8_addToToken_4 rfl ?_
  refine j_icmp_ne 8 72 dX8_addToToken_5 rfl rfl ⟨by omega, by omega⟩ (r32 (by decide) (by decide)) (fun c_5 => ?_) (fun c_5 => absurd c_5 (by omega))
  refine j_aload_n 73 0 dX8_addToToken_72 rfl rfl ?_
  refine j_geti 76 dX8_addToToken_73 rfl fl_X8_52 hR.rd rfl rfl (fun r_73 => ?_)
  refine j_top (y := κ) (tokM_at) ?_
  refine j_iconst 77 dX8_addToToken_76 rfl ?_
  refine j_icmp_ne 80 113 dX8_addToToken_77 rfl rfl ⟨by omega, by omega⟩ (r32 (by decide) (by decide)) (fun c_77 => ?_) (fun c_77 => absurd c_77 (by omega))
  refine j_aload_n 114 0 dX8_addToToken_113 rfl rfl ?_
  refine j_dup 115 dX8_addToToken_114 rfl rfl ?_
  refine j_geti 118 dX8_addToToken_115 rfl fl_X8_187 hR.rd rfl rfl (fun r_115 => ?_)
  refine j_top (y := (k : Int)) (tokM_at) ?_
  refine j_iconst 119 dX8_addToToken_118 rfl ?_
  refine j_iadd 120 dX8_addToToken_119 rfl ?_
  refine j_puti 123 dX8_addToToken_120 rfl fl_X8_187 hR.rd rfl rfl rfl ⟨by omega, by omega⟩ ?_
  refine j_mn (fun g_120 hg_120 => ?_)
  exact j_vret dX8_addToToken_123 rfl (q_m (by rw [hg_120]; exact tok_3 (by omega) (by omega)))

/-- the reader behind 'advance' from p on -/
def advM (g : Mem) (R : Nat) (T : Tx) (p : Nat) : Mem := tokM g R (sk T p + szT T (sk T p)) (sk T p) (kdT T (sk T p)) (szT T (sk T p)) (fT T (sk T p))
section ADV
variable {T : Tx} {g : Mem} {R tx p q : Nat}
theorem kdT_lt (h : q < T.2) : kdT T q = kindI (sgn T q) := if_pos h
theorem kdT_r (q : Nat) : 0 ≤ kdT T q ∧ kdT T q ≤ 4 := by
  unfold kdT
  have := kindI_r (sgn T q)
  split <;> omega
theorem szT_le (hT : ∀ k, 0 ≤ T.1 k ∧ T.1 k ≤ 255) (h : q ≤ T.2) : q + szT T q ≤ T.2 := by
  unfold szT
  split
  · exact rn_le hD h
  · split
    · exact rn_le hL h
    · split
      · exact h
      · next h1 h2 h3 =>
        unfold kdT at h3
        split at h3
        · omega
        · exact absurd rfl h3
theorem szT_dig (hT : ∀ k, 0 ≤ T.1 k ∧ T.1 k ≤ 255) (h : kdT T q = 1) : ∀ j, j < szT T q → 48 ≤ fT T q j ∧ fT T q j ≤ 57 := fun j hj => by
  unfold szT at hj
  rw [if_pos h] at hj
  exact of_decide_eq_true ((rn_spec hD q).1 j hj)
theorem szT_let (hT : ∀ k, 0 ≤ T.1 k ∧ T.1 k ≤ 255) (h : kdT T q = 2) : ∀ j, j < szT T q → 97 ≤ fT T q j ∧ fT T q j ≤ 122 := fun j hj => by
  unfold szT at hj
  rw [if_neg (by omega), if_pos h] at hj
  exact of_decide_eq_true ((rn_spec hL q).1 j hj)
theorem dn_pos (h : isD (byT T q) = true) : 0 < dn T q := by
  rcases Nat.eq_zero_or_pos (dn T q) with h0 | h0
  · have h2 := (rn_spec (T := T) hD q).2
    rw [show rn isD T q = dn T q from rfl, h0, Nat.add_zero, h] at h2
    cases h2
  · exact h0
theorem ln_pos (h : isL (byT T q) = true) : 0 < ln T q := by
  rcases Nat.eq_zero_or_pos (ln T q) with h0 | h0
  · have h2 := (rn_spec (T := T) hL q).2
    rw [show rn isL T q = ln T q from rfl, h0, Nat.add_zero, h] at h2
    cases h2
  · exact h0
theorem szT_pos (hT : ∀ k, 0 ≤ T.1 k ∧ T.1 k ≤ 255) (h : q < T.2) : 0 < szT T q := by
  have e := kdT_lt h
  unfold szT
  split
  · next h1 => exact dn_pos ((kindI_1 hT).mp (e.symm.trans h1))
  · split
    · next h1 => exact ln_pos ((kindI_2 hT).mp (e.symm.trans h1))
    · split
      · next h1 =>
        have := kindI_r (sgn T q)
        omega
      · decide
/-- whether the token goes on behind k signs -/
theorem szT_on (hT : ∀ k, 0 ≤ T.1 k ∧ T.1 k ≤ 255) {k : Nat} (hk : k < szT T q) : (kdT T q = 1 ∨ kdT T q = 2) → (kindI (sgn T (q + (k + 1))) = kdT T q ↔ k + 1 < szT T q) := by
  intro h12
  rcases h12 with h | h
  · have hs : szT T q = dn T q := by unfold szT; rw [if_pos h]
    rw [h, kindI_1 hT, hs]
    have sp := rn_spec (T := T) hD q
    constructor
    · intro h1
      rcases Nat.lt_or_ge (k + 1) (dn T q) with q1 | q1
      · exact q1
      · have : k + 1 = dn T q := by omega
        have h2 := sp.2
        rw [show rn isD T q = dn T q from rfl, ← this, h1] at h2
        cases h2
    · intro h1; exact sp.1 (k + 1) h1
  · have hs : szT T q = ln T q := by unfold szT; rw [if_neg (by omega), if_pos h]
    rw [h, kindI_2 hT, hs]
    have sp := rn_spec (T := T) hL q
    constructor
    · intro h1
      rcases Nat.lt_or_ge (k + 1) (ln T q) with q1 | q1
      · exact q1
      · have : k + 1 = ln T q := by omega
        have h2 := sp.2
        rw [show rn isL T q = ln T q from rfl, ← this, h1] at h2
        cases h2
    · intro h1; exact sp.1 (k + 1) h1
theorem szT_one {k : Nat} (hk : k < szT T q) (h1 : kdT T q ≠ 1) (h2 : kdT T q ≠ 2) : k + 1 = szT T q := by
  unfold szT at hk ⊢
  rw [if_neg h1, if_neg h2] at hk ⊢
  split at hk
  · omega
  · next h0 => rw [if_neg h0]; omega
theorem tokM_X {pl : Nat} {κ : Int} {k : Nat} {f : Nat → Int} (hX : TxR g R tx T) (htx : tx ≠ R) : TxR (tokM g R pl q κ k f) R tx T :=
  ⟨hX.1, by rw [tokM_at]; exact hX.2.1, fun k hk => by rw [tokM_o htx]; exact hX.2.2.1 k hk, hX.2.2.2⟩
theorem up5_X {x : Int} (hX : TxR g R tx T) (htx : tx ≠ R) : TxR (up2 g R 5 x) R tx T :=
  ⟨hX.1, by rw [up2_k (by decide)]; exact hX.2.1, fun k hk => by rw [up2_row htx]; exact hX.2.2.1 k hk, hX.2.2.2⟩
theorem tok_new {pl : Nat} {κ : Int} {f : Nat → Int} : up2 (up2 (up2 (up2 (up2 (up2 (up2 g R 5 (pl : Int)) R 10 (pl : Int)) R 11 0) R 12 0) R 13 1) R 14 0) R 9 κ = tokM g R pl pl κ 0 f := by
  funext a j
  by_cases ha : a = R
  · subst ha
    rw [tokM_at]
    unfold up2
    simp only [true_and]
    by_cases h9 : j = 9
    · subst h9; simp
    by_cases h14 : j = 14
    · subst h14; simp [naF]
    by_cases h13 : j = 13
    · subst h13; simp [rwF]
    by_cases h12 : j = 12
    · subst h12; simp [nmF]
    by_cases h11 : j = 11
    · subst h11; simp
    by_cases h10 : j = 10
    · subst h10; simp
    by_cases h5 : j = 5
    · subst h5; simp
    simp [h9, h14, h13, h12, h11, h10, h5]
  · rw [up2_a ha, up2_a ha, up2_a ha, up2_a ha, up2_a ha, up2_a ha, up2_a ha, tokM_o ha]
theorem tok_5 {pl k : Nat} {κ : Int} {f : Nat → Int} {x : Int} (hx : x = ((pl + 1 : Nat) : Int)) : up2 (tokM g R pl q κ k f) R 5 x = tokM g R (pl + 1) q κ k f := by
  subst hx
  funext a j
  by_cases ha : a = R
  · subst ha
    unfold up2
    simp only [true_and]
    rw [tokM_at, tokM_at]
    by_cases h5 : j = 5
    · subst h5; simp
    · simp [h5]
  · rw [up2_a ha, tokM_o ha, tokM_o ha]
theorem up5_id (h : g R 5 = (p : Int)) : up2 g R 5 (p : Int) = g := by
  funext a j
  by_cases ha : a = R ∧ j = 5
  · obtain ⟨rfl, rfl⟩ := ha; rw [up2_s, h]
  · unfold up2; rw [if_neg ha]
end ADV

theorem c_addTok {w : Wd} {sh : Shp} {g : Mem} {R tx pl q k : Nat} {T : Tx} (hR : RdS sh.1 R tx) (hT : ∀ k, 0 ≤ T.1 k ∧ T.1 k ≤ 255) (h7 : T.2 ≤ 700) (hq : q + szT T q ≤ T.2) (hk : k < szT T q) : CT w mX8_addToToken [.ref R, .int (i32 (sgn T (q + k)))] sh (tokM g R pl q (kdT T q) k (fT T q)) (dQ none sh (tokM g R pl q (kdT T q) (k + 1) (fT T q))) := by
  have hk7 : k ≤ 1000 := by omega
  have hrs := sgn_r hT (q + k)
  by_cases h1 : kdT T q = 1
  · have hd := szT_dig hT h1
    have e : sgn T (q + k) = fT T q k := (sgn_eq hT (c := fT T q k) (by have := hd k hk; omega)).mpr rfl
    rw [h1, e]
    exact c_addTok1 hR hk7 (fun j hj => hd j (by omega))
  · by_cases h2 : kdT T q = 2
    · have hd := szT_let hT h2
      have e : sgn T (q + k) = fT T q k := (sgn_eq hT (c := fT T q k) (by have := hd k hk; omega)).mpr rfl
      rw [h2, e]
      exact c_addTok2 hR hk7 (fun j hj => hd j (by omega))
    · have hr := kdT_r (T := T) q
      have h0 : kdT T q ≠ 0 := fun z => by
        unfold szT at hk
        rw [if_neg h1, if_neg h2, if_pos z] at hk
        omega
      exact c_addTok3 hR hk7 ⟨by omega, by omega⟩ (by omega)

set_option maxRecDepth 20000 in
theorem c_advance {w : Wd} {sh : Shp} {g : Mem} {R tx : Nat} (hR : RdS sh.1 R tx) {T : Tx} (hX : TxR g R tx T) {p : Nat} (h5 : g R 5 = (p : Int)) (hp : p ≤ T.2) (htx : tx ≠ R) : CT w mX8_advance [.ref (R)] sh g (dQ none sh (advM g R T p)) := by
  have hT7 := hX.1
  refine j_entry (by decide) rfl (Nat.le_of_ble_eq_true rfl) (fun h => by cases h) rfl ?_
  show J w mX8_advance 0 [(0, .ref (R))] [] sh g 0 0 _
  refine j_mem (up5_id h5).symm ?_
  suffices lp_0 : ∀ (n_0 : Nat) (k : Nat), T.2 - (p + k) < n_0 → p + k ≤ T.2 → (∀ j, j < k → byT T (p + j) = 32) → J w mX8_advance 0 [(0, .ref (R))] [] sh (up2 g R 5 ((p + k : Nat) : Int)) 0 0 (dQ none sh (advM g R T p)) by
    exact lp_0 _ 0 (Nat.lt_succ_self _) (by omega) (fun j hj => absurd hj (Nat.not_lt_zero j))
  intro n_0
  induction n_0 with
  | zero => intro k h_; exact absurd h_ (Nat.not_lt_zero _)
  | succ n_0 ih_0 =>
    intro k hn_0 hkp hsp
    have hX5 := up5_X (x := ((p + k : Nat) : Int)) hX htx
    refine j_aload_n 1 0 dX8_advance_0 rfl rfl ?_
    refine j_geti 4 dX8_advance_1 rfl fl_X8_26 hR.rd rfl rfl (fun r_1 => ?_)
    refine j_top (y := ((p + k : Nat) : Int)) (up2_s) ?_
    refine j_aload_n 5 0 dX8_advance_4 rfl rfl ?_
    refine j_geti 8 dX8_advance_5 rfl fl_X8_22 hR.rd rfl rfl (fun r_5 => ?_)
    refine j_top (y := (T.2 : Int)) (hX5.2.1) ?_
    refine j_icmp_ge 11 37 dX8_advance_8 rfl rfl (r32 (by omega) (by omega)) (r32 (by omega) (by omega)) (fun c_8 => ?_) (fun c_8 => ?_)
    · have hqk : sk T p = p + k := sk_at hsp (fun z => absurd (by_lt z (by decide)) (by omega))
      refine j_aload_n 38 0 dX8_advance_37 rfl rfl ?_
      refine j_aload_n 39 0 dX8_advance_38 rfl rfl ?_
      refine j_geti 42 dX8_advance_39 rfl fl_X8_26 hR.rd rfl rfl (fun r_39 => ?_)
      refine j_top (y := ((p + k : Nat) : Int)) (up2_s) ?_
      refine j_puti 45 dX8_advance_42 rfl fl_X8_190 hR.rd rfl rfl rfl (r32 (by omega) (by omega)) ?_
      refine j_mn (fun g_42 hg_42 => ?_)
      refine j_aload_n 46 0 dX8_advance_45 rfl rfl ?_
      refine j_iconst 47 dX8_advance_46 rfl ?_
      refine j_puti 50 dX8_advance_47 rfl fl_X8_187 hR.rd rfl rfl rfl (r32 (by decide) (by decide)) ?_
      refine j_mn (fun g_47 hg_47 => ?_)
      refine j_aload_n 51 0 dX8_advance_50 rfl rfl ?_
      refine j_iconst 52 dX8_advance_51 rfl ?_
      refine j_puti 55 dX8_advance_52 rfl fl_X8_75 hR.rd rfl rfl rfl (r32 (by decide) (by decide)) ?_
      refine j_mn (fun g_52 hg_52 => ?_)
      refine j_aload_n 56 0 dX8_advance_55 rfl rfl ?_
      refine j_iconst 57 dX8_advance_56 rfl ?_
      refine j_puti 60 dX8_advance_57 rfl fl_X8_111 hR.rd rfl rfl rfl (r32 (by decide) (by decide)) ?_
      refine j_mn (fun g_57 hg_57 => ?_)
      refine j_aload_n 61 0 dX8_advance_60 rfl rfl ?_
      refine j_lconst 62 dX8_advance_61 rfl (x := 0) rfl ?_
      refine j_putl 65 dX8_advance_62 rfl fl_X8_128 hR.rd rfl rfl rfl (by decide) ?_
      refine j_mn (fun g_62 hg_62 => ?_)
      refine j_mem (show g_62 = (up2 (up2 (up2 (up2 (up2 (up2 g R 5 ((p + k : Nat) : Int)) R 10 ((p + k : Nat) : Int)) R 11 0) R 12 0) R 13 1) R 14 0) by rw [hg_62, hg_57, hg_52, hg_47, hg_42]) ?_
      have hXN : TxR (up2 (up2 (up2 (up2 (up2 (up2 g R 5 ((p + k : Nat) : Int)) R 10 ((p + k : Nat) : Int)) R 11 0) R 12 0) R 13 1) R 14 0) R tx T := ⟨hX.1, by rw [up2_k (by decide), up2_k (by decide), up2_k (by decide), up2_k (by decide), up2_k (by decide)]; exact hX5.2.1, fun j hj => by rw [up2_row htx, up2_row htx, up2_row htx, up2_row htx, up2_row htx]; exact hX5.2.2.1 j hj, hX.2.2.2⟩
      have hN5 : (up2 (up2 (up2 (up2 (up2 (up2 g R 5 ((p + k : Nat) : Int)) R 10 ((p + k : Nat) : Int)) R 11 0) R 12 0) R 13 1) R 14 0) R 5 = ((p + k : Nat) : Int) := by rw [up2_k (by decide), up2_k (by decide), up2_k (by decide), up2_k (by decide), up2_k (by decide)]; exact up2_s
      refine j_aload_n 66 0 dX8_advance_65 rfl rfl ?_
      refine j_aload_n 67 0 dX8_advance_66 rfl rfl ?_
      refine j_geti 70 dX8_advance_67 rfl fl_X8_26 hR.rd rfl rfl (fun r_67 => ?_)
      refine j_top (y := ((p + k : Nat) : Int)) (hN5) ?_
      refine j_aload_n 71 0 dX8_advance_70 rfl rfl ?_
      refine j_geti 74 dX8_advance_71 rfl fl_X8_22 hR.rd rfl rfl (fun r_71 => ?_)
      refine j_top (y := (T.2 : Int)) (hXN.2.1) ?_
      refine j_icmp_ge 77 91 dX8_advance_74 rfl rfl (r32 (by omega) (by omega)) (r32 (by omega) (by omega)) (fun c_74 => ?_) (fun c_74 => ?_)
      · have hkd : kdT T (p + k) = 0 := if_neg (by omega)
        refine j_iconst 92 dX8_advance_91 rfl ?_
        refine j_top (y := kdT T (p + k)) hkd.symm ?_
        refine j_puti 95 dX8_advance_92 rfl fl_X8_52 hR.rd rfl rfl rfl (by have := kdT_r (T := T) (p + k); exact ⟨by omega, by omega⟩) ?_
        refine j_mn (fun g_92 hg_92 => ?_)
        refine j_mem (hg_92.trans (tok_new (κ := kdT T (p + k)) (f := fT T (p + k)))) ?_
        obtain ⟨q, hq⟩ : ∃ q, p + k = q := ⟨_, rfl⟩
        rw [hq] at hkp hqk ⊢
        have hsz := szT_le hX.2.2.2 hkp
        have hkr := kdT_r (T := T) q
        refine j_iconst 96 dX8_advance_95 rfl ?_
        refine j_istore_n 97 (L2 := [(1, .int (i32 (1))), (0, .ref (R))]) dX8_advance_96 rfl rfl (Nat.le_of_ble_eq_true rfl) rfl ?_
        suffices lp_97 : ∀ (n_97 : Nat) (i : Nat) (b : Int), szT T q - i < n_97 → (b = 0 ∨ b = 1) → ((i < szT T q ∧ b = 1) ∨ (i = szT T q ∧ (b = 0 ∨ kdT T q = 0))) → J w mX8_advance 97 [(1, .int (i32 (b))), (0, .ref (R))] [] sh (tokM g R (q + i) q (kdT T q) i (fT T q)) 0 0 (dQ none sh (advM g R T p)) by
          exact lp_97 _ 0 1 (Nat.lt_succ_self _) (Or.inr rfl) (by by_cases h0 : 0 < szT T q; exact Or.inl ⟨h0, rfl⟩; exact Or.inr ⟨by omega, Or.inr (by by_cases hq2 : q < T.2; exact absurd (szT_pos hX.2.2.2 hq2) h0; exact if_neg hq2)⟩)
        intro n_97
        induction n_97 with
        | zero => intro i b h_; exact absurd h_ (Nat.not_lt_zero _)
        | succ n_97 ih_97 =>
          intro i b hn_97 hb hi
          have hXt : TxR (tokM g R (q + i) q (kdT T q) i (fT T q)) R tx T := tokM_X hX htx
          refine j_aload_n 98 1 dX8_advance_97 rfl rfl ?_
          refine j_geti 101 dX8_advance_98 rfl fl_X8_26 hR.rd rfl rfl (fun r_98 => ?_)
          refine j_top (y := ((q + i : Nat) : Int)) (tokM_at) ?_
          refine j_aload_n 102 1 dX8_advance_101 rfl rfl ?_
          refine j_geti 105 dX8_advance_102 rfl fl_X8_22 hR.rd rfl rfl (fun r_102 => ?_)
          refine j_top (y := (T.2 : Int)) (hXt.2.1) ?_
          refine j_icmp_ge 108 177 dX8_advance_105 rfl rfl (r32 (by omega) (by omega)) (r32 (by omega) (by omega)) (fun c_105 => ?_) (fun c_105 => ?_)
          · have hisz : i = szT T q := hi.elim (fun z => by omega) (fun z => z.1)
            exact j_vret dX8_advance_177 rfl (q_m (by unfold advM; rw [hqk, hisz]))
          · refine j_iload_n 109 0 dX8_advance_108 rfl rfl ?_
            refine j_if_eq 112 177 dX8_advance_109 rfl rfl (r01 hb) (fun c_109 => ?_) (fun c_109 => ?_)
            · have hisz : i = szT T q := hi.elim (fun z => absurd z.2 (by omega)) (fun z => z.1)
              exact j_vret dX8_advance_177 rfl (q_m (by unfold advM; rw [hqk, hisz]))
            · have hilt : i < szT T q := hi.elim (fun z => z.1) (fun z => absurd (z.2.elim id (fun z0 => by unfold kdT at z0; rw [if_pos (by omega)] at z0; have := kindI_r (sgn T q); omega)) c_109)
              refine j_aload_n 113 1 dX8_advance_112 rfl rfl ?_
              refine j_aload_n 114 1 dX8_advance_113 rfl rfl ?_
              refine j_aload_n 115 1 dX8_advance_114 rfl rfl ?_
              refine j_geti 118 dX8_advance_115 rfl fl_X8_26 hR.rd rfl rfl (fun r_115 => ?_)
              refine j_top (y := ((q + i : Nat) : Int)) (tokM_at) ?_
              refine j_callV 121 (As := [.int (i32 (((q + i : Nat) : Int)))]) (kc2 := 0) (ks2 := 0) dX8_advance_118 rfl mvX8_signAt lk_X8_199 hR.rd rfl ⟨Nat.le_of_ble_eq_true rfl, rfl⟩ rfl rfl (Nat.le_of_ble_eq_true rfl) ⟨Nat.le_of_ble_eq_true rfl, Nat.le_of_ble_eq_true rfl⟩ ⟨Nat.le_of_ble_eq_true rfl, Nat.le_of_ble_eq_true rfl⟩ (c_signAt hR hXt (k := q + i) (by omega)) x_d (k_d1 ?_)
              refine j_callV 124 (As := [.int (i32 (sgn T (q + i)))]) (kc2 := 0) (ks2 := 0) dX8_advance_121 rfl mvX8_addToToken lk_X8_209 hR.rd rfl ⟨Nat.le_of_ble_eq_true rfl, rfl⟩ rfl rfl (Nat.le_of_ble_eq_true rfl) ⟨Nat.le_of_ble_eq_true rfl, Nat.le_of_ble_eq_true rfl⟩ ⟨Nat.le_of_ble_eq_true rfl, Nat.le_of_ble_eq_true rfl⟩ (c_addTok hR hX.2.2.2 hX.1 (by omega) hilt) x_d (k_d0 ?_)
              refine j_aload_n 125 1 dX8_advance_124 rfl rfl ?_
              refine j_dup 126 dX8_advance_125 rfl rfl ?_
              refine j_geti 129 dX8_advance_126 rfl fl_X8_26 hR.rd rfl rfl (fun r_126 => ?_)
              refine j_top (y := ((q + i : Nat) : Int)) (tokM_at) ?_
              refine j_iconst 130 dX8_advance_129 rfl ?_
              refine j_iadd 131 dX8_advance_130 rfl ?_
              refine j_puti 134 dX8_advance_131 rfl fl_X8_26 hR.rd rfl rfl rfl (r32 (by omega) (by omega)) ?_
              refine j_mn (fun g_131 hg_131 => ?_)
              refine j_mem (hg_131.trans (tok_5 (pl := q + i) (by omega))) ?_
              have hXu : TxR (tokM g R (q + (i + 1)) q (kdT T q) (i + 1) (fT T q)) R tx T := tokM_X hX htx
              refine j_aload_n 135 1 dX8_advance_134 rfl rfl ?_
              refine j_geti 138 dX8_advance_135 rfl fl_X8_52 hR.rd rfl rfl (fun r_135 => ?_)
              refine j_top (y := kdT T q) (tokM_at) ?_
              refine j_iconst 139 dX8_advance_138 rfl ?_
              refine j_icmp_eq 142 150 dX8_advance_139 rfl rfl ⟨by omega, by omega⟩ (r32 (by decide) (by decide)) (fun c_139 => ?_) (fun c_139 => ?_)
              · refine j_aload_n 151 1 dX8_advance_150 rfl rfl ?_
                refine j_aload_n 152 1 dX8_advance_151 rfl rfl ?_
                refine j_geti 155 dX8_advance_152 rfl fl_X8_26 hR.rd rfl rfl (fun r_152 => ?_)
                refine j_top (y := ((q + (i + 1) : Nat) : Int)) (tokM_at) ?_
                refine j_callV 158 (As := [.int (i32 (((q + (i + 1) : Nat) : Int)))]) (kc2 := 0) (ks2 := 0) dX8_advance_155 rfl mvX8_signAt lk_X8_199 hR.rd rfl ⟨Nat.le_of_ble_eq_true rfl, rfl⟩ rfl rfl (Nat.le_of_ble_eq_true rfl) ⟨Nat.le_of_ble_eq_true rfl, Nat.le_of_ble_eq_true rfl⟩ ⟨Nat.le_of_ble_eq_true rfl, Nat.le_of_ble_eq_true rfl⟩ (c_signAt hR hXu (k := q + (i + 1)) (by omega)) x_d (k_d1 ?_)
                refine j_callS 161 (As := [.int (i32 (sgn T (q + (i + 1))))]) (kc2 := 0) (ks2 := 0) dX8_advance_158 rfl msX8_kindOf lk_X8_206 rfl rfl (Nat.le_of_ble_eq_true rfl) ⟨Nat.le_of_ble_eq_true rfl, Nat.le_of_ble_eq_true rfl⟩ ⟨Nat.le_of_ble_eq_true rfl, Nat.le_of_ble_eq_true rfl⟩ (c_kindOf (by have := sgn_r hX.2.2.2 (q + (i + 1)); exact ⟨by omega, by omega⟩)) x_d (k_d1 ?_)
                refine j_aload_n 162 1 dX8_advance_161 rfl rfl ?_
                refine j_geti 165 dX8_advance_162 rfl fl_X8_52 hR.rd rfl rfl (fun r_162 => ?_)
                refine j_top (y := kdT T q) (tokM_at) ?_
                refine j_icmp_ne 168 172 dX8_advance_165 rfl rfl (by have := kindI_r (sgn T (q + (i + 1))); exact ⟨by omega, by omega⟩) ⟨by omega, by omega⟩ (fun c_165 => ?_) (fun c_165 => ?_)
                · have hbn : (0 : Int) = 0 ∨ (0 : Int) = 1 := Or.inl rfl
                  have hin : (i + 1 < szT T q ∧ (0 : Int) = 1) ∨ (i + 1 = szT T q ∧ ((0 : Int) = 0 ∨ kdT T q = 0)) := Or.inr ⟨by have h9 := szT_on hX.2.2.2 hilt (by first | exact Or.inl (by assumption) | exact Or.inr (by assumption)); rcases Nat.lt_or_ge (i + 1) (szT T q) with z | z; exact absurd (h9.mpr z) c_165; omega, Or.inl rfl⟩
                  refine j_iconst 173 dX8_advance_172 rfl ?_
                  refine j_istore_n 174 (L2 := [(1, .int (i32 (0))), (0, .ref (R))]) dX8_advance_173 rfl rfl (Nat.le_of_ble_eq_true rfl) rfl ?_
                  refine j_goto 97 dX8_advance_174 rfl ?_
                  exact ih_97 (i + 1) _ (by omega) hbn hin
                · have hbn : (1 : Int) = 0 ∨ (1 : Int) = 1 := Or.inr rfl
                  have hin : (i + 1 < szT T q ∧ (1 : Int) = 1) ∨ (i + 1 = szT T q ∧ ((1 : Int) = 0 ∨ kdT T q = 0)) := Or.inl ⟨(szT_on hX.2.2.2 hilt (by first | exact Or.inl (by assumption) | exact Or.inr (by assumption))).mp c_165, rfl⟩
                  refine j_iconst 169 dX8_advance_168 rfl ?_
                  refine j_goto 173 dX8_advance_169 rfl ?_
                  refine j_istore_n 174 (L2 := [(1, .int (i32 (1))), (0, .ref (R))]) dX8_advance_173 rfl rfl (Nat.le_of_ble_eq_true rfl) rfl ?_
                  refine j_goto 97 dX8_advance_174 rfl ?_
                  exact ih_97 (i + 1) _ (by omega) hbn hin
              · refine j_aload_n 143 1 dX8_advance_142 rfl rfl ?_
                refine j_geti 146 dX8_advance_143 rfl fl_X8_52 hR.rd rfl rfl (fun r_143 => ?_)
                refine j_top (y := kdT T q) (tokM_at) ?_
                refine j_iconst 147 dX8_advance_146 rfl ?_
                refine j_icmp_ne 150 172 dX8_advance_147 rfl rfl ⟨by omega, by omega⟩ (r32 (by decide) (by decide)) (fun c_147 => ?_) (fun c_147 => ?_)
                · have hbn : (0 : Int) = 0 ∨ (0 : Int) = 1 := Or.inl rfl
                  have hin : (i + 1 < szT T q ∧ (0 : Int) = 1) ∨ (i + 1 = szT T q ∧ ((0 : Int) = 0 ∨ kdT T q = 0)) := Or.inr ⟨szT_one hilt c_139 c_147, Or.inl rfl⟩
                  refine j_iconst 173 dX8_advance_172 rfl ?_
                  refine j_istore_n 174 (L2 := [(1, .int (i32 (0))), (0, .ref (R))]) dX8_advance_173 rfl rfl (Nat.le_of_ble_eq_true rfl) rfl ?_
                  refine j_goto 97 dX8_advance_174 rfl ?_
                  exact ih_97 (i + 1) _ (by omega) hbn hin
                · refine j_aload_n 151 1 dX8_advance_150 rfl rfl ?_
                  refine j_aload_n 152 1 dX8_advance_151 rfl rfl ?_
                  refine j_geti 155 dX8_advance_152 rfl fl_X8_26 hR.rd rfl rfl (fun r_152 => ?_)
                  refine j_top (y := ((q + (i + 1) : Nat) : Int)) (tokM_at) ?_
                  refine j_callV 158 (As := [.int (i32 (((q + (i + 1) : Nat) : Int)))]) (kc2 := 0) (ks2 := 0) dX8_advance_155 rfl mvX8_signAt lk_X8_199 hR.rd rfl ⟨Nat.le_of_ble_eq_true rfl, rfl⟩ rfl rfl (Nat.le_of_ble_eq_true rfl) ⟨Nat.le_of_ble_eq_true rfl, Nat.le_of_ble_eq_true rfl⟩ ⟨Nat.le_of_ble_eq_true rfl, Nat.le_of_ble_eq_true rfl⟩ (c_signAt hR hXu (k := q + (i + 1)) (by omega)) x_d (k_d1 ?_)
                  refine j_callS 161 (As := [.int (i32 (sgn T (q + (i + 1))))]) (kc2 := 0) (ks2 := 0) dX8_advance_158 rfl msX8_kindOf lk_X8_206 rfl rfl (Nat.le_of_ble_eq_true rfl) ⟨Nat.le_of_ble_eq_true rfl, Nat.le_of_ble_eq_true rfl⟩ ⟨Nat.le_of_ble_eq_true rfl, Nat.le_of_ble_eq_true rfl⟩ (c_kindOf (by have := sgn_r hX.2.2.2 (q + (i + 1)); exact ⟨by omega, by omega⟩)) x_d (k_d1 ?_)
                  refine j_aload_n 162 1 dX8_advance_161 rfl rfl ?_
                  refine j_geti 165 dX8_advance_162 rfl fl_X8_52 hR.rd rfl rfl (fun r_162 => ?_)
                  refine j_top (y := kdT T q) (tokM_at) ?_
                  refine j_icmp_ne 168 172 dX8_advance_165 rfl rfl (by have := kindI_r (sgn T (q + (i + 1))); exact ⟨by omega, by omega⟩) ⟨by omega, by omega⟩ (fun c_165 => ?_) (fun c_165 => ?_)
                  · have hbn : (0 : Int) = 0 ∨ (0 : Int) = 1 := Or.inl rfl
                    have hin : (i + 1 < szT T q ∧ (0 : Int) = 1) ∨ (i + 1 = szT T q ∧ ((0 : Int) = 0 ∨ kdT T q = 0)) := Or.inr ⟨by have h9 := szT_on hX.2.2.2 hilt (by first | exact Or.inl (by assumption) | exact Or.inr (by assumption)); rcases Nat.lt_or_ge (i + 1) (szT T q) with z | z; exact absurd (h9.mpr z) c_165; omega, Or.inl rfl⟩
                    refine j_iconst 173 dX8_advance_172 rfl ?_
                    refine j_istore_n 174 (L2 := [(1, .int (i32 (0))), (0, .ref (R))]) dX8_advance_173 rfl rfl (Nat.le_of_ble_eq_true rfl) rfl ?_
                    refine j_goto 97 dX8_advance_174 rfl ?_
                    exact ih_97 (i + 1) _ (by omega) hbn hin
                  · have hbn : (1 : Int) = 0 ∨ (1 : Int) = 1 := Or.inr rfl
                    have hin : (i + 1 < szT T q ∧ (1 : Int) = 1) ∨ (i + 1 = szT T q ∧ ((1 : Int) = 0 ∨ kdT T q = 0)) := Or.inl ⟨(szT_on hX.2.2.2 hilt (by first | exact Or.inl (by assumption) | exact Or.inr (by assumption))).mp c_165, rfl⟩
                    refine j_iconst 169 dX8_advance_168 rfl ?_
                    refine j_goto 173 dX8_advance_169 rfl ?_
                    refine j_istore_n 174 (L2 := [(1, .int (i32 (1))), (0, .ref (R))]) dX8_advance_173 rfl rfl (Nat.le_of_ble_eq_true rfl) rfl ?_
                    refine j_goto 97 dX8_advance_174 rfl ?_
                    exact ih_97 (i + 1) _ (by omega) hbn hin
      · have hkd : kdT T (p + k) = kindI (sgn T (p + k)) := if_pos (by omega)
        refine j_aload_n 78 0 dX8_advance_77 rfl rfl ?_
        refine j_aload_n 79 0 dX8_advance_78 rfl rfl ?_
        refine j_geti 82 dX8_advance_79 rfl fl_X8_26 hR.rd rfl rfl (fun r_79 => ?_)
        refine j_top (y := ((p + k : Nat) : Int)) (hN5) ?_
        refine j_callV 85 (As := [.int (i32 (((p + k : Nat) : Int)))]) (kc2 := 0) (ks2 := 0) dX8_advance_82 rfl mvX8_signAt lk_X8_199 hR.rd rfl ⟨Nat.le_of_ble_eq_true rfl, rfl⟩ rfl rfl (Nat.le_of_ble_eq_true rfl) ⟨Nat.le_of_ble_eq_true rfl, Nat.le_of_ble_eq_true rfl⟩ ⟨Nat.le_of_ble_eq_true rfl, Nat.le_of_ble_eq_true rfl⟩ (c_signAt hR hXN (k := p + k) (by omega)) x_d (k_d1 ?_)
        refine j_callS 88 (As := [.int (i32 (sgn T (p + k)))]) (kc2 := 0) (ks2 := 0) dX8_advance_85 rfl msX8_kindOf lk_X8_206 rfl rfl (Nat.le_of_ble_eq_true rfl) ⟨Nat.le_of_ble_eq_true rfl, Nat.le_of_ble_eq_true rfl⟩ ⟨Nat.le_of_ble_eq_true rfl, Nat.le_of_ble_eq_true rfl⟩ (c_kindOf (by have := sgn_r hX.2.2.2 (p + k); exact ⟨by omega, by omega⟩)) x_d (k_d1 ?_)
        refine j_goto 92 dX8_advance_88 rfl ?_
        refine j_top (y := kdT T (p + k)) hkd.symm ?_
        refine j_puti 95 dX8_advance_92 rfl fl_X8_52 hR.rd rfl rfl rfl (by have := kdT_r (T := T) (p + k); exact ⟨by omega, by omega⟩) ?_
        refine j_mn (fun g_92 hg_92 => ?_)
        refine j_mem (hg_92.trans (tok_new (κ := kdT T (p + k)) (f := fT T (p + k)))) ?_
        obtain ⟨q, hq⟩ : ∃ q, p + k = q := ⟨_, rfl⟩
        rw [hq] at hkp hqk ⊢
        have hsz := szT_le hX.2.2.2 hkp
        have hkr := kdT_r (T := T) q
        refine j_iconst 96 dX8_advance_95 rfl ?_
        refine j_istore_n 97 (L2 := [(1, .int (i32 (1))), (0, .ref (R))]) dX8_advance_96 rfl rfl (Nat.le_of_ble_eq_true rfl) rfl ?_
        suffices lp_97 : ∀ (n_97 : Nat) (i : Nat) (b : Int), szT T q - i < n_97 → (b = 0 ∨ b = 1) → ((i < szT T q ∧ b = 1) ∨ (i = szT T q ∧ (b = 0 ∨ kdT T q = 0))) → J w mX8_advance 97 [(1, .int (i32 (b))), (0, .ref (R))] [] sh (tokM g R (q + i) q (kdT T q) i (fT T q)) 0 0 (dQ none sh (advM g R T p)) by
          exact lp_97 _ 0 1 (Nat.lt_succ_self _) (Or.inr rfl) (by by_cases h0 : 0 < szT T q; exact Or.inl ⟨h0, rfl⟩; exact Or.inr ⟨by omega, Or.inr (by by_cases hq2 : q < T.2; exact absurd (szT_pos hX.2.2.2 hq2) h0; exact if_neg hq2)⟩)
        intro n_97
        induction n_97 with
        | zero => intro i b h_; exact absurd h_ (Nat.not_lt_zero _)
        | succ n_97 ih_97 =>
          intro i b hn_97 hb hi
          have hXt : TxR (tokM g R (q + i) q (kdT T q) i (fT T q)) R tx T := tokM_X hX htx
          refine j_aload_n 98 1 dX8_advance_97 rfl rfl ?_
          refine j_geti 101 dX8_advance_98 rfl fl_X8_26 hR.rd rfl rfl (fun r_98 => ?_)
          refine j_top (y := ((q + i : Nat) : Int)) (tokM_at) ?_
          refine j_aload_n 102 1 dX8_advance_101 rfl rfl ?_
          refine j_geti 105 dX8_advance_102 rfl fl_X8_22 hR.rd rfl rfl (fun r_102 => ?_)
          refine j_top (y := (T.2 : Int)) (hXt.2.1) ?_
          refine j_icmp_ge 108 177 dX8_advance_105 rfl rfl (r32 (by omega) (by omega)) (r32 (by omega) (by omega)) (fun c_105 => ?_) (fun c_105 => ?_)
          · have hisz : i = szT T q := hi.elim (fun z => by omega) (fun z => z.1)
            exact j_vret dX8_advance_177 rfl (q_m (by unfold advM; rw [hqk, hisz]))
          · refine j_iload_n 109 0 dX8_advance_108 rfl rfl ?_
            refine j_if_eq 112 177 dX8_advance_109 rfl rfl (r01 hb) (fun c_109 => ?_) (fun c_109 => ?_)
            · have hisz : i = szT T q := hi.elim (fun z => absurd z.2 (by omega)) (fun z => z.1)
              exact j_vret dX8_advance_177 rfl (q_m (by unfold advM; rw [hqk, hisz]))
            · have hilt : i < szT T q := hi.elim (fun z => z.1) (fun z => absurd (z.2.elim id (fun z0 => by unfold kdT at z0; rw [if_pos (by omega)] at z0; have := kindI_r (sgn T q); omega)) c_109)
              refine j_aload_n 113 1 dX8_advance_112 rfl rfl ?_
              refine j_aload_n 114 1 dX8_advance_113 rfl rfl ?_
              refine j_aload_n 115 1 dX8_advance_114 rfl rfl ?_
              refine j_geti 118 dX8_advance_115 rfl fl_X8_26 hR.rd rfl rfl (fun r_115 => ?_)
              refine j_top (y := ((q + i : Nat) : Int)) (tokM_at) ?_
              refine j_callV 121 (As := [.int (i32 (((q + i : Nat) : Int)))]) (kc2 := 0) (ks2 := 0) dX8_advance_118 rfl mvX8_signAt lk_X8_199 hR.rd rfl ⟨Nat.le_of_ble_eq_true rfl, rfl⟩ rfl rfl (Nat.le_of_ble_eq_true rfl) ⟨Nat.le_of_ble_eq_true rfl, Nat.le_of_ble_eq_true rfl⟩ ⟨Nat.le_of_ble_eq_true rfl, Nat.le_of_ble_eq_true rfl⟩ (c_signAt hR hXt (k := q + i) (by omega)) x_d (k_d1 ?_)
              refine j_callV 124 (As := [.int (i32 (sgn T (q + i)))]) (kc2 := 0) (ks2 := 0) dX8_advance_121 rfl mvX8_addToToken lk_X8_209 hR.rd rfl ⟨Nat.le_of_ble_eq_true rfl, rfl⟩ rfl rfl (Nat.le_of_ble_eq_true rfl) ⟨Nat.le_of_ble_eq_true rfl, Nat.le_of_ble_eq_true rfl⟩ ⟨Nat.le_of_ble_eq_true rfl, Nat.le_of_ble_eq_true rfl⟩ (c_addTok hR hX.2.2.2 hX.1 (by omega) hilt) x_d (k_d0 ?_)
              refine j_aload_n 125 1 dX8_advance_124 rfl rfl ?_
              refine j_dup 126 dX8_advance_125 rfl rfl ?_
              refine j_geti 129 dX8_advance_126 rfl fl_X8_26 hR.rd rfl rfl (fun r_126 => ?_)
              refine j_top (y := ((q + i : Nat) : Int)) (tokM_at) ?_
              refine j_iconst 130 dX8_advance_129 rfl ?_
              refine j_iadd 131 dX8_advance_130 rfl ?_
              refine j_puti 134 dX8_advance_131 rfl fl_X8_26 hR.rd rfl rfl rfl (r32 (by omega) (by omega)) ?_
              refine j_mn (fun g_131 hg_131 => ?_)
              refine j_mem (hg_131.trans (tok_5 (pl := q + i) (by omega))) ?_
              have hXu : TxR (tokM g R (q + (i + 1)) q (kdT T q) (i + 1) (fT T q)) R tx T := tokM_X hX htx
              refine j_aload_n 135 1 dX8_advance_134 rfl rfl ?_
              refine j_geti 138 dX8_advance_135 rfl fl_X8_52 hR.rd rfl rfl (fun r_135 => ?_)
              refine j_top (y := kdT T q) (tokM_at) ?_
              refine j_iconst 139 dX8_advance_138 rfl ?_
              refine j_icmp_eq 142 150 dX8_advance_139 rfl rfl ⟨by omega, by omega⟩ (r32 (by decide) (by decide)) (fun c_139 => ?_) (fun c_139 => ?_)
              · refine j_aload_n 151 1 dX8_advance_150 rfl rfl ?_
                refine j_aload_n 152 1 dX8_advance_151 rfl rfl ?_
                refine j_geti 155 dX8_advance_152 rfl fl_X8_26 hR.rd rfl rfl (fun r_152 => ?_)
                refine j_top (y := ((q + (i + 1) : Nat) : Int)) (tokM_at) ?_
                refine j_callV 158 (As := [.int (i32 (((q + (i + 1) : Nat) : Int)))]) (kc2 := 0) (ks2 := 0) dX8_advance_155 rfl mvX8_signAt lk_X8_199 hR.rd rfl ⟨Nat.le_of_ble_eq_true rfl, rfl⟩ rfl rfl (Nat.le_of_ble_eq_true rfl) ⟨Nat.le_of_ble_eq_true rfl, Nat.le_of_ble_eq_true rfl⟩ ⟨Nat.le_of_ble_eq_true rfl, Nat.le_of_ble_eq_true rfl⟩ (c_signAt hR hXu (k := q + (i + 1)) (by omega)) x_d (k_d1 ?_)
                refine j_callS 161 (As := [.int (i32 (sgn T (q + (i + 1))))]) (kc2 := 0) (ks2 := 0) dX8_advance_158 rfl msX8_kindOf lk_X8_206 rfl rfl (Nat.le_of_ble_eq_true rfl) ⟨Nat.le_of_ble_eq_true rfl, Nat.le_of_ble_eq_true rfl⟩ ⟨Nat.le_of_ble_eq_true rfl, Nat.le_of_ble_eq_true rfl⟩ (c_kindOf (by have := sgn_r hX.2.2.2 (q + (i + 1)); exact ⟨by omega, by omega⟩)) x_d (k_d1 ?_)
                refine j_aload_n 162 1 dX8_advance_161 rfl rfl ?_
                refine j_geti 165 dX8_advance_162 rfl fl_X8_52 hR.rd rfl rfl (fun r_162 => ?_)
                refine j_top (y := kdT T q) (tokM_at) ?_
                refine j_icmp_ne 168 172 dX8_advance_165 rfl rfl (by have := kindI_r (sgn T (q + (i + 1))); exact ⟨by omega, by omega⟩) ⟨by omega, by omega⟩ (fun c_165 => ?_) (fun c_165 => ?_)
                · have hbn : (0 : Int) = 0 ∨ (0 : Int) = 1 := Or.inl rfl
                  have hin : (i + 1 < szT T q ∧ (0 : Int) = 1) ∨ (i + 1 = szT T q ∧ ((0 : Int) = 0 ∨ kdT T q = 0)) := Or.inr ⟨by have h9 := szT_on hX.2.2.2 hilt (by first | exact Or.inl (by assumption) | exact Or.inr (by assumption)); rcases Nat.lt_or_ge (i + 1) (szT T q) with z | z; exact absurd (h9.mpr z) c_165; omega, Or.inl rfl⟩
                  refine j_iconst 173 dX8_advance_172 rfl ?_
                  refine j_istore_n 174 (L2 := [(1, .int (i32 (0))), (0, .ref (R))]) dX8_advance_173 rfl rfl (Nat.le_of_ble_eq_true rfl) rfl ?_
                  refine j_goto 97 dX8_advance_174 rfl ?_
                  exact ih_97 (i + 1) _ (by omega) hbn hin
                · have hbn : (1 : Int) = 0 ∨ (1 : Int) = 1 := Or.inr rfl
                  have hin : (i + 1 < szT T q ∧ (1 : Int) = 1) ∨ (i + 1 = szT T q ∧ ((1 : Int) = 0 ∨ kdT T q = 0)) := Or.inl ⟨(szT_on hX.2.2.2 hilt (by first | exact Or.inl (by assumption) | exact Or.inr (by assumption))).mp c_165, rfl⟩
                  refine j_iconst 169 dX8_advance_168 rfl ?_
                  refine j_goto 173 dX8_advance_169 rfl ?_
                  refine j_istore_n 174 (L2 := [(1, .int (i32 (1))), (0, .ref (R))]) dX8_advance_173 rfl rfl (Nat.le_of_ble_eq_true rfl) rfl ?_
                  refine j_goto 97 dX8_advance_174 rfl ?_
                  exact ih_97 (i + 1) _ (by omega) hbn hin
              · refine j_aload_n 143 1 dX8_advance_142 rfl rfl ?_
                refine j_geti 146 dX8_advance_143 rfl fl_X8_52 hR.rd rfl rfl (fun r_143 => ?_)
                refine j_top (y := kdT T q) (tokM_at) ?_
                refine j_iconst 147 dX8_advance_146 rfl ?_
                refine j_icmp_ne 150 172 dX8_advance_147 rfl rfl ⟨by omega, by omega⟩ (r32 (by decide) (by decide)) (fun c_147 => ?_) (fun c_147 => ?_)
                · have hbn : (0 : Int) = 0 ∨ (0 : Int) = 1 := Or.inl rfl
                  have hin : (i + 1 < szT T q ∧ (0 : Int) = 1) ∨ (i + 1 = szT T q ∧ ((0 : Int) = 0 ∨ kdT T q = 0)) := Or.inr ⟨szT_one hilt c_139 c_147, Or.inl rfl⟩
                  refine j_iconst 173 dX8_advance_172 rfl ?_
                  refine j_istore_n 174 (L2 := [(1, .int (i32 (0))), (0, .ref (R))]) dX8_advance_173 rfl rfl (Nat.le_of_ble_eq_true rfl) rfl ?_
                  refine j_goto 97 dX8_advance_174 rfl ?_
                  exact ih_97 (i + 1) _ (by omega) hbn hin
                · refine j_aload_n 151 1 dX8_advance_150 rfl rfl ?_
                  refine j_aload_n 152 1 dX8_advance_151 rfl rfl ?_
                  refine j_geti 155 dX8_advance_152 rfl fl_X8_26 hR.rd rfl rfl (fun r_152 => ?_)
                  refine j_top (y := ((q + (i + 1) : Nat) : Int)) (tokM_at) ?_
                  refine j_callV 158 (As := [.int (i32 (((q + (i + 1) : Nat) : Int)))]) (kc2 := 0) (ks2 := 0) dX8_advance_155 rfl mvX8_signAt lk_X8_199 hR.rd rfl ⟨Nat.le_of_ble_eq_true rfl, rfl⟩ rfl rfl (Nat.le_of_ble_eq_true rfl) ⟨Nat.le_of_ble_eq_true rfl, Nat.le_of_ble_eq_true rfl⟩ ⟨Nat.le_of_ble_eq_true rfl, Nat.le_of_ble_eq_true rfl⟩ (c_signAt hR hXu (k := q + (i + 1)) (by omega)) x_d (k_d1 ?_)
                  refine j_callS 161 (As := [.int (i32 (sgn T (q + (i + 1))))]) (kc2 := 0) (ks2 := 0) dX8_advance_158 rfl msX8_kindOf lk_X8_206 rfl rfl (Nat.le_of_ble_eq_true rfl) ⟨Nat.le_of_ble_eq_true rfl, Nat.le_of_ble_eq_true rfl⟩ ⟨Nat.le_of_ble_eq_true rfl, Nat.le_of_ble_eq_true rfl⟩ (c_kindOf (by have := sgn_r hX.2.2.2 (q + (i + 1)); exact ⟨by omega, by omega⟩)) x_d (k_d1 ?_)
                  refine j_aload_n 162 1 dX8_advance_161 rfl rfl ?_
                  refine j_geti 165 dX8_advance_162 rfl fl_X8_52 hR.rd rfl rfl (fun r_162 => ?_)
                  refine j_top (y := kdT T q) (tokM_at) ?_
                  refine j_icmp_ne 168 172 dX8_advance_165 rfl rfl (by have := kindI_r (sgn T (q + (i + 1))); exact ⟨by omega, by omega⟩) ⟨by omega, by omega⟩ (fun c_165 => ?_) (fun c_165 => ?_)
                  · have hbn : (0 : Int) = 0 ∨ (0 : Int) = 1 := Or.inl rfl
                    have hin : (i + 1 < szT T q ∧ (0 : Int) = 1) ∨ (i + 1 = szT T q ∧ ((0 : Int) = 0 ∨ kdT T q = 0)) := Or.inr ⟨by have h9 := szT_on hX.2.2.2 hilt (by first | exact Or.inl (by assumption) | exact Or.inr (by assumption)); rcases Nat.lt_or_ge (i + 1) (szT T q) with z | z; exact absurd (h9.mpr z) c_165; omega, Or.inl rfl⟩
                    refine j_iconst 173 dX8_advance_172 rfl ?_
                    refine j_istore_n 174 (L2 := [(1, .int (i32 (0))), (0, .ref (R))]) dX8_advance_173 rfl rfl (Nat.le_of_ble_eq_true rfl) rfl ?_
                    refine j_goto 97 dX8_advance_174 rfl ?_
                    exact ih_97 (i + 1) _ (by omega) hbn hin
                  · have hbn : (1 : Int) = 0 ∨ (1 : Int) = 1 := Or.inr rfl
                    have hin : (i + 1 < szT T q ∧ (1 : Int) = 1) ∨ (i + 1 = szT T q ∧ ((1 : Int) = 0 ∨ kdT T q = 0)) := Or.inl ⟨(szT_on hX.2.2.2 hilt (by first | exact Or.inl (by assumption) | exact Or.inr (by assumption))).mp c_165, rfl⟩
                    refine j_iconst 169 dX8_advance_168 rfl ?_
                    refine j_goto 173 dX8_advance_169 rfl ?_
                    refine j_istore_n 174 (L2 := [(1, .int (i32 (1))), (0, .ref (R))]) dX8_advance_173 rfl rfl (Nat.le_of_ble_eq_true rfl) rfl ?_
                    refine j_goto 97 dX8_advance_174 rfl ?_
                    exact ih_97 (i + 1) _ (by omega) hbn hin
    · refine j_aload_n 12 0 dX8_advance_11 rfl rfl ?_
      refine j_aload_n 13 0 dX8_advance_12 rfl rfl ?_
      refine j_geti 16 dX8_advance_13 rfl fl_X8_26 hR.rd rfl rfl (fun r_13 => ?_)
      refine j_top (y := ((p + k : Nat) : Int)) (up2_s) ?_
      refine j_callV 19 (As := [.int (i32 (((p + k : Nat) : Int)))]) (kc2 := 0) (ks2 := 0) dX8_advance_16 rfl mvX8_signAt lk_X8_199 hR.rd rfl ⟨Nat.le_of_ble_eq_true rfl, rfl⟩ rfl rfl (Nat.le_of_ble_eq_true rfl) ⟨Nat.le_of_ble_eq_true rfl, Nat.le_of_ble_eq_true rfl⟩ ⟨Nat.le_of_ble_eq_true rfl, Nat.le_of_ble_eq_true rfl⟩ (c_signAt hR hX5 (k := p + k) (by omega)) x_d (k_d1 ?_)
      refine j_bipush 21 dX8_advance_19 rfl (by decide) ?_
      refine j_icmp_ne 24 37 dX8_advance_21 rfl rfl (by have := sgn_r hX.2.2.2 (p + k); exact ⟨by omega, by omega⟩) (r32 (by decide) (by decide)) (fun c_21 => ?_) (fun c_21 => ?_)
      · have hqk : sk T p = p + k := sk_at hsp (fun z => c_21 ((sgn_eq hX.2.2.2 (by decide)).mpr z))
        refine j_aload_n 38 0 dX8_advance_37 rfl rfl ?_
        refine j_aload_n 39 0 dX8_advance_38 rfl rfl ?_
        refine j_geti 42 dX8_advance_39 rfl fl_X8_26 hR.rd rfl rfl (fun r_39 => ?_)
        refine j_top (y := ((p + k : Nat) : Int)) (up2_s) ?_
        refine j_puti 45 dX8_advance_42 rfl fl_X8_190 hR.rd rfl rfl rfl (r32 (by omega) (by omega)) ?_
        refine j_mn (fun g_42 hg_42 => ?_)
        refine j_aload_n 46 0 dX8_advance_45 rfl rfl ?_
        refine j_iconst 47 dX8_advance_46 rfl ?_
        refine j_puti 50 dX8_advance_47 rfl fl_X8_187 hR.rd rfl rfl rfl (r32 (by decide) (by decide)) ?_
        refine j_mn (fun g_47 hg_47 => ?_)
        refine j_aload_n 51 0 dX8_advance_50 rfl rfl ?_
        refine j_iconst 52 dX8_advance_51 rfl ?_
        refine j_puti 55 dX8_advance_52 rfl fl_X8_75 hR.rd rfl rfl rfl (r32 (by decide) (by decide)) ?_
        refine j_mn (fun g_52 hg_52 => ?_)
        refine j_aload_n 56 0 dX8_advance_55 rfl rfl ?_
        refine j_iconst 57 dX8_advance_56 rfl ?_
        refine j_puti 60 dX8_advance_57 rfl fl_X8_111 hR.rd rfl rfl rfl (r32 (by decide) (by decide)) ?_
        refine j_mn (fun g_57 hg_57 => ?_)
        refine j_aload_n 61 0 dX8_advance_60 rfl rfl ?_
        refine j_lconst 62 dX8_advance_61 rfl (x := 0) rfl ?_
        refine j_putl 65 dX8_advance_62 rfl fl_X8_128 hR.rd rfl rfl rfl (by decide) ?_
        refine j_mn (fun g_62 hg_62 => ?_)
        refine j_mem (show g_62 = (up2 (up2 (up2 (up2 (up2 (up2 g R 5 ((p + k : Nat) : Int)) R 10 ((p + k : Nat) : Int)) R 11 0) R 12 0) R 13 1) R 14 0) by rw [hg_62, hg_57, hg_52, hg_47, hg_42]) ?_
        have hXN : TxR (up2 (up2 (up2 (up2 (up2 (up2 g R 5 ((p + k : Nat) : Int)) R 10 ((p + k : Nat) : Int)) R 11 0) R 12 0) R 13 1) R 14 0) R tx T := ⟨hX.1, by rw [up2_k (by decide), up2_k (by decide), up2_k (by decide), up2_k (by decide), up2_k (by decide)]; exact hX5.2.1, fun j hj => by rw [up2_row htx, up2_row htx, up2_row htx, up2_row htx, up2_row htx]; exact hX5.2.2.1 j hj, hX.2.2.2⟩
        have hN5 : (up2 (up2 (up2 (up2 (up2 (up2 g R 5 ((p + k : Nat) : Int)) R 10 ((p + k : Nat) : Int)) R 11 0) R 12 0) R 13 1) R 14 0) R 5 = ((p + k : Nat) : Int) := by rw [up2_k (by decide), up2_k (by decide), up2_k (by decide), up2_k (by decide), up2_k (by decide)]; exact up2_s
        refine j_aload_n 66 0 dX8_advance_65 rfl rfl ?_
        refine j_aload_n 67 0 dX8_advance_66 rfl rfl ?_
        refine j_geti 70 dX8_advance_67 rfl fl_X8_26 hR.rd rfl rfl (fun r_67 => ?_)
        refine j_top (y := ((p + k : Nat) : Int)) (hN5) ?_
        refine j_aload_n 71 0 dX8_advance_70 rfl rfl ?_
        refine j_geti 74 dX8_advance_71 rfl fl_X8_22 hR.rd rfl rfl (fun r_71 => ?_)
        refine j_top (y := (T.2 : Int)) (hXN.2.1) ?_
        refine j_icmp_ge 77 91 dX8_advance_74 rfl rfl (r32 (by omega) (by omega)) (r32 (by omega) (by omega)) (fun c_74 => ?_) (fun c_74 => ?_)
        · have hkd : kdT T (p + k) = 0 := if_neg (by omega)
          refine j_iconst 92 dX8_advance_91 rfl ?_
          refine j_top (y := kdT T (p + k)) hkd.symm ?_
          refine j_puti 95 dX8_advance_92 rfl fl_X8_52 hR.rd rfl rfl rfl (by have := kdT_r (T := T) (p + k); exact ⟨by omega, by omega⟩) ?_
          refine j_mn (fun g_92 hg_92 => ?_)
          refine j_mem (hg_92.trans (tok_new (κ := kdT T (p + k)) (f := fT T (p + k)))) ?_
          obtain ⟨q, hq⟩ : ∃ q, p + k = q := ⟨_, rfl⟩
          rw [hq] at hkp hqk ⊢
          have hsz := szT_le hX.2.2.2 hkp
          have hkr := kdT_r (T := T) q
          refine j_iconst 96 dX8_advance_95 rfl ?_
          refine j_istore_n 97 (L2 := [(1, .int (i32 (1))), (0, .ref (R))]) dX8_advance_96 rfl rfl (Nat.le_of_ble_eq_true rfl) rfl ?_
          suffices lp_97 : ∀ (n_97 : Nat) (i : Nat) (b : Int), szT T q - i < n_97 → (b = 0 ∨ b = 1) → ((i < szT T q ∧ b = 1) ∨ (i = szT T q ∧ (b = 0 ∨ kdT T q = 0))) → J w mX8_advance 97 [(1, .int (i32 (b))), (0, .ref (R))] [] sh (tokM g R (q + i) q (kdT T q) i (fT T q)) 0 0 (dQ none sh (advM g R T p)) by
            exact lp_97 _ 0 1 (Nat.lt_succ_self _) (Or.inr rfl) (by by_cases h0 : 0 < szT T q; exact Or.inl ⟨h0, rfl⟩; exact Or.inr ⟨by omega, Or.inr (by by_cases hq2 : q < T.2; exact absurd (szT_pos hX.2.2.2 hq2) h0; exact if_neg hq2)⟩)
          intro n_97
          induction n_97 with
          | zero => intro i b h_; exact absurd h_ (Nat.not_lt_zero _)
          | succ n_97 ih_97 =>
            intro i b hn_97 hb hi
            have hXt : TxR (tokM g R (q + i) q (kdT T q) i (fT T q)) R tx T := tokM_X hX htx
            refine j_aload_n 98 1 dX8_advance_97 rfl rfl ?_
            refine j_geti 101 dX8_advance_98 rfl fl_X8_26 hR.rd rfl rfl (fun r_98 => ?_)
            refine j_top (y := ((q + i : Nat) : Int)) (tokM_at) ?_
            refine j_aload_n 102 1 dX8_advance_101 rfl rfl ?_
            refine j_geti 105 dX8_advance_102 rfl fl_X8_22 hR.rd rfl rfl (fun r_102 => ?_)
            refine j_top (y := (T.2 : Int)) (hXt.2.1) ?_
            refine j_icmp_ge 108 177 dX8_advance_105 rfl rfl (r32 (by omega) (by omega)) (r32 (by omega) (by omega)) (fun c_105 => ?_) (fun c_105 => ?_)
            · have hisz : i = szT T q := hi.elim (fun z => by omega) (fun z => z.1)
              exact j_vret dX8_advance_177 rfl (q_m (by unfold advM; rw [hqk, hisz]))
            · refine j_iload_n 109 0 dX8_advance_108 rfl rfl ?_
              refine j_if_eq 112 177 dX8_advance_109 rfl rfl (r01 hb) (fun c_109 => ?_) (fun c_109 => ?_)
              · have hisz : i = szT T q := hi.elim (fun z => absurd z.2 (by omega)) (fun z => z.1)
                exact j_vret dX8_advance_177 rfl (q_m (by unfold advM; rw [hqk, hisz]))
              · have hilt : i < szT T q := hi.elim (fun z => z.1) (fun z => absurd (z.2.elim id (fun z0 => by unfold kdT at z0; rw [if_pos (by omega)] at z0; have := kindI_r (sgn T q); omega)) c_109)
                refine j_aload_n 113 1 dX8_advance_112 rfl rfl ?_
                refine j_aload_n 114 1 dX8_advance_113 rfl rfl ?_
                refine j_aload_n 115 1 dX8_advance_114 rfl rfl ?_
                refine j_geti 118 dX8_advance_115 rfl fl_X8_26 hR.rd rfl rfl (fun r_115 => ?_)
                refine j_top (y := ((q + i : Nat) : Int)) (tokM_at) ?_
                refine j_callV 121 (As := [.int (i32 (((q + i : Nat) : Int)))]) (kc2 := 0) (ks2 := 0) dX8_advance_118 rfl mvX8_signAt lk_X8_199 hR.rd rfl ⟨Nat.le_of_ble_eq_true rfl, rfl⟩ rfl rfl (Nat.le_of_ble_eq_true rfl) ⟨Nat.le_of_ble_eq_true rfl, Nat.le_of_ble_eq_true rfl⟩ ⟨Nat.le_of_ble_eq_true rfl, Nat.le_of_ble_eq_true rfl⟩ (c_signAt hR hXt (k := q + i) (by omega)) x_d (k_d1 ?_)
                refine j_callV 124 (As := [.int (i32 (sgn T (q + i)))]) (kc2 := 0) (ks2 := 0) dX8_advance_121 rfl mvX8_addToToken lk_X8_209 hR.rd rfl ⟨Nat.le_of_ble_eq_true rfl, rfl⟩ rfl rfl (Nat.le_of_ble_eq_true rfl) ⟨Nat.le_of_ble_eq_true rfl, Nat.le_of_ble_eq_true rfl⟩ ⟨Nat.le_of_ble_eq_true rfl, Nat.le_of_ble_eq_true rfl⟩ (c_addTok hR hX.2.2.2 hX.1 (by omega) hilt) x_d (k_d0 ?_)
                refine j_aload_n 125 1 dX8_advance_124 rfl rfl ?_
                refine j_dup 126 dX8_advance_125 rfl rfl ?_
                refine j_geti 129 dX8_advance_126 rfl fl_X8_26 hR.rd rfl rfl (fun r_126 => ?_)
                refine j_top (y := ((q + i : Nat) : Int)) (tokM_at) ?_
                refine j_iconst 130 dX8_advance_129 rfl ?_
                refine j_iadd 131 dX8_advance_130 rfl ?_
                refine j_puti 134 dX8_advance_131 rfl fl_X8_26 hR.rd rfl rfl rfl (r32 (by omega) (by omega)) ?_
                refine j_mn (fun g_131 hg_131 => ?_)
                refine j_mem (hg_131.trans (tok_5 (pl := q + i) (by omega))) ?_
                have hXu : TxR (tokM g R (q + (i + 1)) q (kdT T q) (i + 1) (fT T q)) R tx T := tokM_X hX htx
                refine j_aload_n 135 1 dX8_advance_134 rfl rfl ?_
                refine j_geti 138 dX8_advance_135 rfl fl_X8_52 hR.rd rfl rfl (fun r_135 => ?_)
                refine j_top (y := kdT T q) (tokM_at) ?_
                refine j_iconst 139 dX8_advance_138 rfl ?_
                refine j_icmp_eq 142 150 dX8_advance_139 rfl rfl ⟨by omega, by omega⟩ (r32 (by decide) (by decide)) (fun c_139 => ?_) (fun c_139 => ?_)
                · refine j_aload_n 151 1 dX8_advance_150 rfl rfl ?_
                  refine j_aload_n 152 1 dX8_advance_151 rfl rfl ?_
                  refine j_geti 155 dX8_advance_152 rfl fl_X8_26 hR.rd rfl rfl (fun r_152 => ?_)
                  refine j_top (y := ((q + (i + 1) : Nat) : Int)) (tokM_at) ?_
                  refine j_callV 158 (As := [.int (i32 (((q + (i + 1) : Nat) : Int)))]) (kc2 := 0) (ks2 := 0) dX8_advance_155 rfl mvX8_signAt lk_X8_199 hR.rd rfl ⟨Nat.le_of_ble_eq_true rfl, rfl⟩ rfl rfl (Nat.le_of_ble_eq_true rfl) ⟨Nat.le_of_ble_eq_true rfl, Nat.le_of_ble_eq_true rfl⟩ ⟨Nat.le_of_ble_eq_true rfl, Nat.le_of_ble_eq_true rfl⟩ (c_signAt hR hXu (k := q + (i + 1)) (by omega)) x_d (k_d1 ?_)
                  refine j_callS 161 (As := [.int (i32 (sgn T (q + (i + 1))))]) (kc2 := 0) (ks2 := 0) dX8_advance_158 rfl msX8_kindOf lk_X8_206 rfl rfl (Nat.le_of_ble_eq_true rfl) ⟨Nat.le_of_ble_eq_true rfl, Nat.le_of_ble_eq_true rfl⟩ ⟨Nat.le_of_ble_eq_true rfl, Nat.le_of_ble_eq_true rfl⟩ (c_kindOf (by have := sgn_r hX.2.2.2 (q + (i + 1)); exact ⟨by omega, by omega⟩)) x_d (k_d1 ?_)
                  refine j_aload_n 162 1 dX8_advance_161 rfl rfl ?_
                  refine j_geti 165 dX8_advance_162 rfl fl_X8_52 hR.rd rfl rfl (fun r_162 => ?_)
                  refine j_top (y := kdT T q) (tokM_at) ?_
                  refine j_icmp_ne 168 172 dX8_advance_165 rfl rfl (by have := kindI_r (sgn T (q + (i + 1))); exact ⟨by omega, by omega⟩) ⟨by omega, by omega⟩ (fun c_165 => ?_) (fun c_165 => ?_)
                  · have hbn : (0 : Int) = 0 ∨ (0 : Int) = 1 := Or.inl rfl
                    have hin : (i + 1 < szT T q ∧ (0 : Int) = 1) ∨ (i + 1 = szT T q ∧ ((0 : Int) = 0 ∨ kdT T q = 0)) := Or.inr ⟨by have h9 := szT_on hX.2.2.2 hilt (by first | exact Or.inl (by assumption) | exact Or.inr (by assumption)); rcases Nat.lt_or_ge (i + 1) (szT T q) with z | z; exact absurd (h9.mpr z) c_165; omega, Or.inl rfl⟩
                    refine j_iconst 173 dX8_advance_172 rfl ?_
                    refine j_istore_n 174 (L2 := [(1, .int (i32 (0))), (0, .ref (R))]) dX8_advance_173 rfl rfl (Nat.le_of_ble_eq_true rfl) rfl ?_
                    refine j_goto 97 dX8_advance_174 rfl ?_
                    exact ih_97 (i + 1) _ (by omega) hbn hin
                  · have hbn : (1 : Int) = 0 ∨ (1 : Int) = 1 := Or.inr rfl
                    have hin : (i + 1 < szT T q ∧ (1 : Int) = 1) ∨ (i + 1 = szT T q ∧ ((1 : Int) = 0 ∨ kdT T q = 0)) := Or.inl ⟨(szT_on hX.2.2.2 hilt (by first | exact Or.inl (by assumption) | exact Or.inr (by assumption))).mp c_165, rfl⟩
                    refine j_iconst 169 dX8_advance_168 rfl ?_
                    refine j_goto 173 dX8_advance_169 rfl ?_
                    refine j_istore_n 174 (L2 := [(1, .int (i32 (1))), (0, .ref (R))]) dX8_advance_173 rfl rfl (Nat.le_of_ble_eq_true rfl) rfl ?_
                    refine j_goto 97 dX8_advance_174 rfl ?_
                    exact ih_97 (i + 1) _ (by omega) hbn hin
                · refine j_aload_n 143 1 dX8_advance_142 rfl rfl ?_
                  refine j_geti 146 dX8_advance_143 rfl fl_X8_52 hR.rd rfl rfl (fun r_143 => ?_)
                  refine j_top (y := kdT T q) (tokM_at) ?_
                  refine j_iconst 147 dX8_advance_146 rfl ?_
                  refine j_icmp_ne 150 172 dX8_advance_147 rfl rfl ⟨by omega, by omega⟩ (r32 (by decide) (by decide)) (fun c_147 => ?_) (fun c_147 => ?_)
                  · have hbn : (0 : Int) = 0 ∨ (0 : Int) = 1 := Or.inl rfl
                    have hin : (i + 1 < szT T q ∧ (0 : Int) = 1) ∨ (i + 1 = szT T q ∧ ((0 : Int) = 0 ∨ kdT T q = 0)) := Or.inr ⟨szT_one hilt c_139 c_147, Or.inl rfl⟩
                    refine j_iconst 173 dX8_advance_172 rfl ?_
                    refine j_istore_n 174 (L2 := [(1, .int (i32 (0))), (0, .ref (R))]) dX8_advance_173 rfl rfl (Nat.le_of_ble_eq_true rfl) rfl ?_
                    refine j_goto 97 dX8_advance_174 rfl ?_
                    exact ih_97 (i + 1) _ (by omega) hbn hin
                  · refine j_aload_n 151 1 dX8_advance_150 rfl rfl ?_
                    refine j_aload_n 152 1 dX8_advance_151 rfl rfl ?_
                    refine j_geti 155 dX8_advance_152 rfl fl_X8_26 hR.rd rfl rfl (fun r_152 => ?_)
                    refine j_top (y := ((q + (i + 1) : Nat) : Int)) (tokM_at) ?_
                    refine j_callV 158 (As := [.int (i32 (((q + (i + 1) : Nat) : Int)))]) (kc2 := 0) (ks2 := 0) dX8_advance_155 rfl mvX8_signAt lk_X8_199 hR.rd rfl ⟨Nat.le_of_ble_eq_true rfl, rfl⟩ rfl rfl (Nat.le_of_ble_eq_true rfl) ⟨Nat.le_of_ble_eq_true rfl, Nat.le_of_ble_eq_true rfl⟩ ⟨Nat.le_of_ble_eq_true rfl, Nat.le_of_ble_eq_true rfl⟩ (c_signAt hR hXu (k := q + (i + 1)) (by omega)) x_d (k_d1 ?_)
                    refine j_callS 161 (As := [.int (i32 (sgn T (q + (i + 1))))]) (kc2 := 0) (ks2 := 0) dX8_advance_158 rfl msX8_kindOf lk_X8_206 rfl rfl (Nat.le_of_ble_eq_true rfl) ⟨Nat.le_of_ble_eq_true rfl, Nat.le_of_ble_eq_true rfl⟩ ⟨Nat.le_of_ble_eq_true rfl, Nat.le_of_ble_eq_true rfl⟩ (c_kindOf (by have := sgn_r hX.2.2.2 (q + (i + 1)); exact ⟨by omega, by omega⟩)) x_d (k_d1 ?_)
                    refine j_aload_n 162 1 dX8_advance_161 rfl rfl ?_
                    refine j_geti 165 dX8_advance_162 rfl fl_X8_52 hR.rd rfl rfl (fun r_162 => ?_)
                    refine j_top (y := kdT T q) (tokM_at) ?_
                    refine j_icmp_ne 168 172 dX8_advance_165 rfl rfl (by have := kindI_r (sgn T (q + (i + 1))); exact ⟨by omega, by omega⟩) ⟨by omega, by omega⟩ (fun c_165 => ?_) (fun c_165 => ?_)
                    · have hbn : (0 : Int) = 0 ∨ (0 : Int) = 1 := Or.inl rfl
                      have hin : (i + 1 < szT T q ∧ (0 : Int) = 1) ∨ (i + 1 = szT T q ∧ ((0 : Int) = 0 ∨ kdT T q = 0)) := Or.inr ⟨by have h9 := szT_on hX.2.2.2 hilt (by first | exact Or.inl (by assumption) | exact Or.inr (by assumption)); rcases Nat.lt_or_ge (i + 1) (szT T q) with z | z; exact absurd (h9.mpr z) c_165; omega, Or.inl rfl⟩
                      refine j_iconst 173 dX8_advance_172 rfl ?_
                      refine j_istore_n 174 (L2 := [(1, .int (i32 (0))), (0, .ref (R))]) dX8_advance_173 rfl rfl (Nat.le_of_ble_eq_true rfl) rfl ?_
                      refine j_goto 97 dX8_advance_174 rfl ?_
                      exact ih_97 (i + 1) _ (by omega) hbn hin
                    · have hbn : (1 : Int) = 0 ∨ (1 : Int) = 1 := Or.inr rfl
                      have hin : (i + 1 < szT T q ∧ (1 : Int) = 1) ∨ (i + 1 = szT T q ∧ ((1 : Int) = 0 ∨ kdT T q = 0)) := Or.inl ⟨(szT_on hX.2.2.2 hilt (by first | exact Or.inl (by assumption) | exact Or.inr (by assumption))).mp c_165, rfl⟩
                      refine j_iconst 169 dX8_advance_168 rfl ?_
                      refine j_goto 173 dX8_advance_169 rfl ?_
                      refine j_istore_n 174 (L2 := [(1, .int (i32 (1))), (0, .ref (R))]) dX8_advance_173 rfl rfl (Nat.le_of_ble_eq_true rfl) rfl ?_
                      refine j_goto 97 dX8_advance_174 rfl ?_
                      exact ih_97 (i + 1) _ (by omega) hbn hin
        · have hkd : kdT T (p + k) = kindI (sgn T (p + k)) := if_pos (by omega)
          refine j_aload_n 78 0 dX8_advance_77 rfl rfl ?_
          refine j_aload_n 79 0 dX8_advance_78 rfl rfl ?_
          refine j_geti 82 dX8_advance_79 rfl fl_X8_26 hR.rd rfl rfl (fun r_79 => ?_)
          refine j_top (y := ((p + k : Nat) : Int)) (hN5) ?_
          refine j_callV 85 (As := [.int (i32 (((p + k : Nat) : Int)))]) (kc2 := 0) (ks2 := 0) dX8_advance_82 rfl mvX8_signAt lk_X8_199 hR.rd rfl ⟨Nat.le_of_ble_eq_true rfl, rfl⟩ rfl rfl (Nat.le_of_ble_eq_true rfl) ⟨Nat.le_of_ble_eq_true rfl, Nat.le_of_ble_eq_true rfl⟩ ⟨Nat.le_of_ble_eq_true rfl, Nat.le_of_ble_eq_true rfl⟩ (c_signAt hR hXN (k := p + k) (by omega)) x_d (k_d1 ?_)
          refine j_callS 88 (As := [.int (i32 (sgn T (p + k)))]) (kc2 := 0) (ks2 := 0) dX8_advance_85 rfl msX8_kindOf lk_X8_206 rfl rfl (Nat.le_of_ble_eq_true rfl) ⟨Nat.le_of_ble_eq_true rfl, Nat.le_of_ble_eq_true rfl⟩ ⟨Nat.le_of_ble_eq_true rfl, Nat.le_of_ble_eq_true rfl⟩ (c_kindOf (by have := sgn_r hX.2.2.2 (p + k); exact ⟨by omega, by omega⟩)) x_d (k_d1 ?_)
          refine j_goto 92 dX8_advance_88 rfl ?_
          refine j_top (y := kdT T (p + k)) hkd.symm ?_
          refine j_puti 95 dX8_advance_92 rfl fl_X8_52 hR.rd rfl rfl rfl (by have := kdT_r (T := T) (p + k); exact ⟨by omega, by omega⟩) ?_
          refine j_mn (fun g_92 hg_92 => ?_)
          refine j_mem (hg_92.trans (tok_new (κ := kdT T (p + k)) (f := fT T (p + k)))) ?_
          obtain ⟨q, hq⟩ : ∃ q, p + k = q := ⟨_, rfl⟩
          rw [hq] at hkp hqk ⊢
          have hsz := szT_le hX.2.2.2 hkp
          have hkr := kdT_r (T := T) q
          refine j_iconst 96 dX8_advance_95 rfl ?_
          refine j_istore_n 97 (L2 := [(1, .int (i32 (1))), (0, .ref (R))]) dX8_advance_96 rfl rfl (Nat.le_of_ble_eq_true rfl) rfl ?_
          suffices lp_97 : ∀ (n_97 : Nat) (i : Nat) (b : Int), szT T q - i < n_97 → (b = 0 ∨ b = 1) → ((i < szT T q ∧ b = 1) ∨ (i = szT T q ∧ (b = 0 ∨ kdT T q = 0))) → J w mX8_advance 97 [(1, .int (i32 (b))), (0, .ref (R))] [] sh (tokM g R (q + i) q (kdT T q) i (fT T q)) 0 0 (dQ none sh (advM g R T p)) by
            exact lp_97 _ 0 1 (Nat.lt_succ_self _) (Or.inr rfl) (by by_cases h0 : 0 < szT T q; exact Or.inl ⟨h0, rfl⟩; exact Or.inr ⟨by omega, Or.inr (by by_cases hq2 : q < T.2; exact absurd (szT_pos hX.2.2.2 hq2) h0; exact if_neg hq2)⟩)
          intro n_97
          induction n_97 with
          | zero => intro i b h_; exact absurd h_ (Nat.not_lt_zero _)
          | succ n_97 ih_97 =>
            intro i b hn_97 hb hi
            have hXt : TxR (tokM g R (q + i) q (kdT T q) i (fT T q)) R tx T := tokM_X hX htx
            refine j_aload_n 98 1 dX8_advance_97 rfl rfl ?_
            refine j_geti 101 dX8_advance_98 rfl fl_X8_26 hR.rd rfl rfl (fun r_98 => ?_)
            refine j_top (y := ((q + i : Nat) : Int)) (tokM_at) ?_
            refine j_aload_n 102 1 dX8_advance_101 rfl rfl ?_
            refine j_geti 105 dX8_advance_102 rfl fl_X8_22 hR.rd rfl rfl (fun r_102 => ?_)
            refine j_top (y := (T.2 : Int)) (hXt.2.1) ?_
            refine j_icmp_ge 108 177 dX8_advance_105 rfl rfl (r32 (by omega) (by omega)) (r32 (by omega) (by omega)) (fun c_105 => ?_) (fun c_105 => ?_)
            · have hisz : i = szT T q := hi.elim (fun z => by omega) (fun z => z.1)
              exact j_vret dX8_advance_177 rfl (q_m (by unfold advM; rw [hqk, hisz]))
            · refine j_iload_n 109 0 dX8_advance_108 rfl rfl ?_
              refine j_if_eq 112 177 dX8_advance_109 rfl rfl (r01 hb) (fun c_109 => ?_) (fun c_109 => ?_)
              · have hisz : i = szT T q := hi.elim (fun z => absurd z.2 (by omega)) (fun z => z.1)
                exact j_vret dX8_advance_177 rfl (q_m (by unfold advM; rw [hqk, hisz]))
              · have hilt : i < szT T q := hi.elim (fun z => z.1) (fun z => absurd (z.2.elim id (fun z0 => by unfold kdT at z0; rw [if_pos (by omega)] at z0; have := kindI_r (sgn T q); omega)) c_109)
                refine j_aload_n 113 1 dX8_advance_112 rfl rfl ?_
                refine j_aload_n 114 1 dX8_advance_113 rfl rfl ?_
                refine j_aload_n 115 1 dX8_advance_114 rfl rfl ?_
                refine j_geti 118 dX8_advance_115 rfl fl_X8_26 hR.rd rfl rfl (fun r_115 => ?_)
                refine j_top (y := ((q + i : Nat) : Int)) (tokM_at) ?_
                refine j_callV 121 (As := [.int (i32 (((q + i : Nat) : Int)))]) (kc2 := 0) (ks2 := 0) dX8_advance_118 rfl mvX8_signAt lk_X8_199 hR.rd rfl ⟨Nat.le_of_ble_eq_true rfl, rfl⟩ rfl rfl (Nat.le_of_ble_eq_true rfl) ⟨Nat.le_of_ble_eq_true rfl, Nat.le_of_ble_eq_true rfl⟩ ⟨Nat.le_of_ble_eq_true rfl, Nat.le_of_ble_eq_true rfl⟩ (c_signAt hR hXt (k := q + i) (by omega)) x_d (k_d1 ?_)
                refine j_callV 124 (As := [.int (i32 (sgn T (q + i)))]) (kc2 := 0) (ks2 := 0) dX8_advance_121 rfl mvX8_addToToken lk_X8_209 hR.rd rfl ⟨Nat.le_of_ble_eq_true rfl, rfl⟩ rfl rfl (Nat.le_of_ble_eq_true rfl) ⟨Nat.le_of_ble_eq_true rfl, Nat.le_of_ble_eq_true rfl⟩ ⟨Nat.le_of_ble_eq_true rfl, Nat.le_of_ble_eq_true rfl⟩ (c_addTok hR hX.2.2.2 hX.1 (by omega) hilt) x_d (k_d0 ?_)
                refine j_aload_n 125 1 dX8_advance_124 rfl rfl ?_
                refine j_dup 126 dX8_advance_125 rfl rfl ?_
                refine j_geti 129 dX8_advance_126 rfl fl_X8_26 hR.rd rfl rfl (fun r_126 => ?_)
                refine j_top (y := ((q + i : Nat) : Int)) (tokM_at) ?_
                refine j_iconst 130 dX8_advance_129 rfl ?_
                refine j_iadd 131 dX8_advance_130 rfl ?_
                refine j_puti 134 dX8_advance_131 rfl fl_X8_26 hR.rd rfl rfl rfl (r32 (by omega) (by omega)) ?_
                refine j_mn (fun g_131 hg_131 => ?_)
                refine j_mem (hg_131.trans (tok_5 (pl := q + i) (by omega))) ?_
                have hXu : TxR (tokM g R (q + (i + 1)) q (kdT T q) (i + 1) (fT T q)) R tx T := tokM_X hX htx
                refine j_aload_n 135 1 dX8_advance_134 rfl rfl ?_
                refine j_geti 138 dX8_advance_135 rfl fl_X8_52 hR.rd rfl rfl (fun r_135 => ?_)
                refine j_top (y := kdT T q) (tokM_at) ?_
                refine j_iconst 139 dX8_advance_138 rfl ?_
                refine j_icmp_eq 142 150 dX8_advance_139 rfl rfl ⟨by omega, by omega⟩ (r32 (by decide) (by decide)) (fun c_139 => ?_) (fun c_139 => ?_)
                · refine j_aload_n 151 1 dX8_advance_150 rfl rfl ?_
                  refine j_aload_n 152 1 dX8_advance_151 rfl rfl ?_
                  refine j_geti 155 dX8_advance_152 rfl fl_X8_26 hR.rd rfl rfl (fun r_152 => ?_)
                  refine j_top (y := ((q + (i + 1) : Nat) : Int)) (tokM_at) ?_
                  refine j_callV 158 (As := [.int (i32 (((q + (i + 1) : Nat) : Int)))]) (kc2 := 0) (ks2 := 0) dX8_advance_155 rfl mvX8_signAt lk_X8_199 hR.rd rfl ⟨Nat.le_of_ble_eq_true rfl, rfl⟩ rfl rfl (Nat.le_of_ble_eq_true rfl) ⟨Nat.le_of_ble_eq_true rfl, Nat.le_of_ble_eq_true rfl⟩ ⟨Nat.le_of_ble_eq_true rfl, Nat.le_of_ble_eq_true rfl⟩ (c_signAt hR hXu (k := q + (i + 1)) (by omega)) x_d (k_d1 ?_)
                  refine j_callS 161 (As := [.int (i32 (sgn T (q + (i + 1))))]) (kc2 := 0) (ks2 := 0) dX8_advance_158 rfl msX8_kindOf lk_X8_206 rfl rfl (Nat.le_of_ble_eq_true rfl) ⟨Nat.le_of_ble_eq_true rfl, Nat.le_of_ble_eq_true rfl⟩ ⟨Nat.le_of_ble_eq_true rfl, Nat.le_of_ble_eq_true rfl⟩ (c_kindOf (by have := sgn_r hX.2.2.2 (q + (i + 1)); exact ⟨by omega, by omega⟩)) x_d (k_d1 ?_)
                  refine j_aload_n 162 1 dX8_advance_161 rfl rfl ?_
                  refine j_geti 165 dX8_advance_162 rfl fl_X8_52 hR.rd rfl rfl (fun r_162 => ?_)
                  refine j_top (y := kdT T q) (tokM_at) ?_
                  refine j_icmp_ne 168 172 dX8_advance_165 rfl rfl (by have := kindI_r (sgn T (q + (i + 1))); exact ⟨by omega, by omega⟩) ⟨by omega, by omega⟩ (fun c_165 => ?_) (fun c_165 => ?_)
                  · have hbn : (0 : Int) = 0 ∨ (0 : Int) = 1 := Or.inl rfl
                    have hin : (i + 1 < szT T q ∧ (0 : Int) = 1) ∨ (i + 1 = szT T q ∧ ((0 : Int) = 0 ∨ kdT T q = 0)) := Or.inr ⟨by have h9 := szT_on hX.2.2.2 hilt (by first | exact Or.inl (by assumption) | exact Or.inr (by assumption)); rcases Nat.lt_or_ge (i + 1) (szT T q) with z | z; exact absurd (h9.mpr z) c_165; omega, Or.inl rfl⟩
                    refine j_iconst 173 dX8_advance_172 rfl ?_
                    refine j_istore_n 174 (L2 := [(1, .int (i32 (0))), (0, .ref (R))]) dX8_advance_173 rfl rfl (Nat.le_of_ble_eq_true rfl) rfl ?_
                    refine j_goto 97 dX8_advance_174 rfl ?_
                    exact ih_97 (i + 1) _ (by omega) hbn hin
                  · have hbn : (1 : Int) = 0 ∨ (1 : Int) = 1 := Or.inr rfl
                    have hin : (i + 1 < szT T q ∧ (1 : Int) = 1) ∨ (i + 1 = szT T q ∧ ((1 : Int) = 0 ∨ kdT T q = 0)) := Or.inl ⟨(szT_on hX.2.2.2 hilt (by first | exact Or.inl (by assumption) | exact Or.inr (by assumption))).mp c_165, rfl⟩
                    refine j_iconst 169 dX8_advance_168 rfl ?_
                    refine j_goto 173 dX8_advance_169 rfl ?_
                    refine j_istore_n 174 (L2 := [(1, .int (i32 (1))), (0, .ref (R))]) dX8_advance_173 rfl rfl (Nat.le_of_ble_eq_true rfl) rfl ?_
                    refine j_goto 97 dX8_advance_174 rfl ?_
                    exact ih_97 (i + 1) _ (by omega) hbn hin
                · refine j_aload_n 143 1 dX8_advance_142 rfl rfl ?_
                  refine j_geti 146 dX8_advance_143 rfl fl_X8_52 hR.rd rfl rfl (fun r_143 => ?_)
                  refine j_top (y := kdT T q) (tokM_at) ?_
                  refine j_iconst 147 dX8_advance_146 rfl ?_
                  refine j_icmp_ne 150 172 dX8_advance_147 rfl rfl ⟨by omega, by omega⟩ (r32 (by decide) (by decide)) (fun c_147 => ?_) (fun c_147 => ?_)
                  · have hbn : (0 : Int) = 0 ∨ (0 : Int) = 1 := Or.inl rfl
                    have hin : (i + 1 < szT T q ∧ (0 : Int) = 1) ∨ (i + 1 = szT T q ∧ ((0 : Int) = 0 ∨ kdT T q = 0)) := Or.inr ⟨szT_one hilt c_139 c_147, Or.inl rfl⟩
                    refine j_iconst 173 dX8_advance_172 rfl ?_
                    refine j_istore_n 174 (L2 := [(1, .int (i32 (0))), (0, .ref (R))]) dX8_advance_173 rfl rfl (Nat.le_of_ble_eq_true rfl) rfl ?_
                    refine j_goto 97 dX8_advance_174 rfl ?_
                    exact ih_97 (i + 1) _ (by omega) hbn hin
                  · refine j_aload_n 151 1 dX8_advance_150 rfl rfl ?_
                    refine j_aload_n 152 1 dX8_advance_151 rfl rfl ?_
                    refine j_geti 155 dX8_advance_152 rfl fl_X8_26 hR.rd rfl rfl (fun r_152 => ?_)
                    refine j_top (y := ((q + (i + 1) : Nat) : Int)) (tokM_at) ?_
                    refine j_callV 158 (As := [.int (i32 (((q + (i + 1) : Nat) : Int)))]) (kc2 := 0) (ks2 := 0) dX8_advance_155 rfl mvX8_signAt lk_X8_199 hR.rd rfl ⟨Nat.le_of_ble_eq_true rfl, rfl⟩ rfl rfl (Nat.le_of_ble_eq_true rfl) ⟨Nat.le_of_ble_eq_true rfl, Nat.le_of_ble_eq_true rfl⟩ ⟨Nat.le_of_ble_eq_true rfl, Nat.le_of_ble_eq_true rfl⟩ (c_signAt hR hXu (k := q + (i + 1)) (by omega)) x_d (k_d1 ?_)
                    refine j_callS 161 (As := [.int (i32 (sgn T (q + (i + 1))))]) (kc2 := 0) (ks2 := 0) dX8_advance_158 rfl msX8_kindOf lk_X8_206 rfl rfl (Nat.le_of_ble_eq_true rfl) ⟨Nat.le_of_ble_eq_true rfl, Nat.le_of_ble_eq_true rfl⟩ ⟨Nat.le_of_ble_eq_true rfl, Nat.le_of_ble_eq_true rfl⟩ (c_kindOf (by have := sgn_r hX.2.2.2 (q + (i + 1)); exact ⟨by omega, by omega⟩)) x_d (k_d1 ?_)
                    refine j_aload_n 162 1 dX8_advance_161 rfl rfl ?_
                    refine j_geti 165 dX8_advance_162 rfl fl_X8_52 hR.rd rfl rfl (fun r_162 => ?_)
                    refine j_top (y := kdT T q) (tokM_at) ?_
                    refine j_icmp_ne 168 172 dX8_advance_165 rfl rfl (by have := kindI_r (sgn T (q + (i + 1))); exact ⟨by omega, by omega⟩) ⟨by omega, by omega⟩ (fun c_165 => ?_) (fun c_165 => ?_)
                    · have hbn : (0 : Int) = 0 ∨ (0 : Int) = 1 := Or.inl rfl
                      have hin : (i + 1 < szT T q ∧ (0 : Int) = 1) ∨ (i + 1 = szT T q ∧ ((0 : Int) = 0 ∨ kdT T q = 0)) := Or.inr ⟨by have h9 := szT_on hX.2.2.2 hilt (by first | exact Or.inl (by assumption) | exact Or.inr (by assumption)); rcases Nat.lt_or_ge (i + 1) (szT T q) with z | z; exact absurd (h9.mpr z) c_165; omega, Or.inl rfl⟩
                      refine j_iconst 173 dX8_advance_172 rfl ?_
                      refine j_istore_n 174 (L2 := [(1, .int (i32 (0))), (0, .ref (R))]) dX8_advance_173 rfl rfl (Nat.le_of_ble_eq_true rfl) rfl ?_
                      refine j_goto 97 dX8_advance_174 rfl ?_
                      exact ih_97 (i + 1) _ (by omega) hbn hin
                    · have hbn : (1 : Int) = 0 ∨ (1 : Int) = 1 := Or.inr rfl
                      have hin : (i + 1 < szT T q ∧ (1 : Int) = 1) ∨ (i + 1 = szT T q ∧ ((1 : Int) = 0 ∨ kdT T q = 0)) := Or.inl ⟨(szT_on hX.2.2.2 hilt (by first | exact Or.inl (by assumption) | exact Or.inr (by assumption))).mp c_165, rfl⟩
                      refine j_iconst 169 dX8_advance_168 rfl ?_
                      refine j_goto 173 dX8_advance_169 rfl ?_
                      refine j_istore_n 174 (L2 := [(1, .int (i32 (1))), (0, .ref (R))]) dX8_advance_173 rfl rfl (Nat.le_of_ble_eq_true rfl) rfl ?_
                      refine j_goto 97 dX8_advance_174 rfl ?_
                      exact ih_97 (i + 1) _ (by omega) hbn hin
      · refine j_aload_n 25 0 dX8_advance_24 rfl rfl ?_
        refine j_dup 26 dX8_advance_25 rfl rfl ?_
        refine j_geti 29 dX8_advance_26 rfl fl_X8_26 hR.rd rfl rfl (fun r_26 => ?_)
        refine j_top (y := ((p + k : Nat) : Int)) (up2_s) ?_
        refine j_iconst 30 dX8_advance_29 rfl ?_
        refine j_iadd 31 dX8_advance_30 rfl ?_
        refine j_puti 34 dX8_advance_31 rfl fl_X8_26 hR.rd rfl rfl rfl (r32 (by omega) (by omega)) ?_
        refine j_mn (fun g_31 hg_31 => ?_)
        refine j_goto 0 dX8_advance_34 rfl ?_
        refine j_mem (hg_31.trans (up2_up2.trans (congrArg (fun z => up2 g R 5 z) (show ((p + k : Nat) : Int) + 1 = ((p + (k + 1) : Nat) : Int) by omega)))) ?_
        exact ih_0 (k + 1) (by omega) (by omega) (lt_step hsp ((sgn_eq hX.2.2.2 (by decide)).mp c_21))
