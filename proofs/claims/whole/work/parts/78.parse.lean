/-! the text of a setup: tokens and statements, as mathematics -/
abbrev Tx : Type := (Nat → Int) × Nat
def byT (T : Tx) (k : Nat) : Int := if k < T.2 then T.1 k else -1
def skF (T : Tx) : Nat → Nat → Nat
  | 0, p => p
  | n + 1, p => if byT T p = 32 then skF T n (p + 1) else p
/-- where the next token begins -/
def sk (T : Tx) (p : Nat) : Nat := skF T (T.2 - p) p
def rnF (P : Int → Bool) (T : Tx) : Nat → Nat → Nat
  | 0, _ => 0
  | n + 1, p => if P (byT T p) = true then rnF P T n (p + 1) + 1 else 0
def rn (P : Int → Bool) (T : Tx) (p : Nat) : Nat := rnF P T (T.2 - p) p
def isD (c : Int) : Bool := decide (48 ≤ c ∧ c ≤ 57)
def isL (c : Int) : Bool := decide (97 ≤ c ∧ c ≤ 122)
def dn (T : Tx) (p : Nat) : Nat := rn isD T p
def ln (T : Tx) (p : Nat) : Nat := rn isL T p
def fT (T : Tx) (q : Nat) : Nat → Int := fun k => byT T (q + k)
def l27 (f : Nat → Int) : Nat → Int
  | 0 => 0
  | n + 1 => 27 * l27 f n + (f n - 96)
section TX
variable {T : Tx}
theorem by_lt {p : Nat} {c : Int} (h : byT T p = c) (hc : c ≠ -1) : p < T.2 := by
  unfold byT at h
  split at h
  · assumption
  · exact absurd h.symm hc
theorem sk_s {p : Nat} (h : byT T p = 32) : sk T p = sk T (p + 1) := by
  have hl := by_lt h (by decide)
  unfold sk
  rw [show T.2 - p = (T.2 - (p + 1)) + 1 by omega]
  show (if byT T p = 32 then _ else _) = _
  rw [if_pos h]
theorem sk_n {p : Nat} (h : byT T p ≠ 32) : sk T p = p := by
  unfold sk
  cases T.2 - p with
  | zero => rfl
  | succ n => show (if byT T p = 32 then _ else _) = _; rw [if_neg h]
theorem sk_at {p k : Nat} (h : ∀ j, j < k → byT T (p + j) = 32) (h2 : byT T (p + k) ≠ 32) : sk T p = p + k := by
  induction k generalizing p with
  | zero => exact sk_n h2
  | succ k ih =>
    rw [sk_s (p := p) (h 0 (by omega)), ih (p := p + 1) (fun j hj => by rw [show p + 1 + j = p + (j + 1) by omega]; exact h (j + 1) (by omega)) (by rw [show p + 1 + k = p + (k + 1) by omega]; exact h2)]
    omega
theorem sk_spec (p : Nat) : ∃ k, sk T p = p + k ∧ (∀ j, j < k → byT T (p + j) = 32) ∧ byT T (p + k) ≠ 32 := by
  by_cases h : ∃ k, byT T (p + k) ≠ 32
  · obtain ⟨k, h1, h2⟩ := pk_least (fun k => byT T (p + k) ≠ 32) h
    have h3 : ∀ j, j < k → byT T (p + j) = 32 := fun j hj => Classical.byContradiction fun q => h2 j hj q
    exact ⟨k, sk_at h3 h1, h3, h1⟩
  · exfalso
    refine h ⟨T.2, ?_⟩
    unfold byT
    rw [if_neg (by omega)]
    decide
theorem sk_no (p : Nat) : byT T (sk T p) ≠ 32 := by
  obtain ⟨k, h1, h2, h3⟩ := sk_spec (T := T) p
  rw [h1]; exact h3
theorem sk_ge (p : Nat) : p ≤ sk T p := by
  obtain ⟨k, h1, -⟩ := sk_spec (T := T) p
  omega
theorem sk_le {p : Nat} (h : p ≤ T.2) : sk T p ≤ T.2 := by
  obtain ⟨k, h1, h2, -⟩ := sk_spec (T := T) p
  rw [h1]
  rcases Nat.lt_or_ge T.2 (p + k) with q | q
  · have := by_lt (h2 (k - 1) (by omega)) (by decide)
    omega
  · exact q
theorem sk_sk (p : Nat) : sk T (sk T p) = sk T p := sk_n (sk_no p)
theorem rn_at {P : Int → Bool} (hP : P (-1) = false) {q k : Nat} (h : ∀ j, j < k → P (byT T (q + j)) = true) (h2 : P (byT T (q + k)) = false) : rn P T q = k := by
  have hq : ∀ j, j < k → q + j < T.2 := fun j hj => by
    have h1 := h j hj
    unfold byT at h1
    split at h1
    · assumption
    · rw [hP] at h1; cases h1
  have key : ∀ n k q, (∀ j, j < k → P (byT T (q + j)) = true) → P (byT T (q + k)) = false → k ≤ n → rnF P T n q = k := by
    intro n
    induction n with
    | zero => intro k q _ _ hk; have : k = 0 := by omega
              subst this; rfl
    | succ n ih =>
      intro k q h h2 hk
      show (if P (byT T q) = true then rnF P T n (q + 1) + 1 else 0) = k
      cases k with
      | zero => rw [Nat.add_zero] at h2; rw [h2]; rfl
      | succ k =>
        have h0 := h 0 (by omega)
        rw [Nat.add_zero] at h0
        rw [if_pos h0, ih k (q + 1) (fun j hj => by rw [show q + 1 + j = q + (j + 1) by omega]; exact h (j + 1) (by omega)) (by rw [show q + 1 + k = q + (k + 1) by omega]; exact h2) (by omega)]
  refine key _ k q h h2 ?_
  by_cases k0 : k = 0
  · omega
  · have := hq (k - 1) (by omega)
    omega
theorem rn_spec {P : Int → Bool} (hP : P (-1) = false) (q : Nat) : (∀ j, j < rn P T q → P (byT T (q + j)) = true) ∧ P (byT T (q + rn P T q)) = false := by
  have hex : ∃ k, P (byT T (q + k)) = false := ⟨T.2, by unfold byT; rw [if_neg (by omega)]; exact hP⟩
  obtain ⟨k, h1, h2⟩ := pk_least (fun k => P (byT T (q + k)) = false) hex
  have h3 : ∀ j, j < k → P (byT T (q + j)) = true := fun j hj => by
    have := h2 j hj
    cases hp : P (byT T (q + j))
    · exact absurd hp this
    · rfl
  rw [rn_at hP h3 h1]
  exact ⟨h3, h1⟩
theorem rn_le {P : Int → Bool} (hP : P (-1) = false) {q : Nat} (h : q ≤ T.2) : q + rn P T q ≤ T.2 := by
  rcases Nat.lt_or_ge T.2 (q + rn P T q) with h2 | h2
  · have h3 := (rn_spec (T := T) hP q).1 (T.2 - q) (by omega)
    unfold byT at h3
    rw [if_neg (by omega), hP] at h3
    cases h3
  · exact h2
theorem hD : isD (-1) = false := rfl
theorem hL : isL (-1) = false := rfl
end TX
/-! results: a row, what was told of the rules, a place; or an error and its place -/
abbrev PE : Type := Int × Nat
abbrev PR : Type := ((Nat → Int) × (Nat → Bool) × Nat) ⊕ PE
def nv (T : Tx) (q : Nat) : Int := bv (fT T q) (dn T q)
def kNum (T : Tx) (p : Nat) (lo hi : Int) (k : Int → Nat → PR) : PR :=
  if dn T (sk T p) = 0 then .inr (-2, sk T p) else if lo ≤ nv T (sk T p) ∧ nv T (sk T p) ≤ hi then k (nv T (sk T p)) (sk T p + dn T (sk T p)) else .inr (-3, sk T p)
def kDig (T : Tx) (p : Nat) (most : Nat) (k : Nat → Int → Nat → PR) : PR :=
  if dn T (sk T p) = 0 then .inr (-2, sk T p) else if dn T (sk T p) ≤ most then k (dn T (sk T p)) (bv (fT T (sk T p)) (dn T (sk T p))) (sk T p + dn T (sk T p)) else .inr (-3, sk T p)
def nmH (T : Tx) (q : Nat) : Int := l27 (fT T q) (min (ln T q) 4)
def nmT (T : Tx) (q : Nat) : Int := l27 (fT T (q + 4)) (ln T q - 4)
def kSem (T : Tx) (p : Nat) (k : Nat → PR) : PR := if byT T (sk T p) = 59 then k (sk T p + 1) else .inr (-2, sk T p)
def a_line (d : Nat → Int) (n : Nat) (v : Int) : Nat → Int := ud (ud (ud d (26 + 2 * (d 2).toNat) n) (27 + 2 * (d 2).toNat) v) 2 (d 2 + 1)
def a_group (d : Nat → Int) (h t k b : Int) : Nat → Int := ud (ud (ud (ud (ud d (50 + 9 * (d 3).toNat) k) (51 + 9 * (d 3).toNat) b) (57 + 9 * (d 3).toNat) h) (58 + 9 * (d 3).toNat) t) 3 (d 3 + 1)
def a_route (d : Nat → Int) (n : Nat) (v len : Int) (c : Nat) : Nat → Int := ud (ud (ud (ud (ud d (95 + 7 * (d 4).toNat) n) (96 + 7 * (d 4).toNat) v) (97 + 7 * (d 4).toNat) len) (98 + 7 * (d 4).toNat) c) 4 (d 4 + 1)
def P_line (T : Tx) (st : Nat) (d : Nat → Int) (s : Nat → Bool) (p : Nat) : PR :=
  if 12 ≤ d 2 then .inr (-5, st) else kDig T p 6 fun n v p2 => if s_lineOf d n v = -1 then .inl (a_line d n v, s, p2) else .inr (-4, sk T p)
def kNam (T : Tx) (p : Nat) (k : Int → Int → Nat → PR) : PR :=
  if ln T (sk T p) = 0 then .inr (-2, sk T p) else if ln T (sk T p) ≤ 8 then k (nmH T (sk T p)) (nmT T (sk T p)) (sk T p + ln T (sk T p)) else .inr (-3, sk T p)
def P_group (T : Tx) (st : Nat) (d : Nat → Int) (s : Nat → Bool) (p : Nat) : PR :=
  if 5 ≤ d 3 then .inr (-5, st) else kNam T p fun h t p2 => if s_groupOf d h t = -1 then kNum T p2 1 8 fun k p3 => kNum T p3 0 (k - 1) fun b p4 => .inl (a_group d h t k b, s, p4) else .inr (-4, sk T p)
/-- the group is among the first n choices of the route r -/
def chosen (d : Nat → Int) (r : Nat) (x : Int) : Nat → Bool
  | 0 => false
  | n + 1 => chosen d r x n || decide (d (99 + 7 * r + n) = x)
/-- choices from the n-th on; then the rest -/
def P_ch (T : Tx) (s : Nat → Bool) (r : Nat) (fin : (Nat → Int) → Nat → (Nat → Int)) : Nat → (Nat → Int) → Nat → Nat → PR
  | 0, d, n, p => .inl (fin d n, s, p)
  | f + 1, d, n, p => if n = 3 then .inr (-2, sk T p) else kNam T p fun h t p2 =>
      if s_groupOf d h t = -1 ∨ chosen d r (s_groupOf d h t) n = true then .inr (-4, sk T p)
      else if isL (byT T (sk T p2)) = true then P_ch T s r fin f (ud d (99 + 7 * r + n) (s_groupOf d h t)) (n + 1) p2
      else .inl (fin (ud d (99 + 7 * r + n) (s_groupOf d h t)) (n + 1), s, p2)
def s_prefAt (d : Nat → Int) (n : Nat) (v : Int) : Int := fst (fun r => decide ((r : Int) < d 4) && (decide (d (95 + 7 * r) = (n : Int)) && decide (d (96 + 7 * r) = v))) 8
def P_route (T : Tx) (st : Nat) (d : Nat → Int) (s : Nat → Bool) (p : Nat) : PR :=
  if 8 ≤ d 4 then .inr (-5, st) else kDig T p 5 fun n v p2 => if s_prefAt d n v = -1 then kNum T p2 n 6 fun len p3 => P_ch T s (d 4).toNat (fun e c => a_route e n v len c) 4 d 0 p3 else .inr (-4, sk T p)
def P_call (T : Tx) (st : Nat) (d : Nat → Int) (s : Nat → Bool) (p : Nat) : PR :=
  if 40 ≤ d 5 then .inr (-5, st) else if dn T (sk T p) = 0 then .inr (-2, sk T p) else
  if 6 < dn T (sk T p) ∨ s_lineOf d (dn T (sk T p)) (bv (fT T (sk T p)) (dn T (sk T p))) = -1 then .inr (-4, sk T p) else
  kDig T (sk T p + dn T (sk T p)) 6 fun m v p2 => kNum T p2 1 99 fun talk p3 => kNum T p3 1 999 fun comes p4 => .inl (s_lay d (s_lineOf d (dn T (sk T p)) (bv (fT T (sk T p)) (dn T (sk T p)))) m v talk comes, s, p4)
def P_rule (T : Tx) (st : Nat) (d : Nat → Int) (s : Nat → Bool) (p i : Nat) : PR :=
  if s i = true then .inr (-2, st) else kNum T p 1 (most ((19 + i : Nat) : Int)) fun v p2 => .inl (ud d (19 + i) v, fun j => if j = i then true else s j, p2)
/-- the word i begins at q, and ends there -/
def wdB (T : Tx) (q i : Nat) : Bool := decide (ln T q = st_len.getD i 0) && (List.range (st_len.getD i 0)).all fun k => decide (byT T (q + k) = sc i k)
theorem wd_iff {T : Tx} {q i : Nat} : wdB T q i = true ↔ ln T q = st_len.getD i 0 ∧ ∀ k, k < st_len.getD i 0 → byT T (q + k) = sc i k := by
  unfold wdB
  rw [Bool.and_eq_true, decide_eq_true_iff, List.all_eq_true]
  constructor
  · rintro ⟨h1, h2⟩
    exact ⟨h1, fun k hk => of_decide_eq_true (h2 k (List.mem_range.mpr hk))⟩
  · rintro ⟨h1, h2⟩
    exact ⟨h1, fun k hk => decide_eq_true (h2 k (List.mem_range.mp hk))⟩
def P_word (T : Tx) (d : Nat → Int) (s : Nat → Bool) (st : Nat) : PR :=
  if wdB T st 1 = true then P_line T st d s (st + 4) else if wdB T st 2 = true then P_group T st d s (st + 5) else if wdB T st 3 = true then P_route T st d s (st + 5) else
  if wdB T st 4 = true then P_call T st d s (st + 4) else if wdB T st 5 = true then P_rule T st d s (st + 5) 0 else if wdB T st 6 = true then P_rule T st d s (st + 7) 1 else
  if wdB T st 7 = true then P_rule T st d s (st + 4) 2 else .inr (-2, st)
def P_stmt (T : Tx) (d : Nat → Int) (s : Nat → Bool) (p : Nat) : PR := match P_word T d s (sk T p) with
  | .inr e => .inr e
  | .inl r => kSem T r.2.2 fun p3 => .inl (r.1, r.2.1, p3)
def P_all (T : Tx) : Nat → (Nat → Int) → (Nat → Bool) → Nat → PR
  | 0, d, s, p => .inl (d, s, p)
  | f + 1, d, s, p => if byT T (sk T p) = -1 then .inl (d, s, p) else match P_stmt T d s p with
    | .inr e => .inr e
    | .inl r => P_all T f r.1 r.2.1 r.2.2
/-- an exchange with so many registers and markers, and nothing else -/
def row0 (r m : Int) : Nat → Int := fun j => if j = 0 then r else if j = 1 then m else if j = 19 then 40 else if j = 20 then 5 else if j = 21 then 2 else if j = 151 ∨ j = 154 ∨ j = 157 ∨ j = 160 ∨ j = 163 ∨ j = 165 ∨ j = 167 then -1 else 0
def P_load (T : Tx) : PR :=
  if wdB T (sk T 0) 0 = true then kNum T (sk T 0 + 8) 1 4 fun r p2 => kNum T p2 1 3 fun m p3 => kSem T p3 fun p4 => P_all T 700 (row0 r m) (fun _ => false) p4
  else .inr (-2, sk T 0)
