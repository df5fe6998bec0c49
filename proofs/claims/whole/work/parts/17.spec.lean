/-! what a tick does to the row d -/
def s_dv (d : Nat → Int) (c many : Nat) : Int := d (180 + 14 * c) / pw ((d (170 + 14 * c)).toNat - many)
/-- a choice that isn't free overflows: the first k choices of the route r -/
def s_ovF (d : Nat → Int) (r : Nat) : Nat → (Nat → Int)
  | 0 => d
  | k + 1 => ud (s_addGroup (s_ovF d r k) ((s_ovF d r k) (99 + 7 * r + k)).toNat 3 1) 23 (bm ((s_addGroup (s_ovF d r k) ((s_ovF d r k) (99 + 7 * r + k)).toNat 3 1) 23 + 1))
def s_way (e : Nat → Int) (c r k : Nat) : Nat → Int :=
  if (k : Int) = e (98 + 7 * r) then s_isOver e c 8
  else s_addGroup (s_addGroup (s_talks e c (-1) (e (99 + 7 * r + k))) (e (99 + 7 * r + k)).toNat 4 1) (e (99 + 7 * r + k)).toNat 5 (if 0 < k then 1 else 0)
def s_looks (d : Nat → Int) (c many : Nat) (value : Int) : Nat → Int :=
  if s_lineOf d many value = -1 then s_way (s_ovF d (s_routeFor d many value).toNat (s_choiceOf d (s_routeFor d many value).toNat)) c (s_routeFor d many value).toNat (s_choiceOf d (s_routeFor d many value).toNat)
  else if s_isBusy d (s_lineOf d many value) = true then s_isOver d c 7 else s_talks d c (s_lineOf d many value) (-1)
def s_found (d : Nat → Int) (k c : Nat) : Nat → Int :=
  s_looks (s_freeReg (ud d (163 + 2 * k) (-1)) c) c (d (152 + 3 * (d (179 + 14 * c)).toNat)).toNat (s_dv (s_freeReg (ud d (163 + 2 * k) (-1)) c) c (d (152 + 3 * (d (179 + 14 * c)).toNat)).toNat)
def s_marks (d : Nat → Int) (k : Nat) : Nat → Int :=
  if d (163 + 2 * k) = -1 then d
  else if 0 < d (164 + 2 * k) - 1 then ud d (164 + 2 * k) (d (164 + 2 * k) - 1)
  else s_found (ud d (164 + 2 * k) (d (164 + 2 * k) - 1)) k (d (163 + 2 * k)).toNat
def s_dial1 (d : Nat → Int) (r c : Nat) : Nat → Int := if d (152 + 3 * r) < d (170 + 14 * c) then ud d (152 + 3 * r) (d (152 + 3 * r) + 1) else d
def s_dial2 (d : Nat → Int) (r c : Nat) : Nat → Int :=
  if s_isComplete d (d (152 + 3 * r)).toNat (s_dv d c (d (152 + 3 * r)).toNat) = true then s_waits d c 3
  else if d (152 + 3 * r) < d (170 + 14 * c) then d
  else if d (153 + 3 * r) + 1 < d 20 then ud d (153 + 3 * r) (d (153 + 3 * r) + 1)
  else s_isOver (s_freeReg (ud d (153 + 3 * r) (d (153 + 3 * r) + 1)) c) c 9
def s_dials (d : Nat → Int) (r : Nat) : Nat → Int :=
  if d (151 + 3 * r) = -1 then d else if d (173 + 14 * (d (151 + 3 * r)).toNat) = 2 then s_dial2 (s_dial1 d r (d (151 + 3 * r)).toNat) r (d (151 + 3 * r)).toNat else d
def s_takesMarker (d : Nat → Int) (k : Nat) : Nat → Int :=
  if d (163 + 2 * k) = -1 ∧ ¬ s_foremost d 3 = -1 then ud (ud (ud d (163 + 2 * k) (s_foremost d 3)) (164 + 2 * k) (d 21)) (173 + 14 * (s_foremost d 3).toNat) 4 else d
def s_takesRegister (d : Nat → Int) (r : Nat) : Nat → Int :=
  if d (151 + 3 * r) = -1 ∧ ¬ s_foremost d 1 = -1 then ud (ud (ud d (151 + 3 * r) (s_foremost d 1)) (173 + 14 * (s_foremost d 1).toNat) 2) (179 + 14 * (s_foremost d 1).toNat) (r : Int) else d
def itr (f : (Nat → Int) → Nat → (Nat → Int)) (d : Nat → Int) : Nat → (Nat → Int)
  | 0 => d
  | n + 1 => f (itr f d n) n
def f_come (e : Nat → Int) (c : Nat) : Nat → Int := if e (173 + 14 * c) = 0 ∧ e (172 + 14 * c) = e 6 then s_comes e c else e
def s_talk1 (e : Nat → Int) (c : Nat) : Nat → Int := if bm (e (178 + 14 * c) - 1) = 0 then s_isOver (ud e (178 + 14 * c) (bm (e (178 + 14 * c) - 1))) c 6 else ud e (178 + 14 * c) (bm (e (178 + 14 * c) - 1))
def f_talk (e : Nat → Int) (c : Nat) : Nat → Int := if e (173 + 14 * c) = 5 then s_talk1 e c else e
def f_sum (e : Nat → Int) (x : Nat) : Nat → Int := s_addGroup e x 6 (s_busyTrunks e x)
def s_t1 (d : Nat → Int) : Nat → Int := ud d 6 (bm (d 6 + 1))
def s_t2 (d : Nat → Int) : Nat → Int := itr f_come d (d 5).toNat
def s_t3 (d : Nat → Int) : Nat → Int := itr f_talk d (d 5).toNat
def s_t4 (d : Nat → Int) : Nat → Int := itr s_marks d (d 1).toNat
def s_t5 (d : Nat → Int) : Nat → Int := itr s_dials d (d 0).toNat
def s_t6 (d : Nat → Int) : Nat → Int := itr s_takesMarker d (d 1).toNat
def s_t7 (d : Nat → Int) : Nat → Int := itr s_takesRegister d (d 0).toNat
def s_t8 (d : Nat → Int) : Nat → Int := ud d 24 (if (s_cnt d 1 : Int) < d 24 then d 24 else (s_cnt d 1 : Int))
def s_t9 (d : Nat → Int) : Nat → Int := itr f_sum d (d 3).toNat
def s_tick (d : Nat → Int) : Nat → Int := s_t9 (s_t8 (s_t7 (s_t6 (s_t5 (s_t4 (s_t3 (s_t2 (s_t1 d))))))))
theorem s_fwF_s (d : Nat → Int) (s : Int) (c : Nat) : s_fwF d s (c + 1) = if (c : Int) < d 5 ∧ d (173 + 14 * c) = s ∧ (s_fwF d s c = -1 ∨ d (181 + 14 * c) < d (181 + 14 * (s_fwF d s c).toNat)) then (c : Int) else s_fwF d s c := rfl
theorem s_fwF_cut {d : Nat → Int} {s : Int} {k n : Nat} (hk : d 5 ≤ (k : Int)) (hn : k ≤ n) : s_fwF d s k = s_fwF d s n := by
  induction n with
  | zero => rw [show k = 0 by omega]
  | succ n ih =>
    rcases Nat.lt_or_ge k (n + 1) with q | q
    · rw [s_fwF_s, if_neg (fun h => by omega)]
      exact ih (by omega)
    · rw [show k = n + 1 by omega]
theorem s_fwF_rng (d : Nat → Int) (s : Int) : ∀ n, s_fwF d s n = -1 ∨ (0 ≤ s_fwF d s n ∧ s_fwF d s n < (n : Int) ∧ s_fwF d s n < d 5 ∧ d (173 + 14 * (s_fwF d s n).toNat) = s)
  | 0 => Or.inl rfl
  | n + 1 => by
    rw [s_fwF_s]
    split
    · next h => exact Or.inr ⟨by omega, by omega, h.1, by rw [Int.toNat_natCast]; exact h.2.1⟩
    · rcases s_fwF_rng d s n with h | ⟨h1, h2, h3, h4⟩
      · exact Or.inl h
      · exact Or.inr ⟨h1, by omega, h3, h4⟩
theorem s_foremost_rng (d : Nat → Int) (s : Int) : s_foremost d s = -1 ∨ (0 ≤ s_foremost d s ∧ s_foremost d s < 40 ∧ s_foremost d s < d 5 ∧ d (173 + 14 * (s_foremost d s).toNat) = s) := s_fwF_rng d s 40
theorem s_rfF_rng (d : Nat → Int) (many : Nat) (v : Int) : ∀ n, s_rfF d many v n = -1 ∨ (0 ≤ s_rfF d many v n ∧ s_rfF d many v n < (n : Int) ∧ s_rfF d many v n < d 4)
  | 0 => Or.inl rfl
  | n + 1 => by
    rw [s_rfF_s]
    split
    · next h => exact Or.inr ⟨by omega, by omega, h.1⟩
    · rcases s_rfF_rng d many v n with h | ⟨h1, h2, h3⟩
      · exact Or.inl h
      · exact Or.inr ⟨h1, by omega, h3⟩
theorem s_chF_le (d : Nat → Int) (r : Nat) : ∀ n k, k ≤ s_chF d r n k ∧ s_chF d r n k ≤ k + n
  | 0, k => ⟨Nat.le_refl k, Nat.le_refl k⟩
  | n + 1, k => by
    unfold s_chF
    split
    · omega
    · have := s_chF_le d r n (k + 1); omega
