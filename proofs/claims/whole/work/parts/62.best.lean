/-! the guard plays no part while it keeps nobody out -/
section G19
variable {d : Nat → Int} {w : Int}
theorem g_ud {i : Nat} {x : Int} (h : i ≠ 19) : ud (ud d 19 w) i x = ud (ud d i x) 19 w := by
  funext j
  by_cases h1 : j = i
  · subst h1; rw [ud_s, ud_n h, ud_s]
  · rw [ud_n h1]
    by_cases h2 : j = 19
    · subst h2; rw [ud_s, ud_s]
    · rw [ud_n h2, ud_n h2, ud_n h1]
theorem g_r {i : Nat} (h : i ≠ 19) : ud d 19 w i = d i := ud_n h
theorem g_isOver {c : Nat} {y : Int} : s_isOver (ud d 19 w) c y = ud (s_isOver d c y) 19 w := by
  unfold s_isOver
  rw [g_r (i := 6) (by omega), g_ud (by omega), g_ud (by omega), g_ud (by omega)]
theorem g_waits {c : Nat} {y : Int} : s_waits (ud d 19 w) c y = ud (s_waits d c y) 19 w := by
  unfold s_waits
  rw [g_r (i := 25) (by omega), g_ud (by omega), g_ud (by omega), g_ud (by omega)]
theorem g_cnt (x : Int) : s_cnt (ud d 19 w) x = s_cnt d x := cnt_cong (fun c _ => by rw [g_r (by omega), g_r (by omega)])
theorem g_busyT (x : Int) : s_busyTrunks (ud d 19 w) x = s_busyTrunks d x := cnt_cong (fun c _ => by rw [g_r (by omega), g_r (by omega), g_r (by omega)])
theorem g_callTo (x : Int) : s_callTo (ud d 19 w) x = s_callTo d x := fst_cong (fun c _ => by rw [g_r (by omega), g_r (by omega), g_r (by omega)])
theorem g_callBy (x : Int) : s_callBy (ud d 19 w) x = s_callBy d x := fst_cong (fun c _ => by rw [g_r (by omega), g_r (by omega), g_r (by omega)])
theorem g_isBusy (x : Int) : s_isBusy (ud d 19 w) x = s_isBusy d x := by unfold s_isBusy; rw [g_callTo, g_callBy]
theorem g_lineOf (x y : Int) : s_lineOf (ud d 19 w) x y = s_lineOf d x y := fst_cong (fun c _ => by rw [g_r (by omega), g_r (by omega), g_r (by omega)])
theorem g_rfF (many : Nat) (y : Int) : ∀ n, s_rfF (ud d 19 w) many y n = s_rfF d many y n
  | 0 => rfl
  | n + 1 => by rw [s_rfF_s, s_rfF_s, g_rfF many y n, g_r (i := 4) (by omega), g_r (i := 95 + 7 * n) (by omega), g_r (i := 96 + 7 * n) (by omega), g_r (i := 95 + 7 * (s_rfF d many y n).toNat) (by omega)]
theorem g_routeFor (many : Nat) (y : Int) : s_routeFor (ud d 19 w) many y = s_routeFor d many y := g_rfF many y 8
theorem g_isComplete (many : Nat) (y : Int) : s_isComplete (ud d 19 w) many y = s_isComplete d many y := by
  unfold s_isComplete
  rw [g_lineOf, g_routeFor, g_r (by omega)]
theorem g_dv (c many : Nat) : s_dv (ud d 19 w) c many = s_dv d c many := by unfold s_dv; rw [g_r (by omega), g_r (by omega)]
theorem g_isFree (x : Nat) (b : Bool) : s_isFree (ud d 19 w) x b = s_isFree d x b := by
  unfold s_isFree
  rw [g_busyT, g_r (by omega), g_r (by omega)]
theorem g_chF (r : Nat) : ∀ n k, s_chF (ud d 19 w) r n k = s_chF d r n k
  | 0, k => rfl
  | n + 1, k => by rw [chF_s, chF_s, g_chF r n (k + 1), g_r (by omega), g_isFree]
theorem g_choiceOf (r : Nat) : s_choiceOf (ud d 19 w) r = s_choiceOf d r := by
  unfold s_choiceOf
  rw [g_r (by omega), g_chF]
theorem g_fwF (s : Int) : ∀ n, s_fwF (ud d 19 w) s n = s_fwF d s n
  | 0 => rfl
  | n + 1 => by rw [s_fwF_s, s_fwF_s, g_fwF s n, g_r (i := 5) (by omega), g_r (i := 173 + 14 * n) (by omega), g_r (i := 181 + 14 * n) (by omega), g_r (i := 181 + 14 * (s_fwF d s n).toNat) (by omega)]
theorem g_foremost (s : Int) : s_foremost (ud d 19 w) s = s_foremost d s := g_fwF s 40
theorem g_addGroup {x k : Nat} {v : Int} : s_addGroup (ud d 19 w) x k v = ud (s_addGroup d x k v) 19 w := by
  unfold s_addGroup
  rw [g_r (by omega), g_ud (by omega)]
theorem g_talks {c : Nat} {x y : Int} : s_talks (ud d 19 w) c x y = ud (s_talks d c x y) 19 w := by
  unfold s_talks
  rw [g_r (i := 6) (by omega), g_r (i := 171 + 14 * c) (by omega), g_ud (by omega), g_ud (by omega), g_ud (by omega), g_ud (by omega), g_ud (by omega)]
theorem g_freeReg {c : Nat} : s_freeReg (ud d 19 w) c = ud (s_freeReg d c) 19 w := by
  unfold s_freeReg
  rw [g_r (by omega)]
  split
  · rfl
  · show ud (ud (ud (ud (ud d 19 w) _ _) _ _) _ _) _ _ = ud (ud (ud (ud (ud d _ _) _ _) _ _) _ _) 19 w
    rw [g_ud (by omega), g_ud (by omega), g_ud (by omega), g_ud (by omega)]
theorem g_ovF {r : Nat} : ∀ k, s_ovF (ud d 19 w) r k = ud (s_ovF d r k) 19 w
  | 0 => rfl
  | k + 1 => by
    rw [ovF_s, ovF_s, g_ovF k, g_r (i := 99 + 7 * r + k) (by omega), g_addGroup, g_r (i := 23) (by omega), g_ud (by omega)]
theorem g_way {c r k : Nat} : s_way (ud d 19 w) c r k = ud (s_way d c r k) 19 w := by
  unfold s_way
  rw [g_r (i := 98 + 7 * r) (by omega), g_r (i := 99 + 7 * r + k) (by omega)]
  split
  · exact g_isOver
  · rw [g_talks, g_addGroup, g_addGroup]
theorem g_looks {c many : Nat} {v : Int} : s_looks (ud d 19 w) c many v = ud (s_looks d c many v) 19 w := by
  unfold s_looks
  rw [g_lineOf, g_routeFor, g_choiceOf, g_ovF, g_way, g_isBusy, g_isOver, g_talks]
  split
  · rfl
  · split <;> rfl
theorem g_marks {k : Nat} : s_marks (ud d 19 w) k = ud (s_marks d k) 19 w := by
  unfold s_marks
  rw [g_r (i := 163 + 2 * k) (by omega), g_r (i := 164 + 2 * k) (by omega)]
  split
  · rfl
  · split
    · rw [g_ud (by omega)]
    · rw [g_ud (by omega)]
      unfold s_found
      rw [g_r (i := 179 + 14 * _) (by omega), g_r (i := 152 + 3 * _) (by omega), g_ud (by omega), g_freeReg, g_dv, g_looks]
theorem g_dial1 {r c : Nat} : s_dial1 (ud d 19 w) r c = ud (s_dial1 d r c) 19 w := by
  unfold s_dial1
  rw [g_r (by omega), g_r (by omega)]
  split
  · rw [g_ud (by omega)]
  · rfl
theorem g_dial2 {r c : Nat} : s_dial2 (ud d 19 w) r c = ud (s_dial2 d r c) 19 w := by
  unfold s_dial2
  rw [g_r (i := 152 + 3 * r) (by omega), g_r (i := 170 + 14 * c) (by omega), g_r (i := 153 + 3 * r) (by omega), g_r (i := 20) (by omega), g_dv, g_isComplete]
  split
  · exact g_waits
  · split
    · rfl
    · split
      · rw [g_ud (by omega)]
      · rw [g_ud (by omega), g_freeReg, g_isOver]
theorem g_dials {r : Nat} : s_dials (ud d 19 w) r = ud (s_dials d r) 19 w := by
  unfold s_dials
  rw [g_r (i := 151 + 3 * r) (by omega), g_r (i := 173 + 14 * _) (by omega)]
  split
  · rfl
  · split
    · rw [g_dial1, g_dial2]
    · rfl
theorem g_takesMarker {k : Nat} : s_takesMarker (ud d 19 w) k = ud (s_takesMarker d k) 19 w := by
  unfold s_takesMarker
  rw [g_r (i := 163 + 2 * k) (by omega), g_foremost, g_r (i := 21) (by omega)]
  split
  · rw [g_ud (by omega), g_ud (by omega), g_ud (by omega)]
  · rfl
theorem g_takesRegister {r : Nat} : s_takesRegister (ud d 19 w) r = ud (s_takesRegister d r) 19 w := by
  unfold s_takesRegister
  rw [g_r (i := 151 + 3 * r) (by omega), g_foremost]
  split
  · rw [g_ud (by omega), g_ud (by omega), g_ud (by omega)]
  · rfl
theorem g_ftalk {c : Nat} : f_talk (ud d 19 w) c = ud (f_talk d c) 19 w := by
  unfold f_talk s_talk1
  rw [g_r (i := 173 + 14 * c) (by omega), g_r (i := 178 + 14 * c) (by omega)]
  split
  · split
    · rw [g_ud (by omega), g_isOver]
    · rw [g_ud (by omega)]
  · rfl
theorem g_fsum {x : Nat} : f_sum (ud d 19 w) x = ud (f_sum d x) 19 w := by
  unfold f_sum
  rw [g_busyT, g_addGroup]
theorem g_itr {f : (Nat → Int) → Nat → (Nat → Int)} (h : ∀ e k, f (ud e 19 w) k = ud (f e k) 19 w) : ∀ n, itr f (ud d 19 w) n = ud (itr f d n) 19 w
  | 0 => rfl
  | n + 1 => by
    show f (itr f (ud d 19 w) n) n = ud (f (itr f d n) n) 19 w
    rw [g_itr h n, h]
theorem g_t8 : s_t8 (ud d 19 w) = ud (s_t8 d) 19 w := by
  unfold s_t8
  rw [g_cnt, g_r (i := 24) (by omega), g_ud (by omega)]
theorem g_t1 : s_t1 (ud d 19 w) = ud (s_t1 d) 19 w := by
  unfold s_t1
  rw [g_r (i := 6) (by omega), g_ud (by omega)]
theorem gF_0 {b : Int} : ∀ {n}, gF d b n = 0 → b = 0 ∧ ∀ k, k < n → ¬ ((itr f_come d k) (173 + 14 * k) = 0 ∧ (itr f_come d k) (172 + 14 * k) = (itr f_come d k) 6 ∧ (itr f_come d k) 19 ≤ (s_cnt (itr f_come d k) 1 : Int))
  | 0, h => ⟨h, fun k hk => absurd hk (Nat.not_lt_zero k)⟩
  | n + 1, h => by
    unfold gF at h
    split at h
    · exact absurd h (by decide)
    · next q =>
      obtain ⟨h1, h2⟩ := gF_0 h
      exact ⟨h1, lt_step h2 q⟩
theorem at19_come {c : Nat} : (f_come d c) 19 = d 19 := sta_fcome 19 (by unfold kpI; omega)
theorem at19_itr : ∀ n, (itr f_come d n) 19 = d 19
  | 0 => rfl
  | n + 1 => by
    show (f_come (itr f_come d n) n) 19 = d 19
    rw [at19_come, at19_itr n]
theorem g_come {c : Nat} (hw : d 19 ≤ w) (h : ¬ (d (173 + 14 * c) = 0 ∧ d (172 + 14 * c) = d 6 ∧ d 19 ≤ (s_cnt d 1 : Int))) : f_come (ud d 19 w) c = ud (f_come d c) 19 w := by
  unfold f_come
  rw [g_r (i := 173 + 14 * c) (by omega), g_r (i := 172 + 14 * c) (by omega), g_r (i := 6) (by omega)]
  split
  · next q =>
    have h1 : ¬ d 19 ≤ (s_cnt d 1 : Int) := fun z => h ⟨q.1, q.2, z⟩
    unfold s_comes
    rw [g_r (i := 169 + 14 * c) (by omega), g_isBusy, g_cnt, ud_s, g_ud (by omega), g_isOver, g_waits]
    by_cases b : s_isBusy d (d (169 + 14 * c)) = true
    · rw [if_pos (Or.inl b), if_pos (Or.inl b)]
    · rw [if_neg (fun z => z.elim b (by omega)), if_neg (fun z => z.elim b h1)]
  · rfl
theorem g_comes (hw : d 19 ≤ w) : ∀ n, (∀ k, k < n → ¬ ((itr f_come d k) (173 + 14 * k) = 0 ∧ (itr f_come d k) (172 + 14 * k) = (itr f_come d k) 6 ∧ (itr f_come d k) 19 ≤ (s_cnt (itr f_come d k) 1 : Int))) → itr f_come (ud d 19 w) n = ud (itr f_come d n) 19 w
  | 0, _ => rfl
  | n + 1, h => by
    show f_come (itr f_come (ud d 19 w) n) n = ud (f_come (itr f_come d n) n) 19 w
    rw [g_comes hw n (fun k hk => h k (by omega)), g_come (by rw [at19_itr]; exact hw) (h n (by omega))]
theorem g_tick {b : Int} (hw : d 19 ≤ w) (h : s_gr (s_t1 d) b = 0) : s_tick (ud d 19 w) = ud (s_tick d) 19 w := by
  have h2 := (gF_0 h).2
  have e2 : s_t2 (ud (s_t1 d) 19 w) = ud (s_t2 (s_t1 d)) 19 w := by
    unfold s_t2
    rw [g_r (i := 5) (by omega)]
    exact g_comes (by rw [show s_t1 d 19 = d 19 from ud_n (by omega)]; exact hw) _ h2
  have e3 : ∀ e, s_t3 (ud e 19 w) = ud (s_t3 e) 19 w := fun e => by unfold s_t3; rw [g_r (i := 5) (by omega)]; exact g_itr (fun _ _ => g_ftalk) _
  have e4 : ∀ e, s_t4 (ud e 19 w) = ud (s_t4 e) 19 w := fun e => by unfold s_t4; rw [g_r (i := 1) (by omega)]; exact g_itr (fun _ _ => g_marks) _
  have e5 : ∀ e, s_t5 (ud e 19 w) = ud (s_t5 e) 19 w := fun e => by unfold s_t5; rw [g_r (i := 0) (by omega)]; exact g_itr (fun _ _ => g_dials) _
  have e6 : ∀ e, s_t6 (ud e 19 w) = ud (s_t6 e) 19 w := fun e => by unfold s_t6; rw [g_r (i := 1) (by omega)]; exact g_itr (fun _ _ => g_takesMarker) _
  have e7 : ∀ e, s_t7 (ud e 19 w) = ud (s_t7 e) 19 w := fun e => by unfold s_t7; rw [g_r (i := 0) (by omega)]; exact g_itr (fun _ _ => g_takesRegister) _
  have e9 : ∀ e, s_t9 (ud e 19 w) = ud (s_t9 e) 19 w := fun e => by unfold s_t9; rw [g_r (i := 3) (by omega)]; exact g_itr (fun _ _ => g_fsum) _
  unfold s_tick
  rw [g_t1, e2, e3, e4, e5, e6, e7, g_t8, e9]
end G19
theorem at19_o5 {d : Nat → Int} {c : Nat} {y : Int} : (s_isOver d c y) 19 = d 19 := by unfold s_isOver; rw [ud_n (by omega), ud_n (by omega), ud_n (by omega)]
theorem at19_w5 {d : Nat → Int} {c : Nat} {y : Int} : (s_waits d c y) 19 = d 19 := by unfold s_waits; rw [ud_n (by omega), ud_n (by omega), ud_n (by omega)]
theorem at19_k5 {d : Nat → Int} {c : Nat} {x y : Int} : (s_talks d c x y) 19 = d 19 := by unfold s_talks; rw [ud_n (by omega), ud_n (by omega), ud_n (by omega), ud_n (by omega), ud_n (by omega)]
theorem at19_f5 {d : Nat → Int} {c : Nat} : (s_freeReg d c) 19 = d 19 := by
  unfold s_freeReg
  split
  · rfl
  · show ud (ud (ud (ud d _ _) _ _) _ _) _ _ 19 = d 19
    rw [ud_n (by omega), ud_n (by omega), ud_n (by omega), ud_n (by omega)]
theorem at19_a5 {d : Nat → Int} {x k : Nat} {v : Int} : (s_addGroup d x k v) 19 = d 19 := ud_n (by omega)
theorem at19_v5 {d : Nat → Int} {r : Nat} : ∀ k, (s_ovF d r k) 19 = d 19
  | 0 => rfl
  | k + 1 => by rw [ovF_s, ud_n (by decide), at19_a5]; exact at19_v5 k
theorem at19_y5 {d : Nat → Int} {c r k : Nat} : (s_way d c r k) 19 = d 19 := by
  unfold s_way
  split
  · exact at19_o5
  · rw [at19_a5, at19_a5, at19_k5]
theorem at19_l5 {d : Nat → Int} {c m : Nat} {v : Int} : (s_looks d c m v) 19 = d 19 := by
  unfold s_looks
  split
  · rw [at19_y5, at19_v5]
  · split
    · exact at19_o5
    · exact at19_k5
theorem at19_m5 {d : Nat → Int} {k : Nat} : (s_marks d k) 19 = d 19 := by
  unfold s_marks
  split
  · rfl
  · split
    · exact ud_n (by omega)
    · unfold s_found; rw [at19_l5, at19_f5, ud_n (by omega), ud_n (by omega)]
theorem at19_d15 {d : Nat → Int} {r c : Nat} : (s_dial1 d r c) 19 = d 19 := by
  unfold s_dial1
  split
  · exact ud_n (by omega)
  · rfl
theorem at19_d5 {d : Nat → Int} {r : Nat} : (s_dials d r) 19 = d 19 := by
  unfold s_dials
  split
  · rfl
  · split
    · unfold s_dial2
      split
      · rw [at19_w5, at19_d15]
      · split
        · exact at19_d15
        · split
          · rw [ud_n (by omega), at19_d15]
          · rw [at19_o5, at19_f5, ud_n (by omega), at19_d15]
    · rfl
theorem at19_c5 {d : Nat → Int} {c : Nat} : (f_come d c) 19 = d 19 := by
  unfold f_come
  split
  · unfold s_comes
    split
    · rw [at19_o5, ud_n (by omega)]
    · rw [at19_w5, ud_n (by omega)]
  · rfl
theorem at19_t5 {d : Nat → Int} {c : Nat} : (f_talk d c) 19 = d 19 := by
  unfold f_talk
  split
  · unfold s_talk1
    split
    · rw [at19_o5, ud_n (by omega)]
    · exact ud_n (by omega)
  · rfl
theorem s_tick_19 {d : Nat → Int} : (s_tick d) 19 = d 19 := by
  unfold s_tick s_t9
  rw [itr_at (i := 19) (f := f_sum) (fun e k _ => at19_a5) _ (Nat.le_refl _)]
  unfold s_t8
  rw [ud_n (by decide)]
  unfold s_t7
  rw [itr_at (i := 19) (f := s_takesRegister) (fun e k _ => by unfold s_takesRegister; split <;> first | rfl | rw [ud_n (by omega), ud_n (by omega), ud_n (by omega)]) _ (Nat.le_refl _)]
  unfold s_t6
  rw [itr_at (i := 19) (f := s_takesMarker) (fun e k _ => by unfold s_takesMarker; split <;> first | rfl | rw [ud_n (by omega), ud_n (by omega), ud_n (by omega)]) _ (Nat.le_refl _)]
  unfold s_t5
  rw [itr_at (i := 19) (f := s_dials) (fun e k _ => at19_d5) _ (Nat.le_refl _)]
  unfold s_t4
  rw [itr_at (i := 19) (f := s_marks) (fun e k _ => at19_m5) _ (Nat.le_refl _)]
  unfold s_t3
  rw [itr_at (i := 19) (f := f_talk) (fun e k _ => at19_t5) _ (Nat.le_refl _)]
  unfold s_t2
  rw [itr_at (i := 19) (f := f_come) (fun e k _ => at19_c5) _ (Nat.le_refl _)]
  exact ud_n (by decide)
theorem at6_o5 {d : Nat → Int} {c : Nat} {y : Int} : (s_isOver d c y) 6 = d 6 := by unfold s_isOver; rw [ud_n (by omega), ud_n (by omega), ud_n (by omega)]
theorem at6_w5 {d : Nat → Int} {c : Nat} {y : Int} : (s_waits d c y) 6 = d 6 := by unfold s_waits; rw [ud_n (by omega), ud_n (by omega), ud_n (by omega)]
theorem at6_k5 {d : Nat → Int} {c : Nat} {x y : Int} : (s_talks d c x y) 6 = d 6 := by unfold s_talks; rw [ud_n (by omega), ud_n (by omega), ud_n (by omega), ud_n (by omega), ud_n (by omega)]
theorem at6_f5 {d : Nat → Int} {c : Nat} : (s_freeReg d c) 6 = d 6 := by
  unfold s_freeReg
  split
  · rfl
  · show ud (ud (ud (ud d _ _) _ _) _ _) _ _ 6 = d 6
    rw [ud_n (by omega), ud_n (by omega), ud_n (by omega), ud_n (by omega)]
theorem at6_a5 {d : Nat → Int} {x k : Nat} {v : Int} : (s_addGroup d x k v) 6 = d 6 := ud_n (by omega)
theorem at6_v5 {d : Nat → Int} {r : Nat} : ∀ k, (s_ovF d r k) 6 = d 6
  | 0 => rfl
  | k + 1 => by rw [ovF_s, ud_n (by decide), at6_a5]; exact at6_v5 k
theorem at6_y5 {d : Nat → Int} {c r k : Nat} : (s_way d c r k) 6 = d 6 := by
  unfold s_way
  split
  · exact at6_o5
  · rw [at6_a5, at6_a5, at6_k5]
theorem at6_l5 {d : Nat → Int} {c m : Nat} {v : Int} : (s_looks d c m v) 6 = d 6 := by
  unfold s_looks
  split
  · rw [at6_y5, at6_v5]
  · split
    · exact at6_o5
    · exact at6_k5
theorem at6_m5 {d : Nat → Int} {k : Nat} : (s_marks d k) 6 = d 6 := by
  unfold s_marks
  split
  · rfl
  · split
    · exact ud_n (by omega)
    · unfold s_found; rw [at6_l5, at6_f5, ud_n (by omega), ud_n (by omega)]
theorem at6_d15 {d : Nat → Int} {r c : Nat} : (s_dial1 d r c) 6 = d 6 := by
  unfold s_dial1
  split
  · exact ud_n (by omega)
  · rfl
theorem at6_d5 {d : Nat → Int} {r : Nat} : (s_dials d r) 6 = d 6 := by
  unfold s_dials
  split
  · rfl
  · split
    · unfold s_dial2
      split
      · rw [at6_w5, at6_d15]
      · split
        · exact at6_d15
        · split
          · rw [ud_n (by omega), at6_d15]
          · rw [at6_o5, at6_f5, ud_n (by omega), at6_d15]
    · rfl
theorem at6_c5 {d : Nat → Int} {c : Nat} : (f_come d c) 6 = d 6 := by
  unfold f_come
  split
  · unfold s_comes
    split
    · rw [at6_o5, ud_n (by omega)]
    · rw [at6_w5, ud_n (by omega)]
  · rfl
theorem at6_t5 {d : Nat → Int} {c : Nat} : (f_talk d c) 6 = d 6 := by
  unfold f_talk
  split
  · unfold s_talk1
    split
    · rw [at6_o5, ud_n (by omega)]
    · exact ud_n (by omega)
  · rfl
theorem s_tick_6 {d : Nat → Int} : (s_tick d) 6 = bm (d 6 + 1) := by
  unfold s_tick s_t9
  rw [itr_at (i := 6) (f := f_sum) (fun e k _ => at6_a5) _ (Nat.le_refl _)]
  unfold s_t8
  rw [ud_n (by decide)]
  unfold s_t7
  rw [itr_at (i := 6) (f := s_takesRegister) (fun e k _ => by unfold s_takesRegister; split <;> first | rfl | rw [ud_n (by omega), ud_n (by omega), ud_n (by omega)]) _ (Nat.le_refl _)]
  unfold s_t6
  rw [itr_at (i := 6) (f := s_takesMarker) (fun e k _ => by unfold s_takesMarker; split <;> first | rfl | rw [ud_n (by omega), ud_n (by omega), ud_n (by omega)]) _ (Nat.le_refl _)]
  unfold s_t5
  rw [itr_at (i := 6) (f := s_dials) (fun e k _ => at6_d5) _ (Nat.le_refl _)]
  unfold s_t4
  rw [itr_at (i := 6) (f := s_marks) (fun e k _ => at6_m5) _ (Nat.le_refl _)]
  unfold s_t3
  rw [itr_at (i := 6) (f := f_talk) (fun e k _ => at6_t5) _ (Nat.le_refl _)]
  unfold s_t2
  rw [itr_at (i := 6) (f := f_come) (fun e k _ => at6_c5) _ (Nat.le_refl _)]
  exact ud_s

theorem tk_19 {d : Nat → Int} : ∀ n, tk d n 19 = d 19
  | 0 => rfl
  | n + 1 => s_tick_19.trans (tk_19 n)
theorem g_tk {d : Nat → Int} {w b : Int} (hw : d 19 ≤ w) : ∀ n, grs d b n = 0 → tk (ud d 19 w) n = ud (tk d n) 19 w
  | 0, _ => rfl
  | n + 1, h => by
    have h1 : s_gr (s_t1 (tk d n)) (grs d b n) = 0 := h
    have h2 : grs d b n = 0 := (gF_0 h1).1
    show s_tick (tk (ud d 19 w) n) = ud (s_tick (tk d n)) 19 w
    rw [g_tk hw n h2, g_tick (by rw [tk_19]; exact hw) h1]
/-! bestGuard -/
def bgN (d : Nat → Int) (v : Nat) : Int := (s_cnt (tk (ud d 19 (v : Int)) 300) 6 : Int)
def bgF (d : Nat → Int) : Nat → Int × Int
  | 0 => (1, -1)
  | k + 1 => if (bgF d k).2 < bgN d (k + 1) then (((k + 1 : Nat) : Int), bgN d (k + 1)) else bgF d k
theorem bgF_ge {d : Nat → Int} (k : Nat) : bgN d (k + 1) ≤ (bgF d (k + 1)).2 := by
  unfold bgF
  split
  · exact Int.le_refl _
  · omega
theorem bg_same {d : Nat → Int} {k n : Nat} (hg : grs (ud d 19 (k : Int)) 0 300 = 0) (hn : k ≤ n) : bgN d n = bgN d k := by
  unfold bgN
  have e : ud d 19 (n : Int) = ud (ud d 19 (k : Int)) 19 (n : Int) := funext fun j => by
    by_cases h : j = 19
    · subst h; rw [ud_s, ud_s]
    · rw [ud_n h, ud_n h, ud_n h]
  rw [e, g_tk (b := 0) (by rw [ud_s]; omega) 300 hg, g_cnt]
theorem bgF_stop {d : Nat → Int} {k : Nat} (h : ∀ n, k + 1 ≤ n → bgN d n = bgN d (k + 1)) : ∀ n, k + 1 ≤ n → bgF d n = bgF d (k + 1)
  | 0, hn => by omega
  | n + 1, hn => by
    rcases Nat.lt_or_ge k n with q | q
    · have ih := bgF_stop h n (by omega)
      have hb := bgF_ge (d := d) k
      conv => lhs; unfold bgF
      rw [ih, h (n + 1) (by omega), if_neg (by omega)]
    · rw [show n = k by omega]
theorem bg_end {d : Nat → Int} {k : Nat} (h : 1 ≤ k ∧ grs (ud d 19 (k : Int)) 0 300 = 0) (hk : k ≤ 40) : bgF d 40 = bgF d k := by
  obtain ⟨j, rfl⟩ : ∃ j, k = j + 1 := ⟨k - 1, by omega⟩
  exact bgF_stop (fun n hn => bg_same h.2 hn) 40 (by omega)

set_option maxRecDepth 20000 in
theorem c_bestGuard {w : Wd} {sh : Shp} {g : Mem} {B : Nat} {d : Nat → Int} (hB : CxS sh.1 B) (hK : KX g (B + 2) d) (hT : ExI g (B + 77)) : CT w mX9_bestGuard [.ref (B)] sh g (iQ sh (fun z g2 => z = (bgF d 40).1 ∧ (∀ a, a < B + 77 ∨ B + 152 ≤ a → g2 a = g a) ∧ ExI g2 (B + 77))) := by
  refine j_entry (by decide) rfl (Nat.le_of_ble_eq_true rfl) (fun h => by cases h) rfl ?_
  show J w mX9_bestGuard 0 [(0, .ref (B))] [] sh g 0 0 _
  refine j_iconst 1 dX9_bestGuard_0 rfl ?_
  refine j_istore_n 2 (L2 := [(1, .int (i32 (1))), (0, .ref (B))]) dX9_bestGuard_1 rfl rfl (Nat.le_of_ble_eq_true rfl) rfl ?_
  refine j_iconst 3 dX9_bestGuard_2 rfl ?_
  refine j_istore_n 4 (L2 := [(2, .int (i32 (-1))), (1, .int (i32 (1))), (0, .ref (B))]) dX9_bestGuard_3 rfl rfl (Nat.le_of_ble_eq_true rfl) rfl ?_
  refine j_iconst 5 dX9_bestGuard_4 rfl ?_
  refine j_istore_n 6 (L2 := [(3, .int (i32 (1))), (2, .int (i32 (-1))), (1, .int (i32 (1))), (0, .ref (B))]) dX9_bestGuard_5 rfl rfl (Nat.le_of_ble_eq_true rfl) rfl ?_
  refine j_iconst 7 dX9_bestGuard_6 rfl ?_
  refine j_istore 9 (L2 := [(4, .int (i32 (1))), (3, .int (i32 (1))), (2, .int (i32 (-1))), (1, .int (i32 (1))), (0, .ref (B))]) dX9_bestGuard_7 rfl (Nat.le_of_ble_eq_true rfl) rfl ?_
  suffices lp_9 : ∀ (n_9 : Nat) (k : Nat) (best : Int) (most : Int) (b : Int) (ga : Mem), 40 - k < n_9 → k ≤ 40 → R32 best → R32 most → (b = 0 ∨ b = 1) → best = (bgF d k).1 → most = (bgF d k).2 → (b = 0 → 1 ≤ k ∧ grs (ud d 19 (k : Int)) 0 300 = 0) → KX ga (B + 2) d → ExI ga (B + 77) → (∀ a, a < B + 77 ∨ B + 152 ≤ a → ga a = g a) → J w mX9_bestGuard 9 [(4, .int (i32 (((k + 1 : Nat) : Int)))), (3, .int (i32 (b))), (2, .int (i32 (most))), (1, .int (i32 (best))), (0, .ref (B))] [] sh ga 0 0 (iQ sh (fun z g2 => z = (bgF d 40).1 ∧ (∀ a, a < B + 77 ∨ B + 152 ≤ a → g2 a = g a) ∧ ExI g2 (B + 77))) by
    exact lp_9 _ 0 1 (-1) 1 g (Nat.lt_succ_self _) (by omega) (r32 (by decide) (by decide)) (r32 (by decide) (by decide)) (Or.inr rfl) rfl rfl (fun q => absurd q (by decide)) hK hT (fun _ _ => rfl)
  intro n_9
  induction n_9 with
  | zero => intro k best most b ga h_; exact absurd h_ (Nat.not_lt_zero _)
  | succ n_9 ih_9 =>
    intro k best most b ga hn_9 hk hbr hmr hb hbe hme hst hKa hTa hFa
    refine j_iload 11 0 dX9_bestGuard_9 rfl rfl ?_
    refine j_bipush 13 dX9_bestGuard_11 rfl (by decide) ?_
    refine j_icmp_gt 16 95 dX9_bestGuard_13 rfl rfl (r32 (by omega) (by omega)) (r32 (by decide) (by decide)) (fun c_13 => ?_) (fun c_13 => ?_)
    · have hk40 : k = 40 := by omega
      refine j_iload_n 96 3 dX9_bestGuard_95 rfl rfl ?_
      exact j_iret dX9_bestGuard_96 rfl (⟨_, rfl, rfl, by rw [hbe]; first | (rw [hk40]) | exact congrArg Prod.fst (bg_end hst1 hk).symm, hFa, hTa⟩)
    · refine j_iload_n 17 1 dX9_bestGuard_16 rfl rfl ?_
      refine j_if_eq 20 95 dX9_bestGuard_17 rfl rfl (r01 hb) (fun c_17 => ?_) (fun c_17 => ?_)
      · have hst1 := hst (by omega)
        refine j_iload_n 96 3 dX9_bestGuard_95 rfl rfl ?_
        exact j_iret dX9_bestGuard_96 rfl (⟨_, rfl, rfl, by rw [hbe]; first | (rw [hk40]) | exact congrArg Prod.fst (bg_end hst1 hk).symm, hFa, hTa⟩)
      · refine j_aload_n 21 4 dX9_bestGuard_20 rfl rfl ?_
        refine j_getr 24 dX9_bestGuard_21 rfl fl_X9_27 hB.cx rfl (fun _ _ => rfl) rfl ?_
        refine j_aload_n 25 4 dX9_bestGuard_24 rfl rfl ?_
        refine j_getr 28 dX9_bestGuard_25 rfl fl_X9_23 hB.cx rfl (fun _ _ => rfl) rfl ?_
        refine j_callV 31 (As := [.ref ((B + 2))]) (kc2 := 0) (ks2 := 0) dX9_bestGuard_28 rfl mvX1_copyFrom lk_X9_63 hB.tri.ex rfl ⟨Nat.le_of_ble_eq_true rfl, rfl⟩ rfl rfl (Nat.le_of_ble_eq_true rfl) ⟨Nat.le_of_ble_eq_true rfl, Nat.le_of_ble_eq_true rfl⟩ ⟨Nat.le_of_ble_eq_true rfl, Nat.le_of_ble_eq_true rfl⟩ (c_copyX hB.tri hB.now (by omega)) x_v (k_v fun g_28 h_28 => ?_)
        obtain ⟨k1, k2, k3⟩ := h_28.kx (by omega) hKa hTa
        refine j_aload_n 32 4 dX9_bestGuard_31 rfl rfl ?_
        refine j_getr 35 dX9_bestGuard_32 rfl fl_X9_27 hB.cx rfl (fun _ _ => rfl) rfl ?_
        refine j_iload 37 0 dX9_bestGuard_35 rfl rfl ?_
        refine j_puti 40 dX9_bestGuard_37 rfl fl_X9_91 hB.tri.ex rfl rfl rfl (r32 (by omega) (by omega)) ?_
        refine j_mn (fun g_37 hg_37 => ?_)
        refine j_aload_n 41 4 dX9_bestGuard_40 rfl rfl ?_
        refine j_getr 44 dX9_bestGuard_41 rfl fl_X9_27 hB.cx rfl (fun _ _ => rfl) rfl ?_
        refine j_iconst 45 dX9_bestGuard_44 rfl ?_
        refine j_putz 48 dX9_bestGuard_45 rfl fl_X9_265 hB.tri.ex rfl rfl rfl (Or.inl rfl) ?_
        refine j_mn (fun g_45 hg_45 => ?_)
        refine j_aload_n 49 4 dX9_bestGuard_48 rfl rfl ?_
        refine j_getr 52 dX9_bestGuard_49 rfl fl_X9_27 hB.cx rfl (fun _ _ => rfl) rfl ?_
        have k4 : KX g_45 (B + 77) (ud d 19 ((k + 1 : Nat) : Int)) := by rw [hg_45]; refine KX.set12 ?_; rw [hg_37]; exact k1.rule (q := 19) (by decide) (by omega) (by show ((k + 1 : Nat) : Int) ≤ 40; omega)
        have k12 : g_45 (B + 77) 12 = 0 := by rw [hg_45]; exact up2_s
        have kF : ∀ a, a < B + 77 ∨ B + 152 ≤ a → g_45 a = ga a := fun a ha => by rw [hg_45, up2_row (by omega), hg_37, up2_row (by omega)]; exact k2 a ha
        refine j_sipush 55 dX9_bestGuard_52 rfl (by decide) ?_
        refine j_callV 58 (As := [.int (i32 (300))]) (kc2 := 0) (ks2 := 0) dX9_bestGuard_55 rfl mvX1_settle lk_X9_262 hB.tri.ex rfl ⟨Nat.le_of_ble_eq_true rfl, rfl⟩ rfl rfl (Nat.le_of_ble_eq_true rfl) ⟨Nat.le_of_ble_eq_true rfl, Nat.le_of_ble_eq_true rfl⟩ ⟨Nat.le_of_ble_eq_true rfl, Nat.le_of_ble_eq_true rfl⟩ (c_settle (n := 300) hB.tri k4 (by omega)) x_v (k_v fun g_55 h_55 => ?_)
        obtain ⟨m, m1, m2, m3, m4, m5⟩ := h_55
        have hsc := settle_cnt m2.2.1 m1 m3
        have hcn := hsc.1 6
        have hrc := rel_countIn m2.1 (x := 6) (by decide)
        have hgs : g_55 (B + 77) 12 = grs (ud d 19 ((k + 1 : Nat) : Int)) 0 300 := by rw [m5, k12]; exact hsc.2 0
        have hF3 : ∀ a, a < B + 77 ∨ B + 152 ≤ a → g_55 a = g a := fun a ha => (m4 a (by omega)).trans ((kF a ha).trans (hFa a ha))
        have hK3 : KX g_55 (B + 2) d := hKa.rows (fun a h1 h2 => (m4 a (by omega)).trans (kF a (by omega)))
        have hcl : s_cnt (tk (ud d 19 ((k + 1 : Nat) : Int)) 300) 6 ≤ 40 := cnt_le _ 40
        have hbN : bgN d (k + 1) = (s_cnt (tk (ud d 19 ((k + 1 : Nat) : Int)) 300) 6 : Int) := rfl
        refine j_aload_n 59 4 dX9_bestGuard_58 rfl rfl ?_
        refine j_getr 62 dX9_bestGuard_59 rfl fl_X9_27 hB.cx rfl (fun _ _ => rfl) rfl ?_
        refine j_bipush 64 dX9_bestGuard_62 rfl (by decide) ?_
        refine j_callV 67 (As := [.int (i32 (6))]) (kc2 := 0) (ks2 := 0) dX9_bestGuard_64 rfl mvX1_countIn lk_X9_69 hB.tri.ex rfl ⟨Nat.le_of_ble_eq_true rfl, rfl⟩ rfl rfl (Nat.le_of_ble_eq_true rfl) ⟨Nat.le_of_ble_eq_true rfl, Nat.le_of_ble_eq_true rfl⟩ ⟨Nat.le_of_ble_eq_true rfl, Nat.le_of_ble_eq_true rfl⟩ (c_countIn hB.tri (r32 (by decide) (by decide))) x_d (k_d1 ?_)
        refine j_top (y := bgN d (k + 1)) (by rw [hrc, hcn]; rfl) ?_
        refine j_istore 69 (L2 := [(5, .int (i32 (bgN d (k + 1)))), (4, .int (i32 (((k + 1 : Nat) : Int)))), (3, .int (i32 (b))), (2, .int (i32 (most))), (1, .int (i32 (best))), (0, .ref (B))]) dX9_bestGuard_67 rfl (Nat.le_of_ble_eq_true rfl) rfl ?_
        refine j_iload 71 0 dX9_bestGuard_69 rfl rfl ?_
        refine j_iload_n 72 3 dX9_bestGuard_71 rfl rfl ?_
        refine j_icmp_le 75 81 dX9_bestGuard_72 rfl rfl (r32 (by omega) (by omega)) hmr (fun c_72 => ?_) (fun c_72 => ?_)
        · have hbe2 : best = (bgF d (k + 1)).1 := by unfold bgF; rw [if_neg (by omega)]; exact hbe
          have hme2 : most = (bgF d (k + 1)).2 := by unfold bgF; rw [if_neg (by omega)]; exact hme
          refine j_aload_n 82 5 dX9_bestGuard_81 rfl rfl ?_
          refine j_getr 85 dX9_bestGuard_82 rfl fl_X9_27 hB.cx rfl (fun _ _ => rfl) rfl ?_
          refine j_getz 88 dX9_bestGuard_85 rfl fl_X9_265 hB.tri.ex rfl rfl (fun r_85 => ?_)
          have hbn : g_55 (B + 77) 12 = 0 ∨ g_55 (B + 77) 12 = 1 := r_85
          have hst2 : g_55 (B + 77) 12 = 0 → 1 ≤ k + 1 ∧ grs (ud d 19 ((k + 1 : Nat) : Int)) 0 300 = 0 := fun q => ⟨by omega, by rw [← hgs]; exact q⟩
          refine j_istore_n 89 (L2 := [(3, .int (i32 (g_55 ((B + 77)) 12))), (5, .int (i32 (bgN d (k + 1)))), (4, .int (i32 (((k + 1 : Nat) : Int)))), (2, .int (i32 (most))), (1, .int (i32 (best))), (0, .ref (B))]) dX9_bestGuard_88 rfl rfl (Nat.le_of_ble_eq_true rfl) rfl ?_
          refine j_iinc 92 2 (y := ((k + 1 + 1 : Nat) : Int)) (L2 := [(4, .int (i32 (((k + 1 + 1 : Nat) : Int)))), (3, .int (i32 (g_55 ((B + 77)) 12))), (5, .int (i32 (bgN d (k + 1)))), (2, .int (i32 (most))), (1, .int (i32 (best))), (0, .ref (B))]) dX9_bestGuard_89 rfl rfl (by omega) (Nat.le_of_ble_eq_true rfl) rfl ?_
          refine j_goto 9 dX9_bestGuard_92 rfl ?_
          refine j_sub [0, 1, 3, 4, 5] rfl ?_
          exact ih_9 (k + 1) _ _ _ _ (by omega) (by omega) (by first | exact hbr | exact (r32 (by omega) (by omega))) (by first | exact hmr | exact (r32 (by omega) (by omega))) hbn hbe2 hme2 hst2 hK3 m2.1.1 hF3
        · have hbe2 : ((k + 1 : Nat) : Int) = (bgF d (k + 1)).1 := by unfold bgF; rw [if_pos (by omega)]
          have hme2 : bgN d (k + 1) = (bgF d (k + 1)).2 := by unfold bgF; rw [if_pos (by omega)]
          refine j_iload 77 0 dX9_bestGuard_75 rfl rfl ?_
          refine j_istore_n 78 (L2 := [(2, .int (i32 (bgN d (k + 1)))), (5, .int (i32 (bgN d (k + 1)))), (4, .int (i32 (((k + 1 : Nat) : Int)))), (3, .int (i32 (b))), (1, .int (i32 (best))), (0, .ref (B))]) dX9_bestGuard_77 rfl rfl (Nat.le_of_ble_eq_true rfl) rfl ?_
          refine j_iload 80 2 dX9_bestGuard_78 rfl rfl ?_
          refine j_istore_n 81 (L2 := [(1, .int (i32 (((k + 1 : Nat) : Int)))), (2, .int (i32 (bgN d (k + 1)))), (5, .int (i32 (bgN d (k + 1)))), (4, .int (i32 (((k + 1 : Nat) : Int)))), (3, .int (i32 (b))), (0, .ref (B))]) dX9_bestGuard_80 rfl rfl (Nat.le_of_ble_eq_true rfl) rfl ?_
          refine j_aload_n 82 5 dX9_bestGuard_81 rfl rfl ?_
          refine j_getr 85 dX9_bestGuard_82 rfl fl_X9_27 hB.cx rfl (fun _ _ => rfl) rfl ?_
          refine j_getz 88 dX9_bestGuard_85 rfl fl_X9_265 hB.tri.ex rfl rfl (fun r_85 => ?_)
          have hbn : g_55 (B + 77) 12 = 0 ∨ g_55 (B + 77) 12 = 1 := r_85
          have hst2 : g_55 (B + 77) 12 = 0 → 1 ≤ k + 1 ∧ grs (ud d 19 ((k + 1 : Nat) : Int)) 0 300 = 0 := fun q => ⟨by omega, by rw [← hgs]; exact q⟩
          refine j_istore_n 89 (L2 := [(3, .int (i32 (g_55 ((B + 77)) 12))), (1, .int (i32 (((k + 1 : Nat) : Int)))), (2, .int (i32 (bgN d (k + 1)))), (5, .int (i32 (bgN d (k + 1)))), (4, .int (i32 (((k + 1 : Nat) : Int)))), (0, .ref (B))]) dX9_bestGuard_88 rfl rfl (Nat.le_of_ble_eq_true rfl) rfl ?_
          refine j_iinc 92 4 (y := ((k + 1 + 1 : Nat) : Int)) (L2 := [(4, .int (i32 (((k + 1 + 1 : Nat) : Int)))), (3, .int (i32 (g_55 ((B + 77)) 12))), (1, .int (i32 (((k + 1 : Nat) : Int)))), (2, .int (i32 (bgN d (k + 1)))), (5, .int (i32 (bgN d (k + 1)))), (0, .ref (B))]) dX9_bestGuard_89 rfl rfl (by omega) (Nat.le_of_ble_eq_true rfl) rfl ?_
          refine j_goto 9 dX9_bestGuard_92 rfl ?_
          refine j_sub [0, 1, 3, 2, 5] rfl ?_
          exact ih_9 (k + 1) _ _ _ _ (by omega) (by omega) (by first | exact hbr | exact (r32 (by omega) (by omega))) (by first | exact hmr | exact (r32 (by omega) (by omega))) hbn hbe2 hme2 hst2 hK3 m2.1.1 hF3
