/-! a tick keeps Inv -/
theorem sta_fcome {d : Nat → Int} {c : Nat} : Sta d (f_come d c) := by
  unfold f_come
  split
  · exact sta_comes Sta.rf
  · exact Sta.rf
theorem sta_ftalk {d : Nat → Int} {c : Nat} : Sta d (f_talk d c) := by
  unfold f_talk s_talk1
  split
  · split
    · exact sta_isOver (Sta.rf.ud (kp_call (k := 9) (by omega) (by omega) (by omega)))
    · exact Sta.rf.ud (kp_call (k := 9) (by omega) (by omega) (by omega))
  · exact Sta.rf
theorem sta_takeM {d : Nat → Int} {k : Nat} (hk : k < 3) : Sta d (s_takesMarker d k) := by
  unfold s_takesMarker
  split
  · exact ((Sta.rf.ud (kp_reg (by omega) (by omega))).ud (kp_reg (by omega) (by omega))).ud (kp_call (k := 4) (by omega) (by omega) (by omega))
  · exact Sta.rf
theorem sta_takeR {d : Nat → Int} {r : Nat} (hr : r < 4) : Sta d (s_takesRegister d r) := by
  unfold s_takesRegister
  split
  · exact ((Sta.rf.ud (kp_reg (by omega) (by omega))).ud (kp_call (k := 4) (by omega) (by omega) (by omega))).ud (kp_call (k := 10) (by omega) (by omega) (by omega))
  · exact Sta.rf
/-- what a marker at work rests on -/
theorem Inv.mark {d : Nat → Int} {k : Nat} (h : Inv d) (hk : k < 3) (hq : ¬ d (163 + 2 * k) = -1) : ∃ c r : Nat, d (163 + 2 * k) = (c : Int) ∧ d (179 + 14 * c) = (r : Int) ∧ r < 4 ∧ d (151 + 3 * r) = (c : Int) ∧ (c : Int) < d 5 ∧ d (173 + 14 * c) = 4 ∧ IR d r c ∧ s_isComplete d (d (152 + 3 * r)).toNat (s_dv d c (d (152 + 3 * r)).toNat) = true := by
  obtain ⟨hb, hb2, gr, gc, gm, gu⟩ := h
  rcases gm k hk with q | ⟨c, a1, a2, a3, a4, a5⟩
  · exact absurd q.1 hq
  · rcases (gc c a2).2.2 with q | ⟨r, r1, r2, r3⟩
    · omega
    · rcases gr r r1 with q | ⟨c2, s1, s2⟩
      · omega
      · have : c2 = c := by omega
        subst this
        exact ⟨c2, r, a1, r2, r1, r3, a2, a4, s2, s2.2.2.2.2.2.2.2.2.2.2 (by omega)⟩
theorem sta_marks {d : Nat → Int} {k : Nat} (h : Inv d) (hk : k < 3) : Sta d (s_marks d k) := by
  unfold s_marks
  split
  · exact Sta.rf
  · next hq =>
    split
    · exact Sta.rf.ud (kp_reg (by omega) (by omega))
    · obtain ⟨c, r, a1, a2, a3, a4, a5, a6, a7, a8⟩ := h.mark hk hq
      rw [a1, Int.toNat_natCast]
      unfold s_found
      rw [ud_n (i := 164 + 2 * k) (j := 179 + 14 * c) (by omega), a2, Int.toNat_natCast, ud_n (i := 164 + 2 * k) (j := 152 + 3 * r) (by omega)]
      have hS : Sta d (s_freeReg (ud (ud d (164 + 2 * k) (d (164 + 2 * k) - 1)) (163 + 2 * k) (-1)) c) := sta_freeReg ((Sta.rf.ud (kp_reg (by omega) (by omega))).ud (kp_reg (by omega) (by omega))) (by rw [ud_n (by omega), ud_n (by omega), a2]; omega)
      generalize s_freeReg (ud (ud d (164 + 2 * k) (d (164 + 2 * k) - 1)) (163 + 2 * k) (-1)) c = e at hS ⊢
      exact hS.tr (looks_spec (h.1.sta hS) (by rw [lineOf_sta hS, routeFor_sta hS, dv_sta hS]; exact complete_ok a8)).1
theorem sta_dials {d : Nat → Int} {r : Nat} (h : Inv d) (hr : r < 4) : Sta d (s_dials d r) := by
  unfold s_dials
  split
  · exact Sta.rf
  · next hq =>
    split
    · rcases h.2.2.1 r hr with q | ⟨c, hri, hir⟩
      · exact absurd q.1 hq
      · rw [hri, Int.toNat_natCast]
        have h1 : Sta d (s_dial1 d r c) := by
          unfold s_dial1
          split
          · exact Sta.rf.ud (kp_reg (by omega) (by omega))
          · exact Sta.rf
        have h2 : (s_dial1 d r c) (179 + 14 * c) = (r : Int) := by
          unfold s_dial1
          split
          · rw [ud_n (by omega)]; exact hir.2.2.1
          · exact hir.2.2.1
        generalize s_dial1 d r c = f at h1 h2 ⊢
        unfold s_dial2
        split
        · exact sta_waits h1
        · split
          · exact h1
          · split
            · exact h1.ud (kp_reg (by omega) (by omega))
            · exact sta_isOver (sta_freeReg (h1.ud (kp_reg (by omega) (by omega))) (by rw [ud_n (by omega), h2]; omega))
    · exact Sta.rf
theorem inv_sum {d : Nat → Int} {x : Nat} (h : Inv d) (hx : x < 5) : Inv (f_sum d x) := h.cong (fun i hi => by
  unfold f_sum s_addGroup
  exact ud_n (by unfold inI kpI at hi; omega))
theorem sta_sum {d : Nat → Int} {x : Nat} (hx : x < 5) : Sta d (f_sum d x) := sta_addGroup Sta.rf hx (by omega) (by omega)
theorem inv_t1 {d : Nat → Int} (h : Inv d) : Inv (s_t1 d) := h.cong (fun i hi => ud_n (by unfold inI kpI at hi; omega))
theorem inv_t8 {d : Nat → Int} (h : Inv d) : Inv (s_t8 d) := h.cong (fun i hi => ud_n (by unfold inI kpI at hi; omega))
theorem sta_t1 {d : Nat → Int} : Sta d (s_t1 d) := Sta.rf.ud kp_23.2.2.2
theorem sta_t8 {d : Nat → Int} : Sta d (s_t8 d) := Sta.rf.ud kp_23.2.1
/-- Inv and the still numbers, and all numbers in range, along a loop -/
def Ok (d e : Nat → Int) : Prop := Inv e ∧ Sta d e
theorem Ok.n {d e : Nat → Int} (h : Ok d e) {i : Nat} (hi : i < 6) : e i = d i := h.2 i (Or.inl hi)
theorem pre_marks {d : Nat → Int} {k : Nat} (h : Inv d) (hk : k < 3) : 0 ≤ d (164 + 2 * k) ∧ (¬ d (163 + 2 * k) = -1 → (0 ≤ d (163 + 2 * k) ∧ d (163 + 2 * k) < 40) ∧ (0 ≤ d (179 + 14 * (d (163 + 2 * k)).toNat) ∧ d (179 + 14 * (d (163 + 2 * k)).toNat) < 4) ∧ 0 ≤ d (152 + 3 * (d (179 + 14 * (d (163 + 2 * k)).toNat)).toNat) ∧ d (152 + 3 * (d (179 + 14 * (d (163 + 2 * k)).toNat)).toNat) ≤ d (170 + 14 * (d (163 + 2 * k)).toNat) ∧ d (170 + 14 * (d (163 + 2 * k)).toNat) ≤ 6) ∧
    (¬ d (163 + 2 * k) = -1 → s_lineOf d (d (152 + 3 * (d (179 + 14 * (d (163 + 2 * k)).toNat)).toNat)) (s_dv d (d (163 + 2 * k)).toNat (d (152 + 3 * (d (179 + 14 * (d (163 + 2 * k)).toNat)).toNat)).toNat) = -1 → ¬ s_routeFor d (d (152 + 3 * (d (179 + 14 * (d (163 + 2 * k)).toNat)).toNat)).toNat (s_dv d (d (163 + 2 * k)).toNat (d (152 + 3 * (d (179 + 14 * (d (163 + 2 * k)).toNat)).toNat)).toNat) = -1) := by
  refine ⟨?_, fun hq => ?_, fun hq => ?_⟩
  · rcases h.2.2.2.2.1 k hk with q | ⟨c, a1, a2, a3, a4, a5⟩ <;> omega
  · obtain ⟨c, r, a1, a2, a3, a4, a5, a6, a7, a8⟩ := h.mark hk hq
    rw [a1, Int.toNat_natCast, a2, Int.toNat_natCast]
    have hlo := h.1.2.2.2.2.2.2.2.2.2 c (by have := h.1.2.2.2.2.2.1; omega)
    have := h.1.2.2.2.2.2.1
    exact ⟨by omega, by omega, a7.2.2.2.2.2.1, a7.2.2.2.2.2.2.1, hlo.2.1⟩
  · obtain ⟨c, r, a1, a2, a3, a4, a5, a6, a7, a8⟩ := h.mark hk hq
    rw [a1, Int.toNat_natCast, a2, Int.toNat_natCast]
    have e : d (152 + 3 * r) = ((d (152 + 3 * r)).toNat : Int) := by have := a7.2.2.2.2.2.1; omega
    intro h1
    rw [e] at h1
    rw [Int.toNat_natCast] at h1
    exact complete_ok a8 h1
theorem pre_dials {d : Nat → Int} {k : Nat} (h : Inv d) (hk : k < 4) : ¬ d (151 + 3 * k) = -1 → (0 ≤ d (151 + 3 * k) ∧ d (151 + 3 * k) < 40) ∧ (d (173 + 14 * (d (151 + 3 * k)).toNat) = 2 → (0 ≤ d (179 + 14 * (d (151 + 3 * k)).toNat) ∧ d (179 + 14 * (d (151 + 3 * k)).toNat) < 4) ∧ (0 ≤ d (152 + 3 * k) ∧ d (152 + 3 * k) ≤ d (170 + 14 * (d (151 + 3 * k)).toNat)) ∧ 0 ≤ d (153 + 3 * k) ∧ d (153 + 3 * k) ≤ 1000) := by
  intro hq
  rcases h.2.2.1 k hk with q | ⟨c, hri, hir⟩
  · exact absurd q.1 hq
  · rw [hri, Int.toNat_natCast]
    have := h.1.2.2.2.2.2.1
    obtain ⟨i1, i2, i3, i4, i5, i6, i7, i8, i9, -⟩ := hir
    exact ⟨by omega, fun _ => ⟨by omega, by omega, by omega, by omega⟩⟩
