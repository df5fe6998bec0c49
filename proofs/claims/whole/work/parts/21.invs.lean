/-! the steps of a tick keep Inv -/
theorem isOver_n {d : Nat → Int} {c i : Nat} {y : Int} (h1 : i ≠ 173 + 14 * c) (h2 : i ≠ 177 + 14 * c) (h3 : i ≠ 178 + 14 * c) : s_isOver d c y i = d i := by
  unfold s_isOver; rw [ud_n h3, ud_n h2, ud_n h1]
theorem isOver_4 {d : Nat → Int} {c : Nat} {y : Int} : s_isOver d c y (173 + 14 * c) = y := by
  unfold s_isOver; rw [ud_n (by omega), ud_n (by omega), ud_s]
theorem waits_n {d : Nat → Int} {c i : Nat} {y : Int} (h1 : i ≠ 173 + 14 * c) (h2 : i ≠ 25) (h3 : i ≠ 181 + 14 * c) : s_waits d c y i = d i := by
  unfold s_waits; rw [ud_n h3, ud_n h2, ud_n h1]
theorem waits_4 {d : Nat → Int} {c : Nat} {y : Int} : s_waits d c y (173 + 14 * c) = y := by
  unfold s_waits; rw [ud_n (by omega), ud_n (by omega), ud_s]
theorem talks_n {d : Nat → Int} {c i : Nat} {y z : Int} (h : i < 173 + 14 * c ∨ 178 + 14 * c < i) : s_talks d c y z i = d i := by
  unfold s_talks; rw [ud_n (by omega), ud_n (by omega), ud_n (by omega), ud_n (by omega), ud_n (by omega)]
theorem talks_4 {d : Nat → Int} {c : Nat} {y z : Int} : s_talks d c y z (173 + 14 * c) = 5 := by
  unfold s_talks; rw [ud_n (by omega), ud_n (by omega), ud_n (by omega), ud_n (by omega), ud_s]
theorem talks_9 {d : Nat → Int} {c : Nat} {y z : Int} : s_talks d c y z (178 + 14 * c) = d (171 + 14 * c) := by
  unfold s_talks; rw [ud_s]
/-- a call in none of the states 2 to 4 is in no register and no marker -/
theorem Inv.nowhere {d : Nat → Int} (h : Inv d) {c0 : Nat} (hn : ¬ (2 ≤ d (173 + 14 * c0) ∧ d (173 + 14 * c0) ≤ 4)) : (∀ r : Nat, r < 4 → d (151 + 3 * r) ≠ (c0 : Int)) ∧ ∀ k : Nat, k < 3 → d (163 + 2 * k) ≠ (c0 : Int) := by
  obtain ⟨hb, hb2, gr, gc, gm, gu⟩ := h
  refine ⟨fun r hr q => ?_, fun k hk q => ?_⟩
  · rcases gr r hr with h | ⟨c, a1, a2⟩
    · omega
    · have : c = c0 := by omega
      subst this
      exact hn ⟨a2.2.2.2.1, a2.2.2.2.2.1⟩
  · rcases gm k hk with h | ⟨c, a1, a2, a3, a4, a5⟩
    · omega
    · have : c = c0 := by omega
      subst this
      exact hn (by omega)
/-- a call that had neither comes to another state outside 2 to 4 -/
theorem Inv.outer {d e : Nat → Int} {c0 : Nat} (h : Inv d) (hc0 : (c0 : Int) < d 5) (hn : ¬ (2 ≤ d (173 + 14 * c0) ∧ d (173 + 14 * c0) ≤ 4)) (hs : ∀ i, inI i → i ≠ 173 + 14 * c0 → i ≠ 178 + 14 * c0 → e i = d i)
    (h2 : ¬ (2 ≤ e (173 + 14 * c0) ∧ e (173 + 14 * c0) ≤ 4)) (h3 : 0 ≤ e (173 + 14 * c0) ∧ e (173 + 14 * c0) ≤ 11) (h4 : e (173 + 14 * c0) = 5 → 1 ≤ e (178 + 14 * c0)) : Inv e := by
  obtain ⟨hw1, hw2⟩ := h.nowhere hn
  refine h.release (c0 := c0) (fun i hi => hs i (Or.inl hi) (by unfold kpI at hi; omega) (by unfold kpI at hi; omega)) (fun r hr => Or.inr ⟨hw1 r hr, hs _ (by unfold inI; omega) (by omega) (by omega), hs _ (by unfold inI; omega) (by omega) (by omega), hs _ (by unfold inI; omega) (by omega) (by omega)⟩)
    (fun k hk => Or.inr ⟨hw2 k hk, hs _ (by unfold inI; omega) (by omega) (by omega), hs _ (by unfold inI; omega) (by omega) (by omega)⟩) (fun c hc => ⟨hs _ (by unfold inI; omega) (by omega) (by omega), hs _ (by unfold inI; omega) (by omega) (by omega), hs _ (by unfold inI; omega) (by omega) (by omega)⟩) ?_ h2 h3 h4
  rw [hs (179 + 14 * c0) (by unfold inI; omega) (by omega) (by omega)]
  rcases (h.2.2.2.1 c0 hc0).2.2 with q | ⟨r, a1, a2, a3⟩
  · exact q.1
  · exact absurd a3 (hw1 r a1)
theorem inv_come {d : Nat → Int} {c : Nat} (h : Inv d) (hc : (c : Int) < d 5) : Inv (f_come d c) := by
  unfold f_come
  split
  · next hq =>
    have hn : ¬ (2 ≤ d (173 + 14 * c) ∧ d (173 + 14 * c) ≤ 4) := by omega
    unfold s_comes
    split
    · refine h.outer hc hn (fun i hi h1 h2 => ?_) (by rw [isOver_4]; omega) (by rw [isOver_4]; omega) (by rw [isOver_4]; omega)
      have : i ≠ 177 + 14 * c ∧ i ≠ 182 + 14 * c := by unfold inI kpI at hi; omega
      rw [isOver_n h1 this.1 h2, ud_n this.2]
    · refine h.outer hc hn (fun i hi h1 h2 => ?_) (by rw [waits_4]; omega) (by rw [waits_4]; omega) (by rw [waits_4]; omega)
      have : i ≠ 25 ∧ i ≠ 181 + 14 * c ∧ i ≠ 182 + 14 * c := by unfold inI kpI at hi; omega
      rw [waits_n h1 this.1 this.2.1, ud_n this.2.2]
  · exact h
theorem inv_talk {d : Nat → Int} {c : Nat} (h : Inv d) (hr : R32 (d (178 + 14 * c))) (hc : (c : Int) < d 5) : Inv (f_talk d c) := by
  unfold f_talk
  split
  · next hq =>
    have hn : ¬ (2 ≤ d (173 + 14 * c) ∧ d (173 + 14 * c) ≤ 4) := by omega
    have hl := (h.2.2.2.1 c hc).2.1 hq
    have hbm : bm (d (178 + 14 * c) - 1) = d (178 + 14 * c) - 1 := bm_id ⟨by omega, by have := hr.2; omega⟩
    unfold s_talk1
    rw [hbm]
    split
    · refine h.outer hc hn (fun i hi h1 h2 => ?_) (by rw [isOver_4]; omega) (by rw [isOver_4]; omega) (by rw [isOver_4]; omega)
      have : i ≠ 177 + 14 * c := by unfold inI kpI at hi; omega
      rw [isOver_n h1 this h2, ud_n h2]
    · refine h.outer hc hn (fun i hi h1 h2 => ud_n h2) (by rw [ud_n (by omega)]; exact hn) (by rw [ud_n (by omega)]; omega) (fun _ => by rw [ud_s]; omega)
  · exact h
theorem cmp_0 {d : Nat → Int} (h : Inv d) (c : Nat) : cmp d c 0 = false := by
  obtain ⟨hb, hb2, -⟩ := h
  have h1 : ∀ v, s_lineOf d 0 v = -1 := fun v => fst_none (fun j hj => by
    by_cases hq : (j : Int) < d 2
    · have := hb2.2.1 j hq
      simp <;> omega
    · simp <;> omega)
  have h2 : ∀ v n, s_rfF d 0 v n = -1 := by
    intro v n
    induction n with
    | zero => rfl
    | succ n ih =>
      rw [s_rfF_s, if_neg (fun hq => ?_), ih]
      have := hb2.2.2.1 n hq.1
      omega
  unfold cmp s_isComplete
  rw [show ((0 : Int).toNat : Int) = 0 from rfl, h1, show s_routeFor d (0 : Int).toNat (s_dv d c (0 : Int).toNat) = -1 from h2 _ 8]
  rfl
theorem inv_takeReg {d : Nat → Int} {r : Nat} (h : Inv d) (hr4 : r < 4) (hr0 : (r : Int) < d 0) : Inv (s_takesRegister d r) := by
  unfold s_takesRegister
  split
  · next hq =>
    rcases s_foremost_rng d 1 with hf | ⟨f1, f2, f3, f4⟩
    · exact absurd hf hq.2
    · obtain ⟨c, hc⟩ : ∃ c : Nat, s_foremost d 1 = (c : Int) := ⟨(s_foremost d 1).toNat, by omega⟩
      rw [hc] at f1 f2 f3 f4 ⊢
      rw [Int.toNat_natCast] at f4 ⊢
      have hS : Sta d (ud (ud (ud d (151 + 3 * r) (c : Int)) (173 + 14 * c) 2) (179 + 14 * c) (r : Int)) := ((Sta.rf.ud (kp_reg (by omega) (by omega))).ud (kp_call (k := 4) (by omega) (by omega) (by omega))).ud (kp_call (k := 10) (by omega) (by omega) (by omega))
      have h0 := cmp_0 h c
      obtain ⟨hb, hb2, gr, gc, gm, gu⟩ := h
      have hlo := hb.2.2.2.2.2.2.2.2.2 c (by omega)
      have hother : ∀ i, i ≠ 151 + 3 * r → i ≠ 173 + 14 * c → i ≠ 179 + 14 * c → ud (ud (ud d (151 + 3 * r) (c : Int)) (173 + 14 * c) 2) (179 + 14 * c) (r : Int) i = d i := fun i a b c => by rw [ud_n c, ud_n b, ud_n a]
      have e1 : ud (ud (ud d (151 + 3 * r) (c : Int)) (173 + 14 * c) 2) (179 + 14 * c) (r : Int) (151 + 3 * r) = (c : Int) := by rw [ud_n (by omega), ud_n (by omega), ud_s]
      have e2 : ud (ud (ud d (151 + 3 * r) (c : Int)) (173 + 14 * c) 2) (179 + 14 * c) (r : Int) (173 + 14 * c) = 2 := by rw [ud_n (by omega), ud_s]
      have e3 : ud (ud (ud d (151 + 3 * r) (c : Int)) (173 + 14 * c) 2) (179 + 14 * c) (r : Int) (179 + 14 * c) = (r : Int) := ud_s
      generalize ud (ud (ud d (151 + 3 * r) (c : Int)) (173 + 14 * c) 2) (179 + 14 * c) (r : Int) = e at hS hother e1 e2 e3 ⊢
      have hz : d (152 + 3 * r) = 0 ∧ d (153 + 3 * r) = 0 := by
        rcases gr r hr4 with q | ⟨c', q, -⟩
        · exact q.2
        · omega
      refine ⟨hb.sta hS, hb2.sta hb hS, fun r' hr' => ?_, fun c' hc' => ?_, fun k hk => ?_, fun k k2 hk hk2 q1 q2 => ?_⟩
      · by_cases hrr : r' = r
        · subst hrr
          refine Or.inr ⟨c, e1, ?_⟩
          unfold IR
          rw [hother 5 (by omega) (by omega) (by omega), hother 0 (by omega) (by omega) (by omega), e3, e2, hother (152 + 3 * r') (by omega) (by omega) (by omega), hother (153 + 3 * r') (by omega) (by omega) (by omega), hother (170 + 14 * c) (by omega) (by omega) (by omega), hz.1, hz.2, cmp_sta hS]
          exact ⟨f3, hr0, rfl, by omega, by omega, by omega, by omega, by omega, by omega, fun _ => h0, fun q => by omega⟩
        · rw [hother (151 + 3 * r') (by omega) (by omega) (by omega), hother (152 + 3 * r') (by omega) (by omega) (by omega), hother (153 + 3 * r') (by omega) (by omega) (by omega)]
          refine (gr r' hr').imp id fun ⟨c', a1, a2⟩ => ⟨c', a1, ?_⟩
          have hne : c' ≠ c := fun q => by subst q; have := a2.2.2.2.1; omega
          unfold IR at a2 ⊢
          rw [hother 5 (by omega) (by omega) (by omega), hother 0 (by omega) (by omega) (by omega), hother (179 + 14 * c') (by omega) (by omega) (by omega), hother (173 + 14 * c') (by omega) (by omega) (by omega), hother (152 + 3 * r') (by omega) (by omega) (by omega), hother (153 + 3 * r') (by omega) (by omega) (by omega), hother (170 + 14 * c') (by omega) (by omega) (by omega), cmp_sta hS]
          exact a2
      · rw [hother 5 (by omega) (by omega) (by omega)] at hc'
        by_cases hcc : c' = c
        · subst hcc
          rw [e2, e3]
          exact ⟨by omega, fun q => by omega, Or.inr ⟨r, hr4, rfl, e1⟩⟩
        · obtain ⟨a1, a2, a3⟩ := gc c' hc'
          rw [hother (173 + 14 * c') (by omega) (by omega) (by omega), hother (178 + 14 * c') (by omega) (by omega) (by omega), hother (179 + 14 * c') (by omega) (by omega) (by omega)]
          refine ⟨a1, a2, a3.imp id fun ⟨r', b1, b2, b3⟩ => ⟨r', b1, b2, ?_⟩⟩
          have : r' ≠ r := fun q => by subst q; omega
          rw [hother (151 + 3 * r') (by omega) (by omega) (by omega)]; exact b3
      · rw [hother (163 + 2 * k) (by omega) (by omega) (by omega), hother (164 + 2 * k) (by omega) (by omega) (by omega), hother 5 (by omega) (by omega) (by omega), hother 1 (by omega) (by omega) (by omega)]
        refine (gm k hk).imp id fun ⟨c', a1, a2, a3, a4, a5⟩ => ⟨c', a1, a2, a3, ?_, a5⟩
        have : c' ≠ c := fun q => by subst q; omega
        rw [hother (173 + 14 * c') (by omega) (by omega) (by omega)]; exact a4
      · rw [hother (163 + 2 * k) (by omega) (by omega) (by omega)] at q1 q2
        rw [hother (163 + 2 * k2) (by omega) (by omega) (by omega)] at q1
        exact gu k k2 hk hk2 q1 q2
  · exact h
theorem inv_takeMark {d : Nat → Int} {k : Nat} (h : Inv d) (hk3 : k < 3) (hk1 : (k : Int) < d 1) : Inv (s_takesMarker d k) := by
  unfold s_takesMarker
  split
  · next hq =>
    rcases s_foremost_rng d 3 with hf | ⟨f1, f2, f3, f4⟩
    · exact absurd hf hq.2
    · obtain ⟨c, hc⟩ : ∃ c : Nat, s_foremost d 3 = (c : Int) := ⟨(s_foremost d 3).toNat, by omega⟩
      rw [hc] at f1 f2 f3 f4 ⊢
      rw [Int.toNat_natCast] at f4 ⊢
      have hS : Sta d (ud (ud (ud d (163 + 2 * k) (c : Int)) (164 + 2 * k) (d 21)) (173 + 14 * c) 4) := ((Sta.rf.ud (kp_reg (by omega) (by omega))).ud (kp_reg (by omega) (by omega))).ud (kp_call (k := 4) (by omega) (by omega) (by omega))
      obtain ⟨hb, hb2, gr, gc, gm, gu⟩ := h
      have h21 := hb2.1
      have hother : ∀ i, i ≠ 163 + 2 * k → i ≠ 164 + 2 * k → i ≠ 173 + 14 * c → ud (ud (ud d (163 + 2 * k) (c : Int)) (164 + 2 * k) (d 21)) (173 + 14 * c) 4 i = d i := fun i a b c => by rw [ud_n c, ud_n b, ud_n a]
      have e1 : ud (ud (ud d (163 + 2 * k) (c : Int)) (164 + 2 * k) (d 21)) (173 + 14 * c) 4 (163 + 2 * k) = (c : Int) := by rw [ud_n (by omega), ud_n (by omega), ud_s]
      have e2 : ud (ud (ud d (163 + 2 * k) (c : Int)) (164 + 2 * k) (d 21)) (173 + 14 * c) 4 (164 + 2 * k) = d 21 := by rw [ud_n (by omega), ud_s]
      have e3 : ud (ud (ud d (163 + 2 * k) (c : Int)) (164 + 2 * k) (d 21)) (173 + 14 * c) 4 (173 + 14 * c) = 4 := ud_s
      generalize ud (ud (ud d (163 + 2 * k) (c : Int)) (164 + 2 * k) (d 21)) (173 + 14 * c) 4 = e at hS hother e1 e2 e3 ⊢
      have hmk : ∀ k', k' < 3 → ∀ c', d (163 + 2 * k') = (c' : Int) → c' ≠ c := by
        intro k' hk' c' q1 q2
        subst q2
        rcases gm k' hk' with q | ⟨c2, a1, a2, a3, a4, a5⟩
        · omega
        · have : c2 = c := by omega
          subst this; omega
      refine ⟨hb.sta hS, hb2.sta hb hS, fun r' hr' => ?_, fun c' hc' => ?_, fun k' hk' => ?_, fun k' k2 hk' hk2 q1 q2 => ?_⟩
      · rw [hother (151 + 3 * r') (by omega) (by omega) (by omega), hother (152 + 3 * r') (by omega) (by omega) (by omega), hother (153 + 3 * r') (by omega) (by omega) (by omega)]
        refine (gr r' hr').imp id fun ⟨c', a1, a2⟩ => ⟨c', a1, ?_⟩
        unfold IR at a2 ⊢
        rw [hother 5 (by omega) (by omega) (by omega), hother 0 (by omega) (by omega) (by omega), hother (179 + 14 * c') (by omega) (by omega) (by omega), hother (152 + 3 * r') (by omega) (by omega) (by omega), hother (153 + 3 * r') (by omega) (by omega) (by omega), hother (170 + 14 * c') (by omega) (by omega) (by omega), cmp_sta hS]
        by_cases hcc : c' = c
        · subst hcc
          rw [e3]
          exact ⟨a2.1, a2.2.1, a2.2.2.1, by omega, by omega, a2.2.2.2.2.2.1, a2.2.2.2.2.2.2.1, a2.2.2.2.2.2.2.2.1, a2.2.2.2.2.2.2.2.2.1, fun q => by omega, fun _ => a2.2.2.2.2.2.2.2.2.2.2 (by omega)⟩
        · rw [hother (173 + 14 * c') (by omega) (by omega) (by omega)]
          exact a2
      · rw [hother 5 (by omega) (by omega) (by omega)] at hc'
        obtain ⟨a1, a2, a3⟩ := gc c' hc'
        rw [hother (178 + 14 * c') (by omega) (by omega) (by omega), hother (179 + 14 * c') (by omega) (by omega) (by omega)]
        by_cases hcc : c' = c
        · subst hcc
          rw [e3]
          refine ⟨by omega, fun q => by omega, ?_⟩
          rcases a3 with q | ⟨r', b1, b2, b3⟩
          · omega
          · exact Or.inr ⟨r', b1, b2, by rw [hother (151 + 3 * r') (by omega) (by omega) (by omega)]; exact b3⟩
        · rw [hother (173 + 14 * c') (by omega) (by omega) (by omega)]
          exact ⟨a1, a2, a3.imp id fun ⟨r', b1, b2, b3⟩ => ⟨r', b1, b2, by rw [hother (151 + 3 * r') (by omega) (by omega) (by omega)]; exact b3⟩⟩
      · by_cases hkk : k' = k
        · subst hkk
          exact Or.inr ⟨c, e1, by rw [hother 5 (by omega) (by omega) (by omega)]; exact f3, by rw [hother 1 (by omega) (by omega) (by omega)]; exact hk1, e3, by rw [e2]; omega, by rw [e2]; omega⟩
        · rw [hother (163 + 2 * k') (by omega) (by omega) (by omega), hother (164 + 2 * k') (by omega) (by omega) (by omega), hother 5 (by omega) (by omega) (by omega), hother 1 (by omega) (by omega) (by omega)]
          refine (gm k' hk').imp id fun ⟨c', a1, a2, a3, a4, a5⟩ => ⟨c', a1, a2, a3, ?_, a5⟩
          have := hmk k' hk' c' a1
          rw [hother (173 + 14 * c') (by omega) (by omega) (by omega)]; exact a4
      · by_cases h1 : k' = k
        · by_cases h2 : k2 = k
          · rw [h1, h2]
          · subst h1
            rw [e1, hother (163 + 2 * k2) (by omega) (by omega) (by omega)] at q1
            exact absurd rfl (hmk k2 hk2 c q1.symm)
        · rw [hother (163 + 2 * k') (by omega) (by omega) (by omega)] at q1 q2
          by_cases h2 : k2 = k
          · subst h2
            rw [e1] at q1
            exact absurd rfl (hmk k' hk' c q1)
          · rw [hother (163 + 2 * k2) (by omega) (by omega) (by omega)] at q1
            exact gu k' k2 hk' hk2 q1 q2
  · exact h
theorem addGroup_n {d : Nat → Int} {x k i : Nat} {v : Int} (hx : x < 5) (hk : k < 9) (hi : i < 50 ∨ 95 ≤ i) : s_addGroup d x k v i = d i := ud_n (by omega)
theorem ovF_n {d : Nat → Int} {r i : Nat} (hr : r < 8) (hb : RB d) (hi : i < 50 ∨ 95 ≤ i) (h23 : i ≠ 23) : ∀ k : Nat, (k : Int) ≤ d (98 + 7 * r) → s_ovF d r k i = d i
  | 0, _ => rfl
  | k + 1, hk => by
    have h := sta_ovF hr hb k (by omega)
    have h2 := hb.sta h
    have hn := hb.2.2.2.2.2.2.1 r hr
    have e8 : (s_ovF d r k) (98 + 7 * r) = d (98 + 7 * r) := h _ (by unfold kpI; omega)
    have hx := h2.2.2.2.2.2.2.2.1 r k hr (by omega)
    show ud _ 23 _ i = _
    rw [ud_n h23, addGroup_n (by omega) (by omega) hi]
    exact ovF_n hr hb hi h23 k (by omega)
/-- looking for a way changes the call alone, the groups and the sum of overflows; the call talks then, or is over -/
theorem looks_spec {d : Nat → Int} {c many : Nat} {v : Int} (hb : RB d) (hok : s_lineOf d many v = -1 → ¬ s_routeFor d many v = -1) :
    Sta d (s_looks d c many v) ∧ (∀ i, (i < 50 ∨ 95 ≤ i) → i ≠ 23 → (i < 173 + 14 * c ∨ 178 + 14 * c < i) → s_looks d c many v i = d i) ∧
    ((s_looks d c many v (173 + 14 * c) = 5 ∧ s_looks d c many v (178 + 14 * c) = d (171 + 14 * c)) ∨ s_looks d c many v (173 + 14 * c) = 7 ∨ s_looks d c many v (173 + 14 * c) = 8) := by
  unfold s_looks
  by_cases hl : s_lineOf d many v = -1
  · rw [if_pos hl]
    have hrn := hok hl
    have hrg := s_rfF_rng d many v 8
    rw [show s_rfF d many v 8 = s_routeFor d many v from rfl] at hrg
    obtain ⟨r, hr⟩ : ∃ r : Nat, (s_routeFor d many v).toNat = r := ⟨_, rfl⟩
    have hr8 : r < 8 := by omega
    rw [hr]
    have hn := hb.2.2.2.2.2.2.1 r hr8
    have hcl := s_chF_le d r (d (98 + 7 * r)).toNat 0
    rw [show s_chF d r (d (98 + 7 * r)).toNat 0 = s_choiceOf d r from rfl] at hcl
    generalize s_choiceOf d r = k at hcl
    have hS := sta_ovF hr8 hb k (by omega)
    have hB := hb.sta hS
    have ho := fun i hi h23 => ovF_n (i := i) hr8 hb hi h23 k (by omega)
    have e8 : (s_ovF d r k) (98 + 7 * r) = d (98 + 7 * r) := hS _ (by unfold kpI; omega)
    have e71 : (s_ovF d r k) (171 + 14 * c) = d (171 + 14 * c) := hS _ (by unfold kpI; omega)
    generalize s_ovF d r k = e at hS hB ho e8 e71
    unfold s_way
    split
    · refine ⟨sta_isOver hS, fun i h1 h2 h3 => ?_, Or.inr (Or.inr isOver_4)⟩
      rw [isOver_n (by omega) (by omega) (by omega)]; exact ho i h1 h2
    · next hq =>
      have hx := hB.2.2.2.2.2.2.2.1 r k hr8 (by omega)
      refine ⟨sta_addGroup (sta_addGroup (sta_talks hS) (by omega) (by omega) (by omega)) (by omega) (by omega) (by omega), fun i h1 h2 h3 => ?_, Or.inl ⟨?_, ?_⟩⟩
      · rw [addGroup_n (by omega) (by omega) h1, addGroup_n (by omega) (by omega) h1, talks_n (by omega)]; exact ho i h1 h2
      · rw [addGroup_n (by omega) (by omega) (by omega), addGroup_n (by omega) (by omega) (by omega), talks_4]
      · rw [addGroup_n (by omega) (by omega) (by omega), addGroup_n (by omega) (by omega) (by omega), talks_9, e71]
  · rw [if_neg hl]
    split
    · exact ⟨sta_isOver Sta.rf, fun i h1 h2 h3 => isOver_n (by omega) (by omega) (by omega), Or.inr (Or.inl isOver_4)⟩
    · exact ⟨sta_talks Sta.rf, fun i h1 h2 h3 => talks_n (by omega), Or.inl ⟨talks_4, talks_9⟩⟩
/-- what freeing a call's register changes -/
theorem freeReg_spec {d : Nat → Int} {c r : Nat} (hr : d (179 + 14 * c) = (r : Int)) : s_freeReg d c = ud (ud (ud (ud d (151 + 3 * r) (-1)) (152 + 3 * r) 0) (153 + 3 * r) 0) (179 + 14 * c) (-1) := by
  unfold s_freeReg
  rw [if_neg (by omega), hr, Int.toNat_natCast]
theorem complete_ok {d : Nat → Int} {many : Nat} {v : Int} (h : s_isComplete d many v = true) : s_lineOf d many v = -1 → ¬ s_routeFor d many v = -1 := by
  intro h1 h2
  unfold s_isComplete at h
  rw [h1, h2] at h
  simp at h
theorem inv_marks {d : Nat → Int} {k : Nat} (h : Inv d) (hk3 : k < 3) : Inv (s_marks d k) := by
  unfold s_marks
  split
  · exact h
  · next hq =>
    have h' := h
    obtain ⟨hb, hb2, gr, gc, gm, gu⟩ := h
    rcases gm k hk3 with q | ⟨c, a1, a2, a3, a4, a5, a6⟩
    · exact absurd q.1 hq
    · split
      · next hp =>
        -- the marker goes on
        have hS : Sta d (ud d (164 + 2 * k) (d (164 + 2 * k) - 1)) := Sta.rf.ud (kp_reg (by omega) (by omega))
        have hother : ∀ i, i ≠ 164 + 2 * k → ud d (164 + 2 * k) (d (164 + 2 * k) - 1) i = d i := fun i q => ud_n q
        have e2 : ud d (164 + 2 * k) (d (164 + 2 * k) - 1) (164 + 2 * k) = d (164 + 2 * k) - 1 := ud_s
        generalize ud d (164 + 2 * k) (d (164 + 2 * k) - 1) = e at hS hother e2 ⊢
        refine ⟨hb.sta hS, hb2.sta hb hS, fun r hr => ?_, fun c' hc' => ?_, fun k' hk' => ?_, fun k' k2 hk' hk2 q1 q2 => ?_⟩
        · rw [hother _ (by omega), hother _ (by omega), hother _ (by omega)]
          refine (gr r hr).imp id fun ⟨c', b1, b2⟩ => ⟨c', b1, ?_⟩
          unfold IR at b2 ⊢
          rw [hother 5 (by omega), hother 0 (by omega), hother (179 + 14 * c') (by omega), hother (173 + 14 * c') (by omega), hother (152 + 3 * r) (by omega), hother (153 + 3 * r) (by omega), hother (170 + 14 * c') (by omega), cmp_sta hS]
          exact b2
        · rw [hother 5 (by omega)] at hc'
          rw [hother (173 + 14 * c') (by omega), hother (178 + 14 * c') (by omega), hother (179 + 14 * c') (by omega)]
          obtain ⟨b1, b2, b3⟩ := gc c' hc'
          exact ⟨b1, b2, b3.imp id fun ⟨r, d1, d2, d3⟩ => ⟨r, d1, d2, by rw [hother _ (by omega)]; exact d3⟩⟩
        · rw [hother (163 + 2 * k') (by omega), hother 5 (by omega), hother 1 (by omega)]
          by_cases hkk : k' = k
          · subst hkk
            exact Or.inr ⟨c, a1, a2, a3, by rw [hother _ (by omega)]; exact a4, by rw [e2]; omega, by rw [e2]; omega⟩
          · rw [hother (164 + 2 * k') (by omega)]
            exact (gm k' hk').imp id fun ⟨c', b1, b2, b3, b4, b5⟩ => ⟨c', b1, b2, b3, by rw [hother _ (by omega)]; exact b4, b5⟩
        · rw [hother _ (by omega)] at q1 q2
          rw [hother _ (by omega)] at q1
          exact gu k' k2 hk' hk2 q1 q2
      · next hp =>
        rw [a1, Int.toNat_natCast]
        rcases (gc c a2).2.2 with q | ⟨r, r1, r2, r3⟩
        · omega
        · rcases gr r r1 with q | ⟨c2, s1, s2⟩
          · omega
          · have : c2 = c := by omega
            subst this
            unfold s_found
            have eL : d (164 + 2 * k) - 1 = 0 := by omega
            have f1 : ud d (164 + 2 * k) (d (164 + 2 * k) - 1) (179 + 14 * c2) = (r : Int) := by rw [ud_n (by omega)]; exact r2
            have f2 : ud d (164 + 2 * k) (d (164 + 2 * k) - 1) (152 + 3 * r) = d (152 + 3 * r) := ud_n (by omega)
            rw [f1, Int.toNat_natCast, f2, eL]
            have f3 : ud (ud d (164 + 2 * k) 0) (163 + 2 * k) (-1) (179 + 14 * c2) = (r : Int) := by rw [ud_n (by omega), ud_n (by omega)]; exact r2
            have hfr := freeReg_spec f3
            have hS : Sta d (s_freeReg (ud (ud d (164 + 2 * k) 0) (163 + 2 * k) (-1)) c2) := sta_freeReg ((Sta.rf.ud (kp_reg (by omega) (by omega))).ud (kp_reg (by omega) (by omega))) (by rw [f3]; omega)
            have hother : ∀ i, i ≠ 164 + 2 * k → i ≠ 163 + 2 * k → i ≠ 151 + 3 * r → i ≠ 152 + 3 * r → i ≠ 153 + 3 * r → i ≠ 179 + 14 * c2 → s_freeReg (ud (ud d (164 + 2 * k) 0) (163 + 2 * k) (-1)) c2 i = d i := by
              intro i b1 b2 b3 b4 b5 b6
              rw [hfr, ud_n b6, ud_n b5, ud_n b4, ud_n b3, ud_n b2, ud_n b1]
            have v1 : s_freeReg (ud (ud d (164 + 2 * k) 0) (163 + 2 * k) (-1)) c2 (151 + 3 * r) = -1 := by rw [hfr, ud_n (by omega), ud_n (by omega), ud_n (by omega), ud_s]
            have v2 : s_freeReg (ud (ud d (164 + 2 * k) 0) (163 + 2 * k) (-1)) c2 (152 + 3 * r) = 0 := by rw [hfr, ud_n (by omega), ud_n (by omega), ud_s]
            have v3 : s_freeReg (ud (ud d (164 + 2 * k) 0) (163 + 2 * k) (-1)) c2 (153 + 3 * r) = 0 := by rw [hfr, ud_n (by omega), ud_s]
            have v4 : s_freeReg (ud (ud d (164 + 2 * k) 0) (163 + 2 * k) (-1)) c2 (179 + 14 * c2) = -1 := by rw [hfr, ud_s]
            have v5 : s_freeReg (ud (ud d (164 + 2 * k) 0) (163 + 2 * k) (-1)) c2 (163 + 2 * k) = -1 := by rw [hfr, ud_n (by omega), ud_n (by omega), ud_n (by omega), ud_n (by omega), ud_s]
            have v6 : s_freeReg (ud (ud d (164 + 2 * k) 0) (163 + 2 * k) (-1)) c2 (164 + 2 * k) = 0 := by rw [hfr, ud_n (by omega), ud_n (by omega), ud_n (by omega), ud_n (by omega), ud_n (by omega), ud_s]
            generalize s_freeReg (ud (ud d (164 + 2 * k) 0) (163 + 2 * k) (-1)) c2 = e at hS hother v1 v2 v3 v4 v5 v6 ⊢
            have hcm := s2.2.2.2.2.2.2.2.2.2.2 (by omega)
            unfold cmp at hcm
            have hok := complete_ok hcm
            have hlk := looks_spec (d := e) (c := c2) (many := (d (152 + 3 * r)).toNat) (v := s_dv e c2 (d (152 + 3 * r)).toNat) (hb.sta hS) (by rw [lineOf_sta hS, routeFor_sta hS, dv_sta hS]; exact hok)
            obtain ⟨l1, l2, l3⟩ := hlk
            have h171 := hb2.2.2.2.2.1 c2 a2
            have e171 : e (171 + 14 * c2) = d (171 + 14 * c2) := hS _ (by unfold kpI; omega)
            generalize s_looks e c2 (d (152 + 3 * r)).toNat (s_dv e c2 (d (152 + 3 * r)).toNat) = f at l1 l2 l3 ⊢
            refine h'.release (c0 := c2) (hS.tr l1) (fun r' hr' => ?_) (fun k' hk' => ?_) (fun c' hc' => ⟨?_, ?_, ?_⟩) ?_ (by omega) (by omega) (fun q => ?_)
            · by_cases hrr : r' = r
              · subst hrr
                exact Or.inl ⟨r3, by rw [l2 _ (by omega) (by omega) (by omega)]; exact v1, by rw [l2 _ (by omega) (by omega) (by omega)]; exact v2, by rw [l2 _ (by omega) (by omega) (by omega)]; exact v3⟩
              · refine Or.inr ⟨fun q => ?_, ?_, ?_, ?_⟩
                · rcases gr r' hr' with q1 | ⟨c3, t1, t2⟩
                  · omega
                  · have : c3 = c2 := by omega
                    subst this
                    have := t2.2.2.1
                    omega
                · rw [l2 _ (by omega) (by omega) (by omega)]; exact hother _ (by omega) (by omega) (by omega) (by omega) (by omega) (by omega)
                · rw [l2 _ (by omega) (by omega) (by omega)]; exact hother _ (by omega) (by omega) (by omega) (by omega) (by omega) (by omega)
                · rw [l2 _ (by omega) (by omega) (by omega)]; exact hother _ (by omega) (by omega) (by omega) (by omega) (by omega) (by omega)
            · by_cases hkk : k' = k
              · subst hkk
                exact Or.inl ⟨a1, by rw [l2 _ (by omega) (by omega) (by omega)]; exact v5, by rw [l2 _ (by omega) (by omega) (by omega)]; exact v6⟩
              · refine Or.inr ⟨fun q => hkk (gu k' k hk' hk3 (by omega) (by omega)), ?_, ?_⟩
                · rw [l2 _ (by omega) (by omega) (by omega)]; exact hother _ (by omega) (by omega) (by omega) (by omega) (by omega) (by omega)
                · rw [l2 _ (by omega) (by omega) (by omega)]; exact hother _ (by omega) (by omega) (by omega) (by omega) (by omega) (by omega)
            · rw [l2 _ (by omega) (by omega) (by omega)]; exact hother _ (by omega) (by omega) (by omega) (by omega) (by omega) (by omega)
            · rw [l2 _ (by omega) (by omega) (by omega)]; exact hother _ (by omega) (by omega) (by omega) (by omega) (by omega) (by omega)
            · rw [l2 _ (by omega) (by omega) (by omega)]; exact hother _ (by omega) (by omega) (by omega) (by omega) (by omega) (by omega)
            · rw [l2 _ (by omega) (by omega) (by omega)]; exact v4
            · rcases l3 with ⟨-, q1⟩ | q1 | q1
              · rw [q1, e171]; omega
              · omega
              · omega
theorem Inv.reg {d e : Nat → Int} {r c : Nat} (h : Inv d) (hr4 : r < 4) (hri : d (151 + 3 * r) = (c : Int)) (hs2 : d (173 + 14 * c) = 2) (hs : ∀ i, inI i → i ≠ 152 + 3 * r → i ≠ 153 + 3 * r → i ≠ 173 + 14 * c → e i = d i) (hIR : IR e r c) (h34 : e (173 + 14 * c) = 2 ∨ e (173 + 14 * c) = 3) : Inv e := by
  have hS : Sta d e := fun i hi => hs i (Or.inl hi) (by unfold kpI at hi; omega) (by unfold kpI at hi; omega) (by unfold kpI at hi; omega)
  obtain ⟨hb, hb2, gr, gc, gm, gu⟩ := h
  have k5 : e 5 = d 5 := hS 5 (by unfold kpI; omega)
  have k0 : e 0 = d 0 := hS 0 (by unfold kpI; omega)
  have k1 : e 1 = d 1 := hS 1 (by unfold kpI; omega)
  have er : ∀ r' : Nat, r' < 4 → e (151 + 3 * r') = d (151 + 3 * r') := fun r' h => hs _ (by unfold inI; omega) (by omega) (by omega) (by omega)
  refine ⟨hb.sta hS, hb2.sta hb hS, fun r' hr' => ?_, fun c' hc' => ?_, fun k hk => ?_, fun k k2 hk hk2 q1 q2 => ?_⟩
  · by_cases hrr : r' = r
    · subst hrr
      exact Or.inr ⟨c, by rw [er r' hr']; exact hri, hIR⟩
    · rw [er r' hr', hs (152 + 3 * r') (by unfold inI; omega) (by omega) (by omega) (by omega), hs (153 + 3 * r') (by unfold inI; omega) (by omega) (by omega) (by omega)]
      refine (gr r' hr').imp id fun ⟨c', a1, a2⟩ => ⟨c', a1, ?_⟩
      have hne : c' ≠ c := fun q => by
        subst q
        have t1 := a2.2.2.1
        rcases gr r hr4 with q | ⟨c2, u1, u2⟩
        · omega
        · have : c2 = c' := by omega
          subst this
          have t2 := u2.2.2.1
          omega
      unfold IR at a2 ⊢
      rw [k5, k0, hs (179 + 14 * c') (by unfold inI; omega) (by omega) (by omega) (by omega), hs (173 + 14 * c') (by unfold inI; omega) (by omega) (by omega) (by omega), hs (152 + 3 * r') (by unfold inI; omega) (by omega) (by omega) (by omega), hs (153 + 3 * r') (by unfold inI; omega) (by omega) (by omega) (by omega), hS (170 + 14 * c') (by unfold kpI; omega), cmp_sta hS]
      exact a2
  · rw [k5] at hc'
    obtain ⟨a1, a2, a3⟩ := gc c' hc'
    rw [hs (178 + 14 * c') (by unfold inI; omega) (by omega) (by omega) (by omega), hs (179 + 14 * c') (by unfold inI; omega) (by omega) (by omega) (by omega)]
    have a3' : (d (179 + 14 * c') = -1 ∧ ¬ (2 ≤ d (173 + 14 * c') ∧ d (173 + 14 * c') ≤ 4)) ∨ ∃ r : Nat, r < 4 ∧ d (179 + 14 * c') = (r : Int) ∧ e (151 + 3 * r) = (c' : Int) := a3.imp id fun ⟨r', b1, b2, b3⟩ => ⟨r', b1, b2, by rw [er r' b1]; exact b3⟩
    by_cases hcc : c' = c
    · subst hcc
      refine ⟨by omega, fun q => by omega, Or.inr ?_⟩
      rcases a3' with q | q
      · omega
      · exact q
    · rw [hs (173 + 14 * c') (by unfold inI; omega) (by omega) (by omega) (by omega)]
      exact ⟨a1, a2, a3'⟩
  · rw [hs (163 + 2 * k) (by unfold inI; omega) (by omega) (by omega) (by omega), hs (164 + 2 * k) (by unfold inI; omega) (by omega) (by omega) (by omega), k5, k1]
    refine (gm k hk).imp id fun ⟨c', a1, a2, a3, a4, a5⟩ => ⟨c', a1, a2, a3, ?_, a5⟩
    have : c' ≠ c := fun q => by subst q; omega
    rw [hs (173 + 14 * c') (by unfold inI; omega) (by omega) (by omega) (by omega)]; exact a4
  · rw [hs (163 + 2 * k) (by unfold inI; omega) (by omega) (by omega) (by omega)] at q1 q2
    rw [hs (163 + 2 * k2) (by unfold inI; omega) (by omega) (by omega) (by omega)] at q1
    exact gu k k2 hk hk2 q1 q2
theorem inv_dials {d : Nat → Int} {r : Nat} (h : Inv d) (hr4 : r < 4) : Inv (s_dials d r) := by
  unfold s_dials
  split
  · exact h
  · next hq =>
    split
    · next hs2 =>
      rcases h.2.2.1 r hr4 with q | ⟨c, hri, hir⟩
      · exact absurd q.1 hq
      · rw [hri, Int.toNat_natCast] at hs2 ⊢
        obtain ⟨i1, i2, i3, i4, i5, i6, i7, i8, i9, i10, i11⟩ := hir
        have h20 := h.2.1.1
        have hlo := h.1.2.2.2.2.2.2.2.2.2 c (by have := h.1.2.2.2.2.2.1; omega)
        -- the row behind the digit
        have hd1 : ∃ x : Int, 0 ≤ x ∧ x ≤ d (170 + 14 * c) ∧ (¬ x < d (170 + 14 * c) → True) ∧ s_dial1 d r c (152 + 3 * r) = x ∧ ∀ i, i ≠ 152 + 3 * r → s_dial1 d r c i = d i := by
          unfold s_dial1
          split
          · exact ⟨d (152 + 3 * r) + 1, by omega, by omega, fun _ => trivial, ud_s, fun i hi => ud_n hi⟩
          · exact ⟨d (152 + 3 * r), by omega, by omega, fun _ => trivial, rfl, fun i hi => rfl⟩
        obtain ⟨x, x1, x2, -, ex, eo⟩ := hd1
        generalize s_dial1 d r c = f at ex eo ⊢
        have hS : Sta d f := fun i hi => eo i (by unfold kpI at hi; omega)
        have f1 : f (170 + 14 * c) = d (170 + 14 * c) := eo _ (by omega)
        have f2 : f (153 + 3 * r) = d (153 + 3 * r) := eo _ (by omega)
        have f3 : f (173 + 14 * c) = 2 := (eo _ (by omega)).trans hs2
        have f4 : f (179 + 14 * c) = (r : Int) := (eo _ (by omega)).trans i3
        have f5 : f 5 = d 5 := eo _ (by omega)
        have f0 : f 0 = d 0 := eo _ (by omega)
        have f20 : f 20 = d 20 := eo _ (by omega)
        unfold s_dial2
        rw [ex, f1, f2, f20]
        split
        · next hcm =>
          refine h.reg hr4 hri hs2 (fun i hi a1 a2 a3 => ?_) ?_ (Or.inr waits_4)
          · have : i ≠ 25 ∧ i ≠ 181 + 14 * c := by unfold inI kpI at hi; omega
            rw [waits_n a3 this.1 this.2]; exact eo i a1
          · unfold IR
            rw [waits_4, waits_n (by omega) (by omega) (by omega), waits_n (by omega) (by omega) (by omega), waits_n (by omega) (by omega) (by omega), waits_n (i := 152 + 3 * r) (by omega) (by omega) (by omega), waits_n (i := 153 + 3 * r) (by omega) (by omega) (by omega), waits_n (i := 170 + 14 * c) (by omega) (by omega) (by omega), f5, f0, f4, ex, f2, f1, cmp_sta (sta_waits (d := f) Sta.rf)]
            exact ⟨i1, i2, rfl, by omega, by omega, x1, x2, i8, i9, fun q => by omega, fun _ => hcm⟩
        · next hcm =>
          have hcm : cmp f c x = false := by
            unfold cmp
            cases hz : s_isComplete f x.toNat (s_dv f c x.toNat)
            · rfl
            · exact absurd hz hcm
          split
          · refine h.reg hr4 hri hs2 (fun i hi a1 a2 a3 => eo i a1) ?_ (Or.inl f3)
            unfold IR
            rw [f5, f0, f4, f3, ex, f2, f1]
            exact ⟨i1, i2, rfl, by omega, by omega, x1, x2, i8, i9, fun _ => hcm, fun q => by omega⟩
          · split
            · refine h.reg hr4 hri hs2 (fun i hi a1 a2 a3 => by rw [ud_n a2]; exact eo i a1) ?_ (Or.inl (by rw [ud_n (by omega)]; exact f3))
              unfold IR
              rw [ud_n (i := 153 + 3 * r) (j := 5) (by omega), ud_n (i := 153 + 3 * r) (j := 0) (by omega), ud_n (j := 179 + 14 * c) (by omega), ud_n (j := 173 + 14 * c) (by omega), ud_n (j := 152 + 3 * r) (by omega), ud_s, ud_n (j := 170 + 14 * c) (by omega), f5, f0, f4, f3, ex, f1, cmp_sta (Sta.ud Sta.rf (kp_reg (by omega) (by omega)))]
              exact ⟨i1, i2, rfl, by omega, by omega, x1, x2, by omega, by omega, fun _ => hcm, fun q => by omega⟩
            · have g4 : ud f (153 + 3 * r) (d (153 + 3 * r) + 1) (179 + 14 * c) = (r : Int) := by rw [ud_n (by omega)]; exact f4
              have hfr := freeReg_spec g4
              have hother : ∀ i, i ≠ 151 + 3 * r → i ≠ 152 + 3 * r → i ≠ 153 + 3 * r → i ≠ 179 + 14 * c → i ≠ 173 + 14 * c → i ≠ 177 + 14 * c → i ≠ 178 + 14 * c → s_isOver (s_freeReg (ud f (153 + 3 * r) (d (153 + 3 * r) + 1)) c) c 9 i = d i := by
                intro i b1 b2 b3 b4 b5 b6 b7
                rw [isOver_n b5 b6 b7, hfr, ud_n b4, ud_n b3, ud_n b2, ud_n b1, ud_n b3]; exact eo i b2
              have v1 : s_isOver (s_freeReg (ud f (153 + 3 * r) (d (153 + 3 * r) + 1)) c) c 9 (151 + 3 * r) = -1 := by rw [isOver_n (by omega) (by omega) (by omega), hfr, ud_n (by omega), ud_n (by omega), ud_n (by omega), ud_s]
              have v2 : s_isOver (s_freeReg (ud f (153 + 3 * r) (d (153 + 3 * r) + 1)) c) c 9 (152 + 3 * r) = 0 := by rw [isOver_n (by omega) (by omega) (by omega), hfr, ud_n (by omega), ud_n (by omega), ud_s]
              have v3 : s_isOver (s_freeReg (ud f (153 + 3 * r) (d (153 + 3 * r) + 1)) c) c 9 (153 + 3 * r) = 0 := by rw [isOver_n (by omega) (by omega) (by omega), hfr, ud_n (by omega), ud_s]
              have v4 : s_isOver (s_freeReg (ud f (153 + 3 * r) (d (153 + 3 * r) + 1)) c) c 9 (179 + 14 * c) = -1 := by rw [isOver_n (by omega) (by omega) (by omega), hfr, ud_s]
              have v5 : s_isOver (s_freeReg (ud f (153 + 3 * r) (d (153 + 3 * r) + 1)) c) c 9 (173 + 14 * c) = 9 := isOver_4
              generalize s_isOver (s_freeReg (ud f (153 + 3 * r) (d (153 + 3 * r) + 1)) c) c 9 = e at hother v1 v2 v3 v4 v5 ⊢
              have gm := h.2.2.2.2.1
              have gr := h.2.2.1
              refine h.release (c0 := c) (fun i hi => hother i (by unfold kpI at hi; omega) (by unfold kpI at hi; omega) (by unfold kpI at hi; omega) (by unfold kpI at hi; omega) (by unfold kpI at hi; omega) (by unfold kpI at hi; omega) (by unfold kpI at hi; omega)) (fun r' hr' => ?_) (fun k' hk' => ?_) (fun c' hc' => ⟨hother _ (by omega) (by omega) (by omega) (by omega) (by omega) (by omega) (by omega), hother _ (by omega) (by omega) (by omega) (by omega) (by omega) (by omega) (by omega), hother _ (by omega) (by omega) (by omega) (by omega) (by omega) (by omega) (by omega)⟩) v4 (by omega) (by omega) (fun q => by omega)
              · by_cases hrr : r' = r
                · subst hrr
                  exact Or.inl ⟨hri, v1, v2, v3⟩
                · refine Or.inr ⟨fun q => ?_, hother _ (by omega) (by omega) (by omega) (by omega) (by omega) (by omega) (by omega), hother _ (by omega) (by omega) (by omega) (by omega) (by omega) (by omega) (by omega), hother _ (by omega) (by omega) (by omega) (by omega) (by omega) (by omega) (by omega)⟩
                  rcases gr r' hr' with q1 | ⟨c3, t1, t2⟩
                  · omega
                  · have : c3 = c := by omega
                    subst this
                    have := t2.2.2.1
                    omega
              · refine Or.inr ⟨fun q => ?_, hother _ (by omega) (by omega) (by omega) (by omega) (by omega) (by omega) (by omega), hother _ (by omega) (by omega) (by omega) (by omega) (by omega) (by omega) (by omega)⟩
                rcases gm k' hk' with q1 | ⟨c3, t1, t2, t3, t4, t5⟩
                · omega
                · have : c3 = c := by omega
                  subst this
                  omega
    · exact h
