/-! the route of a row of digits -/
theorem fst_spec (p : Nat → Bool) (n : Nat) : (fst p n = -1 ∧ ∀ j, j < n → p j = false) ∨ ∃ k, k < n ∧ fst p n = (k : Int) ∧ p k = true ∧ ∀ j, j < k → p j = false := by
  by_cases h : ∃ k, k < n ∧ p k = true
  · obtain ⟨k, ⟨h1, h2⟩, h3⟩ := pk_least (fun k => k < n ∧ p k = true) h
    have h4 : ∀ j, j < k → p j = false := fun j hj => by
      have := h3 j hj
      cases hp : p j
      · rfl
      · exact absurd ⟨by omega, hp⟩ this
    exact Or.inr ⟨k, h1, fst_hit h1 h4 h2, h2, h4⟩
  · have h4 : ∀ j, j < n → p j = false := fun j hj => by
      cases hp : p j
      · rfl
      · exact absurd ⟨j, hj, hp⟩ h
    exact Or.inl ⟨fst_none h4, h4⟩
theorem rf_low {d : Nat → Int} (hb2 : RB2 d) {many : Nat} {v : Int} : ∀ n, (∀ r : Nat, r < n → (r : Int) < d 4 → ¬ (d (95 + 7 * r) = (many : Int) ∧ d (96 + 7 * r) = v)) → s_rfF d many v n = -1 ∨ d (95 + 7 * (s_rfF d many v n).toNat) < (many : Int)
  | 0, _ => Or.inl rfl
  | n + 1, h => by
    rw [s_rfF_s]
    split
    · next q =>
      refine Or.inr ?_
      rw [Int.toNat_natCast]
      have hl := (hb2.2.2.1 n q.1).1
      rcases Int.lt_or_le (d (95 + 7 * n)) (many : Int) with q2 | q2
      · exact q2
      · have e1 : d (95 + 7 * n) = (many : Int) := by omega
        have q3 := q.2.2.1
        rw [e1, Int.toNat_natCast, Nat.sub_self, show pw 0 = 1 from rfl, Int.ediv_one] at q3
        exact absurd ⟨e1, q3.symm⟩ (h n (by omega) q.1)
    · exact rf_low hb2 n (fun r hr => h r (by omega))
theorem rf_hit {d : Nat → Int} (hb2 : RB2 d) {many k : Nat} {v : Int} (hk : (k : Int) < d 4) (h1 : d (95 + 7 * k) = (many : Int)) (h2 : d (96 + 7 * k) = v) (h : ∀ r : Nat, r < k → (r : Int) < d 4 → ¬ (d (95 + 7 * r) = (many : Int) ∧ d (96 + 7 * r) = v)) : ∀ n, k < n → s_rfF d many v n = (k : Int)
  | 0, hn => by omega
  | n + 1, hn => by
    rw [s_rfF_s]
    rcases Nat.lt_or_ge k n with q | q
    · rw [rf_hit hb2 hk h1 h2 h n q, Int.toNat_natCast, if_neg]
      intro c
      rcases c.2.2.2 with c1 | c1 <;> omega
    · have e1 : n = k := by omega
      subst e1
      rw [if_pos]
      refine ⟨hk, by omega, ?_, ?_⟩
      · rw [h1, h2, Int.toNat_natCast, Nat.sub_self, show pw 0 = 1 from rfl, Int.ediv_one]
      · rw [h1]; exact rf_low hb2 n h
theorem rf_cong {d : Nat → Int} (hb2 : RB2 d) {a b : Nat} {v u : Int} : ∀ n, (∀ r : Nat, r < n → (r : Int) < d 4 → ((d (95 + 7 * r) ≤ (a : Int) ∧ v / pw (a - (d (95 + 7 * r)).toNat) = d (96 + 7 * r)) ↔ (d (95 + 7 * r) ≤ (b : Int) ∧ u / pw (b - (d (95 + 7 * r)).toNat) = d (96 + 7 * r)))) → s_rfF d a v n = s_rfF d b u n
  | 0, _ => rfl
  | n + 1, h => by
    rw [s_rfF_s, s_rfF_s, rf_cong hb2 n (fun r hr => h r (by omega))]
    by_cases hq : (n : Int) < d 4
    · have h1 := h n (by omega) hq
      by_cases c : (d (95 + 7 * n) ≤ (a : Int) ∧ v / pw (a - (d (95 + 7 * n)).toNat) = d (96 + 7 * n))
      · have c2 := h1.mp c
        simp only [hq, c.1, c.2, c2.1, c2.2, true_and]
      · rw [if_neg (fun q => c ⟨q.2.1, q.2.2.1⟩), if_neg (fun q => c (h1.mpr ⟨q.2.1, q.2.2.1⟩))]
    · rw [if_neg (fun q => hq q.1), if_neg (fun q => hq q.1)]
theorem pw_div {v : Int} {a k : Nat} (h : k ≤ a) : v / pw (a + 1 - k) = v / 10 / pw (a - k) := by
  rw [show a + 1 - k = (a - k) + 1 by omega, pw_s, Int.mul_comm, Int.ediv_ediv_of_nonneg (by omega)]
theorem rel_prefixAt {g : Mem} {e : Nat} {d : Nat → Int} (h : RelX g e d) (hb2 : RB2 d) {many : Nat} {v : Int} (h1 : 0 ≤ v) (h2 : v < pw many) : x_prefixAt g e (pw many + v) = fst (fun r => decide ((r : Int) < d 4) && (decide (d (95 + 7 * r) = (many : Int)) && decide (d (96 + 7 * r) = v))) 8 := fst_cong (fun r hr => by
  rw [h.sc.2.2.2.2.1]
  by_cases hq : (r : Int) < d 4
  · obtain ⟨b1, b2, b3, b4, -⟩ := hb2.2.2.1 r hq
    rw [decide_eq_true hq, Bool.true_and, Bool.true_and, (h.2.2.2.2.1 r hq).1]
    unfold enc
    by_cases hm : d (95 + 7 * r) = (many : Int) ∧ d (96 + 7 * r) = v
    · rw [hm.1, hm.2, Int.toNat_natCast, decide_eq_true rfl, decide_eq_true rfl, decide_eq_true rfl]; rfl
    · have : ¬ pw (d (95 + 7 * r)).toNat + d (96 + 7 * r) = pw many + v := fun q => by
        obtain ⟨c1, c2⟩ := enc_inj b3 b4 h1 h2 q
        exact hm ⟨by omega, c2⟩
      rw [decide_eq_false this]
      symm
      by_cases hm1 : d (95 + 7 * r) = (many : Int)
      · rw [decide_eq_false (fun q => hm ⟨hm1, q⟩), Bool.and_false]
      · rw [decide_eq_false hm1, Bool.false_and]
  · rw [decide_eq_false hq]; rfl)
theorem rel_rf {g : Mem} {e : Nat} {d : Nat → Int} (h : RelX g e d) (hb : RB d) (hb2 : RB2 d) : ∀ (n many : Nat) (v : Int), many < n → 0 ≤ v → v < pw many → x_rfF g e n (pw many + v) = if s_rfF d many v 8 = -1 then none else some (s_rfF d many v 8).toNat
  | 0, many, v, hn, _, _ => by omega
  | n + 1, 0, v, hn, h1, h2 => by
    have e0 : pw 0 = 1 := rfl
    rw [if_pos]
    · unfold x_rfF
      rw [if_pos (by omega)]
    · have : ∀ n, s_rfF d 0 v n = -1 := by
        intro n
        induction n with
        | zero => rfl
        | succ n ih =>
          rw [s_rfF_s, if_neg, ih]
          intro q
          have := (hb2.2.2.1 n q.1).1
          omega
      exact this 8
  | n + 1, a + 1, v, hn, h1, h2 => by
    unfold x_rfF
    have hg := enc_ge (a := a) h1
    rw [if_neg (by omega), rel_prefixAt h hb2 h1 h2]
    rcases fst_spec (fun (r : Nat) => decide ((r : Int) < d 4) && (decide (d (95 + 7 * r) = ((a + 1 : Nat) : Int)) && decide (d (96 + 7 * r) = v))) 8 with ⟨q, hno⟩ | ⟨k, k1, k2, k3, k4⟩
    · rw [if_pos q, enc_div, rel_rf h hb hb2 n a (v / 10) (by omega) (by omega) (by rw [pw_s] at h2; omega)]
      have : s_rfF d (a + 1) v 8 = s_rfF d a (v / 10) 8 := rf_cong hb2 8 (fun r hr hq => by
        have hf := hno r hr
        obtain ⟨b1, b2, b3, b4, -⟩ := hb2.2.2.1 r hq
        constructor
        · rintro ⟨c1, c2⟩
          rcases Int.lt_or_le (d (95 + 7 * r)) ((a + 1 : Nat) : Int) with q3 | q3
          · refine ⟨by omega, ?_⟩
            rw [pw_div (by omega)] at c2
            exact c2
          · have e1 : d (95 + 7 * r) = ((a + 1 : Nat) : Int) := by omega
            rw [e1, Int.toNat_natCast, Nat.sub_self, show pw 0 = 1 from rfl, Int.ediv_one] at c2
            rw [decide_eq_true hq, decide_eq_true e1, decide_eq_true c2.symm] at hf
            cases hf
        · rintro ⟨c1, c2⟩
          refine ⟨by omega, ?_⟩
          rw [pw_div (by omega)]
          exact c2)
      rw [this]
    · have hlt : ∀ r : Nat, r < k → (r : Int) < d 4 → ¬ (d (95 + 7 * r) = ((a + 1 : Nat) : Int) ∧ d (96 + 7 * r) = v) := fun r hr hq c => by
        have := k4 r hr
        rw [decide_eq_true hq, decide_eq_true c.1, decide_eq_true c.2] at this
        cases this
      rw [Bool.and_eq_true, Bool.and_eq_true] at k3
      have hs := rf_hit hb2 (of_decide_eq_true k3.1) (of_decide_eq_true k3.2.1) (of_decide_eq_true k3.2.2) hlt 8 k1
      rw [k2, hs, if_neg (by omega), if_neg (by omega)]
theorem rel_routeFor {g : Mem} {e : Nat} {d : Nat → Int} (h : RelX g e d) (hb : RB d) (hb2 : RB2 d) {many : Nat} {v : Int} (hm : many ≤ 6) (h1 : 0 ≤ v) (h2 : v < pw many) : x_routeFor g e (pw many + v) = if s_routeFor d many v = -1 then none else some (s_routeFor d many v).toNat := rel_rf h hb hb2 8 many v (by omega) h1 h2
theorem rel_isComplete {g : Mem} {e : Nat} {d : Nat → Int} (h : RelX g e d) (hb : RB d) (hb2 : RB2 d) {many : Nat} {v : Int} (hm : many ≤ 6) (h1 : 0 ≤ v) (h2 : v < pw many) : x_isComplete g e (pw many + v) = s_isComplete d many v := by
  unfold x_isComplete s_isComplete
  rw [rel_lineWith h hb2 h1 h2, rel_routeFor h hb hb2 hm h1 h2, x_len_enc hm h1 h2]
  by_cases q : s_routeFor d many v = -1
  · rw [if_pos q, decide_eq_true q]; rfl
  · rw [if_neg q, decide_eq_false q]
    have hr := s_rfF_rng d many v 8
    unfold s_routeFor at q ⊢
    have hq : ((s_rfF d many v 8).toNat : Int) < d 4 := by omega
    show (_ || decide (g (e + 9 + 2 * (s_rfF d many v 8).toNat) 2 = (many : Int))) = _
    rw [(h.2.2.2.2.1 _ hq).2.1]
    rfl
