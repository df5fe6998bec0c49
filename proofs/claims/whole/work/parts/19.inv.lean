/-! what holds of the row d between two steps of a tick -/
def RB2 (d : Nat → Int) : Prop :=
  (1 ≤ d 0 ∧ 1 ≤ d 1 ∧ 1 ≤ d 19 ∧ d 19 ≤ 40 ∧ 1 ≤ d 20 ∧ d 20 ≤ 20 ∧ 1 ≤ d 21 ∧ d 21 ≤ 9) ∧
  (∀ i : Nat, (i : Int) < d 2 → 1 ≤ d (26 + 2 * i) ∧ d (26 + 2 * i) ≤ 6 ∧ 0 ≤ d (27 + 2 * i) ∧ d (27 + 2 * i) < pw (d (26 + 2 * i)).toNat) ∧
  (∀ r : Nat, (r : Int) < d 4 → 1 ≤ d (95 + 7 * r) ∧ d (95 + 7 * r) ≤ 5 ∧ 0 ≤ d (96 + 7 * r) ∧ d (96 + 7 * r) < pw (d (95 + 7 * r)).toNat ∧ d (97 + 7 * r) ≤ 6 ∧ 1 ≤ d (98 + 7 * r)) ∧
  (∀ r j : Nat, (r : Int) < d 4 → (j : Int) < d (98 + 7 * r) → d (99 + 7 * r + j) < d 3) ∧
  (∀ c : Nat, (c : Int) < d 5 → 0 ≤ d (169 + 14 * c) ∧ d (169 + 14 * c) < d 2 ∧ 1 ≤ d (170 + 14 * c) ∧ 1 ≤ d (171 + 14 * c) ∧ d (171 + 14 * c) ≤ 99 ∧ d (180 + 14 * c) < pw (d (170 + 14 * c)).toNat) ∧
  (∀ x : Nat, (x : Int) < d 3 → 1 ≤ d (50 + 9 * x) ∧ d (50 + 9 * x) ≤ 8 ∧ 0 ≤ d (51 + 9 * x))
theorem RB2.sta {d e : Nat → Int} (h : RB2 d) (hb : RB d) (hs : Sta d e) : RB2 e := by
  obtain ⟨h0, hi, hr, hj, hc, hx⟩ := h
  obtain ⟨-, -, b2, b3, b4, b5, br, -⟩ := hb
  have k : ∀ i, kpI i → e i = d i := hs
  refine ⟨by rw [k 0 (by unfold kpI; omega), k 1 (by unfold kpI; omega), k 19 (by unfold kpI; omega), k 20 (by unfold kpI; omega), k 21 (by unfold kpI; omega)]; exact h0, fun i h => ?_, fun r h => ?_, fun r j h h2 => ?_, fun c h => ?_, fun x h => ?_⟩
  · rw [k 2 (by unfold kpI; omega)] at h
    rw [k (26 + 2 * i) (by unfold kpI; omega), k (27 + 2 * i) (by unfold kpI; omega)]; exact hi i h
  · rw [k 4 (by unfold kpI; omega)] at h
    rw [k (95 + 7 * r) (by unfold kpI; omega), k (96 + 7 * r) (by unfold kpI; omega), k (97 + 7 * r) (by unfold kpI; omega), k (98 + 7 * r) (by unfold kpI; omega)]; exact hr r h
  · rw [k 4 (by unfold kpI; omega)] at h
    rw [k (98 + 7 * r) (by unfold kpI; omega)] at h2
    have := br r (by omega)
    rw [k (99 + 7 * r + j) (by unfold kpI; omega), k 3 (by unfold kpI; omega)]; exact hj r j h h2
  · rw [k 5 (by unfold kpI; omega)] at h
    rw [k (169 + 14 * c) (by unfold kpI; omega), k (170 + 14 * c) (by unfold kpI; omega), k (171 + 14 * c) (by unfold kpI; omega), k (180 + 14 * c) (by unfold kpI; omega), k 2 (by unfold kpI; omega)]; exact hc c h
  · rw [k 3 (by unfold kpI; omega)] at h
    rw [k (50 + 9 * x) (by unfold kpI; omega), k (51 + 9 * x) (by unfold kpI; omega)]; exact hx x h
def cmp (d : Nat → Int) (c : Nat) (many : Int) : Bool := s_isComplete d many.toNat (s_dv d c many.toNat)
theorem cmp_sta {d e : Nat → Int} (h : Sta d e) (c : Nat) (many : Int) : cmp e c many = cmp d c many := by
  unfold cmp
  rw [isComplete_sta h, dv_sta h]
/-- a register r that serves the call c -/
def IR (d : Nat → Int) (r c : Nat) : Prop :=
  (c : Int) < d 5 ∧ (r : Int) < d 0 ∧ d (179 + 14 * c) = (r : Int) ∧ 2 ≤ d (173 + 14 * c) ∧ d (173 + 14 * c) ≤ 4 ∧ 0 ≤ d (152 + 3 * r) ∧ d (152 + 3 * r) ≤ d (170 + 14 * c) ∧ 0 ≤ d (153 + 3 * r) ∧ d (153 + 3 * r) < 20 ∧
  (d (173 + 14 * c) = 2 → cmp d c (d (152 + 3 * r)) = false) ∧ (3 ≤ d (173 + 14 * c) → cmp d c (d (152 + 3 * r)) = true)
def Inv (d : Nat → Int) : Prop :=
  RB d ∧ RB2 d ∧
  (∀ r : Nat, r < 4 → (d (151 + 3 * r) = -1 ∧ d (152 + 3 * r) = 0 ∧ d (153 + 3 * r) = 0) ∨ ∃ c : Nat, d (151 + 3 * r) = (c : Int) ∧ IR d r c) ∧
  (∀ c : Nat, (c : Int) < d 5 → (0 ≤ d (173 + 14 * c) ∧ d (173 + 14 * c) ≤ 11) ∧ (d (173 + 14 * c) = 5 → 1 ≤ d (178 + 14 * c)) ∧
    ((d (179 + 14 * c) = -1 ∧ ¬ (2 ≤ d (173 + 14 * c) ∧ d (173 + 14 * c) ≤ 4)) ∨ ∃ r : Nat, r < 4 ∧ d (179 + 14 * c) = (r : Int) ∧ d (151 + 3 * r) = (c : Int))) ∧
  (∀ k : Nat, k < 3 → (d (163 + 2 * k) = -1 ∧ d (164 + 2 * k) = 0) ∨ ∃ c : Nat, d (163 + 2 * k) = (c : Int) ∧ (c : Int) < d 5 ∧ (k : Int) < d 1 ∧ d (173 + 14 * c) = 4 ∧ 1 ≤ d (164 + 2 * k) ∧ d (164 + 2 * k) ≤ 9) ∧
  (∀ k k2 : Nat, k < 3 → k2 < 3 → d (163 + 2 * k) = d (163 + 2 * k2) → ¬ d (163 + 2 * k) = -1 → k = k2)
/-- the numbers that Inv speaks of -/
def inI (i : Nat) : Prop := kpI i ∨ (151 ≤ i ∧ i < 169) ∨ (169 ≤ i ∧ ((i - 169) % 14 = 4 ∨ (i - 169) % 14 = 9 ∨ (i - 169) % 14 = 10))
theorem Inv.cong {d e : Nat → Int} (h : Inv d) (hs : ∀ i, inI i → e i = d i) : Inv e := by
  obtain ⟨hb, hb2, hr, hc, hm, hu⟩ := h
  have hS : Sta d e := fun i hi => hs i (Or.inl hi)
  have k5 : e 5 = d 5 := hs 5 (by unfold inI kpI; omega)
  have k0 : e 0 = d 0 := hs 0 (by unfold inI kpI; omega)
  have k1 : e 1 = d 1 := hs 1 (by unfold inI kpI; omega)
  have c0 : ∀ c : Nat, e (173 + 14 * c) = d (173 + 14 * c) ∧ e (178 + 14 * c) = d (178 + 14 * c) ∧ e (179 + 14 * c) = d (179 + 14 * c) ∧ e (170 + 14 * c) = d (170 + 14 * c) := fun c => ⟨hs _ (by unfold inI; omega), hs _ (by unfold inI; omega), hs _ (by unfold inI; omega), hs _ (by unfold inI kpI; omega)⟩
  have r0 : ∀ r : Nat, r < 4 → e (151 + 3 * r) = d (151 + 3 * r) ∧ e (152 + 3 * r) = d (152 + 3 * r) ∧ e (153 + 3 * r) = d (153 + 3 * r) := fun r h => ⟨hs _ (by unfold inI; omega), hs _ (by unfold inI; omega), hs _ (by unfold inI; omega)⟩
  have m0 : ∀ k : Nat, k < 3 → e (163 + 2 * k) = d (163 + 2 * k) ∧ e (164 + 2 * k) = d (164 + 2 * k) := fun k h => ⟨hs _ (by unfold inI; omega), hs _ (by unfold inI; omega)⟩
  refine ⟨hb.sta hS, hb2.sta hb hS, fun r hr4 => ?_, fun c hc5 => ?_, fun k hk => ?_, fun k k2 hk hk2 h1 h2 => ?_⟩
  · obtain ⟨e1, e2, e3⟩ := r0 r hr4
    rcases hr r hr4 with h | ⟨c, h1, h2⟩
    · exact Or.inl ⟨by rw [e1]; exact h.1, by rw [e2]; exact h.2.1, by rw [e3]; exact h.2.2⟩
    · obtain ⟨c1, c2, c3, c4⟩ := c0 c
      refine Or.inr ⟨c, by rw [e1]; exact h1, ?_⟩
      unfold IR
      rw [k5, k0, c1, c3, c4, e2, e3, cmp_sta hS]
      exact h2
  · obtain ⟨c1, c2, c3, c4⟩ := c0 c
    rw [k5] at hc5
    obtain ⟨h1, h2, h3⟩ := hc c hc5
    rw [c1, c2, c3]
    refine ⟨h1, h2, h3.imp id fun ⟨r, a1, a2, a3⟩ => ⟨r, a1, a2, by rw [(r0 r a1).1]; exact a3⟩⟩
  · obtain ⟨e1, e2⟩ := m0 k hk
    rw [e1, e2, k5, k1]
    exact (hm k hk).imp id fun ⟨c, a⟩ => ⟨c, by rw [(c0 c).1]; exact a⟩
  · rw [(m0 k hk).1, (m0 k2 hk2).1] at h1
    rw [(m0 k hk).1] at h2
    exact hu k k2 hk hk2 h1 h2
/-- a call leaves register and marker, if it had them -/
theorem Inv.release {d e : Nat → Int} {c0 : Nat} (h : Inv d) (hs : Sta d e)
    (hr : ∀ r : Nat, r < 4 → (d (151 + 3 * r) = (c0 : Int) ∧ e (151 + 3 * r) = -1 ∧ e (152 + 3 * r) = 0 ∧ e (153 + 3 * r) = 0) ∨ (d (151 + 3 * r) ≠ (c0 : Int) ∧ e (151 + 3 * r) = d (151 + 3 * r) ∧ e (152 + 3 * r) = d (152 + 3 * r) ∧ e (153 + 3 * r) = d (153 + 3 * r)))
    (hm : ∀ k : Nat, k < 3 → (d (163 + 2 * k) = (c0 : Int) ∧ e (163 + 2 * k) = -1 ∧ e (164 + 2 * k) = 0) ∨ (d (163 + 2 * k) ≠ (c0 : Int) ∧ e (163 + 2 * k) = d (163 + 2 * k) ∧ e (164 + 2 * k) = d (164 + 2 * k)))
    (hc : ∀ c : Nat, c ≠ c0 → e (173 + 14 * c) = d (173 + 14 * c) ∧ e (178 + 14 * c) = d (178 + 14 * c) ∧ e (179 + 14 * c) = d (179 + 14 * c))
    (h1 : e (179 + 14 * c0) = -1) (h2 : ¬ (2 ≤ e (173 + 14 * c0) ∧ e (173 + 14 * c0) ≤ 4)) (h3 : 0 ≤ e (173 + 14 * c0) ∧ e (173 + 14 * c0) ≤ 11) (h4 : e (173 + 14 * c0) = 5 → 1 ≤ e (178 + 14 * c0)) : Inv e := by
  obtain ⟨hb, hb2, gr, gc, gm, gu⟩ := h
  have k5 : e 5 = d 5 := hs 5 (by unfold kpI; omega)
  have k0 : e 0 = d 0 := hs 0 (by unfold kpI; omega)
  have k1 : e 1 = d 1 := hs 1 (by unfold kpI; omega)
  refine ⟨hb.sta hs, hb2.sta hb hs, fun r hr4 => ?_, fun c hc5 => ?_, fun k hk => ?_, fun k k2 hk hk2 q1 q2 => ?_⟩
  · rcases hr r hr4 with ⟨-, h⟩ | ⟨hn, e1, e2, e3⟩
    · exact Or.inl h
    · rcases gr r hr4 with h | ⟨c, a1, a2⟩
      · exact Or.inl ⟨by rw [e1]; exact h.1, by rw [e2]; exact h.2.1, by rw [e3]; exact h.2.2⟩
      · have hne : c ≠ c0 := fun q => hn (by rw [a1, q])
        obtain ⟨c1, c2, c3⟩ := hc c hne
        refine Or.inr ⟨c, by rw [e1]; exact a1, ?_⟩
        unfold IR
        rw [k5, k0, c1, c3, hs (170 + 14 * c) (by unfold kpI; omega), e2, e3, cmp_sta hs]
        exact a2
  · by_cases hcc : c = c0
    · subst hcc
      exact ⟨h3, h4, Or.inl ⟨h1, h2⟩⟩
    · obtain ⟨c1, c2, c3⟩ := hc c hcc
      rw [k5] at hc5
      obtain ⟨a1, a2, a3⟩ := gc c hc5
      rw [c1, c2, c3]
      refine ⟨a1, a2, a3.imp id fun ⟨r, b1, b2, b3⟩ => ⟨r, b1, b2, ?_⟩⟩
      rcases hr r b1 with ⟨q, -⟩ | ⟨-, q, -⟩
      · exact absurd (Int.ofNat_inj.mp (b3.symm.trans q)) hcc
      · rw [q]; exact b3
  · rcases hm k hk with ⟨-, h⟩ | ⟨hn, e1, e2⟩
    · exact Or.inl h
    · rw [e1, e2, k5, k1]
      refine (gm k hk).imp id fun ⟨c, a1, a2, a3, a4, a5⟩ => ⟨c, a1, a2, a3, ?_, a5⟩
      rw [(hc c (fun q => hn (by rw [a1, q]))).1]; exact a4
  · rcases hm k hk with ⟨-, h, -⟩ | ⟨-, e1, -⟩
    · exact absurd h q2
    · rcases hm k2 hk2 with ⟨-, h, -⟩ | ⟨-, e2, -⟩
      · exact absurd (q1.trans h) q2
      · rw [e1] at q1 q2
        rw [e2] at q1
        exact gu k k2 hk hk2 q1 q2
