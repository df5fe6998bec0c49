theorem pinv_line {d : Nat → Int} {c n : Nat} {v : Int} (hc : d 2 = (c : Int)) (hc12 : c < 12) (hn : 1 ≤ n ∧ n ≤ 6) (hv : 0 ≤ v ∧ v < pw n) (h : PInv d) : PInv (a_line d n v) := by
  have hne : ∀ j, (j ≠ 2 ∧ j ≠ 26 + 2 * c ∧ j ≠ 27 + 2 * c) → a_line d n v j = d j := fun j hj => by unfold a_line; rw [hc, Int.toNat_natCast, ud_n hj.1, ud_n hj.2.2, ud_n hj.2.1]
  have e2 : a_line d n v 2 = (c : Int) + 1 := by unfold a_line; rw [ud_s, hc]
  have eN : a_line d n v (26 + 2 * c) = (n : Int) := by unfold a_line; rw [hc, Int.toNat_natCast, ud_n (by omega), ud_n (by omega), ud_s]
  have eV : a_line d n v (27 + 2 * c) = v := by unfold a_line; rw [hc, Int.toNat_natCast, ud_n (by omega), ud_s]
  obtain ⟨⟨b0, b1, b2, b3, b4, b5, b6, b7, b8, b9⟩, ⟨c0, c1, c2, c3, c4, c5⟩, f1, f2, f3, f4, f5, f6, f7⟩ := h
  refine ⟨⟨?_, ?_, ?_, ?_, ?_, ?_, fun r hr8 => ?_, fun r j hr8 hj => ?_, fun x hx => ?_, fun c2 hc4 => ?_⟩, ⟨?_, fun i hi => ?_, fun r hr4 => ?_, fun r j hr4 hj => ?_, fun c2 hc5 => ?_, fun x hx => ?_⟩, fun r hr4 => ?_, fun k hk => ?_, fun c2 hc5 => ?_, fun x hx => ?_, ?_, fun x hx => ?_, ?_⟩
  · rw [hne 0 (by omega)]
    exact b0
  · rw [hne 1 (by omega)]
    exact b1
  · rw [e2]
    omega
  · rw [hne 3 (by omega)]
    exact b3
  · rw [hne 4 (by omega)]
    exact b4
  · rw [hne 5 (by omega)]
    exact b5
  · rw [hne _ (by omega), hne _ (by omega)]
    exact b6 r hr8
  · rw [hne _ (by omega)] at hj
    have := b6 r hr8
    rw [hne _ (by omega)]
    exact b7 r j hr8 hj
  · rw [hne _ (by omega)]
    exact b8 x hx
  · rw [hne _ (by omega), hne _ (by omega)]
    exact b9 c2 hc4
  · rw [hne 0 (by omega), hne 1 (by omega), hne 19 (by omega), hne 20 (by omega), hne 21 (by omega)]
    exact c0
  · rw [e2] at hi
    by_cases q : i = c
    · subst q
      rw [eN, eV, Int.toNat_natCast]
      exact ⟨by omega, by omega, hv.1, hv.2⟩
    · rw [hne _ (by omega), hne _ (by omega)]
      exact c1 i (by omega)
  · rw [hne 4 (by omega)] at hr4
    rw [hne _ (by omega), hne _ (by omega), hne _ (by omega), hne _ (by omega)]
    exact c2 r hr4
  · rw [hne 4 (by omega)] at hr4
    rw [hne _ (by omega)] at hj
    have := b6 r (by omega)
    rw [hne _ (by omega), hne 3 (by omega)]
    exact c3 r j hr4 hj
  · rw [hne 5 (by omega)] at hc5
    have h9 := c4 c2 hc5
    rw [hc] at h9
    rw [hne (169 + 14 * c2) (by omega), hne (170 + 14 * c2) (by omega), hne (171 + 14 * c2) (by omega), hne (180 + 14 * c2) (by omega), e2]
    exact ⟨h9.1, by omega, h9.2.2⟩
  · rw [hne 3 (by omega)] at hx
    rw [hne _ (by omega), hne _ (by omega)]
    exact c5 x hx
  · rw [hne _ (by omega), hne _ (by omega), hne _ (by omega)]
    exact f1 r hr4
  · rw [hne _ (by omega), hne _ (by omega)]
    exact f2 k hk
  · rw [hne 5 (by omega)] at hc5
    rw [hne _ (by omega), hne _ (by omega), hne _ (by omega), hne _ (by omega), hne _ (by omega)]
    exact f3 c2 hc5
  · rw [hne _ (by omega), hne _ (by omega), hne _ (by omega), hne _ (by omega)]
    exact f4 x hx
  · rw [hne 23 (by omega)]
    exact f5
  · rw [hne 3 (by omega)] at hx
    rw [hne _ (by omega), hne _ (by omega)]
    exact f6 x hx
  · rw [hne 6 (by omega)]
    exact f7

theorem rel_line2 {g : Mem} {e : Nat} {d : Nat → Int} {c n : Nat} {v : Int} (hc : d 2 = (c : Int)) (hc12 : c < 12) (hn : 1 ≤ n ∧ n ≤ 6) (hv : 0 ≤ v ∧ v < pw n) (h : RelX g e d) (hP : PInv d) : RelX (up2 (up2 g (e + 1) c (enc n v)) e 2 ((c : Int) + 1)) e (a_line d n v) := by
  have hne : ∀ j, (j ≠ 2 ∧ j ≠ 26 + 2 * c ∧ j ≠ 27 + 2 * c) → a_line d n v j = d j := fun j hj => by unfold a_line; rw [hc, Int.toNat_natCast, ud_n hj.1, ud_n hj.2.2, ud_n hj.2.1]
  have e2 : a_line d n v 2 = (c : Int) + 1 := by unfold a_line; rw [ud_s, hc]
  have eN : a_line d n v (26 + 2 * c) = (n : Int) := by unfold a_line; rw [hc, Int.toNat_natCast, ud_n (by omega), ud_n (by omega), ud_s]
  have eV : a_line d n v (27 + 2 * c) = v := by unfold a_line; rw [hc, Int.toNat_natCast, ud_n (by omega), ud_s]
  have hg : ∀ a, (a ≠ e ∧ a ≠ e + 1) → (up2 (up2 g (e + 1) c (enc n v)) e 2 ((c : Int) + 1)) a = g a := fun a ha => by repeat (first | rw [up2_row (by omega)])
  have hgi : ∀ a, e + 3 ≤ a → a < e + 75 → (up2 (up2 g (e + 1) c (enc n v)) e 2 ((c : Int) + 1)) a 0 = g a 0 := fun a h1 h2 => by repeat (first | rw [up2_a (by omega)] | rw [up2_k (by decide)])
  have hge : ∀ j, j ≠ 2 → (up2 (up2 g (e + 1) c (enc n v)) e 2 ((c : Int) + 1)) e j = g e j := fun j hj => by rw [up2_k hj]; repeat (first | rw [up2_a (by omega)])
  obtain ⟨⟨b0, b1, b2, b3, b4, b5, b6, b7, b8, b9⟩, c0, f1, f2, f3, f4, f5, f6, f7⟩ := hP
  obtain ⟨⟨x1, x2, x3, x4, x5⟩, ⟨s0, s1, s2, s3, s4, s5, s6, s7, s8, s9, s10, s11⟩, hl, hgr, hrt, hrg, hmk, hcl⟩ := h
  refine ⟨⟨fun i hi => ?_, fun i hi => ?_, fun i hi => ?_, fun i hi => ?_, fun i hi => ?_⟩, ⟨?_, ?_, ?_, ?_, ?_, ?_, ?_, ?_, ?_, ?_, ?_, ?_⟩, fun i hi => ?_, fun x hx => ?_, fun r hr => ?_, fun r hr => ?_, fun k hk => ?_, fun c2 hc2 => ?_⟩
  · rw [hgi _ (by omega) (by omega)]
    exact x1 i hi
  · rw [hgi _ (by omega) (by omega)]
    exact x2 i hi
  · rw [hgi _ (by omega) (by omega)]
    exact x3 i hi
  · rw [hgi _ (by omega) (by omega)]
    exact x4 i hi
  · rw [hgi _ (by omega) (by omega)]
    exact x5 i hi
  · rw [hge _ (by omega), hne _ (by omega)]
    exact s0
  · rw [hge _ (by omega), hne _ (by omega)]
    exact s1
  · rw [e2]
    exact up2_s
  · rw [hge _ (by omega), hne _ (by omega)]
    exact s3
  · rw [hge _ (by omega), hne _ (by omega)]
    exact s4
  · rw [hge _ (by omega), hne _ (by omega)]
    exact s5
  · rw [hge _ (by omega), hne _ (by omega)]
    exact s6
  · rw [hge _ (by omega), hne _ (by omega)]
    exact s7
  · rw [hge _ (by omega), hne _ (by omega)]
    exact s8
  · rw [hge _ (by omega), hne _ (by omega)]
    exact s9
  · rw [hge _ (by omega), hne _ (by omega)]
    exact s10
  · rw [hge _ (by omega), hne _ (by omega)]
    exact s11
  · rw [e2] at hi
    rw [show (up2 (up2 g (e + 1) c (enc n v)) e 2 ((c : Int) + 1)) (e + 1) i = up2 g (e + 1) c (enc n v) (e + 1) i from up2_a (by omega)]
    by_cases q : i = c
    · subst q
      rw [eN, eV]
      exact up2_s
    · rw [up2_k q, hne _ (by omega), hne _ (by omega)]
      exact hl i (by omega)
  · rw [hne 3 (by omega)] at hx
    rw [hg _ (by omega)]
    exact (hgr x hx).cong (fun i h1 h2 => hne i (by omega))
  · rw [hne 4 (by omega)] at hr
    have := b6 r (by omega)
    rw [hg _ (by omega), hg _ (by omega)]
    obtain ⟨a1, a2, a3, a4⟩ := hrt r hr
    unfold RtR
    rw [hne (95 + 7 * r) (by omega), hne (96 + 7 * r) (by omega), hne (97 + 7 * r) (by omega), hne (98 + 7 * r) (by omega)]
    exact ⟨a1, a2, a3, fun j hj => by rw [hne _ (by omega)]; exact a4 j hj⟩
  · rw [hg _ (by omega)]
    obtain ⟨a1, a2, a3⟩ := hrg r hr
    unfold RgR
    rw [hne (151 + 3 * r) (by omega), hne (153 + 3 * r) (by omega), if_pos (f1 r hr).1]
    rw [if_pos (f1 r hr).1] at a3
    exact ⟨a1, a2, a3⟩
  · rw [hg _ (by omega)]
    exact (hmk k hk).cong (fun i h1 h2 => hne i (by omega))
  · rw [hg _ (by omega)]
    exact (hcl c2 hc2).cong (hne 5 (by omega)) (fun i h1 h2 _ => hne i (by omega))

theorem pinv_group {d : Nat → Int} {c : Nat} {hh t k b : Int} (hc : d 3 = (c : Int)) (hc5 : c < 5) (hn : VN hh t) (hk : 1 ≤ k ∧ k ≤ 8) (hb : 0 ≤ b) (h : PInv d) : PInv (a_group d hh t k b) := by
  have hne : ∀ j, (j ≠ 3 ∧ j ≠ 50 + 9 * c ∧ j ≠ 51 + 9 * c ∧ j ≠ 57 + 9 * c ∧ j ≠ 58 + 9 * c) → a_group d hh t k b j = d j := fun j hj => by unfold a_group; rw [hc, Int.toNat_natCast, ud_n hj.1, ud_n (by omega), ud_n (by omega), ud_n (by omega), ud_n (by omega)]
  have e3 : a_group d hh t k b 3 = (c : Int) + 1 := by unfold a_group; rw [ud_s, hc]
  have eK : a_group d hh t k b (50 + 9 * c) = k := by unfold a_group; rw [hc, Int.toNat_natCast, ud_n (by omega), ud_n (by omega), ud_n (by omega), ud_n (by omega), ud_s]
  have eB : a_group d hh t k b (51 + 9 * c) = b := by unfold a_group; rw [hc, Int.toNat_natCast, ud_n (by omega), ud_n (by omega), ud_n (by omega), ud_s]
  have eH : a_group d hh t k b (57 + 9 * c) = hh := by unfold a_group; rw [hc, Int.toNat_natCast, ud_n (by omega), ud_n (by omega), ud_s]
  have eT : a_group d hh t k b (58 + 9 * c) = t := by unfold a_group; rw [hc, Int.toNat_natCast, ud_n (by omega), ud_s]
  obtain ⟨⟨b0, b1, b2, b3, b4, b5, b6, b7, b8, b9⟩, ⟨c0, c1, c2, c3, c4, c5⟩, f1, f2, f3, f4, f5, f6, f7⟩ := h
  refine ⟨⟨?_, ?_, ?_, ?_, ?_, ?_, fun r hr8 => ?_, fun r j hr8 hj => ?_, fun x hx => ?_, fun c2 hc4 => ?_⟩, ⟨?_, fun i hi => ?_, fun r hr4 => ?_, fun r j hr4 hj => ?_, fun c2 hc5 => ?_, fun x hx => ?_⟩, fun r hr4 => ?_, fun k hk => ?_, fun c2 hc5 => ?_, fun x hx => ?_, ?_, fun x hx => ?_, ?_⟩
  · rw [hne 0 (by omega)]
    exact b0
  · rw [hne 1 (by omega)]
    exact b1
  · rw [hne 2 (by omega)]
    exact b2
  · rw [e3]
    omega
  · rw [hne 4 (by omega)]
    exact b4
  · rw [hne 5 (by omega)]
    exact b5
  · rw [hne _ (by omega), hne _ (by omega)]
    exact b6 r hr8
  · rw [hne _ (by omega)] at hj
    have := b6 r hr8
    rw [hne _ (by omega)]
    exact b7 r j hr8 hj
  · by_cases q : x = c
    · subst q
      rw [eK]
      omega
    · rw [hne _ (by omega)]
      exact b8 x hx
  · rw [hne _ (by omega), hne _ (by omega)]
    exact b9 c2 hc4
  · rw [hne 0 (by omega), hne 1 (by omega), hne 19 (by omega), hne 20 (by omega), hne 21 (by omega)]
    exact c0
  · rw [hne 2 (by omega)] at hi
    rw [hne _ (by omega), hne _ (by omega)]
    exact c1 i hi
  · rw [hne 4 (by omega)] at hr4
    rw [hne _ (by omega), hne _ (by omega), hne _ (by omega), hne _ (by omega)]
    exact c2 r hr4
  · rw [hne 4 (by omega)] at hr4
    rw [hne _ (by omega)] at hj
    have := b6 r (by omega)
    have h9 := c3 r j hr4 hj
    rw [hne _ (by omega), e3]
    omega
  · rw [hne 5 (by omega)] at hc5
    rw [hne _ (by omega), hne _ (by omega), hne _ (by omega), hne _ (by omega), hne _ (by omega)]
    exact c4 c2 hc5
  · rw [e3] at hx
    by_cases q : x = c
    · subst q
      rw [eK, eB]
      exact ⟨hk.1, hk.2, hb⟩
    · rw [hne _ (by omega), hne _ (by omega)]
      exact c5 x (by omega)
  · rw [hne _ (by omega), hne _ (by omega), hne _ (by omega)]
    exact f1 r hr4
  · rw [hne _ (by omega), hne _ (by omega)]
    exact f2 k hk
  · rw [hne 5 (by omega)] at hc5
    rw [hne _ (by omega), hne _ (by omega), hne _ (by omega), hne _ (by omega), hne _ (by omega)]
    exact f3 c2 hc5
  · rw [hne _ (by omega), hne _ (by omega), hne _ (by omega), hne _ (by omega)]
    exact f4 x hx
  · rw [hne 23 (by omega)]
    exact f5
  · rw [e3] at hx
    by_cases q : x = c
    · subst q
      rw [eH, eT]
      exact hn
    · rw [hne _ (by omega), hne _ (by omega)]
      exact f6 x (by omega)
  · rw [hne 6 (by omega)]
    exact f7

theorem rel_group2 {g : Mem} {e : Nat} {d : Nat → Int} {c : Nat} {hh t k b : Int} (hc : d 3 = (c : Int)) (hc5 : c < 5) (hn : VN hh t) (hk : 1 ≤ k ∧ k ≤ 8) (hb : 0 ≤ b) (h : RelX g e d) (hP : PInv d) : RelX (up2 (up2 (up2 (up2 (up2 (up2 (up2 (up2 g (e + 3 + c) 1 (nm27 hh t)) (e + 3 + c) 2 k) (e + 3 + c) 3 b) (e + 3 + c) 4 0) (e + 3 + c) 5 0) (e + 3 + c) 6 0) (e + 3 + c) 7 0) e 3 ((c : Int) + 1)) e (a_group d hh t k b) := by
  have hne : ∀ j, (j ≠ 3 ∧ j ≠ 50 + 9 * c ∧ j ≠ 51 + 9 * c ∧ j ≠ 57 + 9 * c ∧ j ≠ 58 + 9 * c) → a_group d hh t k b j = d j := fun j hj => by unfold a_group; rw [hc, Int.toNat_natCast, ud_n hj.1, ud_n (by omega), ud_n (by omega), ud_n (by omega), ud_n (by omega)]
  have e3 : a_group d hh t k b 3 = (c : Int) + 1 := by unfold a_group; rw [ud_s, hc]
  have eK : a_group d hh t k b (50 + 9 * c) = k := by unfold a_group; rw [hc, Int.toNat_natCast, ud_n (by omega), ud_n (by omega), ud_n (by omega), ud_n (by omega), ud_s]
  have eB : a_group d hh t k b (51 + 9 * c) = b := by unfold a_group; rw [hc, Int.toNat_natCast, ud_n (by omega), ud_n (by omega), ud_n (by omega), ud_s]
  have eH : a_group d hh t k b (57 + 9 * c) = hh := by unfold a_group; rw [hc, Int.toNat_natCast, ud_n (by omega), ud_n (by omega), ud_s]
  have eT : a_group d hh t k b (58 + 9 * c) = t := by unfold a_group; rw [hc, Int.toNat_natCast, ud_n (by omega), ud_s]
  have hg : ∀ a, (a ≠ e ∧ a ≠ e + 3 + c) → (up2 (up2 (up2 (up2 (up2 (up2 (up2 (up2 g (e + 3 + c) 1 (nm27 hh t)) (e + 3 + c) 2 k) (e + 3 + c) 3 b) (e + 3 + c) 4 0) (e + 3 + c) 5 0) (e + 3 + c) 6 0) (e + 3 + c) 7 0) e 3 ((c : Int) + 1)) a = g a := fun a ha => by repeat (first | rw [up2_row (by omega)])
  have hgi : ∀ a, e + 3 ≤ a → a < e + 75 → (up2 (up2 (up2 (up2 (up2 (up2 (up2 (up2 g (e + 3 + c) 1 (nm27 hh t)) (e + 3 + c) 2 k) (e + 3 + c) 3 b) (e + 3 + c) 4 0) (e + 3 + c) 5 0) (e + 3 + c) 6 0) (e + 3 + c) 7 0) e 3 ((c : Int) + 1)) a 0 = g a 0 := fun a h1 h2 => by repeat (first | rw [up2_a (by omega)] | rw [up2_k (by decide)])
  have hge : ∀ j, j ≠ 3 → (up2 (up2 (up2 (up2 (up2 (up2 (up2 (up2 g (e + 3 + c) 1 (nm27 hh t)) (e + 3 + c) 2 k) (e + 3 + c) 3 b) (e + 3 + c) 4 0) (e + 3 + c) 5 0) (e + 3 + c) 6 0) (e + 3 + c) 7 0) e 3 ((c : Int) + 1)) e j = g e j := fun j hj => by rw [up2_k hj]; repeat (first | rw [up2_a (by omega)])
  obtain ⟨⟨b0, b1, b2, b3, b4, b5, b6, b7, b8, b9⟩, c0, f1, f2, f3, f4, f5, f6, f7⟩ := hP
  obtain ⟨⟨x1, x2, x3, x4, x5⟩, ⟨s0, s1, s2, s3, s4, s5, s6, s7, s8, s9, s10, s11⟩, hl, hgr, hrt, hrg, hmk, hcl⟩ := h
  refine ⟨⟨fun i hi => ?_, fun i hi => ?_, fun i hi => ?_, fun i hi => ?_, fun i hi => ?_⟩, ⟨?_, ?_, ?_, ?_, ?_, ?_, ?_, ?_, ?_, ?_, ?_, ?_⟩, fun i hi => ?_, fun x hx => ?_, fun r hr => ?_, fun r hr => ?_, fun k hk => ?_, fun c2 hc2 => ?_⟩
  · rw [hgi _ (by omega) (by omega)]
    exact x1 i hi
  · rw [hgi _ (by omega) (by omega)]
    exact x2 i hi
  · rw [hgi _ (by omega) (by omega)]
    exact x3 i hi
  · rw [hgi _ (by omega) (by omega)]
    exact x4 i hi
  · rw [hgi _ (by omega) (by omega)]
    exact x5 i hi
  · rw [hge _ (by omega), hne _ (by omega)]
    exact s0
  · rw [hge _ (by omega), hne _ (by omega)]
    exact s1
  · rw [hge _ (by omega), hne _ (by omega)]
    exact s2
  · rw [e3]
    exact up2_s
  · rw [hge _ (by omega), hne _ (by omega)]
    exact s4
  · rw [hge _ (by omega), hne _ (by omega)]
    exact s5
  · rw [hge _ (by omega), hne _ (by omega)]
    exact s6
  · rw [hge _ (by omega), hne _ (by omega)]
    exact s7
  · rw [hge _ (by omega), hne _ (by omega)]
    exact s8
  · rw [hge _ (by omega), hne _ (by omega)]
    exact s9
  · rw [hge _ (by omega), hne _ (by omega)]
    exact s10
  · rw [hge _ (by omega), hne _ (by omega)]
    exact s11
  · rw [hne 2 (by omega)] at hi
    rw [hg _ (by omega), hne _ (by omega), hne _ (by omega)]
    exact hl i hi
  · rw [e3] at hx
    by_cases q : x = c
    · subst q
      rw [show (up2 (up2 (up2 (up2 (up2 (up2 (up2 (up2 g (e + 3 + x) 1 (nm27 hh t)) (e + 3 + x) 2 k) (e + 3 + x) 3 b) (e + 3 + x) 4 0) (e + 3 + x) 5 0) (e + 3 + x) 6 0) (e + 3 + x) 7 0) e 3 ((x : Int) + 1)) (e + 3 + x) = (up2 (up2 (up2 (up2 (up2 (up2 (up2 g (e + 3 + x) 1 (nm27 hh t)) (e + 3 + x) 2 k) (e + 3 + x) 3 b) (e + 3 + x) 4 0) (e + 3 + x) 5 0) (e + 3 + x) 6 0) (e + 3 + x) 7 0) (e + 3 + x) from up2_row (by omega)]
      have h4 := f4 x (by omega)
      unfold GrR
      rw [eK, eB, eH, eT, hne (53 + 9 * x) (by omega), hne (54 + 9 * x) (by omega), hne (55 + 9 * x) (by omega), hne (56 + 9 * x) (by omega), h4.1, h4.2.1, h4.2.2.1, h4.2.2.2]
      refine ⟨?_, ?_, ?_, ?_, ?_, ?_, ?_⟩
      all_goals (unfold up2; simp)
    · rw [hg _ (by omega)]
      exact (hgr x (by omega)).cong (fun i h1 h2 => hne i (by omega))
  · rw [hne 4 (by omega)] at hr
    have := b6 r (by omega)
    rw [hg _ (by omega), hg _ (by omega)]
    obtain ⟨a1, a2, a3, a4⟩ := hrt r hr
    unfold RtR
    rw [hne (95 + 7 * r) (by omega), hne (96 + 7 * r) (by omega), hne (97 + 7 * r) (by omega), hne (98 + 7 * r) (by omega)]
    exact ⟨a1, a2, a3, fun j hj => by rw [hne _ (by omega)]; exact a4 j hj⟩
  · rw [hg _ (by omega)]
    obtain ⟨a1, a2, a3⟩ := hrg r hr
    unfold RgR
    rw [hne (151 + 3 * r) (by omega), hne (153 + 3 * r) (by omega), if_pos (f1 r hr).1]
    rw [if_pos (f1 r hr).1] at a3
    exact ⟨a1, a2, a3⟩
  · rw [hg _ (by omega)]
    exact (hmk k hk).cong (fun i h1 h2 => hne i (by omega))
  · rw [hg _ (by omega)]
    exact (hcl c2 hc2).cong (hne 5 (by omega)) (fun i h1 h2 _ => hne i (by omega))

theorem pinv_rule {d : Nat → Int} {q : Nat} {v : Int} (hq : 19 ≤ q ∧ q ≤ 21) (h1 : 1 ≤ v) (h2 : v ≤ most q) (h : PInv d) : PInv (ud d q v) := by
  have hne : ∀ j, (j < 19 ∨ 21 < j) → ud d q v j = d j := fun j hj => ud_n (by omega)
  have hI := (h.inv.rule hq h1 h2).2.1.1
  obtain ⟨⟨b0, b1, b2, b3, b4, b5, b6, b7, b8, b9⟩, ⟨c0, c1, c2, c3, c4, c5⟩, f1, f2, f3, f4, f5, f6, f7⟩ := h
  refine ⟨⟨?_, ?_, ?_, ?_, ?_, ?_, fun r hr8 => ?_, fun r j hr8 hj => ?_, fun x hx => ?_, fun c2 hc4 => ?_⟩, ⟨?_, fun i hi => ?_, fun r hr4 => ?_, fun r j hr4 hj => ?_, fun c2 hc5 => ?_, fun x hx => ?_⟩, fun r hr4 => ?_, fun k hk => ?_, fun c2 hc5 => ?_, fun x hx => ?_, ?_, fun x hx => ?_, ?_⟩
  · rw [hne 0 (by omega)]
    exact b0
  · rw [hne 1 (by omega)]
    exact b1
  · rw [hne 2 (by omega)]
    exact b2
  · rw [hne 3 (by omega)]
    exact b3
  · rw [hne 4 (by omega)]
    exact b4
  · rw [hne 5 (by omega)]
    exact b5
  · rw [hne _ (by omega), hne _ (by omega)]
    exact b6 r hr8
  · rw [hne _ (by omega)] at hj
    have := b6 r hr8
    rw [hne _ (by omega)]
    exact b7 r j hr8 hj
  · rw [hne _ (by omega)]
    exact b8 x hx
  · rw [hne _ (by omega), hne _ (by omega)]
    exact b9 c2 hc4
  · exact hI
  · rw [hne 2 (by omega)] at hi
    rw [hne _ (by omega), hne _ (by omega)]
    exact c1 i hi
  · rw [hne 4 (by omega)] at hr4
    rw [hne _ (by omega), hne _ (by omega), hne _ (by omega), hne _ (by omega)]
    exact c2 r hr4
  · rw [hne 4 (by omega)] at hr4
    rw [hne _ (by omega)] at hj
    have := b6 r (by omega)
    rw [hne _ (by omega), hne 3 (by omega)]
    exact c3 r j hr4 hj
  · rw [hne 5 (by omega)] at hc5
    rw [hne _ (by omega), hne _ (by omega), hne _ (by omega), hne _ (by omega), hne _ (by omega)]
    exact c4 c2 hc5
  · rw [hne 3 (by omega)] at hx
    rw [hne _ (by omega), hne _ (by omega)]
    exact c5 x hx
  · rw [hne _ (by omega), hne _ (by omega), hne _ (by omega)]
    exact f1 r hr4
  · rw [hne _ (by omega), hne _ (by omega)]
    exact f2 k hk
  · rw [hne 5 (by omega)] at hc5
    rw [hne _ (by omega), hne _ (by omega), hne _ (by omega), hne _ (by omega), hne _ (by omega)]
    exact f3 c2 hc5
  · rw [hne _ (by omega), hne _ (by omega), hne _ (by omega), hne _ (by omega)]
    exact f4 x hx
  · rw [hne 23 (by omega)]
    exact f5
  · rw [hne 3 (by omega)] at hx
    rw [hne _ (by omega), hne _ (by omega)]
    exact f6 x hx
  · rw [hne 6 (by omega)]
    exact f7

theorem pinv_call {d : Nat → Int} {c : Nat} {line many value talk comes : Int} (hc : d 5 = (c : Int)) (hc40 : c < 40) (hl : 0 ≤ line ∧ line < d 2) (hm : 1 ≤ many ∧ many ≤ 6) (hv : 0 ≤ value ∧ value < pw many.toNat) (ht : 1 ≤ talk ∧ talk ≤ 99) (h : PInv d) : PInv (s_lay d line many value talk comes) := by
  have hI := h.inv.lay (comes := comes) hc hc40 hl hm hv ht
  have hne : ∀ j, (j ≠ 5 ∧ (j < 169 + 14 * c ∨ 183 + 14 * c ≤ j)) → s_lay d line many value talk comes j = d j := fun j hj => lay_n hc hj.1 hj.2
  have e5 : s_lay d line many value talk comes 5 = (c : Int) + 1 := by rw [lay_5, hc]
  have hk9 : ∀ k, k < 14 → s_lay d line many value talk comes (169 + k + 14 * c) = lcell line many value talk comes k := fun k hk => lay_k hc rfl hk
  obtain ⟨⟨b0, b1, b2, b3, b4, b5, b6, b7, b8, b9⟩, ⟨c0, c1, c2, c3, c4, c5⟩, f1, f2, f3, f4, f5, f6, f7⟩ := h
  refine ⟨⟨?_, ?_, ?_, ?_, ?_, ?_, fun r hr8 => ?_, fun r j hr8 hj => ?_, fun x hx => ?_, fun c2 hc4 => ?_⟩, ⟨?_, fun i hi => ?_, fun r hr4 => ?_, fun r j hr4 hj => ?_, fun c2 hc5 => ?_, fun x hx => ?_⟩, fun r hr4 => ?_, fun k hk => ?_, fun c2 hc5 => ?_, fun x hx => ?_, ?_, fun x hx => ?_, ?_⟩
  · rw [hne 0 (by omega)]
    exact b0
  · rw [hne 1 (by omega)]
    exact b1
  · rw [hne 2 (by omega)]
    exact b2
  · rw [hne 3 (by omega)]
    exact b3
  · rw [hne 4 (by omega)]
    exact b4
  · rw [e5]
    omega
  · rw [hne _ (by omega), hne _ (by omega)]
    exact b6 r hr8
  · rw [hne _ (by omega)] at hj
    have := b6 r hr8
    rw [hne _ (by omega)]
    exact b7 r j hr8 hj
  · rw [hne _ (by omega)]
    exact b8 x hx
  · exact hI.1.2.2.2.2.2.2.2.2.2 c2 hc4
  · rw [hne 0 (by omega), hne 1 (by omega), hne 19 (by omega), hne 20 (by omega), hne 21 (by omega)]
    exact c0
  · rw [hne 2 (by omega)] at hi
    rw [hne _ (by omega), hne _ (by omega)]
    exact c1 i hi
  · rw [hne 4 (by omega)] at hr4
    rw [hne _ (by omega), hne _ (by omega), hne _ (by omega), hne _ (by omega)]
    exact c2 r hr4
  · rw [hne 4 (by omega)] at hr4
    rw [hne _ (by omega)] at hj
    have := b6 r (by omega)
    rw [hne _ (by omega), hne 3 (by omega)]
    exact c3 r j hr4 hj
  · exact hI.2.1.2.2.2.2.1 c2 hc5
  · rw [hne 3 (by omega)] at hx
    rw [hne _ (by omega), hne _ (by omega)]
    exact c5 x hx
  · rw [hne _ (by omega), hne _ (by omega), hne _ (by omega)]
    exact f1 r hr4
  · rw [hne _ (by omega), hne _ (by omega)]
    exact f2 k hk
  · rw [e5] at hc5
    by_cases q : c2 = c
    · subst q
      exact ⟨hk9 4 (by omega), hk9 5 (by omega), hk9 6 (by omega), hk9 9 (by omega), hk9 10 (by omega)⟩
    · rw [hne _ (by omega), hne _ (by omega), hne _ (by omega), hne _ (by omega), hne _ (by omega)]
      exact f3 c2 (by omega)
  · rw [hne _ (by omega), hne _ (by omega), hne _ (by omega), hne _ (by omega)]
    exact f4 x hx
  · rw [hne 23 (by omega)]
    exact f5
  · rw [hne 3 (by omega)] at hx
    rw [hne _ (by omega), hne _ (by omega)]
    exact f6 x hx
  · rw [hne 6 (by omega)]
    exact f7

theorem pinv_route {d : Nat → Int} {e2 : Nat → Int} {c n cnt : Nat} {v len : Int} (hc : d 4 = (c : Int)) (hc8 : c < 8) (hn : 1 ≤ n ∧ n ≤ 5) (hv : 0 ≤ v ∧ v < pw n) (hlen : len ≤ 6) (hcnt : 1 ≤ cnt ∧ cnt ≤ 3) (he : ∀ j, (j < 99 + 7 * c ∨ 102 + 7 * c ≤ j) → e2 j = d j) (hch : ∀ j : Nat, j < cnt → 0 ≤ e2 (99 + 7 * c + j) ∧ e2 (99 + 7 * c + j) < d 3) (h : PInv d) : PInv (a_route e2 n v len cnt) := by
  have hc2 : e2 4 = (c : Int) := by rw [he 4 (by omega)]; exact hc
  have hn0 : ∀ j, (j ≠ 4 ∧ j ≠ 95 + 7 * c ∧ j ≠ 96 + 7 * c ∧ j ≠ 97 + 7 * c ∧ j ≠ 98 + 7 * c) → a_route e2 n v len cnt j = e2 j := fun j hj => by unfold a_route; rw [hc2, Int.toNat_natCast, ud_n hj.1, ud_n (by omega), ud_n (by omega), ud_n (by omega), ud_n (by omega)]
  have hne : ∀ j, (j ≠ 4 ∧ (j < 95 + 7 * c ∨ 102 + 7 * c ≤ j)) → a_route e2 n v len cnt j = d j := fun j hj => by rw [hn0 j (by omega)]; exact he j (by omega)
  have e4 : a_route e2 n v len cnt 4 = (c : Int) + 1 := by unfold a_route; rw [ud_s, hc2]
  have e95 : a_route e2 n v len cnt (95 + 7 * c) = (n : Int) := by unfold a_route; rw [hc2, Int.toNat_natCast, ud_n (by omega), ud_n (by omega), ud_n (by omega), ud_n (by omega), ud_s]
  have e96 : a_route e2 n v len cnt (96 + 7 * c) = v := by unfold a_route; rw [hc2, Int.toNat_natCast, ud_n (by omega), ud_n (by omega), ud_n (by omega), ud_s]
  have e97 : a_route e2 n v len cnt (97 + 7 * c) = len := by unfold a_route; rw [hc2, Int.toNat_natCast, ud_n (by omega), ud_n (by omega), ud_s]
  have e98 : a_route e2 n v len cnt (98 + 7 * c) = (cnt : Int) := by unfold a_route; rw [hc2, Int.toNat_natCast, ud_n (by omega), ud_s]
  have e99 : ∀ j, j < 3 → a_route e2 n v len cnt (99 + 7 * c + j) = e2 (99 + 7 * c + j) := fun j hj => hn0 _ (by omega)
  obtain ⟨⟨b0, b1, b2, b3, b4, b5, b6, b7, b8, b9⟩, ⟨c0, c1, c2, c3, c4, c5⟩, f1, f2, f3, f4, f5, f6, f7⟩ := h
  refine ⟨⟨?_, ?_, ?_, ?_, ?_, ?_, fun r hr8 => ?_, fun r j hr8 hj => ?_, fun x hx => ?_, fun c2 hc4 => ?_⟩, ⟨?_, fun i hi => ?_, fun r hr4 => ?_, fun r j hr4 hj => ?_, fun c2 hc5 => ?_, fun x hx => ?_⟩, fun r hr4 => ?_, fun k hk => ?_, fun c2 hc5 => ?_, fun x hx => ?_, ?_, fun x hx => ?_, ?_⟩
  · rw [hne 0 (by omega)]
    exact b0
  · rw [hne 1 (by omega)]
    exact b1
  · rw [hne 2 (by omega)]
    exact b2
  · rw [hne 3 (by omega)]
    exact b3
  · rw [e4]
    omega
  · rw [hne 5 (by omega)]
    exact b5
  · by_cases q : r = c
    · subst q
      rw [e95, e98]
      omega
    · rw [hne _ (by omega), hne _ (by omega)]
      exact b6 r hr8
  · by_cases q : r = c
    · subst q
      rw [e98] at hj
      rw [e99 j (by omega)]
      have := hch j (by omega)
      omega
    · rw [hne _ (by omega)] at hj
      have := b6 r hr8
      rw [hne _ (by omega)]
      exact b7 r j hr8 hj
  · rw [hne _ (by omega)]
    exact b8 x hx
  · rw [hne _ (by omega), hne _ (by omega)]
    exact b9 c2 hc4
  · rw [hne 0 (by omega), hne 1 (by omega), hne 19 (by omega), hne 20 (by omega), hne 21 (by omega)]
    exact c0
  · rw [hne 2 (by omega)] at hi
    rw [hne _ (by omega), hne _ (by omega)]
    exact c1 i hi
  · rw [e4] at hr4
    by_cases q : r = c
    · subst q
      rw [e95, e96, e97, e98, Int.toNat_natCast]
      exact ⟨by omega, by omega, hv.1, hv.2, hlen, by omega⟩
    · rw [hne _ (by omega), hne _ (by omega), hne _ (by omega), hne _ (by omega)]
      exact c2 r (by omega)
  · rw [e4] at hr4
    by_cases q : r = c
    · subst q
      rw [e98] at hj
      rw [e99 j (by omega), hne 3 (by omega)]
      exact (hch j (by omega)).2
    · rw [hne _ (by omega)] at hj
      have := b6 r (by omega)
      rw [hne _ (by omega), hne 3 (by omega)]
      exact c3 r j (by omega) hj
  · rw [hne 5 (by omega)] at hc5
    rw [hne _ (by omega), hne _ (by omega), hne _ (by omega), hne _ (by omega), hne _ (by omega)]
    exact c4 c2 hc5
  · rw [hne 3 (by omega)] at hx
    rw [hne _ (by omega), hne _ (by omega)]
    exact c5 x hx
  · rw [hne _ (by omega), hne _ (by omega), hne _ (by omega)]
    exact f1 r hr4
  · rw [hne _ (by omega), hne _ (by omega)]
    exact f2 k hk
  · rw [hne 5 (by omega)] at hc5
    rw [hne _ (by omega), hne _ (by omega), hne _ (by omega), hne _ (by omega), hne _ (by omega)]
    exact f3 c2 hc5
  · rw [hne _ (by omega), hne _ (by omega), hne _ (by omega), hne _ (by omega)]
    exact f4 x hx
  · rw [hne 23 (by omega)]
    exact f5
  · rw [hne 3 (by omega)] at hx
    rw [hne _ (by omega), hne _ (by omega)]
    exact f6 x hx
  · rw [hne 6 (by omega)]
    exact f7

theorem rel_route2 {g : Mem} {e : Nat} {d : Nat → Int} {e2 : Nat → Int} {c n cnt : Nat} {v len : Int} (hc : d 4 = (c : Int)) (hc8 : c < 8) (hn : 1 ≤ n ∧ n ≤ 5) (hv : 0 ≤ v ∧ v < pw n) (hlen : len ≤ 6) (hcnt : 1 ≤ cnt ∧ cnt ≤ 3) (he : ∀ j, (j < 99 + 7 * c ∨ 102 + 7 * c ≤ j) → e2 j = d j) (hch : ∀ j : Nat, j < cnt → 0 ≤ e2 (99 + 7 * c + j) ∧ e2 (99 + 7 * c + j) < d 3) {g2 : Mem} (hgo : ∀ a, a ≠ e → a ≠ e + 9 + 2 * c → a ≠ e + 10 + 2 * c → e ≤ a → a < e + 75 → g2 a = g a) (hg0 : ∀ j, j ≠ 4 → g2 e j = g e j) (hg4 : g2 e 4 = (c : Int) + 1) (hr0 : g2 (e + 9 + 2 * c) 0 = g (e + 9 + 2 * c) 0) (hr1 : g2 (e + 9 + 2 * c) 1 = enc n v) (hr2 : g2 (e + 9 + 2 * c) 2 = len) (hr3 : g2 (e + 9 + 2 * c) 3 = (cnt : Int)) (hrc : ∀ j : Nat, j < cnt → g2 (e + 10 + 2 * c) j = e2 (99 + 7 * c + j)) (h : RelX g e d) (hP : PInv d) : RelX (g2) e (a_route e2 n v len cnt) := by
  have hc2 : e2 4 = (c : Int) := by rw [he 4 (by omega)]; exact hc
  have hn0 : ∀ j, (j ≠ 4 ∧ j ≠ 95 + 7 * c ∧ j ≠ 96 + 7 * c ∧ j ≠ 97 + 7 * c ∧ j ≠ 98 + 7 * c) → a_route e2 n v len cnt j = e2 j := fun j hj => by unfold a_route; rw [hc2, Int.toNat_natCast, ud_n hj.1, ud_n (by omega), ud_n (by omega), ud_n (by omega), ud_n (by omega)]
  have hne : ∀ j, (j ≠ 4 ∧ (j < 95 + 7 * c ∨ 102 + 7 * c ≤ j)) → a_route e2 n v len cnt j = d j := fun j hj => by rw [hn0 j (by omega)]; exact he j (by omega)
  have e4 : a_route e2 n v len cnt 4 = (c : Int) + 1 := by unfold a_route; rw [ud_s, hc2]
  have e95 : a_route e2 n v len cnt (95 + 7 * c) = (n : Int) := by unfold a_route; rw [hc2, Int.toNat_natCast, ud_n (by omega), ud_n (by omega), ud_n (by omega), ud_n (by omega), ud_s]
  have e96 : a_route e2 n v len cnt (96 + 7 * c) = v := by unfold a_route; rw [hc2, Int.toNat_natCast, ud_n (by omega), ud_n (by omega), ud_n (by omega), ud_s]
  have e97 : a_route e2 n v len cnt (97 + 7 * c) = len := by unfold a_route; rw [hc2, Int.toNat_natCast, ud_n (by omega), ud_n (by omega), ud_s]
  have e98 : a_route e2 n v len cnt (98 + 7 * c) = (cnt : Int) := by unfold a_route; rw [hc2, Int.toNat_natCast, ud_n (by omega), ud_s]
  have e99 : ∀ j, j < 3 → a_route e2 n v len cnt (99 + 7 * c + j) = e2 (99 + 7 * c + j) := fun j hj => hn0 _ (by omega)
  have hg : ∀ a, (a ≠ e ∧ a ≠ e + 9 + 2 * c ∧ a ≠ e + 10 + 2 * c ∧ e ≤ a ∧ a < e + 75) → g2 a = g a := fun a ha => hgo a ha.1 ha.2.1 ha.2.2.1 ha.2.2.2.1 ha.2.2.2.2
  have hgi : ∀ a, e + 3 ≤ a → a < e + 75 → a ≠ e + 10 + 2 * c → g2 a 0 = g a 0 := fun a h1 h2 h3 => by by_cases q : a = e + 9 + 2 * c; rw [q]; exact hr0; rw [hg a ⟨by omega, q, h3, by omega, h2⟩]
  have hge := hg0
  obtain ⟨⟨b0, b1, b2, b3, b4, b5, b6, b7, b8, b9⟩, c0, f1, f2, f3, f4, f5, f6, f7⟩ := hP
  obtain ⟨⟨x1, x2, x3, x4, x5⟩, ⟨s0, s1, s2, s3, s4, s5, s6, s7, s8, s9, s10, s11⟩, hl, hgr, hrt, hrg, hmk, hcl⟩ := h
  refine ⟨⟨fun i hi => ?_, fun i hi => ?_, fun i hi => ?_, fun i hi => ?_, fun i hi => ?_⟩, ⟨?_, ?_, ?_, ?_, ?_, ?_, ?_, ?_, ?_, ?_, ?_, ?_⟩, fun i hi => ?_, fun x hx => ?_, fun r hr => ?_, fun r hr => ?_, fun k hk => ?_, fun c2 hc2 => ?_⟩
  · rw [hgi _ (by omega) (by omega) (by omega)]
    exact x1 i hi
  · rw [hgi _ (by omega) (by omega) (by omega)]
    exact x2 i hi
  · rw [hgi _ (by omega) (by omega) (by omega)]
    exact x3 i hi
  · rw [hgi _ (by omega) (by omega) (by omega)]
    exact x4 i hi
  · rw [hgi _ (by omega) (by omega) (by omega)]
    exact x5 i hi
  · rw [hge _ (by omega), hne _ (by omega)]
    exact s0
  · rw [hge _ (by omega), hne _ (by omega)]
    exact s1
  · rw [hge _ (by omega), hne _ (by omega)]
    exact s2
  · rw [hge _ (by omega), hne _ (by omega)]
    exact s3
  · rw [e4]
    exact hg4
  · rw [hge _ (by omega), hne _ (by omega)]
    exact s5
  · rw [hge _ (by omega), hne _ (by omega)]
    exact s6
  · rw [hge _ (by omega), hne _ (by omega)]
    exact s7
  · rw [hge _ (by omega), hne _ (by omega)]
    exact s8
  · rw [hge _ (by omega), hne _ (by omega)]
    exact s9
  · rw [hge _ (by omega), hne _ (by omega)]
    exact s10
  · rw [hge _ (by omega), hne _ (by omega)]
    exact s11
  · rw [hne 2 (by omega)] at hi
    rw [hg _ (by omega), hne _ (by omega), hne _ (by omega)]
    exact hl i hi
  · rw [hne 3 (by omega)] at hx
    rw [hg _ (by omega)]
    exact (hgr x hx).cong (fun i h1 h2 => hne i (by omega))
  · rw [e4] at hr
    by_cases q : r = c
    · subst q
      unfold RtR
      rw [e95, e96, e97, e98]
      exact ⟨hr1, hr2, hr3, fun j hj => by rw [e99 j (by omega)]; exact hrc j (by omega)⟩
    · have := b6 r (by omega)
      rw [hg _ (by omega), hg _ (by omega)]
      obtain ⟨a1, a2, a3, a4⟩ := hrt r (by omega)
      unfold RtR
      rw [hne (95 + 7 * r) (by omega), hne (96 + 7 * r) (by omega), hne (97 + 7 * r) (by omega), hne (98 + 7 * r) (by omega)]
      exact ⟨a1, a2, a3, fun j hj => by rw [hne _ (by omega)]; exact a4 j hj⟩
  · rw [hg _ (by omega)]
    obtain ⟨a1, a2, a3⟩ := hrg r hr
    unfold RgR
    rw [hne (151 + 3 * r) (by omega), hne (153 + 3 * r) (by omega), if_pos (f1 r hr).1]
    rw [if_pos (f1 r hr).1] at a3
    exact ⟨a1, a2, a3⟩
  · rw [hg _ (by omega)]
    exact (hmk k hk).cong (fun i h1 h2 => hne i (by omega))
  · rw [hg _ (by omega)]
    exact (hcl c2 hc2).cong (hne 5 (by omega)) (fun i h1 h2 _ => hne i (by omega))
