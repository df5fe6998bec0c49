/-! a copy of an Exchange stands for the same row -/
section CX
variable {g ga : Mem} {e f : Nat} {d : Nat → Int}
theorem CpX.cells (h : CpX g ga e f) (hd : e + 75 ≤ f ∨ f + 75 ≤ e) :
    Fr g ga e ∧ (∀ k, k < 13 → ga e k = g f k) ∧ (∀ i, i < 12 → ga (e + 1) i = g (f + 1) i) ∧ (∀ x, x < 5 → ga (e + 3 + x) 0 = g (e + 3 + x) 0 ∧ ∀ j, 1 ≤ j → j < 8 → ga (e + 3 + x) j = g (f + 3 + x) j) ∧
    (∀ r, r < 8 → ga (e + 9 + 2 * r) 0 = g (e + 9 + 2 * r) 0 ∧ ga (e + 9 + 2 * r) 1 = g (f + 9 + 2 * r) 1 ∧ ga (e + 9 + 2 * r) 2 = g (f + 9 + 2 * r) 2 ∧ ga (e + 9 + 2 * r) 3 = (if g (f + 9 + 2 * r) 3 < 0 then 0 else if g (f + 9 + 2 * r) 3 < 3 then g (f + 9 + 2 * r) 3 else 3) ∧ ∀ j : Nat, (j : Int) < (if g (f + 9 + 2 * r) 3 < 0 then 0 else if g (f + 9 + 2 * r) 3 < 3 then g (f + 9 + 2 * r) 3 else 3) → ga (e + 10 + 2 * r) j = g (f + 10 + 2 * r) j) ∧
    (∀ r, r < 4 → ga (e + 26 + r) 0 = g (e + 26 + r) 0 ∧ ∀ j, 1 ≤ j → j < 4 → ga (e + 26 + r) j = g (f + 26 + r) j) ∧ (∀ k, k < 3 → ga (e + 31 + k) 0 = g (e + 31 + k) 0 ∧ ∀ j, 1 ≤ j → j < 3 → ga (e + 31 + k) j = g (f + 31 + k) j) ∧ (∀ c, c < 40 → ga (e + 35 + c) 0 = g (e + 35 + c) 0 ∧ ∀ j, 1 ≤ j → j < 13 → ga (e + 35 + c) j = g (f + 35 + c) j) := by
  obtain ⟨g1, g2, g3, gb, g5, g6, h1, h2, h3, ⟨hb1, hb2⟩, h5, h6, h7⟩ := h
  have n1 : ∀ x, x ≠ e → g1 x = g x := fun x hx => by rw [h1]; exact cpR_n hx
  have n2 : ∀ x, x ≠ e → x ≠ e + 1 → g2 x = g x := fun x hx hx2 => by rw [h2, cpR_n hx2]; exact n1 x hx
  have n3 : ∀ x, x ≠ e → x ≠ e + 1 → (x < e + 3 ∨ e + 8 ≤ x) → g3 x = g x := fun x hx hx2 hx3 => by rw [h3, cpA_n (by omega)]; exact n2 x hx hx2
  have nb : ∀ x, x ≠ e → x ≠ e + 1 → (x < e + 3 ∨ e + 25 ≤ x) → gb x = g x := fun x hx hx2 hx3 => by rw [hb1 x (by omega)]; exact n3 x hx hx2 (by omega)
  have n5 : ∀ x, x ≠ e → x ≠ e + 1 → (x < e + 3 ∨ e + 30 ≤ x) → g5 x = g x := fun x hx hx2 hx3 => by rw [h5, cpA_n (by omega)]; exact nb x hx hx2 (by omega)
  have n6 : ∀ x, x ≠ e → x ≠ e + 1 → (x < e + 3 ∨ e + 34 ≤ x) → g6 x = g x := fun x hx hx2 hx3 => by rw [h6, cpA_n (by omega)]; exact n5 x hx hx2 (by omega)
  have m7 : ∀ x, (x < e + 35 ∨ e + 75 ≤ x) → ga x = g6 x := fun x hx => by rw [h7]; exact cpA_n (by omega)
  have m6 : ∀ x, (x < e + 31 ∨ e + 75 ≤ x) → ga x = g5 x := fun x hx => by rw [m7 x (by omega), h6]; exact cpA_n (by omega)
  have m5 : ∀ x, (x < e + 26 ∨ e + 75 ≤ x) → ga x = gb x := fun x hx => by rw [m6 x (by omega), h5]; exact cpA_n (by omega)
  refine ⟨fun x hx => ?_, fun k hk => ?_, fun i hi => ?_, fun x hx => ⟨?_, fun j j1 j2 => ?_⟩, fun r hr => ?_, fun r hr => ⟨?_, fun j j1 j2 => ?_⟩, fun r hr => ⟨?_, fun j j1 j2 => ?_⟩, fun r hr => ⟨?_, fun j j1 j2 => ?_⟩⟩
  · rw [m7 x (by omega)]; exact n6 x (by omega) (by omega) (by omega)
  · rw [m5 e (by omega), hb1 e (by omega), h3, cpA_n (by omega), h2, cpR_n (by omega), h1]; exact cpR_i (by omega)
  · rw [m5 (e + 1) (by omega), hb1 (e + 1) (by omega), h3, cpA_n (by omega), h2, cpR_i (by omega), n1 (f + 1) (by omega)]
  · rw [m5 _ (by omega), hb1 _ (by omega), h3, cpA_o (by omega), n2 _ (by omega) (by omega)]
  · rw [m5 _ (by omega), hb1 _ (by omega), h3, cpA_i hx ⟨j1, j2⟩, n2 _ (by omega) (by omega)]
  · have q := hb2 r hr
    rw [n3 (e + 9 + 2 * r) (by omega) (by omega) (by omega), n3 (f + 9 + 2 * r) (by omega) (by omega) (by omega), n3 (f + 10 + 2 * r) (by omega) (by omega) (by omega)] at q
    rw [m5 (e + 9 + 2 * r) (by omega), m5 (e + 10 + 2 * r) (by omega)]
    exact q
  · rw [m6 _ (by omega), h5, cpA_o (by omega), nb _ (by omega) (by omega) (by omega)]
  · rw [m6 _ (by omega), h5, cpA_i hr ⟨j1, j2⟩, nb _ (by omega) (by omega) (by omega)]
  · rw [m7 _ (by omega), h6, cpA_o (by omega), n5 _ (by omega) (by omega) (by omega)]
  · rw [m7 _ (by omega), h6, cpA_i hr ⟨j1, j2⟩, n5 _ (by omega) (by omega) (by omega)]
  · rw [h7, cpA_o (by omega), n6 _ (by omega) (by omega) (by omega)]
  · rw [h7, cpA_i hr ⟨j1, j2⟩, n6 _ (by omega) (by omega) (by omega)]
theorem CpX.rel (h : CpX g ga e f) (hd : e + 75 ≤ f ∨ f + 75 ≤ e) (hR : RelX g f d) (hb : RB d) (hI : ExI g e) : RelX ga e d := by
  obtain ⟨-, c0, c1, c3, c9, c26, c31, c35⟩ := h.cells hd
  obtain ⟨i3, i9, i26, i31, i35⟩ := hI
  obtain ⟨-, ⟨s0, s1, s2, s3, s4, s5, s6, s7, s8, s9, s10, s11⟩, r1, r3, r9, r26, r31, r35⟩ := hR
  refine ⟨⟨fun i hi => by rw [(c3 i hi).1]; exact i3 i hi, fun i hi => by rw [(c9 i hi).1]; exact i9 i hi, fun i hi => by rw [(c26 i hi).1]; exact i26 i hi, fun i hi => by rw [(c31 i hi).1]; exact i31 i hi, fun i hi => by rw [(c35 i hi).1]; exact i35 i hi⟩, ?_, fun i hi => ?_, fun x hx => ?_, fun r hr => ?_, fun r hr => ?_, fun k hk => ?_, fun c hc => ?_⟩
  · unfold ScR
    rw [c0 0 (by omega), c0 1 (by omega), c0 2 (by omega), c0 3 (by omega), c0 4 (by omega), c0 5 (by omega), c0 6 (by omega), c0 7 (by omega), c0 8 (by omega), c0 9 (by omega), c0 10 (by omega), c0 11 (by omega)]
    exact ⟨s0, s1, s2, s3, s4, s5, s6, s7, s8, s9, s10, s11⟩
  · have := hb.2.2.1
    rw [c1 i (by omega)]; exact r1 i hi
  · have := hb.2.2.2.1
    have q := (c3 x (by omega)).2
    unfold GrR
    rw [q 1 (by omega) (by omega), q 2 (by omega) (by omega), q 3 (by omega) (by omega), q 4 (by omega) (by omega), q 5 (by omega) (by omega), q 6 (by omega) (by omega), q 7 (by omega) (by omega)]
    exact r3 x hx
  · have := hb.2.2.2.2.1
    obtain ⟨-, q1, q2, q3, q4⟩ := c9 r (by omega)
    have hb3 := hb.2.2.2.2.2.2.1 r (by omega)
    obtain ⟨t1, t2, t3, t4⟩ := r9 r hr
    have e3 : (if g (f + 9 + 2 * r) 3 < 0 then 0 else if g (f + 9 + 2 * r) 3 < 3 then g (f + 9 + 2 * r) 3 else 3) = d (98 + 7 * r) := by
      rw [t3]; repeat split
      all_goals omega
    rw [e3] at q3 q4
    exact ⟨q1.trans t1, q2.trans t2, q3, fun j hj => (q4 j hj).trans (t4 j hj)⟩
  · have q := (c26 r hr).2
    unfold RgR
    rw [q 1 (by omega) (by omega), q 2 (by omega) (by omega), q 3 (by omega) (by omega)]
    exact r26 r hr
  · have q := (c31 k hk).2
    unfold MkR
    rw [q 1 (by omega) (by omega), q 2 (by omega) (by omega)]
    exact r31 k hk
  · have q := (c35 c hc).2
    unfold ClR
    rw [q 1 (by omega) (by omega), q 2 (by omega) (by omega), q 3 (by omega) (by omega), q 4 (by omega) (by omega), q 5 (by omega) (by omega), q 6 (by omega) (by omega), q 7 (by omega) (by omega), q 8 (by omega) (by omega), q 9 (by omega) (by omega), q 10 (by omega) (by omega), q 11 (by omega) (by omega), q 12 (by omega) (by omega)]
    exact r35 c hc
theorem CpX.kx (h : CpX g ga e f) (hd : e + 75 ≤ f ∨ f + 75 ≤ e) (hK : KX g f d) (hI : ExI g e) : KX ga e d ∧ Fr g ga e ∧ ga e 12 = g f 12 := ⟨⟨h.rel hd hK.1 hK.2.1.1 hI, hK.2⟩, (h.cells hd).1, (h.cells hd).2.1 12 (by omega)⟩
/-- another memory that is alike at e -/
theorem KX.fr {g0 : Mem} (h : KX g0 f d) (hF : Fr g0 g e) (hd : e + 75 ≤ f ∨ f + 75 ≤ e) : KX g f d := by
  have q : ∀ j, j < 75 → g (f + j) = g0 (f + j) := fun j hj => hF _ (by omega)
  obtain ⟨⟨⟨i3, i9, i26, i31, i35⟩, s, r1, r3, r9, r26, r31, r35⟩, hI, hP⟩ := h
  have hb := hI.1
  have q1 : ∀ a, f ≤ a → a < f + 75 → g a = g0 a := fun a h1 h2 => hF a (by omega)
  refine ⟨⟨⟨fun i hi => by rw [q1 _ (by omega) (by omega)]; exact i3 i hi, fun i hi => by rw [q1 _ (by omega) (by omega)]; exact i9 i hi, fun i hi => by rw [q1 _ (by omega) (by omega)]; exact i26 i hi, fun i hi => by rw [q1 _ (by omega) (by omega)]; exact i31 i hi, fun i hi => by rw [q1 _ (by omega) (by omega)]; exact i35 i hi⟩, by rw [q1 f (by omega) (by omega)]; exact s, fun i hi => by rw [q1 _ (by omega) (by omega)]; exact r1 i hi, fun x hx => ?_, fun r hr => ?_, fun r hr => by rw [q1 _ (by omega) (by omega)]; exact r26 r hr, fun k hk => by rw [q1 _ (by omega) (by omega)]; exact r31 k hk, fun c hc => by rw [q1 _ (by omega) (by omega)]; exact r35 c hc⟩, hI, hP⟩
  · have := hb.2.2.2.1
    rw [q1 _ (by omega) (by omega)]; exact r3 x hx
  · have := hb.2.2.2.2.1
    rw [q1 (f + 9 + 2 * r) (by omega) (by omega), q1 (f + 10 + 2 * r) (by omega) (by omega)]; exact r9 r hr
end CX
