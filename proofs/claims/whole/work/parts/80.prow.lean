/-! the rows while a setup is read -/
def VN (h t : Int) : Prop := 0 ≤ h ∧ h < 531441 ∧ 0 ≤ t ∧ t < 531441 ∧ (t ≠ 0 → 19683 ≤ h)
theorem dg27_4 (t : Int) : (t < 27 ∧ dg27 t = 27) ∨ (27 ≤ t ∧ t < 729 ∧ dg27 t = 729) ∨ (729 ≤ t ∧ t < 19683 ∧ dg27 t = 19683) ∨ (19683 ≤ t ∧ dg27 t = 531441) := by
  unfold dg27
  by_cases h1 : t < 27
  · rw [if_pos h1]; exact Or.inl ⟨h1, rfl⟩
  · rw [if_neg h1]
    by_cases h2 : t < 729
    · rw [if_pos h2]; exact Or.inr (Or.inl ⟨by omega, h2, rfl⟩)
    · rw [if_neg h2]
      by_cases h3 : t < 19683
      · rw [if_pos h3]; exact Or.inr (Or.inr (Or.inl ⟨by omega, h3, rfl⟩))
      · rw [if_neg h3]; exact Or.inr (Or.inr (Or.inr ⟨by omega, rfl⟩))
theorem nm27_inj {h t h2 t2 : Int} (a : VN h t) (b : VN h2 t2) : nm27 h t = nm27 h2 t2 ↔ (h = h2 ∧ t = t2) := by
  constructor
  · intro e
    obtain ⟨a1, a2, a3, a4, a5⟩ := a
    obtain ⟨b1, b2, b3, b4, b5⟩ := b
    unfold nm27 at e
    by_cases t0 : t = 0
    · rw [if_pos t0] at e
      by_cases u0 : t2 = 0
      · rw [if_pos u0] at e; exact ⟨e, by omega⟩
      · rw [if_neg u0] at e
        have := b5 u0
        rcases dg27_4 t2 with ⟨q, z⟩ | ⟨q, q2, z⟩ | ⟨q, q2, z⟩ | ⟨q, z⟩ <;> rw [z] at e <;> omega
    · rw [if_neg t0] at e
      have := a5 t0
      by_cases u0 : t2 = 0
      · rw [if_pos u0] at e
        rcases dg27_4 t with ⟨q, z⟩ | ⟨q, q2, z⟩ | ⟨q, q2, z⟩ | ⟨q, z⟩ <;> rw [z] at e <;> omega
      · rw [if_neg u0] at e
        have := b5 u0
        rcases dg27_4 t with ⟨q, z⟩ | ⟨q, q2, z⟩ | ⟨q, q2, z⟩ | ⟨q, z⟩ <;> rcases dg27_4 t2 with ⟨p, y⟩ | ⟨p, p2, y⟩ | ⟨p, p2, y⟩ | ⟨p, y⟩ <;> rw [z, y] at e <;> omega
  · rintro ⟨rfl, rfl⟩; rfl
section NAME
variable {f : Nat → Int}
theorem l27_1 : l27 f 1 = f 0 - 96 := by show 27 * (0 : Int) + (f 0 - 96) = _; omega
theorem l27_2 : l27 f 2 = 27 * (f 0 - 96) + (f 1 - 96) := by show 27 * l27 f 1 + (f 1 - 96) = _; rw [l27_1]
theorem l27_3 : l27 f 3 = 27 * (27 * (f 0 - 96) + (f 1 - 96)) + (f 2 - 96) := by show 27 * l27 f 2 + (f 2 - 96) = _; rw [l27_2]
theorem l27_4 : l27 f 4 = 27 * (27 * (27 * (f 0 - 96) + (f 1 - 96)) + (f 2 - 96)) + (f 3 - 96) := by show 27 * l27 f 3 + (f 3 - 96) = _; rw [l27_3]
theorem l27_r {m : Nat} (hm : m ≤ 4) (h : ∀ j, j < m → 97 ≤ f j ∧ f j ≤ 122) : (m = 0 ∧ l27 f m = 0) ∨ (m = 1 ∧ 1 ≤ l27 f m ∧ l27 f m < 27) ∨ (m = 2 ∧ 27 ≤ l27 f m ∧ l27 f m < 729) ∨ (m = 3 ∧ 729 ≤ l27 f m ∧ l27 f m < 19683) ∨ (m = 4 ∧ 19683 ≤ l27 f m ∧ l27 f m < 531441) := by
  match m, hm, h with
  | 0, _, _ => exact Or.inl ⟨rfl, rfl⟩
  | 1, _, h => have h0 := h 0 (by omega); rw [l27_1]; exact Or.inr (Or.inl ⟨rfl, by omega, by omega⟩)
  | 2, _, h => have h0 := h 0 (by omega); have h1 := h 1 (by omega); rw [l27_2]; exact Or.inr (Or.inr (Or.inl ⟨rfl, by omega, by omega⟩))
  | 3, _, h => have h0 := h 0 (by omega); have h1 := h 1 (by omega); have h2 := h 2 (by omega); rw [l27_3]; exact Or.inr (Or.inr (Or.inr (Or.inl ⟨rfl, by omega, by omega⟩)))
  | 4, _, h => have h0 := h 0 (by omega); have h1 := h 1 (by omega); have h2 := h 2 (by omega); have h3 := h 3 (by omega); rw [l27_4]; exact Or.inr (Or.inr (Or.inr (Or.inr ⟨rfl, by omega, by omega⟩)))
theorem l27_add {k : Nat} : ∀ m, l27 f (k + m) = l27 f k * 27 ^ m + l27 (fun j => f (k + j)) m
  | 0 => by show l27 f k = l27 f k * 1 + 0; omega
  | m + 1 => by
    show 27 * l27 f (k + m) + (f (k + m) - 96) = l27 f k * (27 ^ m * 27) + (27 * l27 (fun j => f (k + j)) m + (f (k + m) - 96))
    rw [l27_add m, ← Int.mul_assoc, Int.mul_add]
    omega
end NAME
theorem nm_parts {T : Tx} {q : Nat} (h8 : ln T q ≤ 8) (h0 : ln T q ≠ 0) : VN (nmH T q) (nmT T q) ∧ l27 (fT T q) (ln T q) = nm27 (nmH T q) (nmT T q) := by
  have hl : ∀ j, j < ln T q → 97 ≤ fT T q j ∧ fT T q j ≤ 122 := fun j hj => of_decide_eq_true ((rn_spec (T := T) hL q).1 j hj)
  unfold nmH nmT
  generalize ln T q = n at h8 h0 hl
  by_cases h4 : n ≤ 4
  · rw [Nat.min_eq_left h4, show n - 4 = 0 by omega]
    show VN (l27 (fT T q) n) 0 ∧ _ = nm27 _ 0
    have hr := l27_r h4 hl
    refine ⟨⟨by omega, by omega, by decide, by decide, fun z => absurd rfl z⟩, ?_⟩
    unfold nm27
    rw [if_pos rfl]
  · rw [Nat.min_eq_right (by omega)]
    have hA := l27_r (f := fT T q) (m := 4) (by omega) (fun j hj => hl j (by omega))
    have hB := l27_r (f := fT T (q + 4)) (m := n - 4) (by omega) (fun j hj => by
      have := hl (4 + j) (by omega)
      unfold fT at this ⊢
      rw [show q + 4 + j = q + (4 + j) by omega]; exact this)
    have e := l27_add (f := fT T q) (k := 4) (n - 4)
    rw [show 4 + (n - 4) = n by omega, show (fun j => fT T q (4 + j)) = fT T (q + 4) from funext fun j => by unfold fT; rw [show q + (4 + j) = q + 4 + j by omega]] at e
    rw [e]
    generalize l27 (fT T q) 4 = hh at hA
    generalize l27 (fT T (q + 4)) (n - 4) = tt at hB
    refine ⟨⟨by omega, by omega, by omega, by omega, fun _ => by omega⟩, ?_⟩
    unfold nm27
    rw [if_neg (by omega)]
    rcases hB with z | z | z | z | z
    · omega
    · rw [z.1, show dg27 tt = 27 from by rcases dg27_4 tt with y | y | y | y <;> omega]; rfl
    · rw [z.1, show dg27 tt = 729 from by rcases dg27_4 tt with y | y | y | y <;> omega]; rfl
    · rw [z.1, show dg27 tt = 19683 from by rcases dg27_4 tt with y | y | y | y <;> omega]; rfl
    · rw [z.1, show dg27 tt = 531441 from by rcases dg27_4 tt with y | y | y | y <;> omega]; rfl
/-- a row that is being read: nobody calls yet -/
def PInv (d : Nat → Int) : Prop := RB d ∧ RB2 d ∧ (∀ r : Nat, r < 4 → d (151 + 3 * r) = -1 ∧ d (152 + 3 * r) = 0 ∧ d (153 + 3 * r) = 0) ∧ (∀ k : Nat, k < 3 → d (163 + 2 * k) = -1 ∧ d (164 + 2 * k) = 0) ∧
  (∀ c : Nat, (c : Int) < d 5 → d (173 + 14 * c) = 0 ∧ d (174 + 14 * c) = -1 ∧ d (175 + 14 * c) = -1 ∧ d (178 + 14 * c) = 0 ∧ d (179 + 14 * c) = -1) ∧ (∀ x : Nat, x < 5 → d (53 + 9 * x) = 0 ∧ d (54 + 9 * x) = 0 ∧ d (55 + 9 * x) = 0 ∧ d (56 + 9 * x) = 0) ∧ d 23 = 0 ∧
  (∀ x : Nat, (x : Int) < d 3 → VN (d (57 + 9 * x)) (d (58 + 9 * x))) ∧ d 6 = 0
theorem PInv.inv {d : Nat → Int} (h : PInv d) : Inv d := by
  obtain ⟨h1, h2, h3, h4, h5, h6, h7, h8, h9⟩ := h
  refine ⟨h1, h2, fun r hr => Or.inl (h3 r hr), fun c hc => ?_, fun k hk => Or.inl (h4 k hk), fun k k2 hk _ _ hq => absurd (h4 k hk).1 hq⟩
  obtain ⟨a1, a2, a3, a4, a5⟩ := h5 c hc
  rw [a1, a5]
  exact ⟨by decide, fun z => absurd z (by decide), Or.inl ⟨rfl, by decide⟩⟩
theorem sm_zero {f : Nat → Int} : ∀ {n : Nat}, (∀ k, k < n → f k = 0) → sm f n = 0
  | 0, _ => rfl
  | n + 1, h => by
    show sm f n + f n = 0
    rw [sm_zero (fun k hk => h k (by omega)), h n (by omega)]
    rfl
theorem PInv.po {d : Nat → Int} (h : PInv d) : PO d := by
  obtain ⟨h1, h2, h3, h4, h5, h6, h7, h8, h9⟩ := h
  refine ⟨fun c hc _ => ⟨(h5 c hc).2.1, (h5 c hc).2.2.1⟩, ?_⟩
  have : sO d = 0 := sm_zero (fun x hx => by rw [(h6 x hx).1]; split <;> rfl)
  rw [this, h7]
  rfl
theorem PInv.kx {g : Mem} {e : Nat} {d : Nat → Int} (h : PInv d) (hR : RelX g e d) : KX g e d := ⟨hR, h.inv, h.po⟩
theorem row0_n {r m : Int} {j : Nat} (h : j ≠ 0 ∧ j ≠ 1 ∧ j ≠ 19 ∧ j ≠ 20 ∧ j ≠ 21) (h2 : j < 151 ∨ 167 < j ∨ (j = 152 ∨ j = 153 ∨ j = 155 ∨ j = 156 ∨ j = 158 ∨ j = 159 ∨ j = 161 ∨ j = 162 ∨ j = 164 ∨ j = 166)) : row0 r m j = 0 := by
  unfold row0
  rw [if_neg h.1, if_neg h.2.1, if_neg h.2.2.1, if_neg h.2.2.2.1, if_neg h.2.2.2.2, if_neg (by omega)]
theorem row0_m {r m : Int} {j : Nat} (h : j = 151 ∨ j = 154 ∨ j = 157 ∨ j = 160 ∨ j = 163 ∨ j = 165 ∨ j = 167) : row0 r m j = -1 := by
  unfold row0
  rw [if_neg (by omega), if_neg (by omega), if_neg (by omega), if_neg (by omega), if_neg (by omega), if_pos h]
theorem pinv_0 {r m : Int} (hr : 1 ≤ r ∧ r ≤ 4) (hm : 1 ≤ m ∧ m ≤ 3) : PInv (row0 r m) := by
  have e0 : row0 r m 0 = r := rfl
  have e1 : row0 r m 1 = m := rfl
  have z : ∀ j, (j ≠ 0 ∧ j ≠ 1 ∧ j ≠ 19 ∧ j ≠ 20 ∧ j ≠ 21) → (j < 151 ∨ 167 < j) → row0 r m j = 0 := fun j h h2 => row0_n h (by omega)
  have e2 : row0 r m 2 = 0 := rfl
  have e3 : row0 r m 3 = 0 := rfl
  have e4 : row0 r m 4 = 0 := rfl
  have e5 : row0 r m 5 = 0 := rfl
  refine ⟨⟨by rw [e0]; omega, by rw [e1]; omega, by rw [e2]; decide, by rw [e3]; decide, by rw [e4]; decide, by rw [e5]; decide, fun q hq => ?_, fun q j hq hj => ?_, fun x hx => ?_, fun c hc => ?_⟩, ⟨⟨by rw [e0]; omega, by rw [e1]; omega, show (1 : Int) ≤ 40 by decide, show (40 : Int) ≤ 40 by decide, show (1 : Int) ≤ 5 by decide, show (5 : Int) ≤ 20 by decide, show (1 : Int) ≤ 2 by decide, show (2 : Int) ≤ 9 by decide⟩, fun i hi => ?_, fun q hq => ?_, fun q j hq hj => ?_, fun c hc => ?_, fun x hx => ?_⟩, fun q hq => ?_, fun k hk => ?_, fun c hc => ?_, fun x hx => ?_, rfl, fun x hx => ?_, rfl⟩
  · rw [z _ (by omega) (by omega), z _ (by omega) (by omega)]; decide
  · rw [z _ (by omega) (by omega)] at hj; omega
  · rw [z _ (by omega) (by omega)]; decide
  · rw [z _ (by omega) (by omega), z _ (by omega) (by omega)]; decide
  · rw [e2] at hi; omega
  · rw [e4] at hq; omega
  · rw [e4] at hq; omega
  · rw [e5] at hc; omega
  · rw [e3] at hx; omega
  · exact ⟨row0_m (by omega), row0_n (by omega) (by omega), row0_n (by omega) (by omega)⟩
  · exact ⟨row0_m (by omega), row0_n (by omega) (by omega)⟩
  · rw [e5] at hc; omega
  · rw [z _ (by omega) (by omega), z _ (by omega) (by omega), z _ (by omega) (by omega), z _ (by omega) (by omega)]; exact ⟨rfl, rfl, rfl, rfl⟩
  · rw [e3] at hx; omega
