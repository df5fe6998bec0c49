/-! the class' Exchange at e and the row d -/
def enc (many value : Int) : Int := pw many.toNat + value
def dg27 (t : Int) : Int := if t < 27 then 27 else if t < 729 then 729 else if t < 19683 then 19683 else 531441
def nm27 (h t : Int) : Int := if t = 0 then h else h * dg27 t + t
def GrR (row : Nat → Int) (d : Nat → Int) (x : Nat) : Prop :=
  row 2 = d (50 + 9 * x) ∧ row 3 = d (51 + 9 * x) ∧ row 4 = d (53 + 9 * x) ∧ row 5 = d (54 + 9 * x) ∧ row 6 = d (55 + 9 * x) ∧ row 7 = d (56 + 9 * x) ∧ row 1 = nm27 (d (57 + 9 * x)) (d (58 + 9 * x))
def RtR (row ch : Nat → Int) (d : Nat → Int) (r : Nat) : Prop :=
  row 1 = enc (d (95 + 7 * r)) (d (96 + 7 * r)) ∧ row 2 = d (97 + 7 * r) ∧ row 3 = d (98 + 7 * r) ∧ ∀ j : Nat, (j : Int) < d (98 + 7 * r) → ch j = d (99 + 7 * r + j)
def RgR (row : Nat → Int) (d : Nat → Int) (r : Nat) : Prop :=
  row 1 = d (151 + 3 * r) ∧ row 3 = d (153 + 3 * r) ∧ row 2 = (if d (151 + 3 * r) = -1 then 1 else enc (d (152 + 3 * r)) (s_dv d (d (151 + 3 * r)).toNat (d (152 + 3 * r)).toNat))
def MkR (row : Nat → Int) (d : Nat → Int) (k : Nat) : Prop := row 1 = d (163 + 2 * k) ∧ row 2 = d (164 + 2 * k)
def ClR (row : Nat → Int) (d : Nat → Int) (c : Nat) : Prop :=
  if (c : Int) < d 5 then row 1 = d (173 + 14 * c) ∧ row 2 = d (169 + 14 * c) ∧ row 3 = enc (d (170 + 14 * c)) (d (180 + 14 * c)) ∧ row 4 = d (171 + 14 * c) ∧ row 5 = d (172 + 14 * c) ∧ row 6 = d (182 + 14 * c) ∧ row 7 = d (181 + 14 * c) ∧ row 8 = d (174 + 14 * c) ∧ row 9 = d (175 + 14 * c) ∧ row 10 = d (176 + 14 * c) ∧ row 11 = d (177 + 14 * c) ∧ row 12 = d (178 + 14 * c)
  else row 1 = -1
def ScR (row : Nat → Int) (d : Nat → Int) : Prop :=
  row 0 = d 0 ∧ row 1 = d 1 ∧ row 2 = d 2 ∧ row 3 = d 3 ∧ row 4 = d 4 ∧ row 5 = d 5 ∧ row 6 = d 6 ∧ row 7 = d 19 ∧ row 8 = d 20 ∧ row 9 = d 21 ∧ row 10 = d 24 ∧ row 11 = d 25
def RelX (g : Mem) (e : Nat) (d : Nat → Int) : Prop :=
  ExI g e ∧ ScR (g e) d ∧ (∀ i : Nat, (i : Int) < d 2 → g (e + 1) i = enc (d (26 + 2 * i)) (d (27 + 2 * i))) ∧ (∀ x : Nat, (x : Int) < d 3 → GrR (g (e + 3 + x)) d x) ∧ (∀ r : Nat, (r : Int) < d 4 → RtR (g (e + 9 + 2 * r)) (g (e + 10 + 2 * r)) d r) ∧
  (∀ r : Nat, r < 4 → RgR (g (e + 26 + r)) d r) ∧ (∀ k : Nat, k < 3 → MkR (g (e + 31 + k)) d k) ∧ ∀ c : Nat, c < 40 → ClR (g (e + 35 + c)) d c
/-- nothing but the Exchange at e has changed -/
def Fr (g g' : Mem) (e : Nat) : Prop := ∀ a, a < e ∨ e + 75 ≤ a → g' a = g a
theorem Fr.rf {g : Mem} {e : Nat} : Fr g g e := fun _ _ => rfl
theorem Fr.tr {g g1 g2 : Mem} {e : Nat} (h : Fr g g1 e) (h2 : Fr g1 g2 e) : Fr g g2 e := fun a ha => (h2 a ha).trans (h a ha)
theorem Fr.up {g g1 : Mem} {e a k : Nat} {x : Int} (h : Fr g g1 e) (h1 : e ≤ a) (h2 : a < e + 75) : Fr g (up2 g1 a k x) e := fun b hb => by
  rw [← h b hb]
  funext j
  exact up2_a (by omega)
section RX
variable {g : Mem} {e : Nat} {d : Nat → Int}
theorem RelX.sc (h : RelX g e d) : ScR (g e) d := h.2.1
theorem RelX.ix (h : RelX g e d) : ExI g e := h.1
theorem RelX.cl (h : RelX g e d) {c : Nat} (hc : c < 40) : ClR (g (e + 35 + c)) d c := h.2.2.2.2.2.2.2 c hc
theorem RelX.st (h : RelX g e d) {c : Nat} (hc : c < 40) : g (e + 35 + c) 1 = if (c : Int) < d 5 then d (173 + 14 * c) else -1 := by
  have h1 := h.cl hc
  unfold ClR at h1
  split at h1
  · next q => rw [if_pos q]; exact h1.1
  · next q => rw [if_neg q]; exact h1
theorem RelX.told (h : RelX g e d) {c : Nat} (hc : c < 40) (h5 : (c : Int) < d 5) : g (e + 35 + c) 1 = d (173 + 14 * c) ∧ g (e + 35 + c) 2 = d (169 + 14 * c) ∧ g (e + 35 + c) 3 = enc (d (170 + 14 * c)) (d (180 + 14 * c)) ∧ g (e + 35 + c) 4 = d (171 + 14 * c) ∧ g (e + 35 + c) 5 = d (172 + 14 * c) ∧ g (e + 35 + c) 6 = d (182 + 14 * c) ∧ g (e + 35 + c) 7 = d (181 + 14 * c) ∧ g (e + 35 + c) 8 = d (174 + 14 * c) ∧ g (e + 35 + c) 9 = d (175 + 14 * c) ∧ g (e + 35 + c) 10 = d (176 + 14 * c) ∧ g (e + 35 + c) 11 = d (177 + 14 * c) ∧ g (e + 35 + c) 12 = d (178 + 14 * c) := by
  have h1 := h.cl hc
  unfold ClR at h1
  rw [if_pos h5] at h1
  exact h1
theorem rel_callTo (h : RelX g e d) (x : Int) : x_callTo g e x = s_callTo d x := fst_cong (fun c hc => by
  have h1 := h.st hc
  by_cases h5 : (c : Int) < d 5
  · have h2 := h.told hc h5
    rw [h2.1, h2.2.2.2.2.2.2.2.1, decide_eq_true h5, Bool.true_and, Bool.and_comm]
  · rw [if_neg h5] at h1
    rw [h1, decide_eq_false h5]; rfl)
theorem rel_callFrom (h : RelX g e d) (x : Int) : x_callFrom g e x = s_callBy d x := fst_cong (fun c hc => by
  have h1 := h.st hc
  by_cases h5 : (c : Int) < d 5
  · have h2 := h.told hc h5
    rw [h2.1, h2.2.1, decide_eq_true h5, Bool.true_and]
    cases decide (1 ≤ d (173 + 14 * c)) <;> cases decide (d (173 + 14 * c) ≤ 5) <;> cases decide (d (169 + 14 * c) = x) <;> rfl
  · rw [if_neg h5] at h1
    rw [h1, decide_eq_false h5]; rfl)
theorem rel_isBusy (h : RelX g e d) (x : Int) : x_isBusy g e x = s_isBusy d x := by
  unfold x_isBusy s_isBusy
  rw [rel_callTo h, rel_callFrom h]
theorem rel_countIn (h : RelX g e d) {x : Int} (hx : x ≠ -1) : x_countIn g e x = s_cnt d x := cnt_cong (fun c hc => by
  have h1 := h.st hc
  by_cases h5 : (c : Int) < d 5
  · rw [if_pos h5] at h1
    rw [h1, decide_eq_true h5, Bool.true_and]
  · rw [if_neg h5] at h1
    rw [h1, decide_eq_false h5, Bool.false_and]
    exact decide_eq_false (fun q => hx q.symm))
theorem rel_busyTrunks (h : RelX g e d) (x : Int) : x_busyTrunks g e x = s_busyTrunks d x := cnt_cong (fun c hc => by
  have h1 := h.st hc
  by_cases h5 : (c : Int) < d 5
  · have h2 := h.told hc h5
    rw [h2.1, h2.2.2.2.2.2.2.2.2.1, decide_eq_true h5, Bool.true_and]
  · rw [if_neg h5] at h1
    rw [h1, decide_eq_false h5]; rfl)
theorem rel_fw (h : RelX g e d) {x : Int} (hx : x ≠ -1) : ∀ n, n ≤ 40 → x_fwF g e x n = if s_fwF d x n = -1 then none else some (s_fwF d x n).toNat
  | 0, _ => rfl
  | n + 1, hn => by
    have ih := rel_fw h hx n (by omega)
    have hr := s_fwF_rng d x n
    rw [x_fwF_s, ih, h.st (c := n) (by omega)]
    by_cases h5 : (n : Int) < d 5
    · have h2 := h.told (c := n) (by omega) h5
      rw [if_pos h5]
      by_cases hs : d (173 + 14 * n) = x
      · rw [if_pos hs]
        by_cases hb : s_fwF d x n = -1
        · have hv : s_fwF d x (n + 1) = n := by rw [s_fwF_s, if_pos ⟨h5, hs, Or.inl hb⟩]
          rw [if_pos hb, hv, if_neg (by omega), Int.toNat_natCast]
        · rw [if_neg hb]
          have hb2 : (s_fwF d x n).toNat < 40 := by omega
          have h3 := h.told (c := (s_fwF d x n).toNat) hb2 (by omega)
          show (if g (e + 35 + n) 7 < g (e + 35 + (s_fwF d x n).toNat) 7 then some n else some (s_fwF d x n).toNat) = _
          rw [h2.2.2.2.2.2.2.1, h3.2.2.2.2.2.2.1]
          by_cases hlt : d (181 + 14 * n) < d (181 + 14 * (s_fwF d x n).toNat)
          · have hv : s_fwF d x (n + 1) = n := by rw [s_fwF_s, if_pos ⟨h5, hs, Or.inr hlt⟩]
            rw [if_pos hlt, hv, if_neg (by omega), Int.toNat_natCast]
          · have hv : s_fwF d x (n + 1) = s_fwF d x n := by rw [s_fwF_s, if_neg (fun q => by rcases q.2.2 with q | q; exact hb q; exact hlt q)]
            rw [if_neg hlt, hv, if_neg hb]
      · have hv : s_fwF d x (n + 1) = s_fwF d x n := by rw [s_fwF_s, if_neg (fun q => hs q.2.1)]
        rw [if_neg hs, hv]
    · have hv : s_fwF d x (n + 1) = s_fwF d x n := by rw [s_fwF_s, if_neg (fun q => h5 q.1)]
      rw [if_neg h5, if_neg (fun q => hx q.symm), hv]
theorem rel_firstWaiting (h : RelX g e d) {x : Int} (hx : x ≠ -1) : x_firstWaiting g e x = if s_foremost d x = -1 then none else some (s_foremost d x).toNat := rel_fw h hx 40 (by omega)
theorem rel_registerOf (h : RelX g e d) (hI : Inv d) {c : Nat} (hc : (c : Int) < d 5) : x_registerOf g e (c : Int) = d (179 + 14 * c) := by
  have hrg : ∀ r : Nat, r < 4 → g (e + 26 + r) 1 = d (151 + 3 * r) := fun r hr => (h.2.2.2.2.2.1 r hr).1
  rcases (hI.2.2.2.1 c hc).2.2 with q | ⟨r, a1, a2, a3⟩
  · rw [q.1]
    refine fst_none (fun r hr => decide_eq_false (fun q2 => ?_))
    rw [hrg r hr] at q2
    exact (hI.nowhere q.2).1 r hr q2
  · rw [a2]
    refine fst_hit a1 (fun r' hr' => decide_eq_false (fun q2 => ?_)) (decide_eq_true (by rw [hrg r a1]; exact a3))
    rw [hrg r' (by omega)] at q2
    rcases hI.2.2.1 r' (by omega) with q | ⟨c2, b1, b2⟩
    · omega
    · have : c2 = c := by omega
      subst this
      have := b2.2.2.1
      omega
end RX
theorem pw_s (n : Nat) : pw (n + 1) = pw n * 10 := rfl
theorem enc_inj {a b : Nat} {x y : Int} (hx : 0 ≤ x) (hx2 : x < pw a) (hy : 0 ≤ y) (hy2 : y < pw b) (h : pw a + x = pw b + y) : a = b ∧ x = y := by
  have hab : a = b := by
    rcases Nat.lt_trichotomy a b with q | q | q
    · have := pw_le (show a + 1 ≤ b by omega); rw [pw_s] at this; have := pw_pos a; omega
    · exact q
    · have := pw_le (show b + 1 ≤ a by omega); rw [pw_s] at this; have := pw_pos b; omega
  subst hab
  exact ⟨rfl, by omega⟩
theorem enc_lt {a : Nat} {x : Int} (hx2 : x < pw a) (ha : a ≤ 6) : pw a + x < 2000000 := by
  have := pw_le ha
  have e6 : pw 6 = 1000000 := rfl
  omega
theorem enc_div {a : Nat} {x : Int} : (pw (a + 1) + x) / 10 = pw a + x / 10 := by
  rw [pw_s]; omega
theorem enc_ge {a : Nat} {x : Int} (hx : 0 ≤ x) : 10 ≤ pw (a + 1) + x := by
  have := pw_pos a; rw [pw_s]; omega
theorem r_len_enc : ∀ (n a : Nat) (x : Int), a < n → 0 ≤ x → x < pw a → r_len n (pw a + x) = a
  | 0, a, x, h, _, _ => by omega
  | n + 1, 0, x, _, h1, h2 => by
    have : pw 0 = 1 := rfl
    unfold r_len
    rw [if_pos (by omega)]
  | n + 1, a + 1, x, h, h1, h2 => by
    unfold r_len
    have := enc_ge (a := a) h1
    rw [if_neg (by omega), enc_div, r_len_enc n a (x / 10) (by omega) (by omega) (by rw [pw_s] at h2; omega)]
theorem x_len_enc {a : Nat} {x : Int} (ha : a ≤ 6) (h1 : 0 ≤ x) (h2 : x < pw a) : x_len (pw a + x) = a := r_len_enc 8 a x (by omega) h1 h2
theorem rel_lineWith {g : Mem} {e : Nat} {d : Nat → Int} (h : RelX g e d) (hb2 : RB2 d) {many : Nat} {v : Int} (h1 : 0 ≤ v) (h2 : v < pw many) : x_lineWith g e (pw many + v) = s_lineOf d many v := fst_cong (fun i hi => by
  rw [h.sc.2.2.1]
  by_cases hq : (i : Int) < d 2
  · obtain ⟨b1, b2, b3, b4⟩ := hb2.2.1 i hq
    rw [decide_eq_true hq, Bool.true_and, Bool.true_and, h.2.2.1 i hq]
    unfold enc
    by_cases hm : d (26 + 2 * i) = (many : Int) ∧ d (27 + 2 * i) = v
    · rw [hm.1, hm.2, Int.toNat_natCast, decide_eq_true rfl, decide_eq_true rfl, decide_eq_true rfl]; rfl
    · have : ¬ pw (d (26 + 2 * i)).toNat + d (27 + 2 * i) = pw many + v := fun q => by
        obtain ⟨c1, c2⟩ := enc_inj b3 b4 h1 h2 q
        exact hm ⟨by omega, c2⟩
      rw [decide_eq_false this]
      symm
      by_cases hm1 : d (26 + 2 * i) = (many : Int)
      · rw [decide_eq_false (fun q => hm ⟨hm1, q⟩), Bool.and_false]
      · rw [decide_eq_false hm1, Bool.false_and]
  · rw [decide_eq_false hq]; rfl)
