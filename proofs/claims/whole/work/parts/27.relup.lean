/-! a change of the Exchange and the same change of the row -/
def fre (i : Nat) : Prop := i = 23 ∨ (169 ≤ i ∧ (i - 169) % 14 = 10)
theorem GrR.cong {row d d' : Nat → Int} {x : Nat} (h : GrR row d x) (hd : ∀ i, 50 + 9 * x ≤ i → i < 59 + 9 * x → d' i = d i) : GrR row d' x := by
  unfold GrR
  rw [hd (50 + 9 * x) (by omega) (by omega), hd (51 + 9 * x) (by omega) (by omega), hd (53 + 9 * x) (by omega) (by omega), hd (54 + 9 * x) (by omega) (by omega), hd (55 + 9 * x) (by omega) (by omega), hd (56 + 9 * x) (by omega) (by omega), hd (57 + 9 * x) (by omega) (by omega), hd (58 + 9 * x) (by omega) (by omega)]
  exact h
theorem RgR.cong {row d d' : Nat → Int} {r : Nat} (h : RgR row d r) (hS : Sta d d') (hd : ∀ i, 151 + 3 * r ≤ i → i < 154 + 3 * r → d' i = d i) : RgR row d' r := by
  unfold RgR
  rw [hd (151 + 3 * r) (by omega) (by omega), hd (152 + 3 * r) (by omega) (by omega), hd (153 + 3 * r) (by omega) (by omega), dv_sta hS]
  exact h
theorem MkR.cong {row d d' : Nat → Int} {k : Nat} (h : MkR row d k) (hd : ∀ i, 163 + 2 * k ≤ i → i < 165 + 2 * k → d' i = d i) : MkR row d' k := by
  unfold MkR
  rw [hd (163 + 2 * k) (by omega) (by omega), hd (164 + 2 * k) (by omega) (by omega)]
  exact h
theorem ClR.cong {row d d' : Nat → Int} {c : Nat} (h : ClR row d c) (h5 : d' 5 = d 5) (hd : ∀ i, 169 + 14 * c ≤ i → i < 183 + 14 * c → i ≠ 179 + 14 * c → d' i = d i) : ClR row d' c := by
  unfold ClR
  rw [h5, hd (169 + 14 * c) (by omega) (by omega) (by omega), hd (170 + 14 * c) (by omega) (by omega) (by omega), hd (171 + 14 * c) (by omega) (by omega) (by omega), hd (172 + 14 * c) (by omega) (by omega) (by omega), hd (173 + 14 * c) (by omega) (by omega) (by omega), hd (174 + 14 * c) (by omega) (by omega) (by omega), hd (175 + 14 * c) (by omega) (by omega) (by omega), hd (176 + 14 * c) (by omega) (by omega) (by omega), hd (177 + 14 * c) (by omega) (by omega) (by omega), hd (178 + 14 * c) (by omega) (by omega) (by omega), hd (180 + 14 * c) (by omega) (by omega) (by omega), hd (181 + 14 * c) (by omega) (by omega) (by omega), hd (182 + 14 * c) (by omega) (by omega) (by omega)]
  exact h
def ClT (row : Nat → Int) (d : Nat → Int) (c : Nat) : Prop := row 1 = d (173 + 14 * c) ∧ row 2 = d (169 + 14 * c) ∧ row 3 = enc (d (170 + 14 * c)) (d (180 + 14 * c)) ∧ row 4 = d (171 + 14 * c) ∧ row 5 = d (172 + 14 * c) ∧ row 6 = d (182 + 14 * c) ∧ row 7 = d (181 + 14 * c) ∧ row 8 = d (174 + 14 * c) ∧ row 9 = d (175 + 14 * c) ∧ row 10 = d (176 + 14 * c) ∧ row 11 = d (177 + 14 * c) ∧ row 12 = d (178 + 14 * c)
theorem RelX.tl {g : Mem} {e : Nat} {d : Nat → Int} (h : RelX g e d) {c : Nat} (hc : c < 40) (h5 : (c : Int) < d 5) : ClT (g (e + 35 + c)) d c := h.told hc h5
theorem ClT.cl {row d : Nat → Int} {c : Nat} (h : ClT row d c) (h5 : (c : Int) < d 5) : ClR row d c := by
  unfold ClR
  rw [if_pos h5]
  exact h
section RS
variable {g g' : Mem} {e : Nat} {d d' : Nat → Int}
theorem RelX.step (h : RelX g e d) (hb : RB d) (hS : Sta d d') (hx : ∀ a, e + 3 ≤ a → g' a 0 = g a 0) (hfix : ∀ a, (a = e + 1 ∨ (e + 9 ≤ a ∧ a < e + 25)) → g' a = g a) (hsc : ScR (g' e) d')
    (hgr : ∀ x : Nat, x < 5 → (x : Int) < d 3 → GrR (g' (e + 3 + x)) d' x) (hrg : ∀ r : Nat, r < 4 → RgR (g' (e + 26 + r)) d' r) (hmk : ∀ k : Nat, k < 3 → MkR (g' (e + 31 + k)) d' k) (hcl : ∀ c : Nat, c < 40 → ClR (g' (e + 35 + c)) d' c) : RelX g' e d' := by
  obtain ⟨⟨i1, i2, i3, i4, i5⟩, s1, s2, s3, s4, s5, s6, s7⟩ := h
  obtain ⟨b0, b1, b2, b3, b4, b5, br, bj, bx, bc⟩ := hb
  have k2 : d' 2 = d 2 := hS 2 (Or.inl (by decide))
  have k3 : d' 3 = d 3 := hS 3 (Or.inl (by decide))
  have k4 : d' 4 = d 4 := hS 4 (Or.inl (by decide))
  refine ⟨⟨fun i hi => ?_, fun i hi => ?_, fun i hi => ?_, fun i hi => ?_, fun i hi => ?_⟩, hsc, fun i hi => ?_, fun x hx3 => ?_, fun r hr => ?_, hrg, hmk, hcl⟩
  · rw [hx _ (by omega)]; exact i1 i hi
  · rw [hx _ (by omega)]; exact i2 i hi
  · rw [hx _ (by omega)]; exact i3 i hi
  · rw [hx _ (by omega)]; exact i4 i hi
  · rw [hx _ (by omega)]; exact i5 i hi
  · rw [k2] at hi
    rw [hfix _ (Or.inl rfl), hS (26 + 2 * i) (by unfold kpI; omega), hS (27 + 2 * i) (by unfold kpI; omega)]
    exact s2 i hi
  · rw [k3] at hx3
    exact hgr x (by omega) hx3
  · rw [k4] at hr
    rw [hfix (e + 9 + 2 * r) (Or.inr (by omega)), hfix (e + 10 + 2 * r) (Or.inr (by omega))]
    obtain ⟨t1, t2, t3, t4⟩ := s4 r hr
    have := br r (by omega)
    refine ⟨?_, ?_, ?_, fun j hj => ?_⟩
    · rw [hS (95 + 7 * r) (by unfold kpI; omega), hS (96 + 7 * r) (by unfold kpI; omega)]; exact t1
    · rw [hS (97 + 7 * r) (by unfold kpI; omega)]; exact t2
    · rw [hS (98 + 7 * r) (by unfold kpI; omega)]; exact t3
    · rw [hS (98 + 7 * r) (by unfold kpI; omega)] at hj
      rw [hS (99 + 7 * r + j) (by unfold kpI; omega)]; exact t4 j hj
theorem RelX.call (h : RelX g e d) (hb : RB d) (hS : Sta d d') {c : Nat} (h5 : (c : Int) < d 5) (hg : ∀ a, a ≠ e + 35 + c → g' a = g a) (hi : g' (e + 35 + c) 0 = g (e + 35 + c) 0)
    (hd : ∀ i, ¬ (169 + 14 * c ≤ i ∧ i < 183 + 14 * c) → ¬ fre i → d' i = d i) (hcl : ClT (g' (e + 35 + c)) d' c) : RelX g' e d' := by
  have hc : c < 40 := by have := hb.2.2.2.2.2.1; omega
  have k5 : d' 5 = d 5 := hS 5 (Or.inl (by decide))
  refine h.step hb hS (fun a ha => ?_) (fun a ha => hg a (by omega)) ?_ (fun x hx5 hx => ?_) (fun r hr => ?_) (fun k hk => ?_) (fun c2 hc2 => ?_)
  · by_cases q : a = e + 35 + c
    · rw [q]; exact hi
    · rw [hg a q]
  · rw [hg e (by omega)]
    unfold ScR
    rw [hd 0 (by omega) (by unfold fre; omega), hd 1 (by omega) (by unfold fre; omega), hd 2 (by omega) (by unfold fre; omega), hd 3 (by omega) (by unfold fre; omega), hd 4 (by omega) (by unfold fre; omega), k5, hd 6 (by omega) (by unfold fre; omega), hd 19 (by omega) (by unfold fre; omega), hd 20 (by omega) (by unfold fre; omega), hd 21 (by omega) (by unfold fre; omega), hd 24 (by omega) (by unfold fre; omega), hd 25 (by omega) (by unfold fre; omega)]
    exact h.2.1
  · rw [hg _ (by omega)]
    exact (h.2.2.2.1 x hx).cong (fun i h1 h2 => hd i (by omega) (by unfold fre; omega))
  · rw [hg _ (by omega)]
    exact (h.2.2.2.2.2.1 r hr).cong hS (fun i h1 h2 => hd i (by omega) (by unfold fre; omega))
  · rw [hg _ (by omega)]
    exact (h.2.2.2.2.2.2.1 k hk).cong (fun i h1 h2 => hd i (by omega) (by unfold fre; omega))
  · by_cases q : c2 = c
    · subst q
      exact hcl.cl (by rw [k5]; exact h5)
    · rw [hg _ (by omega)]
      exact (h.cl hc2).cong k5 (fun i h1 h2 h3 => hd i (by omega) (by unfold fre; omega))
theorem RelX.scal (h : RelX g e d) (hb : RB d) (hS : Sta d d') (hg : ∀ a, a ≠ e → g' a = g a) (hd : ∀ i, 26 ≤ i → ¬ fre i → d' i = d i) (hs : ScR (g' e) d') : RelX g' e d' := by
  have k5 : d' 5 = d 5 := hS 5 (Or.inl (by decide))
  refine h.step hb hS (fun a ha => by rw [hg a (by omega)]) (fun a ha => hg a (by omega)) hs (fun x hx5 hx => ?_) (fun r hr => ?_) (fun k hk => ?_) (fun c2 hc2 => ?_)
  · rw [hg _ (by omega)]
    exact (h.2.2.2.1 x hx).cong (fun i h1 h2 => hd i (by omega) (by unfold fre; omega))
  · rw [hg _ (by omega)]
    exact (h.2.2.2.2.2.1 r hr).cong hS (fun i h1 h2 => hd i (by omega) (by unfold fre; omega))
  · rw [hg _ (by omega)]
    exact (h.2.2.2.2.2.2.1 k hk).cong (fun i h1 h2 => hd i (by omega) (by unfold fre; omega))
  · rw [hg _ (by omega)]
    exact (h.cl hc2).cong k5 (fun i h1 h2 h3 => hd i (by omega) (by unfold fre; omega))
theorem ScR.cong {row : Nat → Int} (h : ScR row d) (hd : ∀ i, i < 26 → i ≠ 23 → d' i = d i) : ScR row d' := by
  unfold ScR
  rw [hd 0 (by omega) (by omega), hd 1 (by omega) (by omega), hd 2 (by omega) (by omega), hd 3 (by omega) (by omega), hd 4 (by omega) (by omega), hd 5 (by omega) (by omega), hd 6 (by omega) (by omega), hd 19 (by omega) (by omega), hd 20 (by omega) (by omega), hd 21 (by omega) (by omega), hd 24 (by omega) (by omega), hd 25 (by omega) (by omega)]
  exact h
theorem RelX.reg (h : RelX g e d) (hb : RB d) (hS : Sta d d') {r : Nat} (hr4 : r < 4) (hg : ∀ a, a ≠ e + 26 + r → g' a = g a) (hi : g' (e + 26 + r) 0 = g (e + 26 + r) 0)
    (hd : ∀ i, ¬ (151 + 3 * r ≤ i ∧ i < 154 + 3 * r) → ¬ fre i → d' i = d i) (hrg : RgR (g' (e + 26 + r)) d' r) : RelX g' e d' := by
  have k5 : d' 5 = d 5 := hS 5 (Or.inl (by decide))
  refine h.step hb hS (fun a ha => ?_) (fun a ha => hg a (by omega)) ?_ (fun x hx5 hx => ?_) (fun r2 hr2 => ?_) (fun k hk => ?_) (fun c2 hc2 => ?_)
  · by_cases q : a = e + 26 + r
    · rw [q]; exact hi
    · rw [hg a q]
  · rw [hg e (by omega)]
    exact h.2.1.cong (fun i h1 h2 => hd i (by omega) (by unfold fre; omega))
  · rw [hg _ (by omega)]
    exact (h.2.2.2.1 x hx).cong (fun i h1 h2 => hd i (by omega) (by unfold fre; omega))
  · by_cases q : r2 = r
    · subst q; exact hrg
    · rw [hg _ (by omega)]
      exact (h.2.2.2.2.2.1 r2 hr2).cong hS (fun i h1 h2 => hd i (by omega) (by unfold fre; omega))
  · rw [hg _ (by omega)]
    exact (h.2.2.2.2.2.2.1 k hk).cong (fun i h1 h2 => hd i (by omega) (by unfold fre; omega))
  · rw [hg _ (by omega)]
    exact (h.cl hc2).cong k5 (fun i h1 h2 h3 => hd i (by omega) (by unfold fre; omega))
theorem RelX.mark (h : RelX g e d) (hb : RB d) (hS : Sta d d') {k : Nat} (hk3 : k < 3) (hg : ∀ a, a ≠ e + 31 + k → g' a = g a) (hi : g' (e + 31 + k) 0 = g (e + 31 + k) 0)
    (hd : ∀ i, ¬ (163 + 2 * k ≤ i ∧ i < 165 + 2 * k) → ¬ fre i → d' i = d i) (hmk : MkR (g' (e + 31 + k)) d' k) : RelX g' e d' := by
  have k5 : d' 5 = d 5 := hS 5 (Or.inl (by decide))
  refine h.step hb hS (fun a ha => ?_) (fun a ha => hg a (by omega)) ?_ (fun x hx5 hx => ?_) (fun r2 hr2 => ?_) (fun k2 hk2 => ?_) (fun c2 hc2 => ?_)
  · by_cases q : a = e + 31 + k
    · rw [q]; exact hi
    · rw [hg a q]
  · rw [hg e (by omega)]
    exact h.2.1.cong (fun i h1 h2 => hd i (by omega) (by unfold fre; omega))
  · rw [hg _ (by omega)]
    exact (h.2.2.2.1 x hx).cong (fun i h1 h2 => hd i (by omega) (by unfold fre; omega))
  · rw [hg _ (by omega)]
    exact (h.2.2.2.2.2.1 r2 hr2).cong hS (fun i h1 h2 => hd i (by omega) (by unfold fre; omega))
  · by_cases q : k2 = k
    · subst q; exact hmk
    · rw [hg _ (by omega)]
      exact (h.2.2.2.2.2.2.1 k2 hk2).cong (fun i h1 h2 => hd i (by omega) (by unfold fre; omega))
  · rw [hg _ (by omega)]
    exact (h.cl hc2).cong k5 (fun i h1 h2 h3 => hd i (by omega) (by unfold fre; omega))
theorem RelX.grp (h : RelX g e d) (hb : RB d) (hS : Sta d d') {x : Nat} (hx5 : x < 5) (hg : ∀ a, a ≠ e + 3 + x → g' a = g a) (hi : g' (e + 3 + x) 0 = g (e + 3 + x) 0)
    (hd : ∀ i, ¬ (50 + 9 * x ≤ i ∧ i < 59 + 9 * x) → ¬ fre i → d' i = d i) (hgr : (x : Int) < d 3 → GrR (g' (e + 3 + x)) d' x) : RelX g' e d' := by
  have k5 : d' 5 = d 5 := hS 5 (Or.inl (by decide))
  refine h.step hb hS (fun a ha => ?_) (fun a ha => hg a (by omega)) ?_ (fun x2 hx5 hx => ?_) (fun r2 hr2 => ?_) (fun k2 hk2 => ?_) (fun c2 hc2 => ?_)
  · by_cases q : a = e + 3 + x
    · rw [q]; exact hi
    · rw [hg a q]
  · rw [hg e (by omega)]
    exact h.2.1.cong (fun i h1 h2 => hd i (by omega) (by unfold fre; omega))
  · by_cases q : x2 = x
    · subst q; exact hgr hx
    · rw [hg _ (by omega)]
      exact (h.2.2.2.1 x2 hx).cong (fun i h1 h2 => hd i (by omega) (by unfold fre; omega))
  · rw [hg _ (by omega)]
    exact (h.2.2.2.2.2.1 r2 hr2).cong hS (fun i h1 h2 => hd i (by omega) (by unfold fre; omega))
  · rw [hg _ (by omega)]
    exact (h.2.2.2.2.2.2.1 k2 hk2).cong (fun i h1 h2 => hd i (by omega) (by unfold fre; omega))
  · rw [hg _ (by omega)]
    exact (h.cl hc2).cong k5 (fun i h1 h2 h3 => hd i (by omega) (by unfold fre; omega))
end RS
