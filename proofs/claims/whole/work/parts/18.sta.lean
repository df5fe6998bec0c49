/-! the numbers that a tick leaves alone -/
def kpI (i : Nat) : Prop := i < 6 ∨ (7 ≤ i ∧ i < 23) ∨ (26 ≤ i ∧ i < 50) ∨ (50 ≤ i ∧ i < 95 ∧ ((i - 50) % 9 < 3 ∨ 7 ≤ (i - 50) % 9)) ∨ (95 ≤ i ∧ i < 151) ∨ (169 ≤ i ∧ ((i - 169) % 14 < 4 ∨ (i - 169) % 14 = 11))
def Sta (d e : Nat → Int) : Prop := ∀ i, kpI i → e i = d i
theorem Sta.rf {d : Nat → Int} : Sta d d := fun _ _ => rfl
theorem Sta.tr {d e f : Nat → Int} (h : Sta d e) (h2 : Sta e f) : Sta d f := fun i hi => (h2 i hi).trans (h i hi)
theorem Sta.ud {d e : Nat → Int} {i : Nat} {x : Int} (h : Sta d e) (hi : ¬ kpI i) : Sta d (ud e i x) := fun j hj => (ud_n (fun q => hi (by rw [← q]; exact hj))).trans (h j hj)
theorem kp_call {c k : Nat} (hk : 4 ≤ k) (hk2 : k < 14) (h11 : k ≠ 11) : ¬ kpI (169 + k + 14 * c) := by unfold kpI; omega
theorem kp_grp {x k : Nat} (hx : x < 5) (hk : 3 ≤ k) (hk2 : k < 7) : ¬ kpI (50 + 9 * x + k) := by unfold kpI; omega
theorem kp_23 : ¬ kpI 23 ∧ ¬ kpI 24 ∧ ¬ kpI 25 ∧ ¬ kpI 6 := by unfold kpI; omega
theorem kp_reg {i : Nat} (h : 151 ≤ i) (h2 : i < 169) : ¬ kpI i := by unfold kpI; omega
theorem sta_isOver {d e : Nat → Int} {c : Nat} {y : Int} (h : Sta d e) : Sta d (s_isOver e c y) :=
  ((h.ud (kp_call (k := 4) (by omega) (by omega) (by omega))).ud (kp_call (k := 8) (by omega) (by omega) (by omega))).ud (kp_call (k := 9) (by omega) (by omega) (by omega))
theorem sta_waits {d e : Nat → Int} {c : Nat} {y : Int} (h : Sta d e) : Sta d (s_waits e c y) :=
  ((h.ud (kp_call (k := 4) (by omega) (by omega) (by omega))).ud kp_23.2.2.1).ud (kp_call (k := 12) (by omega) (by omega) (by omega))
theorem sta_comes {d e : Nat → Int} {c : Nat} (h : Sta d e) : Sta d (s_comes e c) := by
  unfold s_comes
  split
  · exact sta_isOver (h.ud (kp_call (k := 13) (by omega) (by omega) (by omega)))
  · exact sta_waits (h.ud (kp_call (k := 13) (by omega) (by omega) (by omega)))
theorem sta_talks {d e : Nat → Int} {c : Nat} {y z : Int} (h : Sta d e) : Sta d (s_talks e c y z) :=
  ((((h.ud (kp_call (k := 4) (by omega) (by omega) (by omega))).ud (kp_call (k := 5) (by omega) (by omega) (by omega))).ud (kp_call (k := 6) (by omega) (by omega) (by omega))).ud (kp_call (k := 7) (by omega) (by omega) (by omega))).ud (kp_call (k := 9) (by omega) (by omega) (by omega))
theorem sta_freeReg {d e : Nat → Int} {c : Nat} (h : Sta d e) (hr : (e (179 + 14 * c)).toNat < 4) : Sta d (s_freeReg e c) := by
  unfold s_freeReg
  split
  · exact h
  · exact (((h.ud (kp_reg (by omega) (by omega))).ud (kp_reg (by omega) (by omega))).ud (kp_reg (by omega) (by omega))).ud (kp_call (k := 10) (by omega) (by omega) (by omega))
theorem sta_addGroup {d e : Nat → Int} {x k : Nat} {v : Int} (h : Sta d e) (hx : x < 5) (hk : 3 ≤ k) (hk2 : k < 7) : Sta d (s_addGroup e x k v) := h.ud (kp_grp hx hk hk2)
/-- bounds of the numbers that a tick leaves alone -/
def RB (d : Nat → Int) : Prop :=
  (0 ≤ d 0 ∧ d 0 ≤ 4) ∧ (0 ≤ d 1 ∧ d 1 ≤ 3) ∧ (0 ≤ d 2 ∧ d 2 ≤ 12) ∧ (0 ≤ d 3 ∧ d 3 ≤ 5) ∧ (0 ≤ d 4 ∧ d 4 ≤ 8) ∧ (0 ≤ d 5 ∧ d 5 ≤ 40) ∧
  (∀ r : Nat, r < 8 → 0 ≤ d (95 + 7 * r) ∧ 0 ≤ d (98 + 7 * r) ∧ d (98 + 7 * r) ≤ 3) ∧ (∀ r j : Nat, r < 8 → (j : Int) < d (98 + 7 * r) → 0 ≤ d (99 + 7 * r + j) ∧ d (99 + 7 * r + j) < 5) ∧
  (∀ x : Nat, x < 5 → 0 ≤ d (50 + 9 * x) ∧ d (50 + 9 * x) ≤ 100) ∧ (∀ c : Nat, c < 40 → 0 ≤ d (170 + 14 * c) ∧ d (170 + 14 * c) ≤ 6 ∧ 0 ≤ d (180 + 14 * c))
theorem RB.sta {d e : Nat → Int} (h : RB d) (hs : Sta d e) : RB e := by
  obtain ⟨h0, h1, h2, h3, h4, h5, hr, hj, hx, hc⟩ := h
  have k : ∀ i, i < 6 → e i = d i := fun i hi => hs i (Or.inl hi)
  refine ⟨by rw [k 0 (by omega)]; exact h0, by rw [k 1 (by omega)]; exact h1, by rw [k 2 (by omega)]; exact h2, by rw [k 3 (by omega)]; exact h3, by rw [k 4 (by omega)]; exact h4, by rw [k 5 (by omega)]; exact h5, fun r hr9 => ?_, fun r j hr9 hj9 => ?_, fun x hx9 => ?_, fun c hc9 => ?_⟩
  · rw [hs (95 + 7 * r) (by unfold kpI; omega), hs (98 + 7 * r) (by unfold kpI; omega)]; exact hr r hr9
  · rw [hs (98 + 7 * r) (by unfold kpI; omega)] at hj9
    have := hr r hr9
    rw [hs (99 + 7 * r + j) (by unfold kpI; omega)]; exact hj r j hr9 hj9
  · rw [hs (50 + 9 * x) (by unfold kpI; omega)]; exact hx x hx9
  · rw [hs (170 + 14 * c) (by unfold kpI; omega), hs (180 + 14 * c) (by unfold kpI; omega)]; exact hc c hc9
theorem sta_ovF {d : Nat → Int} {r : Nat} (hr : r < 8) (hb : RB d) : ∀ k : Nat, (k : Int) ≤ d (98 + 7 * r) → Sta d (s_ovF d r k)
  | 0, _ => Sta.rf
  | k + 1, hk => by
    have h := sta_ovF hr hb k (by omega)
    have h2 := hb.sta h
    have hn := hb.2.2.2.2.2.2.1 r hr
    have e8 : (s_ovF d r k) (98 + 7 * r) = d (98 + 7 * r) := h _ (by unfold kpI; omega)
    have hx := h2.2.2.2.2.2.2.2.1 r k hr (by omega)
    exact (sta_addGroup h (by omega) (by omega) (by omega)).ud kp_23.1
theorem cnt_cong {p q : Nat → Bool} : ∀ {n : Nat}, (∀ k, k < n → p k = q k) → cnt p n = cnt q n
  | 0, _ => rfl
  | n + 1, h => by
    show cnt p n + _ = cnt q n + _
    rw [cnt_cong (fun k hk => h k (by omega)), h n (by omega)]
theorem fstF_cong {p q : Nat → Bool} : ∀ {n k : Nat}, (∀ j, k ≤ j → j < k + n → p j = q j) → fstF p n k = fstF q n k
  | 0, _, _ => rfl
  | n + 1, k, h => by
    unfold fstF
    rw [h k (by omega) (by omega), fstF_cong (n := n) (k := k + 1) (fun j h1 h2 => h j (by omega) (by omega))]
theorem fst_cong {p q : Nat → Bool} {n : Nat} (h : ∀ j, j < n → p j = q j) : fst p n = fst q n := fstF_cong (fun j _ h2 => h j (by omega))
theorem lineOf_sta {d e : Nat → Int} (h : Sta d e) (x y : Int) : s_lineOf e x y = s_lineOf d x y := fst_cong (fun j hj => by
  rw [h 2 (by unfold kpI; omega), h (26 + 2 * j) (by unfold kpI; omega), h (27 + 2 * j) (by unfold kpI; omega)])
theorem rfF_sta {d e : Nat → Int} (h : Sta d e) (many : Nat) (y : Int) : ∀ n, n ≤ 8 → s_rfF e many y n = s_rfF d many y n
  | 0, _ => rfl
  | n + 1, hn => by
    have ih := rfF_sta h many y n (by omega)
    have hg := s_rfF_rng d many y n
    rw [s_rfF_s, s_rfF_s, ih, h 4 (by unfold kpI; omega), h (95 + 7 * n) (by unfold kpI; omega), h (96 + 7 * n) (by unfold kpI; omega), h (95 + 7 * (s_rfF d many y n).toNat) (by unfold kpI; omega)]
theorem routeFor_sta {d e : Nat → Int} (h : Sta d e) (many : Nat) (y : Int) : s_routeFor e many y = s_routeFor d many y := rfF_sta h many y 8 (by omega)
theorem isComplete_sta {d e : Nat → Int} (h : Sta d e) (many : Nat) (y : Int) : s_isComplete e many y = s_isComplete d many y := by
  have hg := s_rfF_rng d many y 8
  rw [show s_rfF d many y 8 = s_routeFor d many y from rfl] at hg
  unfold s_isComplete
  rw [lineOf_sta h, routeFor_sta h, h (97 + 7 * (s_routeFor d many y).toNat) (by unfold kpI; omega)]
theorem dv_sta {d e : Nat → Int} (h : Sta d e) (c many : Nat) : s_dv e c many = s_dv d c many := by
  unfold s_dv
  rw [h (180 + 14 * c) (by unfold kpI; omega), h (170 + 14 * c) (by unfold kpI; omega)]
theorem dv_rng {d : Nat → Int} {c many : Nat} (h : 0 ≤ d (180 + 14 * c)) (h2 : d (180 + 14 * c) ≤ 2147483647) : 0 ≤ s_dv d c many ∧ s_dv d c many ≤ 2147483647 := by
  unfold s_dv
  have h1 := Int.ediv_nonneg h (Int.le_of_lt (pw_pos ((d (170 + 14 * c)).toNat - many)))
  have h3 := Int.ediv_le_self (pw ((d (170 + 14 * c)).toNat - many)) h
  omega
