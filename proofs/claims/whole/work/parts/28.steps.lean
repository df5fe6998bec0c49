/-! what a tick keeps besides -/
def sO (d : Nat → Int) : Int := sm (fun (x : Nat) => if (x : Int) < d 3 then d (53 + 9 * x) else 0) 5
def PO (d : Nat → Int) : Prop := (∀ c : Nat, (c : Int) < d 5 → d (173 + 14 * c) ≤ 4 → d (174 + 14 * c) = -1 ∧ d (175 + 14 * c) = -1) ∧ (sO d - d 23) % 4294967296 = 0
theorem sm_cong {f h : Nat → Int} : ∀ {n : Nat}, (∀ k, k < n → f k = h k) → sm f n = sm h n
  | 0, _ => rfl
  | n + 1, q => by
    show sm f n + f n = sm h n + h n
    rw [sm_cong (fun k hk => q k (by omega)), q n (by omega)]
theorem PO.up {d d' : Nat → Int} (h : PO d) (h5 : d' 5 = d 5) (h3 : d' 3 = d 3) (h23 : d' 23 = d 23) (hg : ∀ x : Nat, x < 5 → d' (53 + 9 * x) = d (53 + 9 * x))
    (hc : ∀ c : Nat, (c : Int) < d 5 → (d' (173 + 14 * c) = d (173 + 14 * c) ∧ d' (174 + 14 * c) = d (174 + 14 * c) ∧ d' (175 + 14 * c) = d (175 + 14 * c)) ∨ (d' (173 + 14 * c) ≤ 4 → d' (174 + 14 * c) = -1 ∧ d' (175 + 14 * c) = -1)) : PO d' := by
  refine ⟨fun c hc5 h4 => ?_, ?_⟩
  · rw [h5] at hc5
    rcases hc c hc5 with ⟨a1, a2, a3⟩ | q
    · rw [a1] at h4
      rw [a2, a3]
      exact h.1 c hc5 h4
    · exact q h4
  · have : sO d' = sO d := sm_cong (fun x hx => by rw [h3, hg x hx])
    rw [this, h23]
    exact h.2
def KX (g : Mem) (e : Nat) (d : Nat → Int) : Prop := RelX g e d ∧ Inv d ∧ PO d
section KS
variable {g : Mem} {e c : Nat} {d : Nat → Int}
theorem rel_12 (h : RelX g e d) (hb : RB d) {v : Int} : RelX (up2 g e 12 v) e d := h.scal hb Sta.rf (fun a ha => funext fun j => up2_a ha) (fun _ _ _ => rfl) ⟨by rw [up2_k (by decide)]; exact h.2.1.1, by rw [up2_k (by decide)]; exact h.2.1.2.1, by rw [up2_k (by decide)]; exact h.2.1.2.2.1, by rw [up2_k (by decide)]; exact h.2.1.2.2.2.1, by rw [up2_k (by decide)]; exact h.2.1.2.2.2.2.1, by rw [up2_k (by decide)]; exact h.2.1.2.2.2.2.2.1, by rw [up2_k (by decide)]; exact h.2.1.2.2.2.2.2.2.1, by rw [up2_k (by decide)]; exact h.2.1.2.2.2.2.2.2.2.1, by rw [up2_k (by decide)]; exact h.2.1.2.2.2.2.2.2.2.2.1, by rw [up2_k (by decide)]; exact h.2.1.2.2.2.2.2.2.2.2.2.1, by rw [up2_k (by decide)]; exact h.2.1.2.2.2.2.2.2.2.2.2.2.1, by rw [up2_k (by decide)]; exact h.2.1.2.2.2.2.2.2.2.2.2.2.2⟩
theorem KX.set12 (h : KX g e d) {v : Int} : KX (up2 g e 12 v) e d := ⟨rel_12 h.1 h.2.1.1, h.2⟩


theorem rel_came (h : RelX g e d) (hb : RB d) (h5 : (c : Int) < d 5) {v : Int} : RelX (up2 g (e + 35 + c) 6 v) e (ud d (182 + 14 * c) v) := by
  have T := h.tl (c := c) (by have := hb.2.2.2.2.2.1; omega) h5
  refine h.call hb (Sta.rf.ud (by unfold kpI; omega)) h5 (fun a ha => funext fun j => ?_) ?_ (fun i hi _ => ?_) ?_
  · rw [up2_a ha]
  · rw [up2_k (by decide)]
  · rw [ud_n (by omega)]
  · exact ⟨(by rw [up2_k (by decide), ud_n (by omega)]; exact T.1), (by rw [up2_k (by decide), ud_n (by omega)]; exact T.2.1), (by rw [up2_k (by decide), ud_n (by omega), ud_n (by omega)]; exact T.2.2.1), (by rw [up2_k (by decide), ud_n (by omega)]; exact T.2.2.2.1), (by rw [up2_k (by decide), ud_n (by omega)]; exact T.2.2.2.2.1), (by rw [up2_s, ud_s]), (by rw [up2_k (by decide), ud_n (by omega)]; exact T.2.2.2.2.2.2.1), (by rw [up2_k (by decide), ud_n (by omega)]; exact T.2.2.2.2.2.2.2.1), (by rw [up2_k (by decide), ud_n (by omega)]; exact T.2.2.2.2.2.2.2.2.1), (by rw [up2_k (by decide), ud_n (by omega)]; exact T.2.2.2.2.2.2.2.2.2.1), (by rw [up2_k (by decide), ud_n (by omega)]; exact T.2.2.2.2.2.2.2.2.2.2.1), (by rw [up2_k (by decide), ud_n (by omega)]; exact T.2.2.2.2.2.2.2.2.2.2.2)⟩
theorem rel_left (h : RelX g e d) (hb : RB d) (h5 : (c : Int) < d 5) {v : Int} : RelX (up2 g (e + 35 + c) 12 v) e (ud d (178 + 14 * c) v) := by
  have T := h.tl (c := c) (by have := hb.2.2.2.2.2.1; omega) h5
  refine h.call hb (Sta.rf.ud (by unfold kpI; omega)) h5 (fun a ha => funext fun j => ?_) ?_ (fun i hi _ => ?_) ?_
  · rw [up2_a ha]
  · rw [up2_k (by decide)]
  · rw [ud_n (by omega)]
  · exact ⟨(by rw [up2_k (by decide), ud_n (by omega)]; exact T.1), (by rw [up2_k (by decide), ud_n (by omega)]; exact T.2.1), (by rw [up2_k (by decide), ud_n (by omega), ud_n (by omega)]; exact T.2.2.1), (by rw [up2_k (by decide), ud_n (by omega)]; exact T.2.2.2.1), (by rw [up2_k (by decide), ud_n (by omega)]; exact T.2.2.2.2.1), (by rw [up2_k (by decide), ud_n (by omega)]; exact T.2.2.2.2.2.1), (by rw [up2_k (by decide), ud_n (by omega)]; exact T.2.2.2.2.2.2.1), (by rw [up2_k (by decide), ud_n (by omega)]; exact T.2.2.2.2.2.2.2.1), (by rw [up2_k (by decide), ud_n (by omega)]; exact T.2.2.2.2.2.2.2.2.1), (by rw [up2_k (by decide), ud_n (by omega)]; exact T.2.2.2.2.2.2.2.2.2.1), (by rw [up2_k (by decide), ud_n (by omega)]; exact T.2.2.2.2.2.2.2.2.2.2.1), (by rw [up2_s, ud_s])⟩
theorem rel_state (h : RelX g e d) (hb : RB d) (h5 : (c : Int) < d 5) {v : Int} : RelX (up2 g (e + 35 + c) 1 v) e (ud d (173 + 14 * c) v) := by
  have T := h.tl (c := c) (by have := hb.2.2.2.2.2.1; omega) h5
  refine h.call hb (Sta.rf.ud (by unfold kpI; omega)) h5 (fun a ha => funext fun j => ?_) ?_ (fun i hi _ => ?_) ?_
  · rw [up2_a ha]
  · rw [up2_k (by decide)]
  · rw [ud_n (by omega)]
  · exact ⟨(by rw [up2_s, ud_s]), (by rw [up2_k (by decide), ud_n (by omega)]; exact T.2.1), (by rw [up2_k (by decide), ud_n (by omega), ud_n (by omega)]; exact T.2.2.1), (by rw [up2_k (by decide), ud_n (by omega)]; exact T.2.2.2.1), (by rw [up2_k (by decide), ud_n (by omega)]; exact T.2.2.2.2.1), (by rw [up2_k (by decide), ud_n (by omega)]; exact T.2.2.2.2.2.1), (by rw [up2_k (by decide), ud_n (by omega)]; exact T.2.2.2.2.2.2.1), (by rw [up2_k (by decide), ud_n (by omega)]; exact T.2.2.2.2.2.2.2.1), (by rw [up2_k (by decide), ud_n (by omega)]; exact T.2.2.2.2.2.2.2.2.1), (by rw [up2_k (by decide), ud_n (by omega)]; exact T.2.2.2.2.2.2.2.2.2.1), (by rw [up2_k (by decide), ud_n (by omega)]; exact T.2.2.2.2.2.2.2.2.2.2.1), (by rw [up2_k (by decide), ud_n (by omega)]; exact T.2.2.2.2.2.2.2.2.2.2.2)⟩
theorem rel_over (h : RelX g e d) (hb : RB d) (h5 : (c : Int) < d 5) {y t : Int} (ht : t = d 6) : RelX (up2 (up2 (up2 g (e + 35 + c) 1 y) (e + 35 + c) 11 t) (e + 35 + c) 12 0) e (s_isOver d c y) := by
  have T := h.tl (c := c) (by have := hb.2.2.2.2.2.1; omega) h5
  subst ht
  have hS : Sta d (s_isOver d c y) := sta_isOver Sta.rf
  unfold s_isOver at hS ⊢
  refine h.call hb hS h5 (fun a ha => funext fun j => ?_) ?_ (fun i hi _ => ?_) ?_
  · rw [up2_a ha, up2_a ha, up2_a ha]
  · rw [up2_k (by decide), up2_k (by decide), up2_k (by decide)]
  · rw [ud_n (by omega), ud_n (by omega), ud_n (by omega)]
  · exact ⟨(by rw [up2_k (by decide), up2_k (by decide), up2_s, ud_n (by omega), ud_n (by omega), ud_s]), (by rw [up2_k (by decide), up2_k (by decide), up2_k (by decide), ud_n (by omega), ud_n (by omega), ud_n (by omega)]; exact T.2.1), (by rw [up2_k (by decide), up2_k (by decide), up2_k (by decide), ud_n (by omega), ud_n (by omega), ud_n (by omega), ud_n (by omega), ud_n (by omega), ud_n (by omega)]; exact T.2.2.1), (by rw [up2_k (by decide), up2_k (by decide), up2_k (by decide), ud_n (by omega), ud_n (by omega), ud_n (by omega)]; exact T.2.2.2.1), (by rw [up2_k (by decide), up2_k (by decide), up2_k (by decide), ud_n (by omega), ud_n (by omega), ud_n (by omega)]; exact T.2.2.2.2.1), (by rw [up2_k (by decide), up2_k (by decide), up2_k (by decide), ud_n (by omega), ud_n (by omega), ud_n (by omega)]; exact T.2.2.2.2.2.1), (by rw [up2_k (by decide), up2_k (by decide), up2_k (by decide), ud_n (by omega), ud_n (by omega), ud_n (by omega)]; exact T.2.2.2.2.2.2.1), (by rw [up2_k (by decide), up2_k (by decide), up2_k (by decide), ud_n (by omega), ud_n (by omega), ud_n (by omega)]; exact T.2.2.2.2.2.2.2.1), (by rw [up2_k (by decide), up2_k (by decide), up2_k (by decide), ud_n (by omega), ud_n (by omega), ud_n (by omega)]; exact T.2.2.2.2.2.2.2.2.1), (by rw [up2_k (by decide), up2_k (by decide), up2_k (by decide), ud_n (by omega), ud_n (by omega), ud_n (by omega)]; exact T.2.2.2.2.2.2.2.2.2.1), (by rw [up2_k (by decide), up2_s, ud_n (by omega), ud_s]), (by rw [up2_s, ud_s])⟩
theorem rel_talkL (h : RelX g e d) (hb : RB d) (h5 : (c : Int) < d 5) {x t : Int} (ht : t = d 6) (h9 : d (175 + 14 * c) = -1) : RelX (up2 (up2 (up2 (up2 g (e + 35 + c) 8 x) (e + 35 + c) 1 5) (e + 35 + c) 10 t) (e + 35 + c) 12 (g (e + 35 + c) 4)) e (s_talks d c x (-1)) := by
  have T := h.tl (c := c) (by have := hb.2.2.2.2.2.1; omega) h5
  subst ht
  have hS : Sta d (s_talks d c x (-1)) := sta_talks Sta.rf
  unfold s_talks at hS ⊢
  refine h.call hb hS h5 (fun a ha => funext fun j => ?_) ?_ (fun i hi _ => ?_) ?_
  · rw [up2_a ha, up2_a ha, up2_a ha, up2_a ha]
  · rw [up2_k (by decide), up2_k (by decide), up2_k (by decide), up2_k (by decide)]
  · rw [ud_n (by omega), ud_n (by omega), ud_n (by omega), ud_n (by omega), ud_n (by omega)]
  · exact ⟨(by rw [up2_k (by decide), up2_k (by decide), up2_s, ud_n (by omega), ud_n (by omega), ud_n (by omega), ud_n (by omega), ud_s]), (by rw [up2_k (by decide), up2_k (by decide), up2_k (by decide), up2_k (by decide), ud_n (by omega), ud_n (by omega), ud_n (by omega), ud_n (by omega), ud_n (by omega)]; exact T.2.1), (by rw [up2_k (by decide), up2_k (by decide), up2_k (by decide), up2_k (by decide), ud_n (by omega), ud_n (by omega), ud_n (by omega), ud_n (by omega), ud_n (by omega), ud_n (by omega), ud_n (by omega), ud_n (by omega), ud_n (by omega), ud_n (by omega)]; exact T.2.2.1), (by rw [up2_k (by decide), up2_k (by decide), up2_k (by decide), up2_k (by decide), ud_n (by omega), ud_n (by omega), ud_n (by omega), ud_n (by omega), ud_n (by omega)]; exact T.2.2.2.1), (by rw [up2_k (by decide), up2_k (by decide), up2_k (by decide), up2_k (by decide), ud_n (by omega), ud_n (by omega), ud_n (by omega), ud_n (by omega), ud_n (by omega)]; exact T.2.2.2.2.1), (by rw [up2_k (by decide), up2_k (by decide), up2_k (by decide), up2_k (by decide), ud_n (by omega), ud_n (by omega), ud_n (by omega), ud_n (by omega), ud_n (by omega)]; exact T.2.2.2.2.2.1), (by rw [up2_k (by decide), up2_k (by decide), up2_k (by decide), up2_k (by decide), ud_n (by omega), ud_n (by omega), ud_n (by omega), ud_n (by omega), ud_n (by omega)]; exact T.2.2.2.2.2.2.1), (by rw [up2_k (by decide), up2_k (by decide), up2_k (by decide), up2_s, ud_n (by omega), ud_n (by omega), ud_n (by omega), ud_s]), (by rw [up2_k (by decide), up2_k (by decide), up2_k (by decide), up2_k (by decide), ud_n (by omega), ud_n (by omega), ud_s, ← h9]; exact T.2.2.2.2.2.2.2.2.1), (by rw [up2_k (by decide), up2_s, ud_n (by omega), ud_s]), (by rw [up2_k (by decide), up2_k (by decide), up2_k (by decide), up2_k (by decide), ud_n (by omega), ud_n (by omega), ud_n (by omega), ud_n (by omega), ud_n (by omega)]; exact T.2.2.2.2.2.2.2.2.2.2.1), (by rw [up2_s, ud_s]; exact T.2.2.2.1)⟩
theorem rel_talkG (h : RelX g e d) (hb : RB d) (h5 : (c : Int) < d 5) {x t : Int} (ht : t = d 6) (h8 : d (174 + 14 * c) = -1) : RelX (up2 (up2 (up2 (up2 g (e + 35 + c) 9 x) (e + 35 + c) 1 5) (e + 35 + c) 10 t) (e + 35 + c) 12 (g (e + 35 + c) 4)) e (s_talks d c (-1) x) := by
  have T := h.tl (c := c) (by have := hb.2.2.2.2.2.1; omega) h5
  subst ht
  have hS : Sta d (s_talks d c (-1) x) := sta_talks Sta.rf
  unfold s_talks at hS ⊢
  refine h.call hb hS h5 (fun a ha => funext fun j => ?_) ?_ (fun i hi _ => ?_) ?_
  · rw [up2_a ha, up2_a ha, up2_a ha, up2_a ha]
  · rw [up2_k (by decide), up2_k (by decide), up2_k (by decide), up2_k (by decide)]
  · rw [ud_n (by omega), ud_n (by omega), ud_n (by omega), ud_n (by omega), ud_n (by omega)]
  · exact ⟨(by rw [up2_k (by decide), up2_k (by decide), up2_s, ud_n (by omega), ud_n (by omega), ud_n (by omega), ud_n (by omega), ud_s]), (by rw [up2_k (by decide), up2_k (by decide), up2_k (by decide), up2_k (by decide), ud_n (by omega), ud_n (by omega), ud_n (by omega), ud_n (by omega), ud_n (by omega)]; exact T.2.1), (by rw [up2_k (by decide), up2_k (by decide), up2_k (by decide), up2_k (by decide), ud_n (by omega), ud_n (by omega), ud_n (by omega), ud_n (by omega), ud_n (by omega), ud_n (by omega), ud_n (by omega), ud_n (by omega), ud_n (by omega), ud_n (by omega)]; exact T.2.2.1), (by rw [up2_k (by decide), up2_k (by decide), up2_k (by decide), up2_k (by decide), ud_n (by omega), ud_n (by omega), ud_n (by omega), ud_n (by omega), ud_n (by omega)]; exact T.2.2.2.1), (by rw [up2_k (by decide), up2_k (by decide), up2_k (by decide), up2_k (by decide), ud_n (by omega), ud_n (by omega), ud_n (by omega), ud_n (by omega), ud_n (by omega)]; exact T.2.2.2.2.1), (by rw [up2_k (by decide), up2_k (by decide), up2_k (by decide), up2_k (by decide), ud_n (by omega), ud_n (by omega), ud_n (by omega), ud_n (by omega), ud_n (by omega)]; exact T.2.2.2.2.2.1), (by rw [up2_k (by decide), up2_k (by decide), up2_k (by decide), up2_k (by decide), ud_n (by omega), ud_n (by omega), ud_n (by omega), ud_n (by omega), ud_n (by omega)]; exact T.2.2.2.2.2.2.1), (by rw [up2_k (by decide), up2_k (by decide), up2_k (by decide), up2_k (by decide), ud_n (by omega), ud_n (by omega), ud_n (by omega), ud_s, ← h8]; exact T.2.2.2.2.2.2.2.1), (by rw [up2_k (by decide), up2_k (by decide), up2_k (by decide), up2_s, ud_n (by omega), ud_n (by omega), ud_s]), (by rw [up2_k (by decide), up2_s, ud_n (by omega), ud_s]), (by rw [up2_k (by decide), up2_k (by decide), up2_k (by decide), up2_k (by decide), ud_n (by omega), ud_n (by omega), ud_n (by omega), ud_n (by omega), ud_n (by omega)]; exact T.2.2.2.2.2.2.2.2.2.2.1), (by rw [up2_s, ud_s]; exact T.2.2.2.1)⟩
theorem rel_last (h : RelX g e d) (hb : RB d) {v : Int} : RelX (up2 g e 11 v) e (ud d 25 v) := h.scal hb (Sta.rf.ud (by unfold kpI; omega)) (fun a ha => funext fun j => up2_a ha) (fun i hi _ => ud_n (by omega)) ⟨(by rw [up2_k (by decide), ud_n (by decide)]; exact h.2.1.1), (by rw [up2_k (by decide), ud_n (by decide)]; exact h.2.1.2.1), (by rw [up2_k (by decide), ud_n (by decide)]; exact h.2.1.2.2.1), (by rw [up2_k (by decide), ud_n (by decide)]; exact h.2.1.2.2.2.1), (by rw [up2_k (by decide), ud_n (by decide)]; exact h.2.1.2.2.2.2.1), (by rw [up2_k (by decide), ud_n (by decide)]; exact h.2.1.2.2.2.2.2.1), (by rw [up2_k (by decide), ud_n (by decide)]; exact h.2.1.2.2.2.2.2.2.1), (by rw [up2_k (by decide), ud_n (by decide)]; exact h.2.1.2.2.2.2.2.2.2.1), (by rw [up2_k (by decide), ud_n (by decide)]; exact h.2.1.2.2.2.2.2.2.2.2.1), (by rw [up2_k (by decide), ud_n (by decide)]; exact h.2.1.2.2.2.2.2.2.2.2.2.1), (by rw [up2_k (by decide), ud_n (by decide)]; exact h.2.1.2.2.2.2.2.2.2.2.2.2.1), (by rw [up2_s, ud_s])⟩
theorem rel_time (h : RelX g e d) (hb : RB d) {v : Int} : RelX (up2 g e 6 v) e (ud d 6 v) := h.scal hb (Sta.rf.ud (by unfold kpI; omega)) (fun a ha => funext fun j => up2_a ha) (fun i hi _ => ud_n (by omega)) ⟨(by rw [up2_k (by decide), ud_n (by decide)]; exact h.2.1.1), (by rw [up2_k (by decide), ud_n (by decide)]; exact h.2.1.2.1), (by rw [up2_k (by decide), ud_n (by decide)]; exact h.2.1.2.2.1), (by rw [up2_k (by decide), ud_n (by decide)]; exact h.2.1.2.2.2.1), (by rw [up2_k (by decide), ud_n (by decide)]; exact h.2.1.2.2.2.2.1), (by rw [up2_k (by decide), ud_n (by decide)]; exact h.2.1.2.2.2.2.2.1), (by rw [up2_s, ud_s]), (by rw [up2_k (by decide), ud_n (by decide)]; exact h.2.1.2.2.2.2.2.2.2.1), (by rw [up2_k (by decide), ud_n (by decide)]; exact h.2.1.2.2.2.2.2.2.2.2.1), (by rw [up2_k (by decide), ud_n (by decide)]; exact h.2.1.2.2.2.2.2.2.2.2.2.1), (by rw [up2_k (by decide), ud_n (by decide)]; exact h.2.1.2.2.2.2.2.2.2.2.2.2.1), (by rw [up2_k (by decide), ud_n (by decide)]; exact h.2.1.2.2.2.2.2.2.2.2.2.2.2)⟩
theorem rel_most (h : RelX g e d) (hb : RB d) {v : Int} : RelX (up2 g e 10 v) e (ud d 24 v) := h.scal hb (Sta.rf.ud (by unfold kpI; omega)) (fun a ha => funext fun j => up2_a ha) (fun i hi _ => ud_n (by omega)) ⟨(by rw [up2_k (by decide), ud_n (by decide)]; exact h.2.1.1), (by rw [up2_k (by decide), ud_n (by decide)]; exact h.2.1.2.1), (by rw [up2_k (by decide), ud_n (by decide)]; exact h.2.1.2.2.1), (by rw [up2_k (by decide), ud_n (by decide)]; exact h.2.1.2.2.2.1), (by rw [up2_k (by decide), ud_n (by decide)]; exact h.2.1.2.2.2.2.1), (by rw [up2_k (by decide), ud_n (by decide)]; exact h.2.1.2.2.2.2.2.1), (by rw [up2_k (by decide), ud_n (by decide)]; exact h.2.1.2.2.2.2.2.2.1), (by rw [up2_k (by decide), ud_n (by decide)]; exact h.2.1.2.2.2.2.2.2.2.1), (by rw [up2_k (by decide), ud_n (by decide)]; exact h.2.1.2.2.2.2.2.2.2.2.1), (by rw [up2_k (by decide), ud_n (by decide)]; exact h.2.1.2.2.2.2.2.2.2.2.2.1), (by rw [up2_s, ud_s]), (by rw [up2_k (by decide), ud_n (by decide)]; exact h.2.1.2.2.2.2.2.2.2.2.2.2.2)⟩
theorem rel_waits (h : RelX g e d) (hb : RB d) (h5 : (c : Int) < d 5) {y v : Int} (hv : v = bm (d 25 + 1)) : RelX (up2 (up2 (up2 g e 11 v) (e + 35 + c) 7 v) (e + 35 + c) 1 y) e (s_waits d c y) := by
  subst hv
  have h1 := rel_last h hb (v := bm (d 25 + 1))
  have hS : Sta d (s_waits d c y) := sta_waits Sta.rf
  have hb1 : RB (ud d 25 (bm (d 25 + 1))) := hb.sta (Sta.rf.ud kp_23.2.2.1)
  have hc5 : (c : Int) < (ud d 25 (bm (d 25 + 1))) 5 := by rw [ud_n (by decide)]; exact h5
  have T := h1.tl (c := c) (by have := hb.2.2.2.2.2.1; omega) hc5
  unfold s_waits at hS ⊢
  refine h1.call hb1 (fun i hi => ?_) hc5 (fun a ha => funext fun j => ?_) ?_ (fun i hi _ => ?_) ?_
  · rw [hS i hi]
    exact (ud_n (fun q => kp_23.2.2.1 (by rw [← q]; exact hi))).symm
  · rw [up2_a ha, up2_a ha]
  · rw [up2_k (by decide), up2_k (by decide)]
  · rw [ud_n (by omega)]
    by_cases q : i = 25
    · subst q; rw [ud_s, ud_s]
    · rw [ud_n q, ud_n q, ud_n (by omega)]
  · obtain ⟨T1, T2, T3, T4, T5, T6, T7, T8, T9, T10, T11, T12⟩ := T
    have hn : ∀ i, 100 ≤ i → ud d 25 (bm (d 25 + 1)) i = d i := fun i hi => ud_n (by omega)
    rw [hn _ (by omega)] at T1 T2 T4 T5 T6 T7 T8 T9 T10 T11 T12
    rw [hn _ (by omega), hn _ (by omega)] at T3
    exact ⟨(by rw [up2_s, ud_n (by omega), ud_n (by omega), ud_s]), (by rw [up2_k (by decide), up2_k (by decide), ud_n (by omega), ud_n (by omega), ud_n (by omega)]; exact T2), (by rw [up2_k (by decide), up2_k (by decide), ud_n (by omega), ud_n (by omega), ud_n (by omega), ud_n (by omega), ud_n (by omega), ud_n (by omega)]; exact T3), (by rw [up2_k (by decide), up2_k (by decide), ud_n (by omega), ud_n (by omega), ud_n (by omega)]; exact T4), (by rw [up2_k (by decide), up2_k (by decide), ud_n (by omega), ud_n (by omega), ud_n (by omega)]; exact T5), (by rw [up2_k (by decide), up2_k (by decide), ud_n (by omega), ud_n (by omega), ud_n (by omega)]; exact T6), (by rw [up2_k (by decide), up2_s, ud_s]), (by rw [up2_k (by decide), up2_k (by decide), ud_n (by omega), ud_n (by omega), ud_n (by omega)]; exact T8), (by rw [up2_k (by decide), up2_k (by decide), ud_n (by omega), ud_n (by omega), ud_n (by omega)]; exact T9), (by rw [up2_k (by decide), up2_k (by decide), ud_n (by omega), ud_n (by omega), ud_n (by omega)]; exact T10), (by rw [up2_k (by decide), up2_k (by decide), ud_n (by omega), ud_n (by omega), ud_n (by omega)]; exact T11), (by rw [up2_k (by decide), up2_k (by decide), ud_n (by omega), ud_n (by omega), ud_n (by omega)]; exact T12)⟩
end KS
