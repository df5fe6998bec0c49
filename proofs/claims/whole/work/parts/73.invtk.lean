/-! what a tick keeps, without a heap -/
def R9 (d : Nat → Int) : Prop := ∀ c : Nat, R32 (d (178 + 14 * c))
section R9S
variable {d : Nat → Int}
theorem r9_ud (h : R9 d) {i : Nat} {x : Int} (hx : R32 x ∨ ∀ c : Nat, 178 + 14 * c ≠ i) : R9 (ud d i x) := fun c => by
  by_cases e : 178 + 14 * c = i
  · rcases hx with q | q
    · rw [e, ud_s]; exact q
    · exact absurd e (q c)
  · rw [ud_n e]; exact h c
theorem r9_over (h : R9 d) {c : Nat} {y : Int} : R9 (s_isOver d c y) :=
  r9_ud (r9_ud (r9_ud h (Or.inr fun k => by omega)) (Or.inr fun k => by omega)) (Or.inl ⟨by decide, by decide⟩)
theorem r9_waits (h : R9 d) {c : Nat} {y : Int} : R9 (s_waits d c y) :=
  r9_ud (r9_ud (r9_ud h (Or.inr fun k => by omega)) (Or.inr fun k => by omega)) (Or.inr fun k => by omega)
theorem r9_fcome (h : R9 d) {c : Nat} : R9 (f_come d c) := by
  unfold f_come
  split
  · unfold s_comes
    split
    · exact r9_over (r9_ud h (Or.inr fun k => by omega))
    · exact r9_waits (r9_ud h (Or.inr fun k => by omega))
  · exact h
theorem r9_ftalk (h : R9 d) {c : Nat} : R9 (f_talk d c) := by
  unfold f_talk
  split
  · unfold s_talk1
    split
    · exact r9_over (r9_ud h (Or.inl (bm_r _)))
    · exact r9_ud h (Or.inl (bm_r _))
  · exact h
theorem r9_free (h : R9 d) {c : Nat} (hr : (d (179 + 14 * c)).toNat < 4) : R9 (s_freeReg d c) := by
  unfold s_freeReg
  split
  · exact h
  · exact r9_ud (r9_ud (r9_ud (r9_ud h (Or.inr fun k => by omega)) (Or.inr fun k => by omega)) (Or.inr fun k => by omega)) (Or.inr fun k => by omega)
theorem r9_takeM (h : R9 d) {k : Nat} (hk : k < 3) : R9 (s_takesMarker d k) := by
  unfold s_takesMarker
  split
  · exact r9_ud (r9_ud (r9_ud h (Or.inr fun j => by omega)) (Or.inr fun j => by omega)) (Or.inr fun j => by omega)
  · exact h
theorem r9_takeR (h : R9 d) {r : Nat} (hr : r < 4) : R9 (s_takesRegister d r) := by
  unfold s_takesRegister
  split
  · exact r9_ud (r9_ud (r9_ud h (Or.inr fun j => by omega)) (Or.inr fun j => by omega)) (Or.inr fun j => by omega)
  · exact h
theorem r9_add (h : R9 d) {x k : Nat} {v : Int} (hx : x < 5) (hk : k < 9) : R9 (s_addGroup d x k v) := r9_ud h (Or.inr fun j => by omega)
theorem r9_talks (h : R9 d) {c : Nat} {x y : Int} (ht : R32 (d (171 + 14 * c))) : R9 (s_talks d c x y) :=
  r9_ud (r9_ud (r9_ud (r9_ud (r9_ud h (Or.inr fun j => by omega)) (Or.inr fun j => by omega)) (Or.inr fun j => by omega)) (Or.inr fun j => by omega)) (Or.inl ht)
theorem r9_looks (h : R9 d) {c many : Nat} {v : Int} (hb : RB d) (hok : s_lineOf d many v = -1 → ¬ s_routeFor d many v = -1) (ht : R32 (d (171 + 14 * c))) : R9 (s_looks d c many v) := by
  unfold s_looks
  by_cases hl : s_lineOf d many v = -1
  · rw [if_pos hl]
    have hrn := hok hl
    have hrg := s_rfF_rng d many v 8
    rw [show s_rfF d many v 8 = s_routeFor d many v from rfl] at hrg
    obtain ⟨r, hr⟩ : ∃ r : Nat, (s_routeFor d many v).toNat = r := ⟨_, rfl⟩
    have hr8 : r < 8 := by omega
    rw [hr]
    have hn := hb.2.2.2.2.2.2.1 r hr8
    have hcl := s_chF_le d r (d (98 + 7 * r)).toNat 0
    rw [show s_chF d r (d (98 + 7 * r)).toNat 0 = s_choiceOf d r from rfl] at hcl
    generalize s_choiceOf d r = k at hcl
    have hS := sta_ovF hr8 hb k (by omega)
    have hB := hb.sta hS
    have h9 : R9 (s_ovF d r k) := fun c2 => by rw [ovF_n hr8 hb (by omega) (by omega) k (by omega)]; exact h c2
    have e71 : (s_ovF d r k) (171 + 14 * c) = d (171 + 14 * c) := hS _ (by unfold kpI; omega)
    have e8 : (s_ovF d r k) (98 + 7 * r) = d (98 + 7 * r) := hS _ (by unfold kpI; omega)
    unfold s_way
    split
    · exact r9_over h9
    · next hq =>
      have hx := hB.2.2.2.2.2.2.2.1 r k hr8 (by omega)
      exact r9_add (r9_add (r9_talks h9 (by rw [e71]; exact ht)) (by omega) (by omega)) (by omega) (by omega)
  · rw [if_neg hl]
    split
    · exact r9_over h
    · exact r9_talks h ht
theorem r9_marks (h : R9 d) (hI : Inv d) {k : Nat} (hk : k < 3) : R9 (s_marks d k) := by
  unfold s_marks
  split
  · exact h
  · next hq =>
    split
    · exact r9_ud h (Or.inr fun j => by omega)
    · obtain ⟨c, r, a1, a2, a3, a4, a5, a6, a7, a8⟩ := hI.mark hk hq
      have ht := hI.2.1.2.2.2.2.1 c a5
      rw [a1, Int.toNat_natCast]
      unfold s_found
      rw [ud_n (i := 164 + 2 * k) (j := 179 + 14 * c) (by omega), a2, Int.toNat_natCast, ud_n (i := 164 + 2 * k) (j := 152 + 3 * r) (by omega)]
      have hr4 : ((ud (ud d (164 + 2 * k) (d (164 + 2 * k) - 1)) (163 + 2 * k) (-1)) (179 + 14 * c)).toNat < 4 := by rw [ud_n (by omega), ud_n (by omega), a2]; omega
      have hS : Sta d (s_freeReg (ud (ud d (164 + 2 * k) (d (164 + 2 * k) - 1)) (163 + 2 * k) (-1)) c) := sta_freeReg ((Sta.rf.ud (kp_reg (by omega) (by omega))).ud (kp_reg (by omega) (by omega))) hr4
      have h9 : R9 (s_freeReg (ud (ud d (164 + 2 * k) (d (164 + 2 * k) - 1)) (163 + 2 * k) (-1)) c) := r9_free (r9_ud (r9_ud h (Or.inr fun j => by omega)) (Or.inr fun j => by omega)) hr4
      generalize s_freeReg (ud (ud d (164 + 2 * k) (d (164 + 2 * k) - 1)) (163 + 2 * k) (-1)) c = e at hS h9 ⊢
      exact r9_looks h9 (hI.1.sta hS) (by rw [lineOf_sta hS, routeFor_sta hS, dv_sta hS]; exact complete_ok a8) (by rw [hS (171 + 14 * c) (by unfold kpI; omega)]; exact ⟨by omega, by omega⟩)
theorem r9_dials (h : R9 d) (hI : Inv d) {r : Nat} (hr : r < 4) : R9 (s_dials d r) := by
  have h1 : ∀ c, R9 (s_dial1 d r c) := fun c => by
    unfold s_dial1
    split
    · exact r9_ud h (Or.inr fun j => by omega)
    · exact h
  have h0 : ∀ c, (d (179 + 14 * c)).toNat < 4 → ((s_dial1 d r c) (179 + 14 * c)).toNat < 4 := fun c q => by
    unfold s_dial1
    split
    · rw [ud_n (by omega)]; exact q
    · exact q
  unfold s_dials
  split
  · exact h
  · next hq =>
    split
    · rcases hI.2.2.1 r hr with q | ⟨c, hri, hir⟩
      · exact absurd q.1 hq
      · rw [hri, Int.toNat_natCast]
        have hr4 := h0 c (by rw [hir.2.2.1]; omega)
        unfold s_dial2
        split
        · exact r9_waits (h1 c)
        · split
          · exact h1 c
          · split
            · exact r9_ud (h1 c) (Or.inr fun j => by omega)
            · exact r9_over (r9_free (r9_ud (h1 c) (Or.inr fun j => by omega)) (by rw [ud_n (by omega)]; exact hr4))
    · exact h
end R9S
def PI (d : Nat → Int) : Prop := Inv d ∧ R9 d
theorem pi_itr {f : (Nat → Int) → Nat → (Nat → Int)} {d : Nat → Int} {N : Nat} (h : ∀ e k, PI e → Sta d e → k < N → PI (f e k) ∧ Sta e (f e k)) (hI : PI d) : ∀ n, n ≤ N → PI (itr f d n) ∧ Sta d (itr f d n)
  | 0, _ => ⟨hI, Sta.rf⟩
  | n + 1, hn => by
    obtain ⟨a, b⟩ := pi_itr h hI n (by omega)
    obtain ⟨a2, b2⟩ := h _ n a b (by omega)
    exact ⟨a2, b.tr b2⟩
theorem pi_t2 {d : Nat → Int} (h : PI d) : PI (s_t2 d) ∧ Sta d (s_t2 d) :=
  pi_itr (N := (d 5).toNat) (fun e k q s hk => ⟨⟨inv_come q.1 (by rw [s 5 (Or.inl (by decide))]; omega), r9_fcome q.2⟩, sta_fcome⟩) h _ (Nat.le_refl _)
theorem pi_t3 {d : Nat → Int} (h : PI d) : PI (s_t3 d) ∧ Sta d (s_t3 d) :=
  pi_itr (N := (d 5).toNat) (fun e k q s hk => ⟨⟨inv_talk q.1 (q.2 k) (by rw [s 5 (Or.inl (by decide))]; omega), r9_ftalk q.2⟩, sta_ftalk⟩) h _ (Nat.le_refl _)
theorem pi_t4 {d : Nat → Int} (h : PI d) : PI (s_t4 d) ∧ Sta d (s_t4 d) :=
  pi_itr (N := (d 1).toNat) (fun e k q s hk => by
    have hb := h.1.1.2.1
    exact ⟨⟨inv_marks q.1 (by omega), r9_marks q.2 q.1 (by omega)⟩, sta_marks q.1 (by omega)⟩) h _ (Nat.le_refl _)
theorem pi_t5 {d : Nat → Int} (h : PI d) : PI (s_t5 d) ∧ Sta d (s_t5 d) :=
  pi_itr (N := (d 0).toNat) (fun e k q s hk => by
    have hb := h.1.1.1
    exact ⟨⟨inv_dials q.1 (by omega), r9_dials q.2 q.1 (by omega)⟩, sta_dials q.1 (by omega)⟩) h _ (Nat.le_refl _)
theorem pi_t6 {d : Nat → Int} (h : PI d) : PI (s_t6 d) ∧ Sta d (s_t6 d) :=
  pi_itr (N := (d 1).toNat) (fun e k q s hk => by
    have hb := h.1.1.2.1
    exact ⟨⟨inv_takeMark q.1 (by omega) (by rw [s 1 (Or.inl (by decide))]; omega), r9_takeM q.2 (by omega)⟩, sta_takeM (by omega)⟩) h _ (Nat.le_refl _)
theorem pi_t7 {d : Nat → Int} (h : PI d) : PI (s_t7 d) ∧ Sta d (s_t7 d) :=
  pi_itr (N := (d 0).toNat) (fun e k q s hk => by
    have hb := h.1.1.1
    exact ⟨⟨inv_takeReg q.1 (by omega) (by rw [s 0 (Or.inl (by decide))]; omega), r9_takeR q.2 (by omega)⟩, sta_takeR (by omega)⟩) h _ (Nat.le_refl _)
theorem pi_t9 {d : Nat → Int} (h : PI d) : PI (s_t9 d) ∧ Sta d (s_t9 d) :=
  pi_itr (N := (d 3).toNat) (fun e k q s hk => by
    have hb := h.1.1.2.2.2.1
    exact ⟨⟨inv_sum q.1 (by omega), r9_add q.2 (by omega) (by omega)⟩, sta_sum (by omega)⟩) h _ (Nat.le_refl _)
theorem pi_tick {d : Nat → Int} (h : PI d) : PI (s_tick d) ∧ Sta d (s_tick d) := by
  have h1 : PI (s_t1 d) ∧ Sta d (s_t1 d) := ⟨⟨inv_t1 h.1, r9_ud h.2 (Or.inl (bm_r _))⟩, sta_t1⟩
  have h2 := pi_t2 h1.1
  have h3 := pi_t3 h2.1
  have h4 := pi_t4 h3.1
  have h5 := pi_t5 h4.1
  have h6 := pi_t6 h5.1
  have h7 := pi_t7 h6.1
  have h8 : PI (s_t8 (s_t7 (s_t6 (s_t5 (s_t4 (s_t3 (s_t2 (s_t1 d)))))))) ∧ Sta (s_t7 (s_t6 (s_t5 (s_t4 (s_t3 (s_t2 (s_t1 d))))))) (s_t8 (s_t7 (s_t6 (s_t5 (s_t4 (s_t3 (s_t2 (s_t1 d)))))))) := ⟨⟨inv_t8 h7.1.1, r9_ud h7.1.2 (Or.inr fun j => by omega)⟩, sta_t8⟩
  have h9 := pi_t9 h8.1
  exact ⟨h9.1, (((((((h1.2.tr h2.2).tr h3.2).tr h4.2).tr h5.2).tr h6.2).tr h7.2).tr h8.2).tr h9.2⟩
theorem pi_tk {d : Nat → Int} (h : PI d) : ∀ n, PI (tk d n) ∧ Sta d (tk d n)
  | 0 => ⟨h, Sta.rf⟩
  | n + 1 => by
    have a := pi_tk h n
    have b := pi_tick a.1
    exact ⟨b.1, a.2.tr b.2⟩
theorem tk_6 {d : Nat → Int} {n N : Nat} (h : 0 ≤ d 6) (h2 : d 6 + (N : Int) ≤ 2000000000) (hn : n ≤ N) : tk d n 6 = d 6 + (n : Int) := by
  induction n with
  | zero => show d 6 = d 6 + 0; omega
  | succ n ih =>
    show (s_tick (tk d n)) 6 = _
    rw [s_tick_6, ih (by omega), bm_id ⟨by omega, by omega⟩]
    omega
