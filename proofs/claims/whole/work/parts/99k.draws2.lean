/-! the law's draws: dial, load, and those without a helper -/
section OPR
variable {w : Wd} {B n : Nat} {sh : Shp} {g : Mem} {d : Nat → Int} {hist : Nat → (Nat → Int)} {c : Nat}
theorem lay_6 {line many value talk comes : Int} : s_lay d line many value talk comes 6 = d 6 := by
  unfold s_lay
  rw [if_neg (by decide), if_neg (by omega)]
theorem o_dial (hS : LSh B sh) (hL : LM B n g d hist c) (hP : PI d) {x q t : Int} (hx : R32 x) (hq : R32 q) (ht : R32 t) : OPH w mL_dial mX10_dial [.int (i32 x), .int (i32 q), .int (i32 t)] B (n + 1) sh g := by
  have hK := hL.1
  have h6 := lm_6 hL
  have h40 := lm_40 hL
  have hbu := lm_b hL
  by_cases h0 : 0 ≤ x ∧ x < d 2
  · by_cases h1 : (1 ≤ q ∧ q ≤ 6 ∧ q ≤ g B 1) ∧ 1 ≤ t ∧ t ≤ 99
    · by_cases h4 : 40 ≤ d 5
      · refine op_thr3 (k := 3) (by decide) hS hL (h_dial hS.1.1 rfl (c_dialS hS.1 hK hx hq ht h0 h1.1 h1.2 h4) (hv_ofE (B := B) q_tQ) (ho_ofE hS q_tQ) (hE_ofE (B := B) (by simp) q_tQ)) (ks3c nBS nIS) q_tQ (fun sh1 g1 hS1 hL1 hf => ?_)
        have e4 : g1 B = g B := hf B (by omega) (by omega) (by omega)
        exact ⟨_, _, ct_up (lm_d hL1) (r_dialS (lsMd hS1) hP hx hq ht h0 (by rw [← (lm_b hL1).1, e4]; exact h1.1) h1.2 h4), ar_k (lm_d hL1)⟩
      · obtain ⟨k, rfl⟩ : ∃ k : Nat, q = (k : Int) := ⟨q.toNat, by omega⟩
        obtain ⟨e1, e2⟩ := lm_bd hL (k := k) (by omega)
        by_cases hd : bdB (g (B + 1)) k = true
        · refine op_ch2 (b1 := 0) (z := d 5) (d2 := s_lay d x (k : Int) (bv (g (B + 1)) k) t (bm (d 6 + 1))) hS hL (h_dial hS.1.1 rfl (c_dial hS.1 hK hL.2.1 h0 (n := k) (by omega) (by omega) h1.2 (by omega) hd) hv_i (ho_i hS) hE_i) (fun r sh1 g1 h => ?_) ⟨by decide, hbu.2.1⟩ (fun g1 H1 hd1 f1 f2 => ?_) ?_ (push_6 h6 (lm_h hL))
          · obtain ⟨z, rfl, rfl, rfl, a1, a2, a3⟩ := h
            refine ⟨rfl, rfl, a1, a2, fun a ha => (a3 a (by omega)).trans (up2_row (by omega)), ?_, ?_⟩
            · rw [a3 B (by omega)]; exact up2_s
            · rw [a3 B (by omega)]; exact up2_k (by decide)
          · have key := r_dial (w := w) (g := g1) (d := d) (lsMd hS) hP H1 h0 (n := k) (by omega) (by rw [f1, ← hbu.1]; exact h1.1.2.2) h1.2 (by omega) (by rw [f2, ← e1]; exact hd)
            rw [f2, ← e2 hd] at key
            refine ⟨_, ct_up hd1 key, fun r sh2 g2 h => ?_⟩
            obtain ⟨z, rfl, rfl, rfl, a1, a2, a3, a4, a5⟩ := h
            exact ⟨rfl, rfl, a1, a2, fun a x1 x2 x3 => (a3 a x1 x2 x3).trans (up2_row x1), a5, (a4 2 (by decide) (by decide)).trans up2_s, (a4 7 (by decide) (by decide)).trans ((up2_k (by decide)).trans (congrFun f1 7))⟩
          · rw [lay_6]; omega
        · have hd9 : bdB (g (B + 1)) k = false := by
            cases h : bdB (g (B + 1)) k
            · rfl
            · exact absurd h hd
          refine op_ch2 (b1 := 0) (d2 := d) (hist2 := hist) (c2 := c) (z := -1) hS hL (h_dial hS.1.1 rfl (c_dialN hS.1 hK h0 (n := k) (by omega) (by omega) h1.2 (by omega) hd9) hv_i (ho_i hS) hE_i) (fun r sh1 g1 h => ?_) ⟨by decide, hbu.2.1⟩ (fun g1 H1 hd1 f1 f2 => ?_) (by omega) (fun j hj => by have := lm_h hL j hj; omega)
          · obtain ⟨z, rfl, rfl, rfl, rfl⟩ := h
            exact ⟨rfl, rfl, hL.1.rows (fun a a1 a2 => up2_row (by omega)), hL.2.1.rows (fun a a1 a2 => up2_row (by omega)), fun a ha => up2_row (by omega), up2_s, up2_k (by decide)⟩
          · have key := r_dialN (w := w) (g := g1) (d := d) (lsMd hS) hP (x := x) (t := t) h0 (n := k) (by omega) (by rw [f1, ← hbu.1]; exact h1.1.2.2) h1.2 (by omega) (by rw [f2, ← e1]; exact hd9)
            refine ⟨_, ct_up hd1 key, fun r sh2 g2 h => ?_⟩
            obtain ⟨rfl, rfl, rfl⟩ := h
            refine ⟨rfl, rfl, upR_s, H1.same ?_ (fun a a1 a2 => ?_), fun a x1 x2 x3 => ?_, ?_, ?_, ?_⟩
            · rw [upR_at (by omega), up2_k (by decide), up2_k (by decide)]
            · rw [upR_n (by omega), up2_row (by omega), up2_row (by omega)]
            · rw [upR_n x2, up2_row x1, up2_row x1]
            · rw [upR_at (by omega), up2_k (by decide)]; exact up2_s
            · rw [upR_at (by omega)]; exact up2_s
            · rw [upR_at (by omega), up2_k (by decide), up2_k (by decide), f1]
    · refine op_thr3 (k := 2) (by decide) hS hL (h_dial hS.1.1 rfl (c_dialI hS.1 hK hx hq ht h0 (by omega)) (hv_ofE (B := B) q_tQ) (ho_ofE hS q_tQ) (hE_ofE (B := B) (by simp) q_tQ)) (ks3b nBI nIS) q_tQ (fun sh1 g1 hS1 hL1 hf => ?_)
      have e4 : g1 B = g B := hf B (by omega) (by omega) (by omega)
      exact ⟨_, _, ct_up (lm_d hL1) (r_dialI (lsMd hS1) hP hx hq ht h0 (by rw [← (lm_b hL1).1, e4]; omega)), ar_k (lm_d hL1)⟩
  · exact op_thr (k := 1) (by decide) hS hL (h_dial hS.1.1 rfl (c_dialB hS.1 hK hx hq ht h0) (hv_ofE (B := B) q_tQ) (ho_ofE hS q_tQ) (hE_ofE (B := B) (by simp) q_tQ)) (ks3a nBI nBS) q_tQ (fun sh1 g1 hS1 hL1 => ⟨_, _, ct_up (lm_d hL1) (r_dialB (lsMd hS1) hP hx hq ht h0), ar_k (lm_d hL1)⟩)
/-! a setup's clock stands at 0 -/
def P6 (r : PR) : Prop := ∀ x, r = .inl x → x.1 6 = 0
theorem p6_r {e : PE} : P6 (.inr e) := fun x h => by cases h
theorem p6_l {x : Nat → Int} {y : Nat → Bool} {p : Nat} (h : x 6 = 0) : P6 (.inl (x, y, p)) := fun r hr => by cases hr; exact h
theorem p6_num {T : Tx} {p : Nat} {lo hi : Int} {k : Int → Nat → PR} (h : ∀ v p2, P6 (k v p2)) : P6 (kNum T p lo hi k) := by
  unfold kNum
  split
  · exact p6_r
  · split
    · exact h _ _
    · exact p6_r
theorem p6_dig {T : Tx} {p m : Nat} {k : Nat → Int → Nat → PR} (h : ∀ n v p2, P6 (k n v p2)) : P6 (kDig T p m k) := by
  unfold kDig
  split
  · exact p6_r
  · split
    · exact h _ _ _
    · exact p6_r
theorem p6_nam {T : Tx} {p : Nat} {k : Int → Int → Nat → PR} (h : ∀ n v p2, P6 (k n v p2)) : P6 (kNam T p k) := by
  unfold kNam
  split
  · exact p6_r
  · split
    · exact h _ _ _
    · exact p6_r
theorem p6_sem {T : Tx} {p : Nat} {k : Nat → PR} (h : ∀ p2, P6 (k p2)) : P6 (kSem T p k) := by
  unfold kSem
  split
  · exact h _
  · exact p6_r
theorem p6_ch {T : Tx} {s : Nat → Bool} {r : Nat} {fin : (Nat → Int) → Nat → (Nat → Int)} (hf : ∀ e c, e 6 = 0 → fin e c 6 = 0) : ∀ (f : Nat) (d : Nat → Int) (n p : Nat), d 6 = 0 → P6 (P_ch T s r fin f d n p)
  | 0, _, _, _, h => p6_l (hf _ _ h)
  | f + 1, d, n, p, h => by
    show P6 (if n = 3 then _ else _)
    split
    · exact p6_r
    · exact p6_nam fun a t p2 => by
        split
        · exact p6_r
        · have h2 : ud d (99 + 7 * r + n) (s_groupOf d a t) 6 = 0 := by rw [ud_n (by omega)]; exact h
          split
          · exact p6_ch hf f _ _ _ h2
          · exact p6_l (hf _ _ h2)
theorem p6_word {T : Tx} {d : Nat → Int} {s : Nat → Bool} {q : Nat} (h : d 6 = 0) : P6 (P_word T d s q) := by
  have hru : ∀ i p, P6 (P_rule T q d s p i) := fun i p => by
    unfold P_rule
    split
    · exact p6_r
    · exact p6_num fun v p2 => p6_l (by rw [ud_n (by omega)]; exact h)
  unfold P_word
  split
  · unfold P_line
    split
    · exact p6_r
    · exact p6_dig fun n v p2 => by
        split
        · refine p6_l ?_
          unfold a_line
          rw [ud_n (by decide), ud_n (by omega), ud_n (by omega)]; exact h
        · exact p6_r
  · split
    · unfold P_group
      split
      · exact p6_r
      · exact p6_nam fun a t p2 => by
          split
          · refine p6_num fun k p3 => p6_num fun b p4 => p6_l ?_
            unfold a_group
            rw [ud_n (by decide), ud_n (by omega), ud_n (by omega), ud_n (by omega), ud_n (by omega)]; exact h
          · exact p6_r
    · split
      · unfold P_route
        split
        · exact p6_r
        · exact p6_dig fun n v p2 => by
            split
            · refine p6_num fun len p3 => p6_ch (fun e c he => ?_) _ _ _ _ h
              unfold a_route
              rw [ud_n (by decide), ud_n (by omega), ud_n (by omega), ud_n (by omega), ud_n (by omega)]; exact he
            · exact p6_r
      · split
        · unfold P_call
          split
          · exact p6_r
          · split
            · exact p6_r
            · split
              · exact p6_r
              · exact p6_dig fun m v p2 => p6_num fun t p3 => p6_num fun c p4 => p6_l (by rw [lay_6]; exact h)
        · split
          · exact hru _ _
          · split
            · exact hru _ _
            · split
              · exact hru _ _
              · exact p6_r
theorem p6_all {T : Tx} : ∀ (f : Nat) (d : Nat → Int) (s : Nat → Bool) (p : Nat), d 6 = 0 → P6 (P_all T f d s p)
  | 0, _, _, _, h => p6_l h
  | f + 1, d, s, p, h => by
    show P6 (if byT T (sk T p) = -1 then _ else _)
    split
    · exact p6_l h
    · have h1 := p6_word (T := T) (d := d) (s := s) (q := sk T p) h
      unfold P_stmt
      cases hw : P_word T d s (sk T p) with
      | inr e => exact p6_r
      | inl r =>
        have h2 := h1 r hw
        show P6 (match kSem T r.2.2 fun p3 => .inl (r.1, r.2.1, p3) with | .inr e => .inr e | .inl r => P_all T f r.1 r.2.1 r.2.2)
        unfold kSem
        by_cases c : byT T (sk T r.2.2) = 59
        · rw [if_pos c]; exact p6_all f _ _ _ h2
        · rw [if_neg c]; exact p6_r
theorem p6_load {T : Tx} : P6 (P_load T) := by
  unfold P_load
  split
  · exact p6_num fun r p2 => p6_num fun m p3 => p6_sem fun p4 => p6_all _ _ _ _ rfl
  · exact p6_r
theorem LSh.put {t : Nat} (h : LSh B sh) : LSh B (shP sh (B + 754) (kRd (B + 754) t)) := by
  obtain ⟨h1, h2, h3, h4, h5, h6⟩ := h
  refine ⟨h1.put, ⟨t, shP_s⟩, h3.same (fun a _ _ => shP_o (by omega)), ?_, by rw [shP_o (by omega)]; exact h5, by rw [shP_o (by omega)]; exact h6⟩
  obtain ⟨m1, m2, m3, m4, m5, m6, m7⟩ := h4
  exact ⟨by rw [shP_o (by omega)]; exact m1, by rw [shP_o (by omega)]; exact m2, by rw [shP_o (by omega)]; exact m3, by rw [shP_o (by omega)]; exact m4, by rw [shP_o (by omega)]; exact m5, by rw [shP_o (by omega)]; exact m6, fun i hi => by rw [shP_o (by omega)]; exact m7 i hi⟩
theorem op_ld {n' c2 : Nat} {T : Tx} {z o : Int} {d2 : Nat → Int} {hist2 : Nat → (Nat → Int)} (hS : LSh B sh) (hL : LM B n g d hist c) (hT7 : T.2 ≤ 700) (hf : (T.2 : Int) ≤ g B 1) (hbt : ∀ k, k < T.2 → T.1 k = g (B + 831 + 1) k) (hTb : ∀ k, 0 ≤ T.1 k ∧ T.1 k ≤ 255)
    (hl : ∀ g1 z', LD g B T hist d c z' g1 → z' = z ∧ g1 B 2 = o ∧ KX g1 (B + 2) d2 ∧ HX g1 (B + 152) hist2 c2)
    (hr : ∀ g1 g2 z', g1 (B + 831 + 2) = d → LR g1 (B + 831) T hist c z' g2 → z' = z ∧ g2 (B + 831) 7 = o ∧ g2 (B + 831 + 2) = d2 ∧ HR g2 (B + 831) hist2 c2)
    (h6 : 0 ≤ d2 6 ∧ d2 6 ≤ 300 * (n' : Int)) (hh : ∀ j, j < c2 → 0 ≤ hist2 j 6 ∧ hist2 j 6 ≤ 300 * (n' : Int)) : OPH w mL_load mX10_load [.int (i32 ((T.2 : Nat) : Int))] B n' sh g := by
  obtain ⟨t0, hr0⟩ := hS.2.1
  have hbu := lm_b hL
  have hCl := c_load (w := w) (T := T) hS.1 hr0 hS.2.2.1 hL.1 hL.2.1 (lm_e hL) hT7 hf (fun k hk => by rw [hbt k hk]; exact (lm_y hL k (by omega)).1) hTb
  have hS2 : LSh B (shP sh (B + 754) (kRd (B + 754) (B + 1))) := hS.put
  refine op_chg (P := fun sh1 g1 => sh1 = shP sh (B + 754) (kRd (B + 754) (B + 1)) ∧ KX g1 (B + 2) d2 ∧ HX g1 (B + 152) hist2 c2 ∧ (∀ a, (a < B ∨ B + 831 ≤ a ∨ a = B + 1 ∨ (B + 77 ≤ a ∧ a < B + 152)) → g1 a = g a) ∧ ExI g1 (B + 754 + 1) ∧ g1 B 1 = 0 ∧ g1 B 2 = o) (x := i32 z) (h_load hS.1.1 rfl hCl hv_i (ho_i hS2) hE_i) (fun r sh1 g1 h => ?_) (fun sh1 g1 v hS1 hP => ?_)
  · obtain ⟨z', rfl, rfl, h⟩ := h
    obtain ⟨rfl, a2, a3, a4⟩ := hl g1 z' h
    exact ⟨rfl, hS2, rfl, a3, a4, h.1, h.2.1, h.2.2.1, a2⟩
  · obtain ⟨rfl, k1, k2, f1, e1, b1e, b2e⟩ := hP
    generalize hg1 : up2 g1 (B + 845) 0 v = gv
    have hg : ∀ a, a ≠ B + 845 → gv a = g1 a := fun a h => by rw [← hg1]; exact up2_row h
    have H1 : HR gv (B + 831) hist c := HR.fr hL.2.2.1 (fun a a1 a2 => (hg a (by omega)).trans (f1 a (by omega)))
    have hgm : gv (B + 831) = g (B + 831) := (hg _ (by omega)).trans (f1 _ (by omega))
    have hgm1 : gv (B + 831 + 1) = g (B + 831 + 1) := (hg _ (by omega)).trans (f1 _ (by omega))
    refine ⟨_, rp_load (T := T) (lsMd hS1) H1 hT7 (by rw [hgm, ← hbu.1]; exact hf) (fun k hk => by rw [hgm1, hbt k hk]) hTb, fun r sh2 g2 h => ?_⟩
    obtain ⟨z', rfl, rfl, h⟩ := h
    obtain ⟨rfl, a2, a3, a4⟩ := hr gv g2 z' (by rw [hg _ (by omega), f1 _ (by omega)]; exact lm_d hL) h
    obtain ⟨f2, m0, m2, -⟩ := h
    refine ⟨rfl, m0, f2 _ (by omega) (by omega) (by omega) (by omega), hS1, d2, hist2, c2, hL.chg (g1 := gv) (k1.rows fun a a1 a2 => hg a (by omega)) (k2.rows fun a a1 a2 => hg a (by omega)) (fun a a1 a2 => (hg a a2).trans (f1 a (by omega))) (e1.fr fun a a1 a2 => hg a (by omega)) a3 a4 (fun a x1 x2 x3 x4 => f2 a x1 x2 x3 x4) ?_ ?_ h6 hh⟩
    · rw [hg B (by omega), b1e]; exact ⟨m2.symm, Int.le_refl _, hbu.2.1⟩
    · rw [hg B (by omega), b2e, a2]
theorem o_load (hS : LSh B sh) (hL : LM B n g d hist c) {q : Int} (hq : R32 q) : OPH w mL_load mX10_load [.int (i32 q)] B (n + 1) sh g := by
  have h6 := lm_6 hL
  have hbu := lm_b hL
  by_cases hb : 0 ≤ q ∧ q ≤ g B 1
  · obtain ⟨k, rfl⟩ : ∃ k : Nat, q = (k : Int) := ⟨q.toNat, by omega⟩
    have hT7 : k ≤ 700 := by omega
    let T : Tx := (fun j => if j < k then g (B + 831 + 1) j else 0, k)
    have hbt : ∀ j, j < T.2 → T.1 j = g (B + 831 + 1) j := fun j hj => if_pos hj
    have hTb : ∀ j, 0 ≤ T.1 j ∧ T.1 j ≤ 255 := fun j => by
      show 0 ≤ (if j < k then g (B + 831 + 1) j else 0) ∧ (if j < k then g (B + 831 + 1) j else 0) ≤ 255
      split
      · exact (lm_y hL j (by omega)).2
      · decide
    cases hp : P_load T with
    | inl r =>
      have hr6 := p6_load r hp
      refine op_ld (T := T) (z := r.1 5) (o := -1) (d2 := r.1) (hist2 := push d hist) (c2 := if c < 8 then c + 1 else 8) hS hL hT7 hb.2 hbt hTb (fun g1 z' h => ?_) (fun g1 g2 z' hd h => ?_) (by omega) (push_6 h6 (lm_h hL))
      · unfold LD at h
        rw [hp] at h
        exact ⟨h.2.2.2.1, h.2.2.2.2.1, h.2.2.2.2.2.1, h.2.2.2.2.2.2⟩
      · unfold LR at h
        rw [hp] at h
        obtain ⟨-, -, -, a1, a2, a3, a4⟩ := h
        rw [hd] at a4
        exact ⟨a1, a2, a3, a4⟩
    | inr e =>
      refine op_ld (T := T) (z := e.1) (o := (e.2 : Int)) (d2 := d) (hist2 := hist) (c2 := c) hS hL hT7 hb.2 hbt hTb (fun g1 z' h => ?_) (fun g1 g2 z' hd h => ?_) (by omega) (fun j hj => by have := lm_h hL j hj; omega)
      · unfold LD at h
        rw [hp] at h
        exact ⟨h.2.2.2.1, h.2.2.2.2.1, h.2.2.2.2.2.1, h.2.2.2.2.2.2⟩
      · unfold LR at h
        rw [hp] at h
        obtain ⟨-, -, -, a1, a2, a3, a4⟩ := h
        exact ⟨a1, a2, a3.trans hd, a4⟩
  · refine op_thr3 (k := 1) (by decide) hS hL (h_load hS.1.1 rfl (c_loadI hS.1 hq (by omega)) (hv_ofE (B := B) q_tQ) (ho_ofE hS q_tQ) (hE_ofE (B := B) (by simp) q_tQ)) ks1 q_tQ (fun sh1 g1 hS1 hL1 hf => ?_)
    have e4 : g1 B = g B := hf B (by omega) (by omega) (by omega)
    exact ⟨_, _, r_loadI (lsMd hS1) hq (by rw [← (lm_b hL1).1, e4]; omega), ar_u⟩
end OPR
