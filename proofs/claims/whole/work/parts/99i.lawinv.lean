/-! the law: what holds between two draws -/
def LSh (B : Nat) (sh : Shp) : Prop := CxS sh.1 B ∧ (∃ t0, sh.1 (B + 754) = some (kRd (B + 754) t0)) ∧ ExS sh.1 (B + 754 + 1) ∧ MdS sh.1 (B + 831) ∧ sh.1 (B + 845) = some (12, 1, kN) ∧ sh.1 (B + 846) = some (13, 1, kN)
def LM (B n : Nat) (g : Mem) (d : Nat → Int) (hist : Nat → (Nat → Int)) (c : Nat) : Prop :=
  KX g (B + 2) d ∧ HX g (B + 152) hist c ∧ HR g (B + 831) hist c ∧ g (B + 831 + 2) = d ∧ ExI g (B + 77) ∧ ExI g (B + 754 + 1) ∧ (0 ≤ d 6 ∧ d 6 ≤ 300 * (n : Int)) ∧ (∀ j, j < c → 0 ≤ hist j 6 ∧ hist j 6 ≤ 300 * (n : Int)) ∧
  (g B 1 = g (B + 831) 2 ∧ 0 ≤ g B 1 ∧ g B 1 ≤ 700) ∧ (∀ k : Nat, (k : Int) < g B 1 → g (B + 1) k = sb (g (B + 831 + 1) k) ∧ 0 ≤ g (B + 831 + 1) k ∧ g (B + 831 + 1) k ≤ 255) ∧ g B 2 = g (B + 831) 7
def LI (B n : Nat) (sh : Shp) (g : Mem) : Prop := LSh B sh ∧ ∃ d hist c, LM B n g d hist c
section LIS
variable {B n n' : Nat} {sh sh2 : Shp} {g g2 : Mem} {d : Nat → Int} {hist : Nat → (Nat → Int)} {c : Nat}
theorem LSh.same (h : LSh B sh) (e : sh2.1 = sh.1) : LSh B sh2 := by unfold LSh; rw [e]; exact h
/-- what a question may change: the trial, the reference's mark of errors and its aside row, the two answers -/
def Ask (B : Nat) (g g2 : Mem) : Prop := (∀ a, (a < B + 77 ∨ B + 152 ≤ a) → a ≠ B + 831 → a ≠ B + 831 + 4 → a ≠ B + 845 → a ≠ B + 846 → g2 a = g a) ∧ (∀ j, j ≠ 0 → g2 (B + 831) j = g (B + 831) j) ∧ (ExI g (B + 77) → ExI g2 (B + 77))
theorem Ask.rf : Ask B g g := ⟨fun _ _ _ _ _ _ => rfl, fun _ _ => rfl, fun h => h⟩
theorem Ask.tr {g1 : Mem} (h : Ask B g g1) (h2 : Ask B g1 g2) : Ask B g g2 := ⟨fun a a1 a2 a3 a4 a5 => (h2.1 a a1 a2 a3 a4 a5).trans (h.1 a a1 a2 a3 a4 a5), fun j hj => (h2.2.1 j hj).trans (h.2.1 j hj), fun q => h2.2.2 (h.2.2 q)⟩
theorem LM.ask (h : LM B n g d hist c) (hn : n ≤ n') (q : Ask B g g2) : LM B n' g2 d hist c := by
  obtain ⟨h1, h2, h3, h4, h5, h6, h7, h8, h9, h10, h11⟩ := h
  obtain ⟨q1, q2, q3⟩ := q
  refine ⟨h1.rows (fun a a1 a2 => q1 a (by omega) (by omega) (by omega) (by omega) (by omega)), h2.rows (fun a a1 a2 => q1 a (by omega) (by omega) (by omega) (by omega) (by omega)), h3.same (q2 12 (by decide)) (fun a a1 a2 => q1 a (by omega) (by omega) (by omega) (by omega) (by omega)), ?_, q3 h5, h6.fr (fun a a1 a2 => q1 a (by omega) (by omega) (by omega) (by omega) (by omega)), ⟨h7.1, by omega⟩, fun j hj => ⟨(h8 j hj).1, by have := (h8 j hj).2; omega⟩, ?_, ?_, ?_⟩
  · rw [q1 _ (by omega) (by omega) (by omega) (by omega) (by omega)]; exact h4
  · rw [q1 B (by omega) (by omega) (by omega) (by omega) (by omega), q2 2 (by decide)]; exact h9
  · rw [q1 B (by omega) (by omega) (by omega) (by omega) (by omega), q1 (B + 1) (by omega) (by omega) (by omega) (by omega) (by omega), q1 (B + 831 + 1) (by omega) (by omega) (by omega) (by omega) (by omega)]; exact h10
  · rw [q1 B (by omega) (by omega) (by omega) (by omega) (by omega), q2 7 (by decide)]; exact h11
theorem Ask.out {x : Int} : Ask B g (up2 g (B + 845) 0 x) := ⟨fun a _ _ _ h _ => up2_row h, fun j _ => up2_a (by omega), fun h => h.fr (fun a _ _ => up2_row (by omega))⟩
theorem Ask.outD {x : Int} : Ask B g (up2 g (B + 846) 0 x) := ⟨fun a _ _ _ _ h => up2_row h, fun j _ => up2_a (by omega), fun h => h.fr (fun a _ _ => up2_row (by omega))⟩
theorem Ask.tri (h : ∀ a, a < B + 77 ∨ B + 152 ≤ a → g2 a = g a) (h2 : ExI g2 (B + 77)) : Ask B g g2 := ⟨fun a a1 _ _ _ _ => h a a1, fun j _ => by rw [h _ (by omega)], fun _ => h2⟩
/-- the reference's side of a question -/
def AR (g g2 : Mem) (m : Nat) (k : Int) : Prop := g2 m 0 = k ∧ (∀ a, a ≠ m → a ≠ m + 4 → g2 a = g a) ∧ ∀ j, j ≠ 0 → g2 m j = g m j
theorem ar_0 {m : Nat} (h : g (m + 2) = d) : AR g (upR (up2 g m 0 0) (m + 2) d) m 0 := ⟨by rw [upR_at (by omega)]; exact up2_s, fun a a1 a2 => by
  by_cases z : a = m + 2
  · subst z; rw [upR_s, h]
  · rw [upR_n z, up2_row a1], fun j hj => by rw [upR_at (by omega), up2_k hj]⟩
theorem ar_k {m : Nat} {k : Int} (h : g (m + 2) = d) : AR g (upR (up2 (up2 g m 0 0) m 0 k) (m + 2) d) m k := ⟨by rw [upR_at (by omega)]; exact up2_s, fun a a1 a2 => by
  by_cases z : a = m + 2
  · subst z; rw [upR_s, h]
  · rw [upR_n z, up2_row a1, up2_row a1], fun j hj => by rw [upR_at (by omega), up2_k hj, up2_k hj]⟩
theorem ar_a {m : Nat} {e : Nat → Int} (h : g (m + 2) = d) : AR g (upR (upR (up2 g m 0 0) (m + 4) e) (m + 2) d) m 0 := ⟨by rw [upR_at (by omega), upR_at (by omega)]; exact up2_s, fun a a1 a2 => by
  by_cases z : a = m + 2
  · subst z; rw [upR_s, h]
  · rw [upR_n z, upR_n a2, up2_row a1], fun j hj => by rw [upR_at (by omega), upR_at (by omega), up2_k hj]⟩
theorem ar_u {m : Nat} {k : Int} : AR g (up2 (up2 g m 0 0) m 0 k) m k := ⟨up2_s, fun a a1 a2 => by rw [up2_row a1, up2_row a1], fun j hj => by rw [up2_k hj, up2_k hj]⟩
theorem ar_u0 {m : Nat} : AR g (up2 g m 0 0) m 0 := ⟨up2_s, fun a a1 a2 => up2_row a1, fun j hj => up2_k hj⟩
theorem AR.ask {k : Int} (h : AR g g2 (B + 831) k) : Ask B g g2 := ⟨fun a _ a2 a3 _ _ => h.2.1 a a2 a3, fun j hj => h.2.2 j hj, fun q => q.fr (fun a _ _ => h.2.1 a (by omega) (by omega))⟩
end LIS
/-- a draw with a helper: both sides end alike -/
def OPH (w : Wd) (mh mr : MD) (As : List Value) (B n' : Nat) (sh : Shp) (g : Mem) : Prop :=
  ∃ Q1 : Post, CT w mh (.ref B :: (As ++ [.ref (B + 845)])) sh g Q1 ∧ (∀ E sh1 g1, ¬ Q1 (.inr E) sh1 g1) ∧
   ∀ v sh1 g1, Q1 (.inl v) sh1 g1 → ∃ k : Int, (0 ≤ k ∧ k ≤ 3) ∧ v = some (.int (i32 k)) ∧ LSh B sh1 ∧
     ∃ Q2 : Post, CT w mr (.ref (B + 831) :: As) sh1 g1 Q2 ∧ (∀ E sh2 g2, ¬ Q2 (.inr E) sh2 g2) ∧
      ∀ v2 sh2 g2, Q2 (.inl v2) sh2 g2 → ∃ z : Int32, v2 = some (.int z) ∧ g2 (B + 831) 0 = k ∧ (k = 0 → g2 (B + 845) 0 = z.toInt) ∧ LI B n' sh2 g2
section OPS
variable {w : Wd} {mh mr : MD} {As : List Value} {B n : Nat} {sh : Shp} {g : Mem} {d : Nat → Int} {hist : Nat → (Nat → Int)} {c : Nat} {Qc : Post} {ks : List (String × Int)}
/-- a question with an answer -/
theorem op_good {x : Int32} (hS : LSh B sh) (hL : LM B n g d hist c) (hH : CT w mh (.ref B :: (As ++ [.ref (B + 845)])) sh g (LQ Qc (B + 845) ks))
    (hQ : ∀ r sh1 g1, Qc r sh1 g1 → r = .inl (some (.int x)) ∧ sh1.1 = sh.1 ∧ Ask B g g1)
    (hr : ∀ sh1 g1, LSh B sh1 → LM B n g1 d hist c → (∀ a, a ≠ B + 845 → (a < B + 77 ∨ B + 152 ≤ a) → a ≠ B + 831 → g1 a = g a ∨ a = B + 831 + 4 ∨ a = B + 846) → ∃ sh2 g2, CT w mr (.ref (B + 831) :: As) sh1 g1 (dQ (some (.int x)) sh2 g2) ∧ sh2.1 = sh1.1 ∧ AR g1 g2 (B + 831) 0) : OPH w mh mr As B (n + 1) sh g := by
  refine ⟨_, hH, x_lq, fun v sh1 g1 h1 => ?_⟩
  rcases h1 with ⟨x2, g', q1, q2, q3⟩ | ⟨E, k, -, q1, -⟩
  · obtain ⟨e1, e2, e3⟩ := hQ _ _ _ q1
    cases e1
    cases q2
    have hA : Ask B g g1 := by rw [q3]; exact e3.tr Ask.out
    have hS1 := hS.same e2
    obtain ⟨sh2, g2, c1, c2, c3⟩ := hr sh1 g1 hS1 (hL.ask (Nat.le_refl _) hA) (fun a a1 a2 a3 => by
      by_cases z : a = B + 831 + 4
      · exact Or.inr (Or.inl z)
      · by_cases z2 : a = B + 846
        · exact Or.inr (Or.inr z2)
        · exact Or.inl (hA.1 a a2 a3 z a1 z2))
    refine ⟨0, by decide, rfl, hS1, _, c1, x_d, fun v2 sh3 g3 h3 => ?_⟩
    obtain ⟨d1, rfl, rfl⟩ := h3
    cases d1
    refine ⟨x, rfl, c3.1, fun _ => ?_, hS1.same c2, d, hist, c, hL.ask (Nat.le_succ _) (hA.tr c3.ask)⟩
    rw [c3.2.1 _ (by omega) (by omega), q3]
    exact up2_s
  · obtain ⟨e1, -, -⟩ := hQ _ _ _ q1
    cases e1
/-- a question that both sides refuse -/
theorem op_thr {E : String} {k : Int} (hk : 1 ≤ k ∧ k ≤ 3) (hS : LSh B sh) (hL : LM B n g d hist c) (hH : CT w mh (.ref B :: (As ++ [.ref (B + 845)])) sh g (LQ Qc (B + 845) ks)) (hks : ∀ k', (E, k') ∈ ks → k' = k)
    (hQ : ∀ r sh1 g1, Qc r sh1 g1 → r = .inr E ∧ sh1.1 = sh.1 ∧ Ask B g g1)
    (hr : ∀ sh1 g1, LSh B sh1 → LM B n g1 d hist c → ∃ x g2, CT w mr (.ref (B + 831) :: As) sh1 g1 (dQ (some (.int x)) sh1 g2) ∧ AR g1 g2 (B + 831) k) : OPH w mh mr As B (n + 1) sh g := by
  refine ⟨_, hH, x_lq, fun v sh1 g1 h1 => ?_⟩
  rcases h1 with ⟨x2, g', q1, q2, q3⟩ | ⟨E2, k2, hm, q1, q2⟩
  · obtain ⟨e1, -, -⟩ := hQ _ _ _ q1
    cases e1
  · obtain ⟨e1, e2, e3⟩ := hQ _ _ _ q1
    cases e1
    cases q2
    have hk2 := hks k2 hm
    subst hk2
    have hS1 := hS.same e2
    obtain ⟨x, g2, c1, c3⟩ := hr sh1 g1 hS1 (hL.ask (Nat.le_refl _) e3)
    refine ⟨k2, by omega, rfl, hS1, _, c1, x_d, fun v2 sh3 g3 h3 => ?_⟩
    obtain ⟨d1, rfl, rfl⟩ := h3
    cases d1
    exact ⟨x, rfl, c3.1, fun h => absurd h (by omega), hS1, d, hist, c, hL.ask (Nat.le_succ _) (e3.tr c3.ask)⟩
theorem hv_of {x : Int32} (hQ : ∀ r sh1 g1, Qc r sh1 g1 → r = .inl (some (.int x)) ∧ sh1.1 = sh.1 ∧ Ask B g g1) : ∀ v sh' g', Qc (.inl v) sh' g' → ∃ x : Int32, v = some (.int x) := fun v sh' g' h => by
  have := (hQ _ _ _ h).1
  cases this
  exact ⟨x, rfl⟩
theorem hv_ofE {E : String} (hQ : ∀ r sh1 g1, Qc r sh1 g1 → r = .inr E ∧ sh1.1 = sh.1 ∧ Ask B g g1) : ∀ v sh' g', Qc (.inl v) sh' g' → ∃ x : Int32, v = some (.int x) := fun v sh' g' h => by
  have := (hQ _ _ _ h).1
  cases this
theorem ho_of {x : Int32} (hS : LSh B sh) (hQ : ∀ r sh1 g1, Qc r sh1 g1 → r = .inl (some (.int x)) ∧ sh1.1 = sh.1 ∧ Ask B g g1) : ∀ v sh' g', Qc (.inl v) sh' g' → sh'.1 (B + 845) = some (12, 1, kN) := fun v sh' g' h => by
  rw [(hQ _ _ _ h).2.1]; exact hS.2.2.2.2.1
theorem ho_ofE {E : String} (hS : LSh B sh) (hQ : ∀ r sh1 g1, Qc r sh1 g1 → r = .inr E ∧ sh1.1 = sh.1 ∧ Ask B g g1) : ∀ v sh' g', Qc (.inl v) sh' g' → sh'.1 (B + 845) = some (12, 1, kN) := fun v sh' g' h => by
  have := (hQ _ _ _ h).1
  cases this
theorem hE_of {x : Int32} {l : List String} (hQ : ∀ r sh1 g1, Qc r sh1 g1 → r = .inl (some (.int x)) ∧ sh1.1 = sh.1 ∧ Ask B g g1) : ∀ E sh' g', Qc (.inr E) sh' g' → E ∈ l := fun E sh' g' h => by
  have := (hQ _ _ _ h).1
  cases this
theorem hE_ofE {E : String} {l : List String} (hl : E ∈ l) (hQ : ∀ r sh1 g1, Qc r sh1 g1 → r = .inr E ∧ sh1.1 = sh.1 ∧ Ask B g g1) : ∀ E2 sh' g', Qc (.inr E2) sh' g' → E2 ∈ l := fun E2 sh' g' h => by
  have := (hQ _ _ _ h).1
  cases this
  exact hl
theorem q_dQ {x : Int32} : ∀ r sh1 g1, dQ (some (.int x)) sh g r sh1 g1 → r = .inl (some (.int x)) ∧ sh1.1 = sh.1 ∧ Ask B g g1 := fun r sh1 g1 h => by
  obtain ⟨h1, rfl, rfl⟩ := h
  exact ⟨h1, rfl, Ask.rf⟩
theorem q_tQ {E : String} : ∀ r sh1 g1, tQ E sh g r sh1 g1 → r = .inr E ∧ sh1.1 = sh.1 ∧ Ask B g g1 := fun r sh1 g1 h => by
  obtain ⟨h1, rfl, rfl⟩ := h
  exact ⟨h1, rfl, Ask.rf⟩
theorem q_triQ {z0 : Int} : ∀ r sh1 g1, iQ sh (fun z g2 => z = z0 ∧ (∀ a, a < B + 77 ∨ B + 152 ≤ a → g2 a = g a) ∧ ExI g2 (B + 77)) r sh1 g1 → r = .inl (some (.int (i32 z0))) ∧ sh1.1 = sh.1 ∧ Ask B g g1 := fun r sh1 g1 h => by
  obtain ⟨z, h1, rfl, rfl, h3, h4⟩ := h
  exact ⟨h1, rfl, Ask.tri h3 h4⟩
end OPS
