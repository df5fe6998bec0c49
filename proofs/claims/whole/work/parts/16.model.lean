/-! the reference: where its things lie; its numbers as a row d -/
def kMd (m : Nat) : Kd := (9, 0, fun j => match j with | 1 => some (m + 1) | 8 => some (m + 2) | 9 => some (m + 3) | 10 => some (m + 4) | 11 => some (m + 5) | _ => none)
def MdS (sh : Nat → Option Kd) (m : Nat) : Prop :=
  sh m = some (kMd m) ∧ sh (m + 1) = some (10, 700, kN) ∧ sh (m + 2) = some (10, 729, kN) ∧ sh (m + 3) = some (10, 729, kN) ∧ sh (m + 4) = some (10, 729, kN) ∧
  sh (m + 5) = some (20, 8, fun i => some (m + 6 + i)) ∧ ∀ i, i < 8 → sh (m + 6 + i) = some (10, 729, kN)
section MS9
variable {sh : Nat → Option Kd} {m : Nat}
theorem MdS.md (h : MdS sh m) : sh m = some (kMd m) := h.1
theorem MdS.buf (h : MdS sh m) : sh (m + 1) = some (10, 700, kN) := h.2.1
theorem MdS.dat (h : MdS sh m) : sh (m + 2) = some (10, 729, kN) := h.2.2.1
theorem MdS.dra (h : MdS sh m) : sh (m + 3) = some (10, 729, kN) := h.2.2.2.1
theorem MdS.asi (h : MdS sh m) : sh (m + 4) = some (10, 729, kN) := h.2.2.2.2.1
theorem MdS.his (h : MdS sh m) : sh (m + 5) = some (20, 8, fun i => some (m + 6 + i)) := h.2.2.2.2.2.1
theorem MdS.hi (h : MdS sh m) (i : Nat) (hi : i < 8) : sh (m + 6 + i) = some (10, 729, kN) := h.2.2.2.2.2.2 i hi
end MS9
/-- a row with another number at i -/
def ud (d : Nat → Int) (i : Nat) (x : Int) : Nat → Int := fun j => if j = i then x else d j
theorem ud_s {d : Nat → Int} {i : Nat} {x : Int} : ud d i x i = x := if_pos rfl
theorem ud_n {d : Nat → Int} {i j : Nat} {x : Int} (h : j ≠ i) : ud d i x j = d j := if_neg h
/-- a memory with another row at a -/
def upR (g : Mem) (a : Nat) (d : Nat → Int) : Mem := fun b => if b = a then d else g b
theorem upR_s {g : Mem} {a : Nat} {d : Nat → Int} : upR g a d a = d := if_pos rfl
theorem upR_n {g : Mem} {a b : Nat} {d : Nat → Int} (h : b ≠ a) : upR g a d b = g b := if_neg h
theorem upR_id {g : Mem} {a : Nat} : upR g a (g a) = g := by
  funext b
  by_cases h : b = a
  · subst h; exact upR_s
  · exact upR_n h
theorem upR_up2 {g : Mem} {a i : Nat} {d : Nat → Int} {x : Int} : up2 (upR g a d) a i x = upR g a (ud d i x) := by
  funext b j
  by_cases h : b = a
  · subst h
    by_cases hj : j = i
    · subst hj; rw [up2_s, upR_s, ud_s]
    · rw [up2_k hj, upR_s, upR_s, ud_n hj]
  · rw [up2_a h, upR_n h, upR_n h]
theorem up2_upR {g : Mem} {a i : Nat} {x : Int} : up2 g a i x = upR g a (ud (g a) i x) := by
  have h := upR_up2 (g := g) (a := a) (i := i) (d := g a) (x := x)
  rw [upR_id] at h
  exact h
theorem upR_upR {g : Mem} {a : Nat} {d d2 : Nat → Int} : upR (upR g a d) a d2 = upR g a d2 := by
  funext b
  by_cases h : b = a
  · subst h; rw [upR_s, upR_s]
  · rw [upR_n h, upR_n h, upR_n h]
/-- a number brought back into the range of an int -/
def bm (z : Int) : Int := (z + 2147483648) % 4294967296 - 2147483648
theorem bm_r (z : Int) : R32 (bm z) := by unfold bm; exact ⟨by omega, by omega⟩
theorem bm_id {z : Int} (h : R32 z) : bm z = z := by unfold bm; obtain ⟨h1, h2⟩ := h; omega
theorem i32_bm (z : Int) : i32 (bm z) = i32 z := by
  apply Int32.toInt_inj.mp
  rw [i32_toInt (bm_r z)]
  show bm z = (Int32.ofInt z).toInt
  rw [Int32.toInt_ofInt]
  show bm z = Int.bmod z 4294967296
  have h : Int.bmod z 4294967296 = if z % 4294967296 < 2147483648 then z % 4294967296 else z % 4294967296 - 4294967296 := rfl
  rw [h]
  unfold bm
  split <;> omega
def pw : Nat → Int
  | 0 => 1
  | n + 1 => pw n * 10
theorem pw_pos : ∀ n, 0 < pw n
  | 0 => by decide
  | n + 1 => by have := pw_pos n; show 0 < pw n * 10; omega
theorem pw_le {a b : Nat} (h : a ≤ b) : pw a ≤ pw b := by
  induction b with
  | zero => rw [show a = 0 by omega]; exact Int.le_refl _
  | succ b ih =>
    rcases Nat.lt_or_ge a (b + 1) with q | q
    · have := ih (by omega); have := pw_pos b; show pw a ≤ pw b * 10; omega
    · rw [show a = b + 1 by omega]; exact Int.le_refl _
/-! questions of the row d -/
def s_callTo (d : Nat → Int) (x : Int) : Int := fst (fun (c : Nat) => decide ((c : Int) < d 5) && (decide (d (174 + 14 * c) = x) && decide (d (173 + 14 * c) = 5))) 40
def s_callBy (d : Nat → Int) (x : Int) : Int := fst (fun (c : Nat) => decide ((c : Int) < d 5) && (decide (d (169 + 14 * c) = x) && (decide (1 ≤ d (173 + 14 * c)) && decide (d (173 + 14 * c) ≤ 5)))) 40
def s_isBusy (d : Nat → Int) (x : Int) : Bool := !(decide (s_callBy d x = -1) && decide (s_callTo d x = -1))
def s_cnt (d : Nat → Int) (x : Int) : Nat := cnt (fun (c : Nat) => decide ((c : Int) < d 5) && decide (d (173 + 14 * c) = x)) 40
def s_busyTrunks (d : Nat → Int) (x : Int) : Nat := cnt (fun (c : Nat) => decide ((c : Int) < d 5) && (decide (d (173 + 14 * c) = 5) && decide (d (175 + 14 * c) = x))) 40
def s_lineOf (d : Nat → Int) (many value : Int) : Int := fst (fun (k : Nat) => decide ((k : Int) < d 2) && (decide (d (26 + 2 * k) = many) && decide (d (27 + 2 * k) = value))) 12
def s_groupOf (d : Nat → Int) (head tail : Int) : Int := fst (fun (k : Nat) => decide ((k : Int) < d 3) && (decide (d (57 + 9 * k) = head) && decide (d (58 + 9 * k) = tail))) 5
/-- the route with the longest prefix among the first n -/
def s_rfF (d : Nat → Int) (many : Nat) (value : Int) : Nat → Int
  | 0 => -1
  | r + 1 => if (r : Int) < d 4 ∧ d (95 + 7 * r) ≤ (many : Int) ∧ value / pw (many - (d (95 + 7 * r)).toNat) = d (96 + 7 * r) ∧ (s_rfF d many value r = -1 ∨ d (95 + 7 * (s_rfF d many value r).toNat) < d (95 + 7 * r)) then (r : Int) else s_rfF d many value r
def s_routeFor (d : Nat → Int) (many : Nat) (value : Int) : Int := s_rfF d many value 8
def s_isComplete (d : Nat → Int) (many : Nat) (value : Int) : Bool := !decide (s_lineOf d many value = -1) || (!decide (s_routeFor d many value = -1) && decide (d (97 + 7 * (s_routeFor d many value).toNat) = (many : Int)))
def s_isFree (d : Nat → Int) (x : Nat) (first : Bool) : Bool := if first then decide (0 < d (50 + 9 * x) - s_busyTrunks d x) else decide (d (51 + 9 * x) < d (50 + 9 * x) - s_busyTrunks d x)
/-- the first choice from k on, of n, that is free; n -/
def s_chF (d : Nat → Int) (r : Nat) : Nat → Nat → Nat
  | 0, k => k
  | n + 1, k => if s_isFree d (d (99 + 7 * r + k)).toNat (k == 0) then k else s_chF d r n (k + 1)
def s_choiceOf (d : Nat → Int) (r : Nat) : Nat := s_chF d r (d (98 + 7 * r)).toNat 0
/-- the call that waits longest in a state, among the first n -/
def s_fwF (d : Nat → Int) (s : Int) : Nat → Int
  | 0 => -1
  | c + 1 => if (c : Int) < d 5 ∧ d (173 + 14 * c) = s ∧ (s_fwF d s c = -1 ∨ d (181 + 14 * c) < d (181 + 14 * (s_fwF d s c).toNat)) then (c : Int) else s_fwF d s c
def s_foremost (d : Nat → Int) (s : Int) : Int := s_fwF d s 40
/-! changes of the row d -/
def s_isOver (d : Nat → Int) (c : Nat) (is : Int) : Nat → Int := ud (ud (ud d (173 + 14 * c) is) (177 + 14 * c) (d 6)) (178 + 14 * c) 0
def s_waits (d : Nat → Int) (c : Nat) (is : Int) : Nat → Int := ud (ud (ud d (173 + 14 * c) is) 25 (bm (d 25 + 1))) (181 + 14 * c) (bm (d 25 + 1))
def s_comes (d : Nat → Int) (c : Nat) : Nat → Int :=
  if s_isBusy d (d (169 + 14 * c)) = true ∨ d 19 ≤ (s_cnt d 1 : Int) then s_isOver (ud d (182 + 14 * c) 1) c 10 else s_waits (ud d (182 + 14 * c) 1) c 1
def s_freeReg (d : Nat → Int) (c : Nat) : Nat → Int :=
  if d (179 + 14 * c) = -1 then d else
  let r := (d (179 + 14 * c)).toNat
  ud (ud (ud (ud d (151 + 3 * r) (-1)) (152 + 3 * r) 0) (153 + 3 * r) 0) (179 + 14 * c) (-1)
def s_talks (d : Nat → Int) (c : Nat) (line group : Int) : Nat → Int := ud (ud (ud (ud (ud d (173 + 14 * c) 5) (174 + 14 * c) line) (175 + 14 * c) group) (176 + 14 * c) (d 6)) (178 + 14 * c) (d (171 + 14 * c))
def s_addGroup (d : Nat → Int) (x what : Nat) (v : Int) : Nat → Int := ud d (50 + 9 * x + what) (bm (d (50 + 9 * x + what) + v))
section JN
variable {w : Wd} {Y : MD} {pc : Nat} {L : List (Nat × Value)} {S : List Value} {sh : Shp} {g : Mem} {kc ks : Nat} {Q : Post}
/-- the number on top brought back into range -/
theorem j_nb {x : Int} (kk : J w Y pc L (.int (i32 (bm x)) :: S) sh g kc ks Q) : J w Y pc L (.int (i32 x) :: S) sh g kc ks Q := by rw [i32_bm] at kk; exact kk
/-- all numbers of an array of ints are in range -/
theorem j_rgi {a : Nat} {kd : Kd} (hs : sh.1 a = some kd) (hc : kd.1 = 10) (kk : (∀ j, R32 (g a j)) → J w Y pc L S sh g kc ks Q) : J w Y pc L S sh g kc ks Q := by
  intro p l e s m args below meth c H locs cells slots Z ls C hZ hR hlo hcl hsl hl
  refine kk (fun j => ?_) p l e s m args below meth c H locs cells slots Z ls C hZ hR hlo hcl hsl hl
  have h := (hR.1 a kd hs).2.2.2 j
  unfold k_rng at h
  rw [if_neg (by omega), if_neg (by omega), if_pos hc] at h
  exact h
theorem j_rgd {a : Nat} {kd : Kd} {d : Nat → Int} (hs : sh.1 a = some kd) (hc : kd.1 = 10) (kk : (∀ j, R32 (d j)) → J w Y pc L S sh (upR g a d) kc ks Q) : J w Y pc L S sh (upR g a d) kc ks Q :=
  j_rgi hs hc (fun h => kk (fun j => by have h1 := h j; rw [upR_s] at h1; exact h1))
theorem j_iald_d (n i : Nat) {a : Nat} {kd : Kd} {x : Int} {d : Nat → Int} (hd : decode (md_c Y) pc = .ok (.iaload, 1)) (hn : pc + 1 = n) (hs : sh.1 a = some kd) (hc : kd.1 = 10) (hx : x = (i : Int)) (hi : i < kd.2.1)
    (kk : R32 (d i) → J w Y n L (.int (i32 (d i)) :: S) sh (upR g a d) kc ks Q) : J w Y pc L (.int (i32 x) :: .ref a :: S) sh (upR g a d) kc ks Q := by
  refine j_iald n i hd hn hs hc hx hi (fun h => ?_)
  rw [upR_s] at h ⊢
  exact kk h
theorem j_iast_d (n i : Nat) {a : Nat} {kd : Kd} {x v : Int} {d : Nat → Int} (hd : decode (md_c Y) pc = .ok (.iastore, 1)) (hn : pc + 1 = n) (hs : sh.1 a = some kd) (hc : kd.1 = 10) (hx : x = (i : Int)) (hi : i < kd.2.1) (hv : R32 v)
    (kk : J w Y n L S sh (upR g a (ud d i v)) kc ks Q) : J w Y pc L (.int (i32 v) :: .int (i32 x) :: .ref a :: S) sh (upR g a d) kc ks Q := by
  refine j_iast n i hd hn hs hc hx hi hv ?_
  rw [upR_up2]
  exact kk
theorem j_dn {a : Nat} {d : Nat → Int} (kk : ∀ d2 : Nat → Int, d2 = d → J w Y pc L S sh (upR g a d2) kc ks Q) : J w Y pc L S sh (upR g a d) kc ks Q := kk d rfl
theorem j_d {a : Nat} {d d2 : Nat → Int} (h : d = d2) (kk : J w Y pc L S sh (upR g a d2) kc ks Q) : J w Y pc L S sh (upR g a d) kc ks Q := h ▸ kk
theorem q_d {a : Nat} {d d2 : Nat → Int} (h : d = d2) : dQ none sh (upR g a d2) (.inl none) sh (upR g a d) := by rw [h]; exact ⟨rfl, rfl, rfl⟩
end JN
theorem s_rfF_s (d : Nat → Int) (many : Nat) (value : Int) (r : Nat) : s_rfF d many value (r + 1) = if (r : Int) < d 4 ∧ d (95 + 7 * r) ≤ (many : Int) ∧ value / pw (many - (d (95 + 7 * r)).toNat) = d (96 + 7 * r) ∧ (s_rfF d many value r = -1 ∨ d (95 + 7 * (s_rfF d many value r).toNat) < d (95 + 7 * r)) then (r : Int) else s_rfF d many value r := rfl
theorem s_rfF_cut {d : Nat → Int} {many : Nat} {value : Int} {k n : Nat} (hk : d 4 ≤ (k : Int)) (hn : k ≤ n) : s_rfF d many value k = s_rfF d many value n := by
  induction n with
  | zero => rw [show k = 0 by omega]
  | succ n ih =>
    rcases Nat.lt_or_ge k (n + 1) with q | q
    · rw [s_rfF_s, if_neg (fun h => by omega)]
      exact ih (by omega)
    · rw [show k = n + 1 by omega]
theorem div_r32 {x y : Int} (hx : 0 ≤ x) (hx2 : x ≤ 2147483647) (hy : 0 < y) : R32 (x / y) := by
  have h1 := Int.ediv_nonneg hx (Int.le_of_lt hy)
  have h2 := Int.ediv_le_self y hx
  exact ⟨by omega, by omega⟩
