/-! shapes: where the things of an Exchange at e lie -/
def kN : Nat → Option Nat := fun _ => none
def kEx (e : Nat) : Kd := (1, 0, fun j => match j with | 13 => some (e + 1) | 14 => some (e + 2) | 15 => some (e + 8) | 16 => some (e + 25) | 17 => some (e + 30) | 18 => some (e + 34) | _ => none)
def kRt (e : Nat) : Kd := (6, 0, fun j => match j with | 4 => some e | _ => none)
def ExS (sh : Nat → Option Kd) (e : Nat) : Prop :=
  sh e = some (kEx e) ∧ sh (e + 1) = some (10, 12, kN) ∧ sh (e + 2) = some (14, 5, fun i => some (e + 3 + i)) ∧ (∀ i, i < 5 → sh (e + 3 + i) = some (2, 0, kN)) ∧
  sh (e + 8) = some (15, 8, fun i => some (e + 9 + 2 * i)) ∧ (∀ i, i < 8 → sh (e + 9 + 2 * i) = some (kRt (e + 10 + 2 * i))) ∧ (∀ i, i < 8 → sh (e + 10 + 2 * i) = some (10, 3, kN)) ∧
  sh (e + 25) = some (16, 4, fun i => some (e + 26 + i)) ∧ (∀ i, i < 4 → sh (e + 26 + i) = some (5, 0, kN)) ∧
  sh (e + 30) = some (17, 3, fun i => some (e + 31 + i)) ∧ (∀ i, i < 3 → sh (e + 31 + i) = some (4, 0, kN)) ∧
  sh (e + 34) = some (18, 40, fun i => some (e + 35 + i)) ∧ ∀ i, i < 40 → sh (e + 35 + i) = some (0, 0, kN)
section ES
variable {sh : Nat → Option Kd} {e : Nat}
theorem ExS.ex (h : ExS sh e) : sh e = some (kEx e) := h.1
theorem ExS.num (h : ExS sh e) : sh (e + 1) = some (10, 12, kN) := h.2.1
theorem ExS.grs (h : ExS sh e) : sh (e + 2) = some (14, 5, fun i => some (e + 3 + i)) := h.2.2.1
theorem ExS.gr (h : ExS sh e) (i : Nat) (hi : i < 5) : sh (e + 3 + i) = some (2, 0, kN) := h.2.2.2.1 i hi
theorem ExS.rts (h : ExS sh e) : sh (e + 8) = some (15, 8, fun i => some (e + 9 + 2 * i)) := h.2.2.2.2.1
theorem ExS.rt (h : ExS sh e) (i : Nat) (hi : i < 8) : sh (e + 9 + 2 * i) = some (kRt (e + 10 + 2 * i)) := h.2.2.2.2.2.1 i hi
theorem ExS.ch (h : ExS sh e) (i : Nat) (hi : i < 8) : sh (e + 10 + 2 * i) = some (10, 3, kN) := h.2.2.2.2.2.2.1 i hi
theorem ExS.rgs (h : ExS sh e) : sh (e + 25) = some (16, 4, fun i => some (e + 26 + i)) := h.2.2.2.2.2.2.2.1
theorem ExS.rg (h : ExS sh e) (i : Nat) (hi : i < 4) : sh (e + 26 + i) = some (5, 0, kN) := h.2.2.2.2.2.2.2.2.1 i hi
theorem ExS.mks (h : ExS sh e) : sh (e + 30) = some (17, 3, fun i => some (e + 31 + i)) := h.2.2.2.2.2.2.2.2.2.1
theorem ExS.mk (h : ExS sh e) (i : Nat) (hi : i < 3) : sh (e + 31 + i) = some (4, 0, kN) := h.2.2.2.2.2.2.2.2.2.2.1 i hi
theorem ExS.cls (h : ExS sh e) : sh (e + 34) = some (18, 40, fun i => some (e + 35 + i)) := h.2.2.2.2.2.2.2.2.2.2.2.1
theorem ExS.cl (h : ExS sh e) (i : Nat) (hi : i < 40) : sh (e + 35 + i) = some (0, 0, kN) := h.2.2.2.2.2.2.2.2.2.2.2.2 i hi
end ES
/-- the things know their places -/
def ExI (g : Mem) (e : Nat) : Prop := (∀ i, i < 5 → g (e + 3 + i) 0 = (i : Int)) ∧ (∀ i, i < 8 → g (e + 9 + 2 * i) 0 = (i : Int)) ∧ (∀ i, i < 4 → g (e + 26 + i) 0 = (i : Int)) ∧ (∀ i, i < 3 → g (e + 31 + i) 0 = (i : Int)) ∧ ∀ i, i < 40 → g (e + 35 + i) 0 = (i : Int)
/-- the first place below n where p holds; -1 -/
def fstF (p : Nat → Bool) : Nat → Nat → Int
  | 0, _ => -1
  | n + 1, k => if p k then (k : Int) else fstF p n (k + 1)
def fst (p : Nat → Bool) (n : Nat) : Int := fstF p n 0
theorem fstF_skip {p : Nat → Bool} {n k : Nat} (h : p k = false) : fstF p (n + 1) k = fstF p n (k + 1) := by simp [fstF, h]
theorem fstF_hit {p : Nat → Bool} {n k : Nat} (h : p k = true) : fstF p (n + 1) k = (k : Int) := by simp [fstF, h]
theorem fst_go {p : Nat → Bool} {n : Nat} : ∀ k, k ≤ n → (∀ j, j < k → p j = false) → fst p n = fstF p (n - k) k
  | 0, _, _ => rfl
  | k + 1, hk, h => by
    rw [fst_go k (by omega) (fun j hj => h j (by omega)), show n - k = (n - (k + 1)) + 1 by omega, fstF_skip (h k (by omega))]
theorem fst_hit {p : Nat → Bool} {n k : Nat} (hk : k < n) (h : ∀ j, j < k → p j = false) (hp : p k = true) : fst p n = (k : Int) := by
  rw [fst_go k (by omega) h, show n - k = (n - (k + 1)) + 1 by omega, fstF_hit hp]
theorem fst_none {p : Nat → Bool} {n : Nat} (h : ∀ j, j < n → p j = false) : fst p n = -1 := by
  rw [fst_go n (Nat.le_refl n) h, Nat.sub_self]
  rfl
/-- how often p holds below n -/
def cnt (p : Nat → Bool) : Nat → Nat
  | 0 => 0
  | n + 1 => cnt p n + if p n then 1 else 0
theorem cnt_le (p : Nat → Bool) : ∀ n, cnt p n ≤ n
  | 0 => Nat.le_refl 0
  | n + 1 => by
    have h := cnt_le p n
    show cnt p n + (if p n then 1 else 0) ≤ n + 1
    split <;> omega
theorem cnt_y {p : Nat → Bool} {n : Nat} (h : p n = true) : cnt p (n + 1) = cnt p n + 1 := by simp [cnt, h]
theorem cnt_n {p : Nat → Bool} {n : Nat} (h : p n = false) : cnt p (n + 1) = cnt p n := by simp [cnt, h]
theorem lt_step {i : Nat} {P : Nat → Prop} (h : ∀ j, j < i → P j) (hi : P i) : ∀ j, j < i + 1 → P j := fun j hj => by
  rcases Nat.lt_or_ge j i with q | q
  · exact h j q
  · rw [show j = i by omega]; exact hi
theorem q_i {sh : Shp} {g : Mem} {z z0 : Int} (h : z = z0) : dQ (some (.int (i32 z0))) sh g (.inl (some (.int (i32 z)))) sh g := by rw [h]; exact ⟨rfl, rfl, rfl⟩
theorem q_m {sh : Shp} {g g0 : Mem} (h : g = g0) : dQ none sh g0 (.inl none) sh g := by rw [h]; exact ⟨rfl, rfl, rfl⟩
def b01 (b : Bool) : Int := if b then 1 else 0
theorem b01_t {b : Bool} (h : b = true) : (1 : Int) = b01 b := by rw [h]; rfl
theorem b01_f {b : Bool} (h : b = false) : (0 : Int) = b01 b := by rw [h]; rfl
theorem b01_r (b : Bool) : b01 b = 0 ∨ b01 b = 1 := by cases b <;> simp [b01]
theorem b01_0 {b : Bool} (h : b01 b = 0) : b = false := by cases b <;> simp_all [b01]
theorem b01_1 {b : Bool} (h : ¬ b01 b = 0) : b = true := by cases b <;> simp_all [b01]
/-! what the Exchange's questions answer, out of the memory -/
def x_callTo (g : Mem) (e : Nat) (x : Int) : Int := fst (fun i => decide (g (e + 35 + i) 1 = 5) && decide (g (e + 35 + i) 8 = x)) 40
def x_callFrom (g : Mem) (e : Nat) (x : Int) : Int := fst (fun i => decide (1 ≤ g (e + 35 + i) 1) && (decide (g (e + 35 + i) 1 ≤ 5) && decide (g (e + 35 + i) 2 = x))) 40
def x_isBusy (g : Mem) (e : Nat) (x : Int) : Bool := !(decide (x_callFrom g e x = -1) && decide (x_callTo g e x = -1))
def x_countIn (g : Mem) (e : Nat) (x : Int) : Nat := cnt (fun i => decide (g (e + 35 + i) 1 = x)) 40
def x_busyTrunks (g : Mem) (e : Nat) (x : Int) : Nat := cnt (fun i => decide (g (e + 35 + i) 1 = 5) && decide (g (e + 35 + i) 9 = x)) 40
def sm (f : Nat → Int) : Nat → Int
  | 0 => 0
  | n + 1 => sm f n + f n
def x_cameFrom (g : Mem) (e : Nat) (x : Int) : Nat := cnt (fun i => !decide (g (e + 35 + i) 1 = -1) && (!decide (g (e + 35 + i) 6 = 0) && decide (g (e + 35 + i) 2 = x))) 40
def x_ended (g : Mem) (e : Nat) (x : Int) : Nat := cnt (fun i => decide (g (e + 35 + i) 1 = 6) && decide (g (e + 35 + i) 2 = x)) 40
def x_registerOf (g : Mem) (e : Nat) (x : Int) : Int := fst (fun i => decide (g (e + 26 + i) 1 = x)) 4
def x_lineWith (g : Mem) (e : Nat) (x : Int) : Int := fst (fun i => decide ((i : Int) < g e 2) && decide (g (e + 1) i = x)) 12
def x_groupNamed (g : Mem) (e : Nat) (x : Int) : Int := fst (fun i => decide ((i : Int) < g e 3) && decide (g (e + 3 + i) 1 = x)) 5
def x_prefixAt (g : Mem) (e : Nat) (x : Int) : Int := fst (fun i => decide ((i : Int) < g e 4) && decide (g (e + 9 + 2 * i) 1 = x)) 8
def x_busyLines (g : Mem) (e : Nat) : Nat := cnt (fun i => decide ((i : Int) < g e 2) && x_isBusy g e (i : Int)) 12
def x_allOv (g : Mem) (e : Nat) : Int := sm (fun i => if (i : Int) < g e 3 then g (e + 3 + i) 4 else 0) 5
/-- the place of the route with the longest prefix with which a row begins; n: more than the row's digits -/
def x_rfF (g : Mem) (e : Nat) : Nat → Int → Option Nat
  | 0, _ => none
  | n + 1, s => if s < 10 then none else if x_prefixAt g e s = -1 then x_rfF g e n (s / 10) else some (x_prefixAt g e s).toNat
def x_routeFor (g : Mem) (e : Nat) (s : Int) : Option Nat := x_rfF g e 8 s
/-- the place of the call that waits longest in a state, among the first n -/
def x_fwF (g : Mem) (e : Nat) (s : Int) : Nat → Option Nat
  | 0 => none
  | n + 1 => if g (e + 35 + n) 1 = s then (match x_fwF g e s n with | none => some n | some r => if g (e + 35 + n) 7 < g (e + 35 + r) 7 then some n else some r) else x_fwF g e s n
def x_firstWaiting (g : Mem) (e : Nat) (s : Int) : Option Nat := x_fwF g e s 40
theorem x_fwF_lt {g : Mem} {e : Nat} {s : Int} {r : Nat} : ∀ {n : Nat}, x_fwF g e s n = some r → r < n
  | 0, h => by cases h
  | n + 1, h => by
    unfold x_fwF at h
    split at h
    · split at h
      · cases h; omega
      · next r' h' =>
        have := x_fwF_lt h'
        split at h <;> cases h <;> omega
    · have := x_fwF_lt h
      omega
theorem fst_rng (p : Nat → Bool) (n : Nat) : fst p n = -1 ∨ ∃ k, k < n ∧ fst p n = (k : Int) ∧ p k = true := by
  by_cases h : ∃ k, k < n ∧ p k = true
  · obtain ⟨k, hk⟩ := h
    have : ∃ k, (k < n ∧ p k = true) ∧ ∀ j, j < k → ¬ (j < n ∧ p j = true) := by
      obtain ⟨k, hk1, hk2⟩ := pk_least (fun k => k < n ∧ p k = true) ⟨k, hk⟩
      exact ⟨k, hk1, hk2⟩
    obtain ⟨k, ⟨h1, h2⟩, h3⟩ := this
    refine Or.inr ⟨k, h1, fst_hit h1 (fun j hj => ?_) h2, h2⟩
    have := h3 j hj
    cases hp : p j
    · rfl
    · exact absurd ⟨by omega, hp⟩ this
  · refine Or.inl (fst_none fun j hj => ?_)
    cases hp : p j
    · rfl
    · exact absurd ⟨j, hj, hp⟩ h
/-- a row's number of digits (the first 1 isn't one) -/
def r_len : Nat → Int → Nat
  | 0, _ => 0
  | n + 1, s => if s < 10 then 0 else r_len n (s / 10) + 1
def x_len (s : Int) : Nat := r_len 8 s
def x_isComplete (g : Mem) (e : Nat) (s : Int) : Bool := !decide (x_lineWith g e s = -1) || (match x_routeFor g e s with | none => false | some r => decide (g (e + 9 + 2 * r) 2 = (x_len s : Int)))
theorem x_fwF_s (g : Mem) (e : Nat) (s : Int) (n : Nat) : x_fwF g e s (n + 1) = if g (e + 35 + n) 1 = s then (match x_fwF g e s n with | none => some n | some r => if g (e + 35 + n) 7 < g (e + 35 + r) 7 then some n else some r) else x_fwF g e s n := rfl
