/-! constructors: tools, and the small ones -/
theorem dv_0 : ∀ j, j < f_n 0 → defaultValue (f_ty 0 j) = f_val (f_ty 0 j) 0 none := fun j hj => match j, hj with
  | 0, _ => rfl
  | 1, _ => rfl
  | 2, _ => rfl
  | 3, _ => rfl
  | 4, _ => rfl
  | 5, _ => rfl
  | 6, _ => rfl
  | 7, _ => rfl
  | 8, _ => rfl
  | 9, _ => rfl
  | 10, _ => rfl
  | 11, _ => rfl
  | 12, _ => rfl
  | n + 13, h => absurd (show n + 13 < 13 from h) (by omega)
theorem ni_0 : Cond.instantiable (f_C 0) (f_n 0) ∈ lw_good ∧ Cond.initialized (f_C 0) ∈ lw_good := by decide +kernel
theorem dv_1 : ∀ j, j < f_n 1 → defaultValue (f_ty 1 j) = f_val (f_ty 1 j) 0 none := fun j hj => match j, hj with
  | 0, _ => rfl
  | 1, _ => rfl
  | 2, _ => rfl
  | 3, _ => rfl
  | 4, _ => rfl
  | 5, _ => rfl
  | 6, _ => rfl
  | 7, _ => rfl
  | 8, _ => rfl
  | 9, _ => rfl
  | 10, _ => rfl
  | 11, _ => rfl
  | 12, _ => rfl
  | 13, _ => rfl
  | 14, _ => rfl
  | 15, _ => rfl
  | 16, _ => rfl
  | 17, _ => rfl
  | 18, _ => rfl
  | n + 19, h => absurd (show n + 19 < 19 from h) (by omega)
theorem ni_1 : Cond.instantiable (f_C 1) (f_n 1) ∈ lw_good ∧ Cond.initialized (f_C 1) ∈ lw_good := by decide +kernel
theorem dv_2 : ∀ j, j < f_n 2 → defaultValue (f_ty 2 j) = f_val (f_ty 2 j) 0 none := fun j hj => match j, hj with
  | 0, _ => rfl
  | 1, _ => rfl
  | 2, _ => rfl
  | 3, _ => rfl
  | 4, _ => rfl
  | 5, _ => rfl
  | 6, _ => rfl
  | 7, _ => rfl
  | n + 8, h => absurd (show n + 8 < 8 from h) (by omega)
theorem ni_2 : Cond.instantiable (f_C 2) (f_n 2) ∈ lw_good ∧ Cond.initialized (f_C 2) ∈ lw_good := by decide +kernel
theorem dv_3 : ∀ j, j < f_n 3 → defaultValue (f_ty 3 j) = f_val (f_ty 3 j) 0 none := fun j hj => match j, hj with
  | 0, _ => rfl
  | 1, _ => rfl
  | 2, _ => rfl
  | n + 3, h => absurd (show n + 3 < 3 from h) (by omega)
theorem ni_3 : Cond.instantiable (f_C 3) (f_n 3) ∈ lw_good ∧ Cond.initialized (f_C 3) ∈ lw_good := by decide +kernel
theorem dv_4 : ∀ j, j < f_n 4 → defaultValue (f_ty 4 j) = f_val (f_ty 4 j) 0 none := fun j hj => match j, hj with
  | 0, _ => rfl
  | 1, _ => rfl
  | 2, _ => rfl
  | n + 3, h => absurd (show n + 3 < 3 from h) (by omega)
theorem ni_4 : Cond.instantiable (f_C 4) (f_n 4) ∈ lw_good ∧ Cond.initialized (f_C 4) ∈ lw_good := by decide +kernel
theorem dv_5 : ∀ j, j < f_n 5 → defaultValue (f_ty 5 j) = f_val (f_ty 5 j) 0 none := fun j hj => match j, hj with
  | 0, _ => rfl
  | 1, _ => rfl
  | 2, _ => rfl
  | 3, _ => rfl
  | n + 4, h => absurd (show n + 4 < 4 from h) (by omega)
theorem ni_5 : Cond.instantiable (f_C 5) (f_n 5) ∈ lw_good ∧ Cond.initialized (f_C 5) ∈ lw_good := by decide +kernel
theorem dv_6 : ∀ j, j < f_n 6 → defaultValue (f_ty 6 j) = f_val (f_ty 6 j) 0 none := fun j hj => match j, hj with
  | 0, _ => rfl
  | 1, _ => rfl
  | 2, _ => rfl
  | 3, _ => rfl
  | 4, _ => rfl
  | n + 5, h => absurd (show n + 5 < 5 from h) (by omega)
theorem ni_6 : Cond.instantiable (f_C 6) (f_n 6) ∈ lw_good ∧ Cond.initialized (f_C 6) ∈ lw_good := by decide +kernel
theorem dv_7 : ∀ j, j < f_n 7 → defaultValue (f_ty 7 j) = f_val (f_ty 7 j) 0 none := fun j hj => match j, hj with
  | 0, _ => rfl
  | 1, _ => rfl
  | 2, _ => rfl
  | 3, _ => rfl
  | 4, _ => rfl
  | 5, _ => rfl
  | 6, _ => rfl
  | 7, _ => rfl
  | 8, _ => rfl
  | 9, _ => rfl
  | 10, _ => rfl
  | 11, _ => rfl
  | 12, _ => rfl
  | 13, _ => rfl
  | 14, _ => rfl
  | n + 15, h => absurd (show n + 15 < 15 from h) (by omega)
theorem ni_7 : Cond.instantiable (f_C 7) (f_n 7) ∈ lw_good ∧ Cond.initialized (f_C 7) ∈ lw_good := by decide +kernel
theorem dv_8 : ∀ j, j < f_n 8 → defaultValue (f_ty 8 j) = f_val (f_ty 8 j) 0 none := fun j hj => match j, hj with
  | 0, _ => rfl
  | 1, _ => rfl
  | 2, _ => rfl
  | 3, _ => rfl
  | 4, _ => rfl
  | 5, _ => rfl
  | 6, _ => rfl
  | n + 7, h => absurd (show n + 7 < 7 from h) (by omega)
theorem ni_8 : Cond.instantiable (f_C 8) (f_n 8) ∈ lw_good ∧ Cond.initialized (f_C 8) ∈ lw_good := by decide +kernel
theorem dv_9 : ∀ j, j < f_n 9 → defaultValue (f_ty 9 j) = f_val (f_ty 9 j) 0 none := fun j hj => match j, hj with
  | 0, _ => rfl
  | 1, _ => rfl
  | 2, _ => rfl
  | 3, _ => rfl
  | 4, _ => rfl
  | 5, _ => rfl
  | 6, _ => rfl
  | 7, _ => rfl
  | 8, _ => rfl
  | 9, _ => rfl
  | 10, _ => rfl
  | 11, _ => rfl
  | 12, _ => rfl
  | 13, _ => rfl
  | 14, _ => rfl
  | 15, _ => rfl
  | 16, _ => rfl
  | 17, _ => rfl
  | 18, _ => rfl
  | 19, _ => rfl
  | 20, _ => rfl
  | n + 21, h => absurd (show n + 21 < 21 from h) (by omega)
theorem ni_9 : Cond.instantiable (f_C 9) (f_n 9) ∈ lw_good ∧ Cond.initialized (f_C 9) ∈ lw_good := by decide +kernel
theorem na_int : Cond.arrayClass (newarray.typeOf .int) ∈ lw_good := by decide +kernel
theorem na_byte : Cond.arrayClass (newarray.typeOf .byte) ∈ lw_good := by decide +kernel
/-- a constructor's end: no answer, and what holds of shape and memory -/
def kQ (P : Shp → Mem → Prop) : Post := fun r sh' g' => r = .inl none ∧ P sh' g'
theorem x_k {P : Shp → Mem → Prop} : ∀ E sh' g', ¬ kQ P (.inr E) sh' g' := fun _ _ _ h => by cases h.1
section JKQ
variable {w : Wd} {Y : MD} {pc : Nat} {L : List (Nat × Value)} {S : List Value} {sh : Shp} {g : Mem} {kc ks : Nat} {Q : Post}
theorem k_k {P : Shp → Mem → Prop} (k : ∀ sh1 g1, P sh1 g1 → J w Y pc L S sh1 g1 kc ks Q) : ∀ v' sh' g', kQ P (.inl v') sh' g' → J w Y pc L (v'.toList ++ S) sh' g' kc ks Q := by
  intro v' sh' g' h
  obtain ⟨h1, h2⟩ := h
  cases h1
  exact k sh' g' h2
theorem j_shn (kk : ∀ sh2 : Shp, sh2 = sh → J w Y pc L S sh2 g kc ks Q) : J w Y pc L S sh g kc ks Q := kk sh rfl
/-- another function of references, alike below the length -/
theorem j_kd {a : Nat} {kd : Kd} {f : Nat → Option Nat} (hs : sh.1 a = some kd) (h3 : 14 ≤ kd.1) (h4 : ∀ j, j < kd.2.1 → f j = kd.2.2 j) (kk : J w Y pc L S (shP sh a (kd.1, kd.2.1, f)) g kc ks Q) : J w Y pc L S sh g kc ks Q := by
  intro p l e s m args below meth c H locs cells slots Z ls C hZ hR hlo hcl hsl hl
  refine kk p l e s m args below meth c H locs cells slots Z ls C hZ ?_ hlo hcl hsl hl
  obtain ⟨h1, h2, h5, h6⟩ := hR
  refine ⟨fun b kb hb => ?_, h2, h5, h6⟩
  by_cases e : b = a
  · subst e
    rw [shP_s] at hb
    cases hb
    obtain ⟨b1, b2, b3, b4⟩ := h1 b kd hs
    refine ⟨b1, ?_, b3, b4⟩
    rw [c_E_q h3] at b2
    rw [c_E_q (k := (kd.1, kd.2.1, f)) h3]
    have b2 : H[b]? = some (vp_cell _ _) := b2
    show H[b]? = some (vp_cell _ _)
    rw [b2, vp_cell_q, vp_cell_q]
    congr 1
    unfold arrV
    congr 1
    apply Array.ext
    · simp
    · intro i hi1 hi2
      have hi : i < kd.2.1 := by simpa using hi1
      simp [h4 i hi]
  · rw [shP_o e] at hb
    exact h1 b kb hb
end JKQ
/-- the heap has grown from n; what was there is as it was -/
def Gr0 (sh sh2 : Shp) (g g2 : Mem) (n : Nat) : Prop := ∀ a, a < n → sh2.1 a = sh.1 a ∧ g2 a = g a
theorem Gr0.rf {sh : Shp} {g : Mem} {n : Nat} : Gr0 sh sh g g n := fun _ _ => ⟨rfl, rfl⟩
theorem Gr0.tr {sh sh1 sh2 : Shp} {g g1 g2 : Mem} {n : Nat} (h : Gr0 sh sh1 g g1 n) (h2 : Gr0 sh1 sh2 g1 g2 n) : Gr0 sh sh2 g g2 n := fun a ha => ⟨((h2 a ha).1).trans (h a ha).1, ((h2 a ha).2).trans (h a ha).2⟩
theorem Gr0.le {sh sh2 : Shp} {g g2 : Mem} {n k : Nat} (h : Gr0 sh sh2 g g2 n) (hk : k ≤ n) : Gr0 sh sh2 g g2 k := fun a ha => h a (by omega)
/-- the array ar of the class ci is filled: k objects lie behind it -/
def FL1 (ci ar : Nat) (sh : Shp) (g : Mem) (kar N : Nat) (shk : Shp) (gk : Mem) (k : Nat) : Prop :=
  shk.2 = some (ar + 1 + k) ∧ shk.1 ar = some (kar, N, fun j => if j < k then some (ar + 1 + j) else none) ∧ (∀ a, a < ar → shk.1 a = sh.1 a ∧ gk a = g a) ∧ ∀ i, i < k → shk.1 (ar + 1 + i) = some (ci, 0, kN) ∧ gk (ar + 1 + i) 0 = (i : Int)
/-- two cells each: a route and its choices -/
def FL2 (ar : Nat) (sh : Shp) (g : Mem) (kar N : Nat) (shk : Shp) (gk : Mem) (k : Nat) : Prop :=
  shk.2 = some (ar + 1 + 2 * k) ∧ shk.1 ar = some (kar, N, fun j => if j < k then some (ar + 1 + 2 * j) else none) ∧ (∀ a, a < ar → shk.1 a = sh.1 a ∧ gk a = g a) ∧ ∀ i, i < k → shk.1 (ar + 1 + 2 * i) = some (kRt (ar + 2 + 2 * i)) ∧ shk.1 (ar + 2 + 2 * i) = some (10, 3, kN) ∧ gk (ar + 1 + 2 * i) 0 = (i : Int)
section FLS
variable {ci ar kar N k : Nat} {sh shk : Shp} {g gk : Mem}
theorem fl_f (n : Nat) (f : Nat → Nat) (hf : f k = n) : (fun j => if j = k then some n else (fun j => if j < k then some (f j) else none) j) = fun j => if j < k + 1 then some (f j) else none := funext fun j => by
  by_cases z : j = k
  · subst z; rw [if_pos rfl, if_pos (by omega), hf]
  · rw [if_neg z]
    show (if j < k then _ else _) = _
    by_cases y : j < k
    · rw [if_pos y, if_pos (by omega)]
    · rw [if_neg y, if_neg (by omega)]
theorem FL1.z (h1 : sh.2 = some ar) : FL1 ci ar sh g kar N (shN sh ar (kar, N, kN)) (gN g ar) 0 :=
  ⟨rfl, shN_s.trans (by congr 2), fun a ha => ⟨shN_o (by omega), gN_o (by omega)⟩, fun i hi => absurd hi (Nat.not_lt_zero i)⟩
theorem FL1.s (h : FL1 ci ar sh g kar N shk gk k) : FL1 ci ar sh g kar N (shP (shN shk (ar + 1 + k) (ci, 0, kN)) ar (kdR (kar, N, fun j => if j < k then some (ar + 1 + j) else none) k (some (ar + 1 + k)))) (up2 (gN gk (ar + 1 + k)) (ar + 1 + k) 0 (k : Int)) (k + 1) := by
  obtain ⟨h1, h2, h3, h4⟩ := h
  refine ⟨rfl, shP_s.trans ?_, fun a ha => ⟨by rw [shP_o (by omega), shN_o (by omega)]; exact (h3 a ha).1, by rw [up2_row (by omega), gN_o (by omega)]; exact (h3 a ha).2⟩, fun i hi => ?_⟩
  · unfold kdR
    rw [fl_f (ar + 1 + k) (fun j => ar + 1 + j) rfl]
  · by_cases z : i = k
    · subst z; rw [shP_o (by omega), shN_s, up2_s]; exact ⟨rfl, rfl⟩
    · rw [shP_o (by omega), shN_o (by omega), up2_row (by omega), gN_o (by omega)]; exact h4 i (by omega)
theorem FL2.z (h1 : sh.2 = some ar) : FL2 ar sh g kar N (shN sh ar (kar, N, kN)) (gN g ar) 0 :=
  ⟨rfl, shN_s.trans (by congr 2), fun a ha => ⟨shN_o (by omega), gN_o (by omega)⟩, fun i hi => absurd hi (Nat.not_lt_zero i)⟩
theorem FL2.s {sh1 : Shp} {g1 : Mem} (h : FL2 ar sh g kar N shk gk k) (ha : sh1.2 = some (ar + 1 + 2 * (k + 1))) (hb : sh1.1 (ar + 1 + 2 * k) = some (kRt (ar + 2 + 2 * k))) (hc : sh1.1 (ar + 2 + 2 * k) = some (10, 3, kN)) (hd : g1 (ar + 1 + 2 * k) 0 = (k : Int)) (hg : Gr0 shk sh1 gk g1 (ar + 1 + 2 * k)) :
    FL2 ar sh g kar N (shP sh1 ar (kdR (kar, N, fun j => if j < k then some (ar + 1 + 2 * j) else none) k (some (ar + 1 + 2 * k)))) g1 (k + 1) := by
  obtain ⟨h1, h2, h3, h4⟩ := h
  refine ⟨ha, shP_s.trans ?_, fun a h9 => ⟨by rw [shP_o (by omega), (hg a (by omega)).1]; exact (h3 a h9).1, by rw [(hg a (by omega)).2]; exact (h3 a h9).2⟩, fun i hi => ?_⟩
  · unfold kdR
    rw [fl_f (ar + 1 + 2 * k) (fun j => ar + 1 + 2 * j) rfl]
  · by_cases z : i = k
    · subst z; rw [shP_o (by omega), shP_o (by omega)]; exact ⟨hb, hc, hd⟩
    · rw [shP_o (by omega), shP_o (by omega), (hg _ (by omega)).1, (hg _ (by omega)).1, (hg _ (by omega)).2]; exact h4 i (by omega)
end FLS
theorem oi_X0 : Cond.methodLink RX0 3 Lib.objectInit ∈ lw_good := by decide +kernel
theorem oi_X2 : Cond.methodLink RX2 1 Lib.objectInit ∈ lw_good := by decide +kernel
theorem oi_X4 : Cond.methodLink RX4 1 Lib.objectInit ∈ lw_good := by decide +kernel
theorem oi_X5 : Cond.methodLink RX5 1 Lib.objectInit ∈ lw_good := by decide +kernel
theorem oi_X6 : Cond.methodLink RX6 3 Lib.objectInit ∈ lw_good := by decide +kernel
theorem oi_X1 : Cond.methodLink RX1 3 Lib.objectInit ∈ lw_good := by decide +kernel
theorem oi_X3 : Cond.methodLink RX3 3 Lib.objectInit ∈ lw_good := by decide +kernel
theorem oi_X8 : Cond.methodLink RX8 3 Lib.objectInit ∈ lw_good := by decide +kernel
theorem oi_X9 : Cond.methodLink RX9 1 Lib.objectInit ∈ lw_good := by decide +kernel
theorem oi_X10 : Cond.methodLink RX10 3 Lib.objectInit ∈ lw_good := by decide +kernel
theorem n_X0 {w : Wd} {sh : Shp} {g : Mem} {a : Nat} (ha : sh.1 a = some (0, 0, kN)) {x : Int} (hx : R32 x) : CT w mX0_init [.ref a, .int (i32 x)] sh g (dQ none sh (up2 g a 0 x)) := by
  refine j_entry (by decide) rfl (Nat.le_of_ble_eq_true rfl) (fun _ => rfl) rfl ?_
  show J w mX0_init 0 [(0, .ref a), (1, .int (i32 x))] [] sh g 0 0 _
  refine j_aload_n 1 0 dX0_init_0 rfl rfl ?_
  refine j_objInit 4 dX0_init_1 rfl oi_X0 (Nat.le_of_ble_eq_true rfl) (Nat.le_of_ble_eq_true rfl) ?_
  refine j_aload_n 5 0 dX0_init_4 rfl rfl ?_
  refine j_iload_n 6 1 dX0_init_5 rfl rfl ?_
  refine j_putF 9 dX0_init_6 rfl fl_X0_9 ha rfl (by first | exact Or.inl rfl | exact Or.inr ⟨rfl, rfl, rfl⟩) rfl hx ?_
  exact j_vret dX0_init_9 rfl ⟨rfl, rfl, rfl⟩
theorem n_X2 {w : Wd} {sh : Shp} {g : Mem} {a : Nat} (ha : sh.1 a = some (2, 0, kN)) {x : Int} (hx : R32 x) : CT w mX2_init [.ref a, .int (i32 x)] sh g (dQ none sh (up2 g a 0 x)) := by
  refine j_entry (by decide) rfl (Nat.le_of_ble_eq_true rfl) (fun _ => rfl) rfl ?_
  show J w mX2_init 0 [(0, .ref a), (1, .int (i32 x))] [] sh g 0 0 _
  refine j_aload_n 1 0 dX2_init_0 rfl rfl ?_
  refine j_objInit 4 dX2_init_1 rfl oi_X2 (Nat.le_of_ble_eq_true rfl) (Nat.le_of_ble_eq_true rfl) ?_
  refine j_aload_n 5 0 dX2_init_4 rfl rfl ?_
  refine j_iload_n 6 1 dX2_init_5 rfl rfl ?_
  refine j_putF 9 dX2_init_6 rfl fl_X2_7 ha rfl (by first | exact Or.inl rfl | exact Or.inr ⟨rfl, rfl, rfl⟩) rfl hx ?_
  exact j_vret dX2_init_9 rfl ⟨rfl, rfl, rfl⟩
theorem n_X4 {w : Wd} {sh : Shp} {g : Mem} {a : Nat} (ha : sh.1 a = some (4, 0, kN)) {x : Int} (hx : R32 x) : CT w mX4_init [.ref a, .int (i32 x)] sh g (dQ none sh (up2 g a 0 x)) := by
  refine j_entry (by decide) rfl (Nat.le_of_ble_eq_true rfl) (fun _ => rfl) rfl ?_
  show J w mX4_init 0 [(0, .ref a), (1, .int (i32 x))] [] sh g 0 0 _
  refine j_aload_n 1 0 dX4_init_0 rfl rfl ?_
  refine j_objInit 4 dX4_init_1 rfl oi_X4 (Nat.le_of_ble_eq_true rfl) (Nat.le_of_ble_eq_true rfl) ?_
  refine j_aload_n 5 0 dX4_init_4 rfl rfl ?_
  refine j_iload_n 6 1 dX4_init_5 rfl rfl ?_
  refine j_putF 9 dX4_init_6 rfl fl_X4_7 ha rfl (by first | exact Or.inl rfl | exact Or.inr ⟨rfl, rfl, rfl⟩) rfl hx ?_
  exact j_vret dX4_init_9 rfl ⟨rfl, rfl, rfl⟩
theorem n_X5 {w : Wd} {sh : Shp} {g : Mem} {a : Nat} (ha : sh.1 a = some (5, 0, kN)) {x : Int} (hx : R32 x) : CT w mX5_init [.ref a, .int (i32 x)] sh g (dQ none sh (up2 g a 0 x)) := by
  refine j_entry (by decide) rfl (Nat.le_of_ble_eq_true rfl) (fun _ => rfl) rfl ?_
  show J w mX5_init 0 [(0, .ref a), (1, .int (i32 x))] [] sh g 0 0 _
  refine j_aload_n 1 0 dX5_init_0 rfl rfl ?_
  refine j_objInit 4 dX5_init_1 rfl oi_X5 (Nat.le_of_ble_eq_true rfl) (Nat.le_of_ble_eq_true rfl) ?_
  refine j_aload_n 5 0 dX5_init_4 rfl rfl ?_
  refine j_iload_n 6 1 dX5_init_5 rfl rfl ?_
  refine j_putF 9 dX5_init_6 rfl fl_X5_7 ha rfl (by first | exact Or.inl rfl | exact Or.inr ⟨rfl, rfl, rfl⟩) rfl hx ?_
  exact j_vret dX5_init_9 rfl ⟨rfl, rfl, rfl⟩
theorem kRt_put {b : Nat} : kdR (6, 0, kN) 4 (some b) = kRt b := by
  have : (fun j => if j = 4 then some b else kN j) = (kRt b).2.2 := funext fun j => by
    match j with
    | 0 => rfl
    | 1 => rfl
    | 2 => rfl
    | 3 => rfl
    | 4 => rfl
    | _ + 5 => rfl
  show ((6 : Nat), (0 : Nat), fun j => if j = 4 then some b else kN j) = kRt b
  rw [this]
  rfl
theorem n_X6 {w : Wd} {sh : Shp} {g : Mem} {a : Nat} (ha : sh.1 a = some (6, 0, kN)) (hs : sh.2 = some (a + 1)) {x : Int} (hx : R32 x) : CT w mX6_init [.ref a, .int (i32 x)] sh g (kQ fun sh2 g2 => sh2.2 = some (a + 2) ∧ sh2.1 a = some (kRt (a + 1)) ∧ sh2.1 (a + 1) = some (10, 3, kN) ∧ g2 a 0 = x ∧ Gr0 sh sh2 g g2 a) := by
  refine j_entry (by decide) rfl (Nat.le_of_ble_eq_true rfl) (fun _ => rfl) rfl ?_
  show J w mX6_init 0 [(0, .ref a), (1, .int (i32 x))] [] sh g 1 3 _
  refine j_aload_n 1 0 dX6_init_0 rfl rfl ?_
  refine j_objInit 4 dX6_init_1 rfl oi_X6 (Nat.le_of_ble_eq_true rfl) (Nat.le_of_ble_eq_true rfl) ?_
  refine j_aload_n 5 0 dX6_init_4 rfl rfl ?_
  refine j_iload_n 6 1 dX6_init_5 rfl rfl ?_
  refine j_putF 9 dX6_init_6 rfl fl_X6_9 ha rfl (by first | exact Or.inl rfl | exact Or.inr ⟨rfl, rfl, rfl⟩) rfl hx ?_
  refine j_aload_n 10 0 dX6_init_9 rfl rfl ?_
  refine j_iconst 11 dX6_init_10 rfl ?_
  refine j_newa 13 (N := 3) (kc2 := 0) (ks2 := 0) dX6_init_11 rfl rfl (by decide) na_int (Or.inl ⟨rfl, rfl⟩) hs ⟨Nat.le_of_ble_eq_true rfl, Nat.le_of_ble_eq_true rfl⟩ ?_
  refine j_putr 16 dX6_init_13 rfl fl_X6_15 (shN_o (by omega) |>.trans ha) rfl (by first | exact Or.inl rfl | exact Or.inr ⟨rfl, rfl, rfl⟩) (Or.inr ⟨_, rfl⟩) ?_
  rw [kRt_put]
  refine j_vret dX6_init_16 rfl ⟨rfl, rfl, shP_s, ?_, ?_, fun b hb => ⟨?_, ?_⟩⟩
  · rw [shP_o (by omega)]; exact shN_s
  · rw [gN_o (by omega)]; exact up2_s
  · rw [shP_o (by omega), shN_o (by omega)]
  · rw [gN_o (by omega), up2_row (by omega)]
