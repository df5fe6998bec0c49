/-! fields and arrays -/
def f_C (ci : Nat) : String := match ci with
  | 0 => RX0 | 1 => RX1 | 2 => RX2 | 3 => RX3 | 4 => RX4 | 5 => RX5 | 6 => RX6 | 7 => RX8 | 8 => RX9 | _ => RX10
def f_T (ci : Nat) : u_T := match ci with
  | 0 => TX0 | 1 => TX1 | 2 => TX2 | 3 => TX3 | 4 => TX4 | 5 => TX5 | 6 => TX6 | 7 => TX8 | 8 => TX9 | _ => TX10
theorem cl_at : ∀ ci, ci < 10 → vwCl[ci]? = some (f_C ci, f_T ci, f_n ci)
  | 0, _ => rfl | 1, _ => rfl | 2, _ => rfl | 3, _ => rfl | 4, _ => rfl | 5, _ => rfl | 6, _ => rfl | 7, _ => rfl | 8, _ => rfl | 9, _ => rfl
  | n + 10, h => absurd h (by omega)
theorem in_all : ∀ x ∈ wsX00 ++ wsX10 ++ wsX20 ++ wsX30 ++ wsX40 ++ wsX50 ++ wsX60 ++ wsX80 ++ wsX90 ++ wsX100, x ∈ lw_good := by decide +kernel
theorem cl_in : ∀ ci, ci < 10 → ∀ x ∈ u_ws (f_C ci) (f_T ci) (f_n ci), x ∈ lw_good := by
  intro ci h x hx
  apply in_all
  simp only [List.mem_append]
  match ci, h with
  | 0, _ => simp only [f_C, f_T, f_n] at hx; simp [wsX00, hx]
  | 1, _ => simp only [f_C, f_T, f_n] at hx; simp [wsX10, hx]
  | 2, _ => simp only [f_C, f_T, f_n] at hx; simp [wsX20, hx]
  | 3, _ => simp only [f_C, f_T, f_n] at hx; simp [wsX30, hx]
  | 4, _ => simp only [f_C, f_T, f_n] at hx; simp [wsX40, hx]
  | 5, _ => simp only [f_C, f_T, f_n] at hx; simp [wsX50, hx]
  | 6, _ => simp only [f_C, f_T, f_n] at hx; simp [wsX60, hx]
  | 7, _ => simp only [f_C, f_T, f_n] at hx; simp [wsX80, hx]
  | 8, _ => simp only [f_C, f_T, f_n] at hx; simp [wsX90, hx]
  | 9, _ => simp only [f_C, f_T, f_n] at hx; simp [wsX100, hx]
theorem cl_ty : ∀ ci, ci < 10 → ∀ k, k < f_n ci → parseFieldDescriptor (f_T ci k).2.2.1 = some (f_ty ci k)
  | 0, _ => tyX0_ok | 1, _ => tyX1_ok | 2, _ => tyX2_ok | 3, _ => tyX3_ok | 4, _ => tyX4_ok | 5, _ => tyX5_ok | 6, _ => tyX6_ok | 7, _ => tyX8_ok | 8, _ => tyX9_ok | 9, _ => tyX10_ok
  | n + 10, h => absurd h (by omega)
theorem cl_nm : ∀ ci, ci < 10 → ∀ a, a < f_n ci → ∀ b, b < f_n ci → a ≠ b → (f_T ci a).2.1 ≠ (f_T ci b).2.1
  | 0, _ => nmX0 | 1, _ => nmX1 | 2, _ => nmX2 | 3, _ => nmX3 | 4, _ => nmX4 | 5, _ => nmX5 | 6, _ => nmX6 | 7, _ => nmX8 | 8, _ => nmX9 | 9, _ => nmX10
  | n + 10, h => absurd h (by omega)
def FL (own : String) (idx ci k : Nat) : Prop := ci < 10 ∧ k < f_n ci ∧ Cond.fieldLink own idx (f_T ci k).1 (f_T ci k).2.1 (f_T ci k).2.2.1 ∈ lw_good
theorem va_P1 {D : va_G} {cl : List vw_C} {q : Nat × va_E} {H : Heap} (h : va_at D cl q H) : va_P D cl [q] H := by
  intro k x hx
  cases k with
  | zero => cases hx; exact h
  | succ k => simp at hx
theorem c_E_o {aC : Nat → ClassId} {k : Kd} {row : Nat → Int} (h : k.1 < 10) : c_E aC k row = .inr (k.1, (List.range (f_n k.1)).map fun j => f_val (f_ty k.1 j) (row j) (k.2.2 j)) := if_pos h
theorem c_E_i {aC : Nat → ClassId} {k : Kd} {row : Nat → Int} (h : k.1 = 10) : c_E aC k row = .inl (aC 10, k.2.1, .inl fun j => i32 (row j)) := by
  simp [c_E, h]
theorem c_E_b {aC : Nat → ClassId} {k : Kd} {row : Nat → Int} (h : k.1 = 11) : c_E aC k row = .inl (aC 11, k.2.1, .inl fun j => i32 (row j)) := by
  simp [c_E, h]
theorem c_E_l {aC : Nat → ClassId} {k : Kd} {row : Nat → Int} (h : k.1 = 12) : c_E aC k row = .inl (aC 12, k.2.1, .inr (.inl fun j => i64 (row j))) := by
  simp [c_E, h]
theorem c_E_d {aC : Nat → ClassId} {k : Kd} {row : Nat → Int} (h : k.1 = 13) : c_E aC k row = .inl (aC 13, k.2.1, .inr (.inr (.inr (.inl fun j => UInt64.ofNat (row j).toNat)))) := by
  simp [c_E, h]
theorem c_E_q {aC : Nat → ClassId} {k : Kd} {row : Nat → Int} (h : 14 ≤ k.1) : c_E aC k row = .inl (aC k.1, k.2.1, .inr (.inr (.inr (.inr k.2.2)))) := by
  unfold c_E
  rw [if_neg (by omega), if_neg (by omega), if_neg (by omega), if_neg (by omega), if_neg (by omega)]
/-- another memory in the same shape, but one cell -/
theorem Rep.put {w : Wd} {sh : Shp} {g : Mem} {H H1 : Heap} {a k : Nat} {kd : Kd} {x : Int} (hR : Rep w sh g H) (hs : sh.1 a = some kd) (z : H1.size = H.size) (oq : ∀ q : Nat, q ≠ a → H1[q]? = H[q]?)
    (hc : va_at w.1 vwCl (a, c_E w.2.1 kd (up2 g a k x a)) H1) (hx : k_rng kd k x) : Rep w sh (up2 g a k x) H1 := by
  obtain ⟨h1, h2, h3, h4⟩ := hR
  refine ⟨fun b kb hb => ?_, by rw [z]; exact h2, fun q hq => ?_, fun n hn => by rw [z]; exact h4 n hn⟩
  · obtain ⟨b1, b2, b3, b4⟩ := h1 b kb hb
    by_cases e : b = a
    · subst e
      have ek : kb = kd := Option.some.inj (hb.symm.trans hs)
      subst ek
      refine ⟨b1, hc, b3, fun j => ?_⟩
      by_cases ej : j = k
      · subst ej; rw [up2_s]; exact hx
      · rw [up2_k ej]; exact b4 j
    · have er : up2 g a k x b = g b := funext fun j => up2_a e
      rw [er]
      exact ⟨b1, b2.kept (oq b e), b3, b4⟩
  · rw [oq q (fun e => by subst e; exact absurd (h1 q kd hs).1 (by omega))]
    exact h3 q hq
section JM
variable {w : Wd} {Y : MD} {pc : Nat} {L : List (Nat × Value)} {S : List Value} {sh : Shp} {g : Mem} {kc ks : Nat} {Q : Post}
theorem j_getv (n : Nat) {idx ci k a : Nat} {kd : Kd} {v : Value} (hd : decode (md_c Y) pc = .ok (.getfield idx, 3)) (hn : pc + 3 = n) (hf : FL (md_o Y) idx ci k) (hs : sh.1 a = some kd) (hc : kd.1 = ci) (hv : f_val (f_ty ci k) (g a k) (kd.2.2 k) = v)
    (kk : f_rng (f_ty ci k) (g a k) → J w Y n L (v :: S) sh g kc ks Q) : J w Y pc L (.ref a :: S) sh g kc ks Q := by
  subst hn
  subst hc
  intro p l e s m args below meth c H locs cells slots Z ls C hZ hR hlo hcl hsl hl
  obtain ⟨hci, hk, hw⟩ := hf
  obtain ⟨b1, b2, b3, b4⟩ := hR.1 a kd hs
  have hrg : f_rng (f_ty kd.1 k) (g a k) := by
    have h := b4 k
    unfold k_rng at h
    rw [if_pos hci] at h
    exact h
  rw [c_E_o hci] at b2
  refine va_get (D := w.1) (cl := vwCl) (ci := kd.1) (C := f_C kd.1) (T := f_T kd.1) (N := f_n kd.1) (Ts := lw_good) C.1 C.2.1 C.2.2.2.2.1 (cl_in kd.1 hci) C.2.2.2.1 C.2.2.2.2.2.1.1 (va_P1 b2) 0 rfl (cl_at kd.1 hci) k hk (C.2.2.2.2.1 _ hw) (fun _ h => h) ?_ hd
    (kk hrg p l e s m args below meth c H locs cells slots Z ls C hZ hR hlo hcl hsl hl)
  rw [List.getElem?_map, List.getElem?_range hk]
  exact congrArg some hv
theorem j_geti (n : Nat) {idx ci k a : Nat} {kd : Kd} (hd : decode (md_c Y) pc = .ok (.getfield idx, 3)) (hn : pc + 3 = n) (hf : FL (md_o Y) idx ci k) (hs : sh.1 a = some kd) (hc : kd.1 = ci) (ht : f_ty ci k = .int)
    (kk : R32 (g a k) → J w Y n L (.int (i32 (g a k)) :: S) sh g kc ks Q) : J w Y pc L (.ref a :: S) sh g kc ks Q :=
  j_getv n hd hn hf hs hc (v := .int (i32 (g a k))) (by rw [ht]; rfl) (fun h => kk (by rw [ht] at h; exact h))
theorem j_getz (n : Nat) {idx ci k a : Nat} {kd : Kd} (hd : decode (md_c Y) pc = .ok (.getfield idx, 3)) (hn : pc + 3 = n) (hf : FL (md_o Y) idx ci k) (hs : sh.1 a = some kd) (hc : kd.1 = ci) (ht : f_ty ci k = .boolean)
    (kk : (g a k = 0 ∨ g a k = 1) → J w Y n L (.int (i32 (g a k)) :: S) sh g kc ks Q) : J w Y pc L (.ref a :: S) sh g kc ks Q :=
  j_getv n hd hn hf hs hc (v := .int (i32 (g a k))) (by rw [ht]; rfl) (fun h => kk (by rw [ht] at h; exact h))
theorem j_getl (n : Nat) {idx ci k a : Nat} {kd : Kd} (hd : decode (md_c Y) pc = .ok (.getfield idx, 3)) (hn : pc + 3 = n) (hf : FL (md_o Y) idx ci k) (hs : sh.1 a = some kd) (hc : kd.1 = ci) (ht : f_ty ci k = .long)
    (kk : (-9223372036854775808 ≤ g a k ∧ g a k < 9223372036854775808) → J w Y n L (.long (i64 (g a k)) :: S) sh g kc ks Q) : J w Y pc L (.ref a :: S) sh g kc ks Q :=
  j_getv n hd hn hf hs hc (v := .long (i64 (g a k))) (by rw [ht]; rfl) (fun h => kk (by rw [ht] at h; exact h))
theorem j_getr (n : Nat) {idx ci k a q : Nat} {kd : Kd} (hd : decode (md_c Y) pc = .ok (.getfield idx, 3)) (hn : pc + 3 = n) (hf : FL (md_o Y) idx ci k) (hs : sh.1 a = some kd) (hc : kd.1 = ci) (ht : ∀ z r, f_val (f_ty ci k) z r = va_rf r) (hq : kd.2.2 k = some q)
    (kk : J w Y n L (.ref q :: S) sh g kc ks Q) : J w Y pc L (.ref a :: S) sh g kc ks Q :=
  j_getv n hd hn hf hs hc (v := .ref q) (by rw [ht, hq]; rfl) (fun _ => kk)
/-- a store into a field that isn't final -/
theorem j_putv (n : Nat) {idx ci k a : Nat} {kd : Kd} {v : Value} {x : Int} (hd : decode (md_c Y) pc = .ok (.putfield idx, 3)) (hn : pc + 3 = n) (hf : FL (md_o Y) idx ci k) (hs : sh.1 a = some kd) (hc : kd.1 = ci) (hfin : (f_T ci k).2.2.2 = false)
    (hv : f_val (f_ty ci k) x (kd.2.2 k) = v) (hr : narrow (f_ty ci k) v = v) (hfit : fits (f_ty ci k) v = true) (hx : f_rng (f_ty ci k) x)
    (kk : J w Y n L S sh (up2 g a k x) kc ks Q) : J w Y pc L (v :: .ref a :: S) sh g kc ks Q := by
  subst hn
  subst hc
  intro p l e s m args below meth c H locs cells slots Z ls C hZ hR hlo hcl hsl hl
  obtain ⟨hci, hk, hw⟩ := hf
  obtain ⟨b1, b2, b3, b4⟩ := hR.1 a kd hs
  rw [c_E_o hci] at b2
  have hts := C.2.2.2.2.1
  have hown := C.2.2.2.1
  have hK := C.2.2.2.2.2.1.1
  have hin := cl_in kd.1 hci
  have hap := va_apart (own := md_o Y) hts hin (f_ty kd.1) (cl_ty kd.1 hci) (cl_nm kd.1 hci) hK (cl_at kd.1 hci)
  obtain ⟨r, h1, cell, q1, q2, q3, q4⟩ := b2
  have hr' : r = (f_C kd.1, f_T kd.1, f_n kd.1) := Option.some.inj (h1.symm.trans (cl_at kd.1 hci))
  subst hr'
  obtain ⟨hS, hfc, kC, hkC, hkind⟩ := hK.1 kd.1 _ (cl_at kd.1 hci)
  obtain ⟨cf, kf, fi, f, hi, hsl2⟩ := hS k hk
  have hlay := hts _ (hin _ (u_in_lay hk))
  unfold u_lay at hlay
  rw [if_neg (by rw [hfin]; decide)] at hlay
  have hst := (u_facts hfc hkC (u_lays hts hin hk) hi).1
  have h6 := u_store hfc hkC hkind hlay hi (cl_ty kd.1 hci k hk) hr hfit
  refine W.putK C.1 C.2.1 (f := f) ⟨hown, hts _ hw, ⟨_, _, _, hi⟩, hst⟩ (by rw [q2]; exact h6) q1 q3 (by rw [hsl2]; exact k2_hasslot (q4 k hk)) rfl rfl hd fun H' e1 e2 e3 => ?_
  rw [hsl2] at e1 ⊢
  refine kk p l e s m args below meth c H' _ cells slots Z ls C hZ (hR.put hs e2 e3 ?_ ?_) ?_ hcl hsl hl
  · rw [c_E_o hci]
    refine ⟨_, cl_at kd.1 hci, t_OB.to (V := updV (vp_V ((List.range (f_n kd.1)).map fun j => f_val (f_ty kd.1 j) (g a j) (kd.2.2 j))) k v) ⟨_, e1, q2, q3, t_set q4 hap hk v⟩ (fun j hj => ?_)⟩
    show (if j = k then v else vp_V _ j) = vp_V _ j
    have hg : ∀ (r : Nat → Int), vp_V ((List.range (f_n kd.1)).map fun j => f_val (f_ty kd.1 j) (r j) (kd.2.2 j)) j = f_val (f_ty kd.1 j) (r j) (kd.2.2 j) := by
      intro r
      unfold vp_V
      rw [List.getD_eq_getElem?_getD, List.getElem?_map, List.getElem?_range hj]
      rfl
    rw [hg, hg]
    by_cases ej : j = k
    · subst ej
      rw [if_pos rfl, up2_s, hv]
    · rw [if_neg ej, up2_k ej]
  · unfold k_rng
    rw [if_pos hci]
    exact hx
  · intro z hz
    rcases List.mem_append.mp hz with h | h
    · exact hlo z h
    · rw [List.mem_singleton.mp h]
      exact b1
theorem j_puti (n : Nat) {idx ci k a : Nat} {kd : Kd} {x : Int} (hd : decode (md_c Y) pc = .ok (.putfield idx, 3)) (hn : pc + 3 = n) (hf : FL (md_o Y) idx ci k) (hs : sh.1 a = some kd) (hc : kd.1 = ci) (hfin : (f_T ci k).2.2.2 = false) (ht : f_ty ci k = .int)
    (hx : R32 x) (kk : J w Y n L S sh (up2 g a k x) kc ks Q) : J w Y pc L (.int (i32 x) :: .ref a :: S) sh g kc ks Q :=
  j_putv n hd hn hf hs hc hfin (by rw [ht]; rfl) (by rw [ht]; rfl) (by rw [ht]; rfl) (by rw [ht]; exact hx) kk
theorem j_putz (n : Nat) {idx ci k a : Nat} {kd : Kd} {x : Int} (hd : decode (md_c Y) pc = .ok (.putfield idx, 3)) (hn : pc + 3 = n) (hf : FL (md_o Y) idx ci k) (hs : sh.1 a = some kd) (hc : kd.1 = ci) (hfin : (f_T ci k).2.2.2 = false) (ht : f_ty ci k = .boolean)
    (hx : x = 0 ∨ x = 1) (kk : J w Y n L S sh (up2 g a k x) kc ks Q) : J w Y pc L (.int (i32 x) :: .ref a :: S) sh g kc ks Q := by
  refine j_putv n hd hn hf hs hc hfin (by rw [ht]; rfl) ?_ ?_ (by rw [ht]; exact hx) kk
  · rw [ht]; rcases hx with rfl | rfl <;> decide +kernel
  · rw [ht]; rcases hx with rfl | rfl <;> decide +kernel
theorem j_putl (n : Nat) {idx ci k a : Nat} {kd : Kd} {x : Int} (hd : decode (md_c Y) pc = .ok (.putfield idx, 3)) (hn : pc + 3 = n) (hf : FL (md_o Y) idx ci k) (hs : sh.1 a = some kd) (hc : kd.1 = ci) (hfin : (f_T ci k).2.2.2 = false) (ht : f_ty ci k = .long)
    (hx : -9223372036854775808 ≤ x ∧ x < 9223372036854775808) (kk : J w Y n L S sh (up2 g a k x) kc ks Q) : J w Y pc L (.long (i64 x) :: .ref a :: S) sh g kc ks Q :=
  j_putv n hd hn hf hs hc hfin (by rw [ht]; rfl) (by rw [ht]; rfl) (by rw [ht]; rfl) (by rw [ht]; exact hx) kk
/-- arrays: i is the index as a number, N the length -/
theorem j_iald (n i : Nat) {a : Nat} {kd : Kd} {x : Int} (hd : decode (md_c Y) pc = .ok (.iaload, 1)) (hn : pc + 1 = n) (hs : sh.1 a = some kd) (hc : kd.1 = 10) (hx : x = (i : Int)) (hi : i < kd.2.1)
    (kk : R32 (g a i) → J w Y n L (.int (i32 (g a i)) :: S) sh g kc ks Q) : J w Y pc L (.int (i32 x) :: .ref a :: S) sh g kc ks Q := by
  subst hn
  intro p l e s m args below meth c H locs cells slots Z ls C hZ hR hlo hcl hsl hl
  obtain ⟨b1, b2, b3, b4⟩ := hR.1 a kd hs
  have hrg : R32 (g a i) := by
    have h := b4 i
    unfold k_rng at h
    rw [if_neg (by omega), if_neg (by omega), if_pos hc] at h
    exact h
  rw [c_E_i hc] at b2
  refine va_iald C.1 C.2.1 C.2.2.2.2.2.1.1 (va_P1 b2) 0 0 rfl rfl (i32_in hx hi b3) hd ?_
  rw [i32_clamp hx (by omega)]
  exact kk hrg p l e s m args below meth c H locs cells slots Z ls C hZ hR hlo hcl hsl hl
theorem j_bald (n i : Nat) {a : Nat} {kd : Kd} {x : Int} (hd : decode (md_c Y) pc = .ok (.baload, 1)) (hn : pc + 1 = n) (hs : sh.1 a = some kd) (hc : kd.1 = 11) (hx : x = (i : Int)) (hi : i < kd.2.1)
    (kk : (-128 ≤ g a i ∧ g a i ≤ 127) → J w Y n L (.int (i32 (g a i)) :: S) sh g kc ks Q) : J w Y pc L (.int (i32 x) :: .ref a :: S) sh g kc ks Q := by
  subst hn
  intro p l e s m args below meth c H locs cells slots Z ls C hZ hR hlo hcl hsl hl
  obtain ⟨b1, b2, b3, b4⟩ := hR.1 a kd hs
  have hrg : -128 ≤ g a i ∧ g a i ≤ 127 := by
    have h := b4 i
    unfold k_rng at h
    rw [if_neg (by omega), if_pos hc] at h
    exact h
  rw [c_E_b hc] at b2
  refine va_bald C.1 C.2.1 C.2.2.2.2.2.1.1 (va_P1 b2) 0 1 rfl rfl (i32_in hx hi b3) hd ?_
  rw [i32_clamp hx (by omega)]
  exact kk hrg p l e s m args below meth c H locs cells slots Z ls C hZ hR hlo hcl hsl hl
theorem j_lald (n i : Nat) {a : Nat} {kd : Kd} {x : Int} (hd : decode (md_c Y) pc = .ok (.laload, 1)) (hn : pc + 1 = n) (hs : sh.1 a = some kd) (hc : kd.1 = 12) (hx : x = (i : Int)) (hi : i < kd.2.1)
    (kk : J w Y n L (.long (i64 (g a i)) :: S) sh g kc ks Q) : J w Y pc L (.int (i32 x) :: .ref a :: S) sh g kc ks Q := by
  subst hn
  intro p l e s m args below meth c H locs cells slots Z ls C hZ hR hlo hcl hsl hl
  obtain ⟨b1, b2, b3, b4⟩ := hR.1 a kd hs
  rw [c_E_l hc] at b2
  refine va_lald C.1 C.2.1 C.2.2.2.2.2.1.1 (va_P1 b2) 0 2 rfl rfl (i32_in hx hi b3) hd ?_
  rw [i32_clamp hx (by omega)]
  exact kk p l e s m args below meth c H locs cells slots Z ls C hZ hR hlo hcl hsl hl
theorem j_aald (n i : Nat) {a q : Nat} {kd : Kd} {x : Int} {ty : FieldType} (hd : decode (md_c Y) pc = .ok (.aaload, 1)) (hn : pc + 1 = n) (hs : sh.1 a = some kd) (hc : 14 ≤ kd.1) (ht : (t_ys w.2.1)[kd.1 - 10]? = some (w.2.1 kd.1, ty)) (hr : ty.isReference = true) (hx : x = (i : Int)) (hi : i < kd.2.1) (hq : kd.2.2 i = some q)
    (kk : J w Y n L (.ref q :: S) sh g kc ks Q) : J w Y pc L (.int (i32 x) :: .ref a :: S) sh g kc ks Q := by
  subst hn
  intro p l e s m args below meth c H locs cells slots Z ls C hZ hR hlo hcl hsl hl
  obtain ⟨b1, b2, b3, b4⟩ := hR.1 a kd hs
  rw [c_E_q hc] at b2
  have b2' : H[a]? = some (vp_cell (w.2.1 kd.1) (kd.2.1, .inr (.inr (.inr (.inr kd.2.2))))) := b2
  refine W.aald (v := .ref q) C.1 C.2.1 b2' ((C.2.2.2.2.2.1.1.2 _ _ ht).1 kd.2.1 (fun j => va_rf (kd.2.2 j))) hr (fun h => by cases h) ?_ ?_ rfl rfl hd (kk p l e s m args below meth c H locs cells slots Z ls C hZ hR hlo hcl hsl hl)
  · show ¬ (_ ∨ (arrV _ _ _).slots.size ≤ _)
    rw [arrV_size]
    exact i32_in hx hi b3
  · show (arrV _ _ _).slots[_]? = _
    rw [i32_clamp hx (by omega), arrV_read _ _ hi]
    exact congrArg some (congrArg va_rf hq)
theorem j_alen (n : Nat) {a : Nat} {kd : Kd} {ty : FieldType} (hd : decode (md_c Y) pc = .ok (.arraylength, 1)) (hn : pc + 1 = n) (hs : sh.1 a = some kd) (hc : 10 ≤ kd.1) (ht : (t_ys w.2.1)[kd.1 - 10]? = some (w.2.1 kd.1, ty))
    (kk : J w Y n L (.int (i32 (kd.2.1 : Int)) :: S) sh g kc ks Q) : J w Y pc L (.ref a :: S) sh g kc ks Q := by
  subst hn
  intro p l e s m args below meth c H locs cells slots Z ls C hZ hR hlo hcl hsl hl
  obtain ⟨b1, b2, b3, b4⟩ := hR.1 a kd hs
  have hx : ∃ x, c_E w.2.1 kd (g a) = .inl (w.2.1 kd.1, (kd.2.1, x)) := by
    by_cases h0 : kd.1 = 10
    · rw [c_E_i h0, h0]; exact ⟨_, rfl⟩
    · by_cases h1 : kd.1 = 11
      · rw [c_E_b h1, h1]; exact ⟨_, rfl⟩
      · by_cases h2 : kd.1 = 12
        · rw [c_E_l h2, h2]; exact ⟨_, rfl⟩
        · by_cases h3 : kd.1 = 13
          · rw [c_E_d h3, h3]; exact ⟨_, rfl⟩
          · rw [c_E_q (by omega)]; exact ⟨_, rfl⟩
  obtain ⟨x, hx⟩ := hx
  rw [hx] at b2
  exact va_alen C.1 C.2.1 C.2.2.2.2.2.1.1 (va_P1 b2) 0 (kd.1 - 10) rfl ht rfl hd (kk p l e s m args below meth c H locs cells slots Z ls C hZ hR hlo hcl hsl hl)
theorem j_iast (n i : Nat) {a : Nat} {kd : Kd} {x v : Int} (hd : decode (md_c Y) pc = .ok (.iastore, 1)) (hn : pc + 1 = n) (hs : sh.1 a = some kd) (hc : kd.1 = 10) (hx : x = (i : Int)) (hi : i < kd.2.1) (hv : R32 v)
    (kk : J w Y n L S sh (up2 g a i v) kc ks Q) : J w Y pc L (.int (i32 v) :: .int (i32 x) :: .ref a :: S) sh g kc ks Q := by
  subst hn
  intro p l e s m args below meth c H locs cells slots Z ls C hZ hR hlo hcl hsl hl
  obtain ⟨b1, b2, b3, b4⟩ := hR.1 a kd hs
  rw [c_E_i hc] at b2
  have hin := i32_in hx hi b3
  refine W.iast C.1 C.2.1 (b2 : H[a]? = some (vp_cell _ _)) ((C.2.2.2.2.2.1.1.2 0 _ rfl).1 kd.2.1 (fun j => .int (i32 (g a j)))) (fun q => by cases q) (by show ¬ (_ ∨ (arrV _ _ _).slots.size ≤ _); rw [arrV_size]; exact hin) rfl rfl hd fun H1 e1 z oq => ?_
  refine kk p l e s m args below meth c H1 _ cells slots Z ls C hZ (hR.put hs z oq ?_ ?_) ?_ hcl hsl hl
  · rw [c_E_i hc]
    show H1[a]? = some (vp_cell _ _)
    rw [e1, vp_cell_i, vp_cell_i, arrV_store, i32_clamp hx (by omega)]
    refine congrArg some (congrArg (arrV _ _) (funext fun j => ?_))
    by_cases ej : j = i
    · subst ej; rw [up2_s]; exact if_pos rfl
    · rw [up2_k ej]; exact if_neg ej
  · unfold k_rng
    rw [if_neg (by omega), if_neg (by omega), if_pos hc]
    exact hv
  · intro y hy
    rcases List.mem_append.mp hy with h | h
    · exact hlo y h
    · rw [List.mem_singleton.mp h]
      exact b1
theorem j_bast (n i : Nat) {a : Nat} {kd : Kd} {x v : Int} (hd : decode (md_c Y) pc = .ok (.bastore, 1)) (hn : pc + 1 = n) (hs : sh.1 a = some kd) (hc : kd.1 = 11) (hx : x = (i : Int)) (hi : i < kd.2.1) (hv : -128 ≤ v ∧ v ≤ 127)
    (kk : J w Y n L S sh (up2 g a i v) kc ks Q) : J w Y pc L (.int (i32 v) :: .int (i32 x) :: .ref a :: S) sh g kc ks Q := by
  subst hn
  intro p l e s m args below meth c H locs cells slots Z ls C hZ hR hlo hcl hsl hl
  obtain ⟨b1, b2, b3, b4⟩ := hR.1 a kd hs
  rw [c_E_b hc] at b2
  have hin := i32_in hx hi b3
  have hb : vp_nar .byte (i32 v) = i32 v := by
    rw [vp_nar_byte]
    apply Int32.toInt_inj.mp
    rw [Int8.toInt_toInt32, Int32.toInt_toInt8, i32_toInt ⟨by omega, by omega⟩, Int.bmod_eq_of_le (by omega) (by omega)]
  refine W.bast C.1 C.2.1 (b2 : H[a]? = some (vp_cell _ _)) ((C.2.2.2.2.2.1.1.2 1 _ rfl).1 kd.2.1 (fun j => .int (i32 (g a j)))) (fun q => by cases q) (by show ¬ (_ ∨ (arrV _ _ _).slots.size ≤ _); rw [arrV_size]; exact hin) rfl rfl hd fun H1 e1 z oq => ?_
  refine kk p l e s m args below meth c H1 _ cells slots Z ls C hZ (hR.put hs z oq ?_ ?_) ?_ hcl hsl hl
  · rw [c_E_b hc]
    show H1[a]? = some (vp_cell _ _)
    rw [e1, vp_cell_i, vp_cell_i, arrV_store, i32_clamp hx (by omega)]
    refine congrArg some (congrArg (arrV _ _) (funext fun j => ?_))
    by_cases ej : j = i
    · subst ej
      rw [up2_s]
      refine (if_pos rfl).trans ?_
      first | exact congrArg Value.int hb | (show narrow _ _ = _; exact congrArg Value.int hb)
    · rw [up2_k ej]; exact if_neg ej
  · unfold k_rng
    rw [if_neg (by omega), if_pos hc]
    exact hv
  · intro y hy
    rcases List.mem_append.mp hy with h | h
    · exact hlo y h
    · rw [List.mem_singleton.mp h]
      exact b1
theorem j_last (n i : Nat) {a : Nat} {kd : Kd} {x v : Int} (hd : decode (md_c Y) pc = .ok (.lastore, 1)) (hn : pc + 1 = n) (hs : sh.1 a = some kd) (hc : kd.1 = 12) (hx : x = (i : Int)) (hi : i < kd.2.1)
    (kk : J w Y n L S sh (up2 g a i v) kc ks Q) : J w Y pc L (.long (i64 v) :: .int (i32 x) :: .ref a :: S) sh g kc ks Q := by
  subst hn
  intro p l e s m args below meth c H locs cells slots Z ls C hZ hR hlo hcl hsl hl
  obtain ⟨b1, b2, b3, b4⟩ := hR.1 a kd hs
  rw [c_E_l hc] at b2
  have hin := i32_in hx hi b3
  refine W.last C.1 C.2.1 (b2 : H[a]? = some (vp_cell _ _)) ((C.2.2.2.2.2.1.1.2 2 _ rfl).1 kd.2.1 (fun j => .long (i64 (g a j)))) (fun q => by cases q) (by show ¬ (_ ∨ (arrV _ _ _).slots.size ≤ _); rw [arrV_size]; exact hin) rfl rfl hd fun H1 e1 z oq => ?_
  refine kk p l e s m args below meth c H1 _ cells slots Z ls C hZ (hR.put hs z oq ?_ ?_) ?_ hcl hsl hl
  · rw [c_E_l hc]
    show H1[a]? = some (vp_cell _ _)
    rw [e1, vp_cell_l, vp_cell_l, arrV_store, i32_clamp hx (by omega)]
    refine congrArg some (congrArg (arrV _ _) (funext fun j => ?_))
    by_cases ej : j = i
    · subst ej; rw [up2_s]; exact if_pos rfl
    · rw [up2_k ej]; exact if_neg ej
  · unfold k_rng
    rw [if_neg (by omega), if_neg (by omega), if_neg (by omega)]
    trivial
  · intro y hy
    rcases List.mem_append.mp hy with h | h
    · exact hlo y h
    · rw [List.mem_singleton.mp h]
      exact b1
end JM
