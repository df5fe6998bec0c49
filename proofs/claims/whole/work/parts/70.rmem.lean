/-! the reference: exceptions, copies, the history -/
theorem up2_up2 {g : Mem} {a i : Nat} {x y : Int} : up2 (up2 g a i x) a i y = up2 g a i y := by
  funext b j
  by_cases h : b = a ∧ j = i
  · obtain ⟨rfl, rfl⟩ := h; rw [up2_s, up2_s]
  · unfold up2; rw [if_neg h, if_neg h, if_neg h]

set_option maxRecDepth 20000 in
theorem r_fails0 {w : Wd} {sh : Shp} {g : Mem} {m : Nat} (hM : MdS sh.1 m) {d : Nat → Int} (e : Int) (h0 : g m 0 = 0) : CT w mX10_fails [.ref (m), .int (i32 (0)), .int (i32 (e))] sh (upR g (m + 2) d) (dQ (some (.int (i32 (0)))) sh (upR g (m + 2) d)) := by
  refine j_entry (by decide) rfl (Nat.le_of_ble_eq_true rfl) (fun h => by cases h) rfl ?_
  show J w mX10_fails 0 [(0, .ref (m)), (1, .int (i32 (0))), (2, .int (i32 (e)))] [] sh (upR g (m + 2) d) 0 0 _
  refine j_iload_n 1 1 dX10_fails_0 rfl rfl ?_
  refine j_if_eq 4 16 dX10_fails_1 rfl rfl (r32 (by decide) (by decide)) (fun c_1 => ?_) (fun c_1 => absurd c_1 (by decide))
  refine j_aload_n 17 0 dX10_fails_16 rfl rfl ?_
  refine j_geti 20 dX10_fails_17 rfl fl_X10_35 hM.md rfl rfl (fun r_17 => ?_)
  refine j_top (y := g (m) 0) (upR_at (by omega)) ?_
  refine j_top (y := 0) (h0) ?_
  refine j_if_eq 23 27 dX10_fails_20 rfl rfl (r32 (by decide) (by decide)) (fun c_20 => ?_) (fun c_20 => absurd c_20 (by decide))
  refine j_iconst 28 dX10_fails_27 rfl ?_
  exact j_zret dX10_fails_28 rfl (Or.inl rfl) (⟨rfl, rfl, rfl⟩)

set_option maxRecDepth 20000 in
theorem r_fails1 {w : Wd} {sh : Shp} {g : Mem} {m : Nat} (hM : MdS sh.1 m) {d : Nat → Int} (e : Int) (he : e ≠ 0) (he1 : -100 ≤ e) (he2 : e ≤ 100) (h0 : g m 0 = 0) : CT w mX10_fails [.ref (m), .int (i32 (1)), .int (i32 (e))] sh (upR g (m + 2) d) (dQ (some (.int (i32 (1)))) sh (upR (up2 g m 0 e) (m + 2) d)) := by
  refine j_entry (by decide) rfl (Nat.le_of_ble_eq_true rfl) (fun h => by cases h) rfl ?_
  show J w mX10_fails 0 [(0, .ref (m)), (1, .int (i32 (1))), (2, .int (i32 (e)))] [] sh (upR g (m + 2) d) 0 0 _
  refine j_iload_n 1 1 dX10_fails_0 rfl rfl ?_
  refine j_if_eq 4 16 dX10_fails_1 rfl rfl (r32 (by decide) (by decide)) (fun c_1 => absurd c_1 (by decide)) (fun c_1 => ?_)
  refine j_aload_n 5 0 dX10_fails_4 rfl rfl ?_
  refine j_geti 8 dX10_fails_5 rfl fl_X10_35 hM.md rfl rfl (fun r_5 => ?_)
  refine j_top (y := g (m) 0) (upR_at (by omega)) ?_
  refine j_top (y := 0) (h0) ?_
  refine j_if_ne 11 16 dX10_fails_8 rfl rfl (r32 (by decide) (by decide)) (fun c_8 => absurd c_8 (by decide)) (fun c_8 => ?_)
  refine j_aload_n 12 0 dX10_fails_11 rfl rfl ?_
  refine j_iload_n 13 2 dX10_fails_12 rfl rfl ?_
  refine j_puti 16 dX10_fails_13 rfl fl_X10_35 hM.md rfl rfl rfl ⟨by omega, by omega⟩ ?_
  refine j_mem (up2_upR_n (by omega)) ?_
  refine j_aload_n 17 0 dX10_fails_16 rfl rfl ?_
  refine j_geti 20 dX10_fails_17 rfl fl_X10_35 hM.md rfl rfl (fun r_17 => ?_)
  refine j_top (y := (up2 g (m) 0 (e)) (m) 0) (upR_at (by omega)) ?_
  refine j_top (y := e) (up2_s) ?_
  refine j_if_eq 23 27 dX10_fails_20 rfl rfl ⟨by omega, by omega⟩ (fun c_20 => absurd c_20 (by omega)) (fun c_20 => ?_)
  refine j_iconst 24 dX10_fails_23 rfl ?_
  refine j_goto 28 dX10_fails_24 rfl ?_
  exact j_zret dX10_fails_28 rfl (Or.inr rfl) (⟨rfl, rfl, rfl⟩)

def mixF (f h : Nat → Int) (k : Nat) : Nat → Int := fun j => if j < k then f j else h j
theorem mix_0 {f h : Nat → Int} : mixF f h 0 = h := funext fun j => if_neg (Nat.not_lt_zero j)
theorem mix_s {f h : Nat → Int} {k : Nat} : ud (mixF f h k) k (f k) = mixF f h (k + 1) := funext fun j => by
  unfold ud mixF
  by_cases h1 : j = k
  · subst h1; rw [if_pos rfl, if_pos (by omega)]
  · rw [if_neg h1]
    by_cases h2 : j < k
    · rw [if_pos h2, if_pos (by omega)]
    · rw [if_neg h2, if_neg (by omega)]

set_option maxRecDepth 20000 in
theorem r_copy {w : Wd} {sh : Shp} {g : Mem} {a b : Nat} (ha : sh.1 a = some (10, 729, kN)) (hb : sh.1 b = some (10, 729, kN)) (hab : a ≠ b) : CT w mX10_copy [.ref (a), .ref (b)] sh g (dQ none sh (upR g b (g a))) := by
  refine j_entry (by decide) rfl (Nat.le_of_ble_eq_true rfl) (fun h => by cases h) rfl ?_
  show J w mX10_copy 0 [(0, .ref (a)), (1, .ref (b))] [] sh g 0 0 _
  refine j_rgi ha rfl (fun hR => ?_)
  refine j_mem (upR_id (a := b)).symm ?_
  refine j_iconst 1 dX10_copy_0 rfl ?_
  refine j_istore_n 2 (L2 := [(2, .int (i32 (0))), (0, .ref (a)), (1, .ref (b))]) dX10_copy_1 rfl rfl (Nat.le_of_ble_eq_true rfl) rfl ?_
  suffices lp_2 : ∀ (n_2 : Nat) (k : Nat) (da : Nat → Int), 729 - k < n_2 → k ≤ 729 → da = mixF (g a) (g b) k → J w mX10_copy 2 [(2, .int (i32 ((k : Int)))), (0, .ref (a)), (1, .ref (b))] [] sh (upR g (b) da) 0 0 (dQ none sh (upR g b (g a))) by
    exact lp_2 _ 0 (g b) (Nat.lt_succ_self _) (by omega) mix_0.symm
  intro n_2
  induction n_2 with
  | zero => intro k da h_; exact absurd h_ (Nat.not_lt_zero _)
  | succ n_2 ih_2 =>
    intro k da hn_2 hk hda
    refine j_iload_n 3 0 dX10_copy_2 rfl rfl ?_
    refine j_sipush 6 dX10_copy_3 rfl (by decide) ?_
    refine j_icmp_ge 9 21 dX10_copy_6 rfl rfl (r32 (by omega) (by omega)) (r32 (by decide) (by decide)) (fun c_6 => ?_) (fun c_6 => ?_)
    · refine j_row hb rfl (row := g a) (fun j hj => by rw [upR_s, hda]; exact (if_pos (show j < k by have hj2 : j < 729 := hj; omega)).symm) hR ?_
      refine j_mem upR_upR ?_
      exact j_vret dX10_copy_21 rfl (⟨rfl, rfl, rfl⟩)
    · refine j_aload_n 10 2 dX10_copy_9 rfl rfl ?_
      refine j_iload_n 11 0 dX10_copy_10 rfl rfl ?_
      refine j_aload_n 12 1 dX10_copy_11 rfl rfl ?_
      refine j_iload_n 13 0 dX10_copy_12 rfl rfl ?_
      refine j_iald 14 k dX10_copy_13 rfl ha rfl rfl (show k < 729 by omega) (fun r_13 => ?_)
      refine j_top (y := g a k) (upR_at hab) ?_
      refine j_iast_d 15 k dX10_copy_14 rfl hb rfl rfl (show k < 729 by omega) (by have h := r_13; rw [upR_at hab] at h; exact h) ?_
      refine j_iinc 18 0 (y := ((k + 1 : Nat) : Int)) (L2 := [(2, .int (i32 (((k + 1 : Nat) : Int)))), (0, .ref (a)), (1, .ref (b))]) dX10_copy_15 rfl rfl (by omega) (Nat.le_of_ble_eq_true rfl) rfl ?_
      refine j_goto 2 dX10_copy_18 rfl ?_
      exact ih_2 (k + 1) (ud da k (g a k)) (by omega) (by omega) (by rw [hda]; exact mix_s)

/-- the reference's history: the rows, the latest first -/
def HR (g : Mem) (m : Nat) (hist : Nat → (Nat → Int)) (c : Nat) : Prop := g m 12 = (c : Int) ∧ c ≤ 8 ∧ ∀ j, j < c → g (m + 6 + (c - 1 - j)) = hist j
theorem HR.same {g g2 : Mem} {m c : Nat} {hist : Nat → (Nat → Int)} (H : HR g m hist c) (h1 : g2 m 12 = g m 12) (h2 : ∀ a, m + 6 ≤ a → a < m + 14 → g2 a = g a) : HR g2 m hist c :=
  ⟨by rw [h1]; exact H.1, H.2.1, fun j hj => by have := H.2.1; rw [h2 _ (by omega) (by omega)]; exact H.2.2 j hj⟩
/-- the rows after k of the shifts -/
def shF (g : Mem) (m k : Nat) : Mem := fun a => if m + 6 ≤ a ∧ a < m + 6 + k then g (a + 1) else g a
theorem shF_0 {g : Mem} {m : Nat} : shF g m 0 = g := funext fun a => if_neg (by omega)
theorem shF_s {g : Mem} {m k : Nat} : upR (shF g m k) (m + 6 + k) (shF g m k (m + 6 + (k + 1))) = shF g m (k + 1) := funext fun a => by
  by_cases h : a = m + 6 + k
  · subst h
    rw [upR_s]
    unfold shF
    rw [if_neg (by omega), if_pos (by omega)]
    rfl
  · rw [upR_n h]
    unfold shF
    by_cases h2 : m + 6 ≤ a ∧ a < m + 6 + k
    · rw [if_pos h2, if_pos (by omega)]
    · rw [if_neg h2, if_neg (by omega)]

theorem push_0 {d : Nat → Int} {hist : Nat → (Nat → Int)} : push d hist 0 = d := rfl
theorem push_s {d : Nat → Int} {hist : Nat → (Nat → Int)} {j : Nat} (h : 0 < j) : push d hist j = hist (j - 1) := by
  obtain ⟨i, rfl⟩ : ∃ i, j = i + 1 := ⟨j - 1, by omega⟩
  rfl

theorem rem_0 {g : Mem} {m c : Nat} {hist : Nat → (Nat → Int)} (hH : HR g m hist c) (hc8 : c < 8) : HR (up2 (upR g (m + 6 + c) (g (m + 2))) m 12 ((c : Int) + 1)) m (push (g (m + 2)) hist) (c + 1) := by
  refine ⟨by rw [up2_s]; omega, by omega, fun j hj => ?_⟩
  rw [up2_row (by omega)]
  by_cases j0 : j = 0
  · subst j0; rw [show m + 6 + (c + 1 - 1 - 0) = m + 6 + c by omega, upR_s]; rfl
  · rw [upR_n (by omega), push_s (by omega), show c + 1 - 1 - j = c - 1 - (j - 1) by omega]; exact hH.2.2 (j - 1) (by omega)
theorem rem_8 {g g3 : Mem} {m : Nat} {hist : Nat → (Nat → Int)} (hH : HR g m hist 8) (e1 : g3 m 12 = 8) (e2 : ∀ i, i < 7 → g3 (m + 6 + i) = g (m + 6 + (i + 1))) (e3 : g3 (m + 6 + 7) = g (m + 2)) : HR g3 m (push (g (m + 2)) hist) 8 := by
  refine ⟨e1, by omega, fun j hj => ?_⟩
  by_cases j0 : j = 0
  · subst j0; exact e3
  · rw [e2 (8 - 1 - j) (by omega), push_s (by omega), show 8 - 1 - j + 1 = 8 - 1 - (j - 1) by omega]; exact hH.2.2 (j - 1) (by omega)

set_option maxRecDepth 20000 in
theorem r_remember0 {w : Wd} {sh : Shp} {g : Mem} {m : Nat} (hM : MdS sh.1 m) {c : Nat} {hist : Nat → (Nat → Int)} (hH : HR g m hist c) (hc8 : c < 8) : CT w mX10_remember [.ref (m)] sh g (vQ sh (fun g2 => HR g2 m (push (g (m + 2)) hist) (if c < 8 then c + 1 else 8) ∧ (∀ a, a ≠ m → (a < m + 6 ∨ m + 14 ≤ a) → g2 a = g a) ∧ ∀ j, j ≠ 12 → g2 m j = g m j)) := by
  refine j_entry (by decide) rfl (Nat.le_of_ble_eq_true rfl) (fun h => by cases h) rfl ?_
  show J w mX10_remember 0 [(0, .ref (m))] [] sh g 0 0 _
  refine j_aload_n 1 0 dX10_remember_0 rfl rfl ?_
  refine j_geti 4 dX10_remember_1 rfl fl_X10_297 hM.md rfl rfl (fun r_1 => ?_)
  refine j_top (y := (c : Int)) (hH.1) ?_
  refine j_bipush 6 dX10_remember_4 rfl (by decide) ?_
  refine j_icmp_ne 9 50 dX10_remember_6 rfl rfl (r32 (by omega) (by omega)) (r32 (by decide) (by decide)) (fun c_6 => ?_) (fun c_6 => absurd c_6 (by omega))
  refine j_aload_n 51 0 dX10_remember_50 rfl rfl ?_
  refine j_getr 54 dX10_remember_51 rfl fl_X10_17 hM.md rfl (fun _ _ => rfl) rfl ?_
  refine j_aload_n 55 0 dX10_remember_54 rfl rfl ?_
  refine j_getr 58 dX10_remember_55 rfl fl_X10_28 hM.md rfl (fun _ _ => rfl) rfl ?_
  refine j_aload_n 59 0 dX10_remember_58 rfl rfl ?_
  refine j_geti 62 dX10_remember_59 rfl fl_X10_297 hM.md rfl rfl (fun r_59 => ?_)
  refine j_top (y := (c : Int)) (hH.1) ?_
  refine j_aald 63 c dX10_remember_62 rfl hM.his (Nat.le_of_ble_eq_true rfl) rfl rfl (by omega) (show c < 8 by omega) rfl ?_
  refine j_callS 66 (As := [.ref (m + 2), .ref (m + 6 + c)]) (kc2 := 0) (ks2 := 0) dX10_remember_63 rfl msX10_copy lk_X10_188 rfl rfl (Nat.le_of_ble_eq_true rfl) ⟨Nat.le_of_ble_eq_true rfl, Nat.le_of_ble_eq_true rfl⟩ ⟨Nat.le_of_ble_eq_true rfl, Nat.le_of_ble_eq_true rfl⟩ (r_copy hM.dat (hM.hi c (by omega)) (by omega)) x_d (k_d0 ?_)
  refine j_aload_n 67 0 dX10_remember_66 rfl rfl ?_
  refine j_dup 68 dX10_remember_67 rfl rfl ?_
  refine j_geti 71 dX10_remember_68 rfl fl_X10_297 hM.md rfl rfl (fun r_68 => ?_)
  refine j_top (y := (c : Int)) ((upR_at (by omega)).trans hH.1) ?_
  refine j_iconst 72 dX10_remember_71 rfl ?_
  refine j_iadd 73 dX10_remember_72 rfl ?_
  refine j_puti 76 dX10_remember_73 rfl fl_X10_297 hM.md rfl rfl rfl (r32 (by omega) (by omega)) ?_
  refine j_mn (fun g_73 hg_73 => ?_)
  exact j_vret dX10_remember_76 rfl (⟨rfl, rfl, by rw [if_pos hc8, hg_73]; exact rem_0 hH hc8, fun a h1 h2 => by rw [hg_73, up2_row h1, upR_n (by omega)], fun j hj => by rw [hg_73, up2_k hj, upR_at (by omega)]⟩)

set_option maxRecDepth 20000 in
theorem r_remember1 {w : Wd} {sh : Shp} {g : Mem} {m : Nat} (hM : MdS sh.1 m) {hist : Nat → (Nat → Int)} (hH : HR g m hist 8)  : CT w mX10_remember [.ref (m)] sh g (vQ sh (fun g2 => HR g2 m (push (g (m + 2)) hist) (if 8 < 8 then 8 + 1 else 8) ∧ (∀ a, a ≠ m → (a < m + 6 ∨ m + 14 ≤ a) → g2 a = g a) ∧ ∀ j, j ≠ 12 → g2 m j = g m j)) := by
  refine j_entry (by decide) rfl (Nat.le_of_ble_eq_true rfl) (fun h => by cases h) rfl ?_
  show J w mX10_remember 0 [(0, .ref (m))] [] sh g 0 0 _
  refine j_aload_n 1 0 dX10_remember_0 rfl rfl ?_
  refine j_geti 4 dX10_remember_1 rfl fl_X10_297 hM.md rfl rfl (fun r_1 => ?_)
  refine j_top (y := 8) (hH.1) ?_
  refine j_bipush 6 dX10_remember_4 rfl (by decide) ?_
  refine j_icmp_ne 9 50 dX10_remember_6 rfl rfl (r32 (by decide) (by decide)) (r32 (by decide) (by decide)) (fun c_6 => absurd c_6 (by decide)) (fun c_6 => ?_)
  refine j_iconst 10 dX10_remember_9 rfl ?_
  refine j_mem (shF_0 (m := m)).symm ?_
  refine j_istore_n 11 (L2 := [(1, .int (i32 (1))), (0, .ref (m))]) dX10_remember_10 rfl rfl (Nat.le_of_ble_eq_true rfl) rfl ?_
  suffices lp_11 : ∀ (n_11 : Nat) (k : Nat), 7 - k < n_11 → k ≤ 7 → J w mX10_remember 11 [(1, .int (i32 (((k + 1 : Nat) : Int)))), (0, .ref (m))] [] sh (shF g m k) 0 0 (vQ sh (fun g2 => HR g2 m (push (g (m + 2)) hist) (if 8 < 8 then 8 + 1 else 8) ∧ (∀ a, a ≠ m → (a < m + 6 ∨ m + 14 ≤ a) → g2 a = g a) ∧ ∀ j, j ≠ 12 → g2 m j = g m j)) by
    exact lp_11 _ 0 (Nat.lt_succ_self _) (by omega)
  intro n_11
  induction n_11 with
  | zero => intro k h_; exact absurd h_ (Nat.not_lt_zero _)
  | succ n_11 ih_11 =>
    intro k hn_11 hk
    refine j_iload_n 12 0 dX10_remember_11 rfl rfl ?_
    refine j_bipush 14 dX10_remember_12 rfl (by decide) ?_
    refine j_icmp_ge 17 40 dX10_remember_14 rfl rfl (r32 (by omega) (by omega)) (r32 (by decide) (by decide)) (fun c_14 => ?_) (fun c_14 => ?_)
    · have hk7 : k = 7 := by omega
      subst hk7
      have h12 : shF g m 7 m 12 = 8 := by unfold shF; rw [if_neg (by omega)]; exact hH.1
      refine j_sub [1] rfl ?_
      refine j_aload_n 41 0 dX10_remember_40 rfl rfl ?_
      refine j_dup 42 dX10_remember_41 rfl rfl ?_
      refine j_geti 45 dX10_remember_42 rfl fl_X10_297 hM.md rfl rfl (fun r_42 => ?_)
      refine j_top (y := 8) (h12) ?_
      refine j_iconst 46 dX10_remember_45 rfl ?_
      refine j_isub 47 dX10_remember_46 rfl ?_
      refine j_puti 50 dX10_remember_47 rfl fl_X10_297 hM.md rfl rfl rfl (r32 (by decide) (by decide)) ?_
      refine j_mn (fun g_47 hg_47 => ?_)
      have h59 : g_47 m 12 = 7 := by rw [hg_47]; exact up2_s
      refine j_aload_n 51 0 dX10_remember_50 rfl rfl ?_
      refine j_getr 54 dX10_remember_51 rfl fl_X10_17 hM.md rfl (fun _ _ => rfl) rfl ?_
      refine j_aload_n 55 0 dX10_remember_54 rfl rfl ?_
      refine j_getr 58 dX10_remember_55 rfl fl_X10_28 hM.md rfl (fun _ _ => rfl) rfl ?_
      refine j_aload_n 59 0 dX10_remember_58 rfl rfl ?_
      refine j_geti 62 dX10_remember_59 rfl fl_X10_297 hM.md rfl rfl (fun r_59 => ?_)
      refine j_top (y := 7) (h59) ?_
      refine j_aald 63 7 dX10_remember_62 rfl hM.his (Nat.le_of_ble_eq_true rfl) rfl rfl rfl (show 7 < 8 by decide) rfl ?_
      refine j_callS 66 (As := [.ref (m + 2), .ref (m + 6 + 7)]) (kc2 := 0) (ks2 := 0) dX10_remember_63 rfl msX10_copy lk_X10_188 rfl rfl (Nat.le_of_ble_eq_true rfl) ⟨Nat.le_of_ble_eq_true rfl, Nat.le_of_ble_eq_true rfl⟩ ⟨Nat.le_of_ble_eq_true rfl, Nat.le_of_ble_eq_true rfl⟩ (r_copy hM.dat (hM.hi 7 (by omega)) (by omega)) x_d (k_d0 ?_)
      refine j_aload_n 67 0 dX10_remember_66 rfl rfl ?_
      refine j_dup 68 dX10_remember_67 rfl rfl ?_
      refine j_geti 71 dX10_remember_68 rfl fl_X10_297 hM.md rfl rfl (fun r_68 => ?_)
      refine j_top (y := 7) ((upR_at (by omega)).trans h59) ?_
      refine j_iconst 72 dX10_remember_71 rfl ?_
      refine j_iadd 73 dX10_remember_72 rfl ?_
      refine j_puti 76 dX10_remember_73 rfl fl_X10_297 hM.md rfl rfl rfl (r32 (by decide) (by decide)) ?_
      refine j_mn (fun g_73 hg_73 => ?_)
      exact j_vret dX10_remember_76 rfl (⟨rfl, rfl, by rw [if_neg (by omega)]; exact rem_8 hH (by rw [hg_73]; exact up2_s) (fun i hi => by rw [hg_73, up2_row (by omega), upR_n (by omega), hg_47, up2_row (by omega)]; unfold shF; rw [if_pos (by omega)]; rfl) (by rw [hg_73, up2_row (by omega), upR_s, hg_47, up2_row (by omega)]; unfold shF; rw [if_neg (by omega)]), fun a h1 h2 => by rw [hg_73, up2_row h1, upR_n (by omega), hg_47, up2_row h1]; unfold shF; rw [if_neg (by omega)], fun j hj => by rw [hg_73, up2_k hj, upR_at (by omega), hg_47, up2_k hj]; unfold shF; rw [if_neg (by omega)]⟩)
    · refine j_aload_n 18 1 dX10_remember_17 rfl rfl ?_
      refine j_getr 21 dX10_remember_18 rfl fl_X10_28 hM.md rfl (fun _ _ => rfl) rfl ?_
      refine j_iload_n 22 0 dX10_remember_21 rfl rfl ?_
      refine j_aald 23 (k + 1) dX10_remember_22 rfl hM.his (Nat.le_of_ble_eq_true rfl) rfl rfl (by omega) (show (k + 1) < 8 by omega) rfl ?_
      refine j_aload_n 24 1 dX10_remember_23 rfl rfl ?_
      refine j_getr 27 dX10_remember_24 rfl fl_X10_28 hM.md rfl (fun _ _ => rfl) rfl ?_
      refine j_iload_n 28 0 dX10_remember_27 rfl rfl ?_
      refine j_iconst 29 dX10_remember_28 rfl ?_
      refine j_isub 30 dX10_remember_29 rfl ?_
      refine j_aald 31 k dX10_remember_30 rfl hM.his (Nat.le_of_ble_eq_true rfl) rfl rfl (by omega) (show k < 8 by omega) rfl ?_
      refine j_callS 34 (As := [.ref (m + 6 + (k + 1)), .ref (m + 6 + k)]) (kc2 := 0) (ks2 := 0) dX10_remember_31 rfl msX10_copy lk_X10_188 rfl rfl (Nat.le_of_ble_eq_true rfl) ⟨Nat.le_of_ble_eq_true rfl, Nat.le_of_ble_eq_true rfl⟩ ⟨Nat.le_of_ble_eq_true rfl, Nat.le_of_ble_eq_true rfl⟩ ((by have h := r_copy (w := w) (g := (shF g m k)) (hM.hi (k + 1) (by omega)) (hM.hi k (by omega)) (by omega); rw [shF_s] at h; exact h)) x_d (k_d0 ?_)
      refine j_iinc 37 0 (y := ((k + 1 + 1 : Nat) : Int)) (L2 := [(1, .int (i32 (((k + 1 + 1 : Nat) : Int)))), (0, .ref (m))]) dX10_remember_34 rfl rfl (by omega) (Nat.le_of_ble_eq_true rfl) rfl ?_
      refine j_goto 11 dX10_remember_37 rfl ?_
      exact ih_11 (k + 1) (by omega) (by omega)

theorem r_remember {w : Wd} {sh : Shp} {g : Mem} {m : Nat} (hM : MdS sh.1 m) {c : Nat} {hist : Nat → (Nat → Int)} (hH : HR g m hist c) : CT w mX10_remember [.ref m] sh g (vQ sh (fun g2 => HR g2 m (push (g (m + 2)) hist) (if c < 8 then c + 1 else 8) ∧ (∀ a, a ≠ m → (a < m + 6 ∨ m + 14 ≤ a) → g2 a = g a) ∧ ∀ j, j ≠ 12 → g2 m j = g m j)) := by
  by_cases h : c < 8
  · exact r_remember0 hM hH h
  · have h8 : c = 8 := by have := hH.2.1; omega
    subst h8
    exact r_remember1 hM hH
