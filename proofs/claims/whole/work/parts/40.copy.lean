/-- the row b's cells lo ..< hi in the row a -/
def cpR (g : Mem) (a b lo hi : Nat) : Mem := fun x j => if x = a ∧ lo ≤ j ∧ j < hi then g b j else g x j
theorem cpR_0 {g : Mem} {a b lo : Nat} : cpR g a b lo lo = g := by
  funext x j
  exact if_neg (by omega)
theorem cpR_s {g : Mem} {a b lo k : Nat} (h : lo ≤ k) : up2 (cpR g a b lo k) a k (g b k) = cpR g a b lo (k + 1) := by
  funext x j
  show (if x = a ∧ j = k then g b k else if x = a ∧ lo ≤ j ∧ j < k then g b j else g x j) = if x = a ∧ lo ≤ j ∧ j < k + 1 then g b j else g x j
  by_cases q : x = a ∧ j = k
  · obtain ⟨rfl, rfl⟩ := q
    rw [if_pos ⟨rfl, rfl⟩, if_pos ⟨rfl, h, by omega⟩]
  · rw [if_neg q]
    by_cases q2 : x = a ∧ lo ≤ j ∧ j < k
    · rw [if_pos q2, if_pos ⟨q2.1, q2.2.1, by omega⟩]
    · rw [if_neg q2, if_neg (fun c => q2 ⟨c.1, c.2.1, by have : ¬ j = k := fun e => q ⟨c.1, e⟩; omega⟩)]
theorem cpR_b {g : Mem} {a b lo k j : Nat} (h : a ≠ b) : cpR g a b lo k b j = g b j := if_neg (fun q => h q.1.symm)
theorem cpR_n {g : Mem} {a b lo k x : Nat} (h : x ≠ a) : cpR g a b lo k x = g x := funext fun j => if_neg (fun q => h q.1)
theorem cpR_i {g : Mem} {a b lo k j : Nat} (h : lo ≤ j ∧ j < k) : cpR g a b lo k a j = g b j := if_pos ⟨rfl, h⟩
theorem cpR_o {g : Mem} {a b lo k j : Nat} (h : ¬ (lo ≤ j ∧ j < k)) : cpR g a b lo k a j = g a j := if_neg (fun q => h q.2)

set_option maxRecDepth 20000 in
theorem c_copyG {w : Wd} {sh : Shp} {g : Mem} {a b : Nat} (hab : a ≠ b) (ha : sh.1 a = some (2, 0, kN)) (hb : sh.1 b = some (2, 0, kN)) : CT w mX2_copyFrom [.ref (a), .ref (b)] sh g (dQ none sh (cpR g a b 1 8)) := by
  refine j_entry (by decide) rfl (Nat.le_of_ble_eq_true rfl) (fun h => by cases h) rfl ?_
  show J w mX2_copyFrom 0 [(0, .ref (a)), (1, .ref (b))] [] sh g 0 0 _
  refine j_mem (cpR_0 (a := a) (b := b) (lo := 1)).symm ?_
  refine j_aload_n 1 0 dX2_copyFrom_0 rfl rfl ?_
  refine j_aload_n 2 1 dX2_copyFrom_1 rfl rfl ?_
  refine j_getl 5 dX2_copyFrom_2 rfl fl_X2_13 hb rfl rfl (fun r_2 => ?_)
  rw [cpR_b hab]
  refine j_putl 8 dX2_copyFrom_5 rfl fl_X2_13 ha rfl rfl rfl (by have h := r_2; rw [cpR_b hab] at h; exact h) ?_
  refine j_mn (fun g_5 hg_5 => ?_)
  refine j_mem (hg_5.trans (cpR_s (by omega))) ?_
  refine j_aload_n 9 0 dX2_copyFrom_8 rfl rfl ?_
  refine j_aload_n 10 1 dX2_copyFrom_9 rfl rfl ?_
  refine j_geti 13 dX2_copyFrom_10 rfl fl_X2_17 hb rfl rfl (fun r_10 => ?_)
  refine j_top (y := g b 2) (cpR_b hab) ?_
  refine j_puti 16 dX2_copyFrom_13 rfl fl_X2_17 ha rfl rfl rfl (by have h := r_10; rw [cpR_b hab] at h; exact h) ?_
  refine j_mn (fun g_13 hg_13 => ?_)
  refine j_mem (hg_13.trans (cpR_s (by omega))) ?_
  refine j_aload_n 17 0 dX2_copyFrom_16 rfl rfl ?_
  refine j_aload_n 18 1 dX2_copyFrom_17 rfl rfl ?_
  refine j_geti 21 dX2_copyFrom_18 rfl fl_X2_20 hb rfl rfl (fun r_18 => ?_)
  refine j_top (y := g b 3) (cpR_b hab) ?_
  refine j_puti 24 dX2_copyFrom_21 rfl fl_X2_20 ha rfl rfl rfl (by have h := r_18; rw [cpR_b hab] at h; exact h) ?_
  refine j_mn (fun g_21 hg_21 => ?_)
  refine j_mem (hg_21.trans (cpR_s (by omega))) ?_
  refine j_aload_n 25 0 dX2_copyFrom_24 rfl rfl ?_
  refine j_aload_n 26 1 dX2_copyFrom_25 rfl rfl ?_
  refine j_geti 29 dX2_copyFrom_26 rfl fl_X2_23 hb rfl rfl (fun r_26 => ?_)
  refine j_top (y := g b 4) (cpR_b hab) ?_
  refine j_puti 32 dX2_copyFrom_29 rfl fl_X2_23 ha rfl rfl rfl (by have h := r_26; rw [cpR_b hab] at h; exact h) ?_
  refine j_mn (fun g_29 hg_29 => ?_)
  refine j_mem (hg_29.trans (cpR_s (by omega))) ?_
  refine j_aload_n 33 0 dX2_copyFrom_32 rfl rfl ?_
  refine j_aload_n 34 1 dX2_copyFrom_33 rfl rfl ?_
  refine j_geti 37 dX2_copyFrom_34 rfl fl_X2_26 hb rfl rfl (fun r_34 => ?_)
  refine j_top (y := g b 5) (cpR_b hab) ?_
  refine j_puti 40 dX2_copyFrom_37 rfl fl_X2_26 ha rfl rfl rfl (by have h := r_34; rw [cpR_b hab] at h; exact h) ?_
  refine j_mn (fun g_37 hg_37 => ?_)
  refine j_mem (hg_37.trans (cpR_s (by omega))) ?_
  refine j_aload_n 41 0 dX2_copyFrom_40 rfl rfl ?_
  refine j_aload_n 42 1 dX2_copyFrom_41 rfl rfl ?_
  refine j_geti 45 dX2_copyFrom_42 rfl fl_X2_29 hb rfl rfl (fun r_42 => ?_)
  refine j_top (y := g b 6) (cpR_b hab) ?_
  refine j_puti 48 dX2_copyFrom_45 rfl fl_X2_29 ha rfl rfl rfl (by have h := r_42; rw [cpR_b hab] at h; exact h) ?_
  refine j_mn (fun g_45 hg_45 => ?_)
  refine j_mem (hg_45.trans (cpR_s (by omega))) ?_
  refine j_aload_n 49 0 dX2_copyFrom_48 rfl rfl ?_
  refine j_aload_n 50 1 dX2_copyFrom_49 rfl rfl ?_
  refine j_geti 53 dX2_copyFrom_50 rfl fl_X2_32 hb rfl rfl (fun r_50 => ?_)
  refine j_top (y := g b 7) (cpR_b hab) ?_
  refine j_puti 56 dX2_copyFrom_53 rfl fl_X2_32 ha rfl rfl rfl (by have h := r_50; rw [cpR_b hab] at h; exact h) ?_
  refine j_mn (fun g_53 hg_53 => ?_)
  refine j_mem (hg_53.trans (cpR_s (by omega))) ?_
  exact j_vret dX2_copyFrom_56 rfl (⟨rfl, rfl, rfl⟩)

set_option maxRecDepth 20000 in
theorem c_copyR {w : Wd} {sh : Shp} {g : Mem} {a b : Nat} (hab : a ≠ b) (ha : sh.1 a = some (5, 0, kN)) (hb : sh.1 b = some (5, 0, kN)) : CT w mX5_copyFrom [.ref (a), .ref (b)] sh g (dQ none sh (cpR g a b 1 4)) := by
  refine j_entry (by decide) rfl (Nat.le_of_ble_eq_true rfl) (fun h => by cases h) rfl ?_
  show J w mX5_copyFrom 0 [(0, .ref (a)), (1, .ref (b))] [] sh g 0 0 _
  refine j_mem (cpR_0 (a := a) (b := b) (lo := 1)).symm ?_
  refine j_aload_n 1 0 dX5_copyFrom_0 rfl rfl ?_
  refine j_aload_n 2 1 dX5_copyFrom_1 rfl rfl ?_
  refine j_geti 5 dX5_copyFrom_2 rfl fl_X5_13 hb rfl rfl (fun r_2 => ?_)
  refine j_top (y := g b 1) (cpR_b hab) ?_
  refine j_puti 8 dX5_copyFrom_5 rfl fl_X5_13 ha rfl rfl rfl (by have h := r_2; rw [cpR_b hab] at h; exact h) ?_
  refine j_mn (fun g_5 hg_5 => ?_)
  refine j_mem (hg_5.trans (cpR_s (by omega))) ?_
  refine j_aload_n 9 0 dX5_copyFrom_8 rfl rfl ?_
  refine j_aload_n 10 1 dX5_copyFrom_9 rfl rfl ?_
  refine j_geti 13 dX5_copyFrom_10 rfl fl_X5_18 hb rfl rfl (fun r_10 => ?_)
  refine j_top (y := g b 2) (cpR_b hab) ?_
  refine j_puti 16 dX5_copyFrom_13 rfl fl_X5_18 ha rfl rfl rfl (by have h := r_10; rw [cpR_b hab] at h; exact h) ?_
  refine j_mn (fun g_13 hg_13 => ?_)
  refine j_mem (hg_13.trans (cpR_s (by omega))) ?_
  refine j_aload_n 17 0 dX5_copyFrom_16 rfl rfl ?_
  refine j_aload_n 18 1 dX5_copyFrom_17 rfl rfl ?_
  refine j_geti 21 dX5_copyFrom_18 rfl fl_X5_21 hb rfl rfl (fun r_18 => ?_)
  refine j_top (y := g b 3) (cpR_b hab) ?_
  refine j_puti 24 dX5_copyFrom_21 rfl fl_X5_21 ha rfl rfl rfl (by have h := r_18; rw [cpR_b hab] at h; exact h) ?_
  refine j_mn (fun g_21 hg_21 => ?_)
  refine j_mem (hg_21.trans (cpR_s (by omega))) ?_
  exact j_vret dX5_copyFrom_24 rfl (⟨rfl, rfl, rfl⟩)

set_option maxRecDepth 20000 in
theorem c_copyM {w : Wd} {sh : Shp} {g : Mem} {a b : Nat} (hab : a ≠ b) (ha : sh.1 a = some (4, 0, kN)) (hb : sh.1 b = some (4, 0, kN)) : CT w mX4_copyFrom [.ref (a), .ref (b)] sh g (dQ none sh (cpR g a b 1 3)) := by
  refine j_entry (by decide) rfl (Nat.le_of_ble_eq_true rfl) (fun h => by cases h) rfl ?_
  show J w mX4_copyFrom 0 [(0, .ref (a)), (1, .ref (b))] [] sh g 0 0 _
  refine j_mem (cpR_0 (a := a) (b := b) (lo := 1)).symm ?_
  refine j_aload_n 1 0 dX4_copyFrom_0 rfl rfl ?_
  refine j_aload_n 2 1 dX4_copyFrom_1 rfl rfl ?_
  refine j_geti 5 dX4_copyFrom_2 rfl fl_X4_13 hb rfl rfl (fun r_2 => ?_)
  refine j_top (y := g b 1) (cpR_b hab) ?_
  refine j_puti 8 dX4_copyFrom_5 rfl fl_X4_13 ha rfl rfl rfl (by have h := r_2; rw [cpR_b hab] at h; exact h) ?_
  refine j_mn (fun g_5 hg_5 => ?_)
  refine j_mem (hg_5.trans (cpR_s (by omega))) ?_
  refine j_aload_n 9 0 dX4_copyFrom_8 rfl rfl ?_
  refine j_aload_n 10 1 dX4_copyFrom_9 rfl rfl ?_
  refine j_geti 13 dX4_copyFrom_10 rfl fl_X4_16 hb rfl rfl (fun r_10 => ?_)
  refine j_top (y := g b 2) (cpR_b hab) ?_
  refine j_puti 16 dX4_copyFrom_13 rfl fl_X4_16 ha rfl rfl rfl (by have h := r_10; rw [cpR_b hab] at h; exact h) ?_
  refine j_mn (fun g_13 hg_13 => ?_)
  refine j_mem (hg_13.trans (cpR_s (by omega))) ?_
  exact j_vret dX4_copyFrom_16 rfl (⟨rfl, rfl, rfl⟩)

set_option maxRecDepth 20000 in
theorem c_copyC {w : Wd} {sh : Shp} {g : Mem} {a b : Nat} (hab : a ≠ b) (ha : sh.1 a = some (0, 0, kN)) (hb : sh.1 b = some (0, 0, kN)) : CT w mX0_copyFrom [.ref (a), .ref (b)] sh g (dQ none sh (cpR g a b 1 13)) := by
  refine j_entry (by decide) rfl (Nat.le_of_ble_eq_true rfl) (fun h => by cases h) rfl ?_
  show J w mX0_copyFrom 0 [(0, .ref (a)), (1, .ref (b))] [] sh g 0 0 _
  refine j_mem (cpR_0 (a := a) (b := b) (lo := 1)).symm ?_
  refine j_aload_n 1 0 dX0_copyFrom_0 rfl rfl ?_
  refine j_aload_n 2 1 dX0_copyFrom_1 rfl rfl ?_
  refine j_geti 5 dX0_copyFrom_2 rfl fl_X0_15 hb rfl rfl (fun r_2 => ?_)
  refine j_top (y := g b 1) (cpR_b hab) ?_
  refine j_puti 8 dX0_copyFrom_5 rfl fl_X0_15 ha rfl rfl rfl (by have h := r_2; rw [cpR_b hab] at h; exact h) ?_
  refine j_mn (fun g_5 hg_5 => ?_)
  refine j_mem (hg_5.trans (cpR_s (by omega))) ?_
  refine j_aload_n 9 0 dX0_copyFrom_8 rfl rfl ?_
  refine j_aload_n 10 1 dX0_copyFrom_9 rfl rfl ?_
  refine j_geti 13 dX0_copyFrom_10 rfl fl_X0_18 hb rfl rfl (fun r_10 => ?_)
  refine j_top (y := g b 2) (cpR_b hab) ?_
  refine j_puti 16 dX0_copyFrom_13 rfl fl_X0_18 ha rfl rfl rfl (by have h := r_10; rw [cpR_b hab] at h; exact h) ?_
  refine j_mn (fun g_13 hg_13 => ?_)
  refine j_mem (hg_13.trans (cpR_s (by omega))) ?_
  refine j_aload_n 17 0 dX0_copyFrom_16 rfl rfl ?_
  refine j_aload_n 18 1 dX0_copyFrom_17 rfl rfl ?_
  refine j_geti 21 dX0_copyFrom_18 rfl fl_X0_21 hb rfl rfl (fun r_18 => ?_)
  refine j_top (y := g b 3) (cpR_b hab) ?_
  refine j_puti 24 dX0_copyFrom_21 rfl fl_X0_21 ha rfl rfl rfl (by have h := r_18; rw [cpR_b hab] at h; exact h) ?_
  refine j_mn (fun g_21 hg_21 => ?_)
  refine j_mem (hg_21.trans (cpR_s (by omega))) ?_
  refine j_aload_n 25 0 dX0_copyFrom_24 rfl rfl ?_
  refine j_aload_n 26 1 dX0_copyFrom_25 rfl rfl ?_
  refine j_geti 29 dX0_copyFrom_26 rfl fl_X0_24 hb rfl rfl (fun r_26 => ?_)
  refine j_top (y := g b 4) (cpR_b hab) ?_
  refine j_puti 32 dX0_copyFrom_29 rfl fl_X0_24 ha rfl rfl rfl (by have h := r_26; rw [cpR_b hab] at h; exact h) ?_
  refine j_mn (fun g_29 hg_29 => ?_)
  refine j_mem (hg_29.trans (cpR_s (by omega))) ?_
  refine j_aload_n 33 0 dX0_copyFrom_32 rfl rfl ?_
  refine j_aload_n 34 1 dX0_copyFrom_33 rfl rfl ?_
  refine j_geti 37 dX0_copyFrom_34 rfl fl_X0_27 hb rfl rfl (fun r_34 => ?_)
  refine j_top (y := g b 5) (cpR_b hab) ?_
  refine j_puti 40 dX0_copyFrom_37 rfl fl_X0_27 ha rfl rfl rfl (by have h := r_34; rw [cpR_b hab] at h; exact h) ?_
  refine j_mn (fun g_37 hg_37 => ?_)
  refine j_mem (hg_37.trans (cpR_s (by omega))) ?_
  refine j_aload_n 41 0 dX0_copyFrom_40 rfl rfl ?_
  refine j_aload_n 42 1 dX0_copyFrom_41 rfl rfl ?_
  refine j_getz 45 dX0_copyFrom_42 rfl fl_X0_30 hb rfl rfl (fun r_42 => ?_)
  refine j_top (y := g b 6) (cpR_b hab) ?_
  refine j_putz 48 dX0_copyFrom_45 rfl fl_X0_30 ha rfl rfl rfl (by have h := r_42; rw [cpR_b hab] at h; omega) ?_
  refine j_mn (fun g_45 hg_45 => ?_)
  refine j_mem (hg_45.trans (cpR_s (by omega))) ?_
  refine j_aload_n 49 0 dX0_copyFrom_48 rfl rfl ?_
  refine j_aload_n 50 1 dX0_copyFrom_49 rfl rfl ?_
  refine j_geti 53 dX0_copyFrom_50 rfl fl_X0_34 hb rfl rfl (fun r_50 => ?_)
  refine j_top (y := g b 7) (cpR_b hab) ?_
  refine j_puti 56 dX0_copyFrom_53 rfl fl_X0_34 ha rfl rfl rfl (by have h := r_50; rw [cpR_b hab] at h; exact h) ?_
  refine j_mn (fun g_53 hg_53 => ?_)
  refine j_mem (hg_53.trans (cpR_s (by omega))) ?_
  refine j_aload_n 57 0 dX0_copyFrom_56 rfl rfl ?_
  refine j_aload_n 58 1 dX0_copyFrom_57 rfl rfl ?_
  refine j_geti 61 dX0_copyFrom_58 rfl fl_X0_37 hb rfl rfl (fun r_58 => ?_)
  refine j_top (y := g b 8) (cpR_b hab) ?_
  refine j_puti 64 dX0_copyFrom_61 rfl fl_X0_37 ha rfl rfl rfl (by have h := r_58; rw [cpR_b hab] at h; exact h) ?_
  refine j_mn (fun g_61 hg_61 => ?_)
  refine j_mem (hg_61.trans (cpR_s (by omega))) ?_
  refine j_aload_n 65 0 dX0_copyFrom_64 rfl rfl ?_
  refine j_aload_n 66 1 dX0_copyFrom_65 rfl rfl ?_
  refine j_geti 69 dX0_copyFrom_66 rfl fl_X0_40 hb rfl rfl (fun r_66 => ?_)
  refine j_top (y := g b 9) (cpR_b hab) ?_
  refine j_puti 72 dX0_copyFrom_69 rfl fl_X0_40 ha rfl rfl rfl (by have h := r_66; rw [cpR_b hab] at h; exact h) ?_
  refine j_mn (fun g_69 hg_69 => ?_)
  refine j_mem (hg_69.trans (cpR_s (by omega))) ?_
  refine j_aload_n 73 0 dX0_copyFrom_72 rfl rfl ?_
  refine j_aload_n 74 1 dX0_copyFrom_73 rfl rfl ?_
  refine j_geti 77 dX0_copyFrom_74 rfl fl_X0_43 hb rfl rfl (fun r_74 => ?_)
  refine j_top (y := g b 10) (cpR_b hab) ?_
  refine j_puti 80 dX0_copyFrom_77 rfl fl_X0_43 ha rfl rfl rfl (by have h := r_74; rw [cpR_b hab] at h; exact h) ?_
  refine j_mn (fun g_77 hg_77 => ?_)
  refine j_mem (hg_77.trans (cpR_s (by omega))) ?_
  refine j_aload_n 81 0 dX0_copyFrom_80 rfl rfl ?_
  refine j_aload_n 82 1 dX0_copyFrom_81 rfl rfl ?_
  refine j_geti 85 dX0_copyFrom_82 rfl fl_X0_46 hb rfl rfl (fun r_82 => ?_)
  refine j_top (y := g b 11) (cpR_b hab) ?_
  refine j_puti 88 dX0_copyFrom_85 rfl fl_X0_46 ha rfl rfl rfl (by have h := r_82; rw [cpR_b hab] at h; exact h) ?_
  refine j_mn (fun g_85 hg_85 => ?_)
  refine j_mem (hg_85.trans (cpR_s (by omega))) ?_
  refine j_aload_n 89 0 dX0_copyFrom_88 rfl rfl ?_
  refine j_aload_n 90 1 dX0_copyFrom_89 rfl rfl ?_
  refine j_geti 93 dX0_copyFrom_90 rfl fl_X0_49 hb rfl rfl (fun r_90 => ?_)
  refine j_top (y := g b 12) (cpR_b hab) ?_
  refine j_puti 96 dX0_copyFrom_93 rfl fl_X0_49 ha rfl rfl rfl (by have h := r_90; rw [cpR_b hab] at h; exact h) ?_
  refine j_mn (fun g_93 hg_93 => ?_)
  refine j_mem (hg_93.trans (cpR_s (by omega))) ?_
  exact j_vret dX0_copyFrom_96 rfl (⟨rfl, rfl, rfl⟩)

set_option maxRecDepth 20000 in
theorem c_choiceAtG {w : Wd} {sh : Shp} {g : Mem} {a p : Nat} (ha : sh.1 a = some (kRt p)) (hp : sh.1 p = some (10, 3, kN)) {x : Int} (hx : R32 x) : CT w mX6_choiceAt [.ref (a), .int (i32 (x))] sh g (dQ (some (.int (i32 ((if 0 ≤ x ∧ x < g a 3 ∧ x < 3 then g p x.toNat else -1))))) sh g) := by
  refine j_entry (by decide) rfl (Nat.le_of_ble_eq_true rfl) (fun h => by cases h) rfl ?_
  show J w mX6_choiceAt 0 [(0, .ref (a)), (1, .int (i32 (x)))] [] sh g 0 0 _
  refine j_iload_n 1 1 dX6_choiceAt_0 rfl rfl ?_
  refine j_if_lt 4 30 dX6_choiceAt_1 rfl rfl hx (fun c_1 => ?_) (fun c_1 => ?_)
  · have hv : (if 0 ≤ x ∧ x < g a 3 ∧ x < 3 then g p x.toNat else -1) = -1 := if_neg (by omega)
    refine j_iconst 31 dX6_choiceAt_30 rfl ?_
    exact j_iret dX6_choiceAt_31 rfl (q_i hv.symm)
  · refine j_iload_n 5 1 dX6_choiceAt_4 rfl rfl ?_
    refine j_aload_n 6 0 dX6_choiceAt_5 rfl rfl ?_
    refine j_geti 9 dX6_choiceAt_6 rfl fl_X6_25 ha rfl rfl (fun r_6 => ?_)
    refine j_icmp_ge 12 30 dX6_choiceAt_9 rfl rfl hx r_6 (fun c_9 => ?_) (fun c_9 => ?_)
    · have hv : (if 0 ≤ x ∧ x < g a 3 ∧ x < 3 then g p x.toNat else -1) = -1 := if_neg (by omega)
      refine j_iconst 31 dX6_choiceAt_30 rfl ?_
      exact j_iret dX6_choiceAt_31 rfl (q_i hv.symm)
    · refine j_iload_n 13 1 dX6_choiceAt_12 rfl rfl ?_
      refine j_aload_n 14 0 dX6_choiceAt_13 rfl rfl ?_
      refine j_getr 17 dX6_choiceAt_14 rfl fl_X6_15 ha rfl (fun _ _ => rfl) rfl ?_
      refine j_alen 18 dX6_choiceAt_17 rfl hp (Nat.le_of_ble_eq_true rfl) rfl ?_
      refine j_top (y := 3) rfl ?_
      refine j_icmp_ge 21 30 dX6_choiceAt_18 rfl rfl hx (r32 (by decide) (by decide)) (fun c_18 => ?_) (fun c_18 => ?_)
      · have hv : (if 0 ≤ x ∧ x < g a 3 ∧ x < 3 then g p x.toNat else -1) = -1 := if_neg (by omega)
        refine j_iconst 31 dX6_choiceAt_30 rfl ?_
        exact j_iret dX6_choiceAt_31 rfl (q_i hv.symm)
      · have hv : (if 0 ≤ x ∧ x < g a 3 ∧ x < 3 then g p x.toNat else -1) = g p x.toNat := if_pos (by omega)
        refine j_aload_n 22 0 dX6_choiceAt_21 rfl rfl ?_
        refine j_getr 25 dX6_choiceAt_22 rfl fl_X6_15 ha rfl (fun _ _ => rfl) rfl ?_
        refine j_iload_n 26 1 dX6_choiceAt_25 rfl rfl ?_
        refine j_iald 27 x.toNat dX6_choiceAt_26 rfl hp rfl (by omega) (show x.toNat < 3 by omega) (fun r_26 => ?_)
        refine j_goto 31 dX6_choiceAt_27 rfl ?_
        exact j_iret dX6_choiceAt_31 rfl (q_i hv.symm)

set_option maxRecDepth 20000 in
theorem c_tellRt {w : Wd} {sh : Shp} {g : Mem} {a p : Nat} (ha : sh.1 a = some (kRt p)) {x y : Int} (hx : R32 x) (hy : R32 y) : CT w mX6_tell [.ref (a), .int (i32 (x)), .int (i32 (y))] sh g (dQ none sh (up2 (up2 (up2 g a 1 x) a 2 y) a 3 0)) := by
  refine j_entry (by decide) rfl (Nat.le_of_ble_eq_true rfl) (fun h => by cases h) rfl ?_
  show J w mX6_tell 0 [(0, .ref (a)), (1, .int (i32 (x))), (2, .int (i32 (y)))] [] sh g 0 0 _
  refine j_aload_n 1 0 dX6_tell_0 rfl rfl ?_
  refine j_iload_n 2 1 dX6_tell_1 rfl rfl ?_
  refine j_puti 5 dX6_tell_2 rfl fl_X6_19 ha rfl rfl rfl hx ?_
  refine j_mn (fun g_2 hg_2 => ?_)
  refine j_aload_n 6 0 dX6_tell_5 rfl rfl ?_
  refine j_iload_n 7 2 dX6_tell_6 rfl rfl ?_
  refine j_puti 10 dX6_tell_7 rfl fl_X6_22 ha rfl rfl rfl hy ?_
  refine j_mn (fun g_7 hg_7 => ?_)
  refine j_aload_n 11 0 dX6_tell_10 rfl rfl ?_
  refine j_iconst 12 dX6_tell_11 rfl ?_
  refine j_puti 15 dX6_tell_12 rfl fl_X6_25 ha rfl rfl rfl (r32 (by decide) (by decide)) ?_
  refine j_mn (fun g_12 hg_12 => ?_)
  exact j_vret dX6_tell_15 rfl (q_m (by rw [hg_12, hg_7, hg_2]))

set_option maxRecDepth 20000 in
theorem c_addChoice {w : Wd} {sh : Shp} {g : Mem} {a p : Nat} (hap : a ≠ p) (ha : sh.1 a = some (kRt p)) (hp : sh.1 p = some (10, 3, kN)) {x : Int} (hx : R32 x) : CT w mX6_addChoice [.ref (a), .int (i32 (x))] sh g (dQ none sh (if 0 ≤ g a 3 ∧ g a 3 < 3 then up2 (up2 g p (g a 3).toNat x) a 3 (g a 3 + 1) else g)) := by
  refine j_entry (by decide) rfl (Nat.le_of_ble_eq_true rfl) (fun h => by cases h) rfl ?_
  show J w mX6_addChoice 0 [(0, .ref (a)), (1, .int (i32 (x)))] [] sh g 0 0 _
  refine j_aload_n 1 0 dX6_addChoice_0 rfl rfl ?_
  refine j_geti 4 dX6_addChoice_1 rfl fl_X6_25 ha rfl rfl (fun r_1 => ?_)
  refine j_if_lt 7 39 dX6_addChoice_4 rfl rfl r_1 (fun c_4 => ?_) (fun c_4 => ?_)
  · have hv : g = (if 0 ≤ g a 3 ∧ g a 3 < 3 then up2 (up2 g p (g a 3).toNat x) a 3 (g a 3 + 1) else g) := (if_neg (by omega)).symm
    exact j_vret dX6_addChoice_39 rfl (⟨rfl, rfl, hv⟩)
  · refine j_aload_n 8 0 dX6_addChoice_7 rfl rfl ?_
    refine j_geti 11 dX6_addChoice_8 rfl fl_X6_25 ha rfl rfl (fun r_8 => ?_)
    refine j_aload_n 12 0 dX6_addChoice_11 rfl rfl ?_
    refine j_getr 15 dX6_addChoice_12 rfl fl_X6_15 ha rfl (fun _ _ => rfl) rfl ?_
    refine j_alen 16 dX6_addChoice_15 rfl hp (Nat.le_of_ble_eq_true rfl) rfl ?_
    refine j_top (y := 3) rfl ?_
    refine j_icmp_ge 19 39 dX6_addChoice_16 rfl rfl r_8 (r32 (by decide) (by decide)) (fun c_16 => ?_) (fun c_16 => ?_)
    · have hv : g = (if 0 ≤ g a 3 ∧ g a 3 < 3 then up2 (up2 g p (g a 3).toNat x) a 3 (g a 3 + 1) else g) := (if_neg (by omega)).symm
      exact j_vret dX6_addChoice_39 rfl (⟨rfl, rfl, hv⟩)
    · have hv : up2 (up2 g p (g a 3).toNat x) a 3 (g a 3 + 1) = (if 0 ≤ g a 3 ∧ g a 3 < 3 then up2 (up2 g p (g a 3).toNat x) a 3 (g a 3 + 1) else g) := (if_pos (by omega)).symm
      refine j_aload_n 20 0 dX6_addChoice_19 rfl rfl ?_
      refine j_getr 23 dX6_addChoice_20 rfl fl_X6_15 ha rfl (fun _ _ => rfl) rfl ?_
      refine j_aload_n 24 0 dX6_addChoice_23 rfl rfl ?_
      refine j_geti 27 dX6_addChoice_24 rfl fl_X6_25 ha rfl rfl (fun r_24 => ?_)
      refine j_iload_n 28 1 dX6_addChoice_27 rfl rfl ?_
      refine j_iast 29 (g a 3).toNat dX6_addChoice_28 rfl hp rfl (by omega) (show (g a 3).toNat < 3 by omega) hx ?_
      refine j_mn (fun g_28 hg_28 => ?_)
      refine j_aload_n 30 0 dX6_addChoice_29 rfl rfl ?_
      refine j_dup 31 dX6_addChoice_30 rfl rfl ?_
      refine j_geti 34 dX6_addChoice_31 rfl fl_X6_25 ha rfl rfl (fun r_31 => ?_)
      refine j_top (y := g a 3) (by rw [hg_28, up2_a hap]) ?_
      refine j_iconst 35 dX6_addChoice_34 rfl ?_
      refine j_iadd 36 dX6_addChoice_35 rfl ?_
      refine j_puti 39 dX6_addChoice_36 rfl fl_X6_25 ha rfl rfl rfl (r32 (by omega) (by omega)) ?_
      refine j_mn (fun g_36 hg_36 => ?_)
      refine j_mem (show g_36 = up2 (up2 g p (g a 3).toNat x) a 3 (g a 3 + 1) by rw [hg_36, hg_28]) ?_
      exact j_vret dX6_addChoice_39 rfl (⟨rfl, rfl, hv⟩)

/-- what a Route's copy is: a, its choices p, from b, its choices q -/
def CpRt (g ga : Mem) (a p b q : Nat) (n : Int) : Prop := (∀ x, x ≠ a → x ≠ p → ga x = g x) ∧ ga a 0 = g a 0 ∧ ga a 1 = g b 1 ∧ ga a 2 = g b 2 ∧ ga a 3 = n ∧ ∀ j : Nat, (j : Int) < n → ga p j = g q j
theorem CpRt.step {g ga : Mem} {a p b q : Nat} {n : Int} (h : CpRt g ga a p b q n) (hap : a ≠ p) (h0 : 0 ≤ n) {v : Int} (hv : v = g q n.toNat) : CpRt g (up2 (up2 ga p n.toNat v) a 3 (n + 1)) a p b q (n + 1) := by
  obtain ⟨h1, h2, h3, h4, h5, h6⟩ := h
  refine ⟨fun x hx hx2 => ?_, ?_, ?_, ?_, up2_s, fun j hj => ?_⟩
  · rw [← h1 x hx hx2]; funext j; rw [up2_a hx, up2_a hx2]
  · rw [up2_k (by decide), up2_a hap]; exact h2
  · rw [up2_k (by decide), up2_a hap]; exact h3
  · rw [up2_k (by decide), up2_a hap]; exact h4
  · rw [up2_a (Ne.symm hap)]
    by_cases e : j = n.toNat
    · rw [e, up2_s]; exact hv
    · rw [up2_k e]; exact h6 j (by omega)

theorem CpRt.next {g ga : Mem} {a p b q k : Nat} (h : CpRt g ga a p b q (if (k : Int) < 3 then (k : Int) else 3)) (hap : a ≠ p) (hkb : (k : Int) < g b 3) (hb3 : ga b 3 = g b 3) (hq4 : ga q = g q) : CpRt g (if 0 ≤ ga a 3 ∧ ga a 3 < 3 then up2 (up2 ga p (ga a 3).toNat (if 0 ≤ (k : Int) ∧ (k : Int) < ga b 3 ∧ (k : Int) < 3 then ga q (k : Int).toNat else -1)) a 3 (ga a 3 + 1) else ga) a p b q (if ((k + 1 : Nat) : Int) < 3 then ((k + 1 : Nat) : Int) else 3) := by
  by_cases q3 : (k : Int) < 3
  · rw [if_pos q3] at h
    have e3 := h.2.2.2.2.1
    have hn : (if ((k + 1 : Nat) : Int) < 3 then ((k + 1 : Nat) : Int) else 3) = (k : Int) + 1 := by split <;> omega
    rw [if_pos (by omega), hn, if_pos (by omega), e3]
    exact h.step hap (by omega) (by rw [hq4])
  · rw [if_neg q3] at h
    have e3 := h.2.2.2.2.1
    rw [if_neg (by omega), if_neg (by omega)]
    exact h
theorem j_rgf {w : Wd} {Y : MD} {pc : Nat} {L : List (Nat × Value)} {S : List Value} {sh : Shp} {g : Mem} {kc ks : Nat} {Q : Post} {a k : Nat} {kd : Kd} (hs : sh.1 a = some kd) (hc : kd.1 < 10) (ht : f_ty kd.1 k = .int) (kk : R32 (g a k) → J w Y pc L S sh g kc ks Q) : J w Y pc L S sh g kc ks Q := by
  intro p l e s m args below meth c H locs cells slots Z ls C hZ hR hlo hcl hsl hl
  refine kk ?_ p l e s m args below meth c H locs cells slots Z ls C hZ hR hlo hcl hsl hl
  have h := (hR.1 a kd hs).2.2.2 k
  unfold k_rng at h
  rw [if_pos hc, ht] at h
  exact h

set_option maxRecDepth 20000 in
theorem c_copyRt {w : Wd} {sh : Shp} {g : Mem} {a p b q : Nat} (hap : a ≠ p) (hab : a ≠ b) (hd4 : b ≠ p ∧ q ≠ a ∧ q ≠ p) (ha : sh.1 a = some (kRt p)) (hp : sh.1 p = some (10, 3, kN)) (hb : sh.1 b = some (kRt q)) (hq9 : sh.1 q = some (10, 3, kN)) : CT w mX6_copyFrom [.ref (a), .ref (b)] sh g (vQ sh (fun g2 => CpRt g g2 a p b q (if g b 3 < 0 then 0 else if g b 3 < 3 then g b 3 else 3))) := by
  refine j_entry (by decide) rfl (Nat.le_of_ble_eq_true rfl) (fun h => by cases h) rfl ?_
  show J w mX6_copyFrom 0 [(0, .ref (a)), (1, .ref (b))] [] sh g 0 0 _
  refine j_rgf hb (show 6 < 10 by decide) (k := 3) rfl (fun hR3 => ?_)
  refine j_aload_n 1 0 dX6_copyFrom_0 rfl rfl ?_
  refine j_aload_n 2 1 dX6_copyFrom_1 rfl rfl ?_
  refine j_geti 5 dX6_copyFrom_2 rfl fl_X6_19 hb rfl rfl (fun r_2 => ?_)
  refine j_aload_n 6 1 dX6_copyFrom_5 rfl rfl ?_
  refine j_geti 9 dX6_copyFrom_6 rfl fl_X6_22 hb rfl rfl (fun r_6 => ?_)
  refine j_callV 12 (As := [.int (i32 (g (b) 1)), .int (i32 (g (b) 2))]) (kc2 := 0) (ks2 := 0) dX6_copyFrom_9 rfl mvX6_tell lk_X6_32 ha rfl ⟨Nat.le_of_ble_eq_true rfl, rfl⟩ rfl rfl (Nat.le_of_ble_eq_true rfl) ⟨Nat.le_of_ble_eq_true rfl, Nat.le_of_ble_eq_true rfl⟩ ⟨Nat.le_of_ble_eq_true rfl, Nat.le_of_ble_eq_true rfl⟩ (c_tellRt ha r_2 r_6) x_d (k_d0 ?_)
  refine j_iconst 13 dX6_copyFrom_12 rfl ?_
  refine j_istore_n 14 (L2 := [(2, .int (i32 (0))), (0, .ref (a)), (1, .ref (b))]) dX6_copyFrom_13 rfl rfl (Nat.le_of_ble_eq_true rfl) rfl ?_
  suffices lp_14 : ∀ (n_14 : Nat) (k : Nat) (ga : Mem), (g b 3).toNat - k < n_14 → (k : Int) ≤ (if g b 3 < 0 then 0 else g b 3) → CpRt g ga a p b q (if (k : Int) < 3 then (k : Int) else 3) → J w mX6_copyFrom 14 [(2, .int (i32 ((k : Int)))), (0, .ref (a)), (1, .ref (b))] [] sh ga 0 0 (vQ sh (fun g2 => CpRt g g2 a p b q (if g b 3 < 0 then 0 else if g b 3 < 3 then g b 3 else 3))) by
    exact lp_14 _ 0 (up2 (up2 (up2 g a 1 (g b 1)) a 2 (g b 2)) a 3 0) (Nat.lt_succ_self _) (by split <;> omega) ⟨fun x h1 h2 => by funext j; rw [up2_a h1, up2_a h1, up2_a h1], by rw [up2_k (by decide), up2_k (by decide), up2_k (by decide)], by rw [up2_k (by decide), up2_k (by decide), up2_s], by rw [up2_k (by decide), up2_s], by rw [up2_s]; rfl, fun j hj => by exfalso; split at hj <;> omega⟩
  intro n_14
  induction n_14 with
  | zero => intro k ga h_; exact absurd h_ (Nat.not_lt_zero _)
  | succ n_14 ih_14 =>
    intro k ga hn_14 hk hC
    have hkR : (k : Int) ≤ 2147483647 := by have h := hR3.2; split at hk <;> omega
    refine j_iload_n 15 0 dX6_copyFrom_14 rfl rfl ?_
    refine j_aload_n 16 2 dX6_copyFrom_15 rfl rfl ?_
    refine j_geti 19 dX6_copyFrom_16 rfl fl_X6_25 hb rfl rfl (fun r_16 => ?_)
    refine j_top (y := g b 3) (by rw [hC.1 b (Ne.symm hab) hd4.1]) ?_
    refine j_icmp_ge 22 37 dX6_copyFrom_19 rfl rfl (r32 (by omega) (by omega)) hR3 (fun c_19 => ?_) (fun c_19 => ?_)
    · have hfin : (if (k : Int) < 3 then (k : Int) else 3) = (if g b 3 < 0 then 0 else if g b 3 < 3 then g b 3 else 3) := by split at hk <;> (repeat split) <;> omega
      exact j_vret dX6_copyFrom_37 rfl (⟨rfl, rfl, by rw [hfin] at hC; exact hC⟩)
    · have hk3 : (k : Int) < g b 3 := by omega
      refine j_rgi hq9 rfl (fun hRq => ?_)
      have hb3 : ga b 3 = g b 3 := by rw [hC.1 b (Ne.symm hab) hd4.1]
      have hq4 : ga q = g q := hC.1 q hd4.2.1 hd4.2.2
      have hvr : R32 (if 0 ≤ (k : Int) ∧ (k : Int) < ga b 3 ∧ (k : Int) < 3 then ga q (k : Int).toNat else -1) := by split <;> first | exact hRq _ | exact ⟨by decide, by decide⟩
      refine j_aload_n 23 1 dX6_copyFrom_22 rfl rfl ?_
      refine j_aload_n 24 2 dX6_copyFrom_23 rfl rfl ?_
      refine j_iload_n 25 0 dX6_copyFrom_24 rfl rfl ?_
      refine j_callV 28 (As := [.int (i32 ((k : Int)))]) (kc2 := 0) (ks2 := 0) dX6_copyFrom_25 rfl mvX6_choiceAt lk_X6_28 hb rfl ⟨Nat.le_of_ble_eq_true rfl, rfl⟩ rfl rfl (Nat.le_of_ble_eq_true rfl) ⟨Nat.le_of_ble_eq_true rfl, Nat.le_of_ble_eq_true rfl⟩ ⟨Nat.le_of_ble_eq_true rfl, Nat.le_of_ble_eq_true rfl⟩ (c_choiceAtG hb hq9 (r32 (by omega) (by omega))) x_d (k_d1 ?_)
      refine j_callV 31 (As := [.int (i32 ((if 0 ≤ (k : Int) ∧ (k : Int) < ga b 3 ∧ (k : Int) < 3 then ga q (k : Int).toNat else -1)))]) (kc2 := 0) (ks2 := 0) dX6_copyFrom_28 rfl mvX6_addChoice lk_X6_36 ha rfl ⟨Nat.le_of_ble_eq_true rfl, rfl⟩ rfl rfl (Nat.le_of_ble_eq_true rfl) ⟨Nat.le_of_ble_eq_true rfl, Nat.le_of_ble_eq_true rfl⟩ ⟨Nat.le_of_ble_eq_true rfl, Nat.le_of_ble_eq_true rfl⟩ (c_addChoice hap ha hp hvr) x_d (k_d0 ?_)
      have hCn := hC.next hap hk3 hb3 hq4
      refine j_iinc 34 0 (y := ((k + 1 : Nat) : Int)) (L2 := [(2, .int (i32 (((k + 1 : Nat) : Int)))), (0, .ref (a)), (1, .ref (b))]) dX6_copyFrom_31 rfl rfl (by omega) (Nat.le_of_ble_eq_true rfl) rfl ?_
      refine j_goto 14 dX6_copyFrom_34 rfl ?_
      exact ih_14 (k + 1) _ (by omega) (by split <;> omega) hCn
