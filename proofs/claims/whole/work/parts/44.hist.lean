/-! the class' History at h: its array at h + 1, the eight Exchanges from h + 2 on -/
def kHs (h : Nat) : Kd := (3, 0, fun j => match j with | 0 => some (h + 1) | _ => none)
def HsS (sh : Nat → Option Kd) (h : Nat) : Prop := sh h = some (kHs h) ∧ sh (h + 1) = some (19, 8, fun i => some (h + 2 + 75 * i)) ∧ ∀ i, i < 8 → ExS sh (h + 2 + 75 * i)
theorem HsS.hs {sh : Nat → Option Kd} {h : Nat} (H : HsS sh h) : sh h = some (kHs h) := H.1
theorem HsS.past {sh : Nat → Option Kd} {h : Nat} (H : HsS sh h) : sh (h + 1) = some (19, 8, fun i => some (h + 2 + 75 * i)) := H.2.1
theorem HsS.at {sh : Nat → Option Kd} {h : Nat} (H : HsS sh h) (i : Nat) (hi : i < 8) : ExS sh (h + 2 + 75 * i) := H.2.2 i hi
theorem j_min {w : Wd} {Y : MD} {pc : Nat} {L : List (Nat × Value)} {S : List Value} {sh : Shp} {g : Mem} {kc ks : Nat} {Q : Post} (n : Nat) {idx : Nat} {x y : Int} (hd : decode (md_c Y) pc = .ok (.invokestatic idx, 3)) (hn : pc + 3 = n) (hl : Cond.methodLink (md_o Y) idx Lib.Math.min.name ∈ lw_good) (hrest : (S.map fun v => v.category).sum ≤ 8) (hroom : 1 ≤ md_f Y ∧ 21 ≤ md_l Y) (hx : R32 x) (hy : R32 y)
    (kk : J w Y n L (.int (i32 (if y < x then y else x)) :: S) sh g kc ks Q) : J w Y pc L (.int (i32 y) :: .int (i32 x) :: S) sh g kc ks Q := by
  subst hn
  intro p l e s m args below meth c H locs cells slots Z ls C hZ hR hlo hc hs hll
  have hts := C.2.2.2.2.1
  refine va_mmin (index := idx) C.1 C.2.1 (C.2.2.1.trans hll.1.symm) C.2.2.2.1 (hts _ hl) (hts _ (by decide +kernel)) (hts _ (by decide +kernel)) (hts _ (by decide +kernel)) hroom.1 (by show _ ≤ md_l Y; omega) (by show cells ≤ md_mc Y; omega) (by show slots ≤ md_ms Y; omega) hd ?_
  have e1 : (if i32 y < i32 x then i32 y else i32 x) = i32 (if y < x then y else x) := by
    have e2 := i32_lt hy hx
    by_cases q : y < x
    · rw [if_pos q, if_pos (e2.mpr q)]
    · rw [if_neg q, if_neg (fun h => q (e2.mp h))]
  rw [e1]
  exact kk p l e s m args below meth c H locs cells slots Z ls C hZ hR hlo hc hs hll

set_option maxRecDepth 20000 in
theorem c_keep0 {w : Wd} {sh : Shp} {g : Mem} {h f v c : Nat} (hH : HsS sh.1 h) (hF : ExS sh.1 f) (hv : g h 1 = (v : Int)) (hc : g h 2 = (c : Int)) (hc8 : c ≤ 8) (hv8 : v < 8) (hd : f + 75 ≤ h ∨ h + 602 ≤ f) (hn : v + 1 < 8) : CT w mX3_keep [.ref (h), .ref (f)] sh g (vQ sh (fun g2 => ∃ ga, CpX (up2 g h 1 ((v : Int) + 1)) ga (h + 2 + 75 * (v + 1)) f ∧ g2 = up2 ga h 2 (if c < 8 then (c : Int) + 1 else 8))) := by
  refine j_entry (by decide) rfl (Nat.le_of_ble_eq_true rfl) (fun h => by cases h) rfl ?_
  show J w mX3_keep 0 [(0, .ref (h)), (1, .ref (f))] [] sh g 0 0 _
  refine j_aload_n 1 0 dX3_keep_0 rfl rfl ?_
  refine j_aload_n 2 0 dX3_keep_1 rfl rfl ?_
  refine j_geti 5 dX3_keep_2 rfl fl_X3_18 hH.hs rfl rfl (fun r_2 => ?_)
  refine j_top (y := (v : Int)) (hv) ?_
  refine j_iconst 6 dX3_keep_5 rfl ?_
  refine j_iadd 7 dX3_keep_6 rfl ?_
  refine j_aload_n 8 0 dX3_keep_7 rfl rfl ?_
  refine j_getr 11 dX3_keep_8 rfl fl_X3_11 hH.hs rfl (fun _ _ => rfl) rfl ?_
  refine j_alen 12 dX3_keep_11 rfl hH.past (Nat.le_of_ble_eq_true rfl) rfl ?_
  refine j_top (y := 8) rfl ?_
  refine j_icmp_ge 15 24 dX3_keep_12 rfl rfl (r32 (by omega) (by omega)) (r32 (by decide) (by decide)) (fun c_12 => absurd c_12 (by omega)) (fun c_12 => ?_)
  refine j_aload_n 16 0 dX3_keep_15 rfl rfl ?_
  refine j_geti 19 dX3_keep_16 rfl fl_X3_18 hH.hs rfl rfl (fun r_16 => ?_)
  refine j_top (y := (v : Int)) (hv) ?_
  refine j_iconst 20 dX3_keep_19 rfl ?_
  refine j_iadd 21 dX3_keep_20 rfl ?_
  refine j_goto 25 dX3_keep_21 rfl ?_
  refine j_puti 28 dX3_keep_25 rfl fl_X3_18 hH.hs rfl rfl rfl (r32 (by omega) (by omega)) ?_
  refine j_mn (fun g_25 hg_25 => ?_)
  refine j_aload_n 29 0 dX3_keep_28 rfl rfl ?_
  refine j_geti 32 dX3_keep_29 rfl fl_X3_18 hH.hs rfl rfl (fun r_29 => ?_)
  refine j_top (y := ((v : Int) + 1)) (by rw [hg_25]; exact up2_s) ?_
  refine j_if_lt 35 78 dX3_keep_32 rfl rfl (r32 (by omega) (by omega)) (fun c_32 => absurd c_32 (by omega)) (fun c_32 => ?_)
  refine j_aload_n 36 0 dX3_keep_35 rfl rfl ?_
  refine j_geti 39 dX3_keep_36 rfl fl_X3_18 hH.hs rfl rfl (fun r_36 => ?_)
  refine j_top (y := ((v : Int) + 1)) (by rw [hg_25]; exact up2_s) ?_
  refine j_aload_n 40 0 dX3_keep_39 rfl rfl ?_
  refine j_getr 43 dX3_keep_40 rfl fl_X3_11 hH.hs rfl (fun _ _ => rfl) rfl ?_
  refine j_alen 44 dX3_keep_43 rfl hH.past (Nat.le_of_ble_eq_true rfl) rfl ?_
  refine j_top (y := 8) rfl ?_
  refine j_icmp_ge 47 78 dX3_keep_44 rfl rfl (r32 (by omega) (by omega)) (r32 (by decide) (by decide)) (fun c_44 => absurd c_44 (by omega)) (fun c_44 => ?_)
  refine j_aload_n 48 0 dX3_keep_47 rfl rfl ?_
  refine j_getr 51 dX3_keep_48 rfl fl_X3_11 hH.hs rfl (fun _ _ => rfl) rfl ?_
  refine j_aload_n 52 0 dX3_keep_51 rfl rfl ?_
  refine j_geti 55 dX3_keep_52 rfl fl_X3_18 hH.hs rfl rfl (fun r_52 => ?_)
  refine j_top (y := ((v : Int) + 1)) (by rw [hg_25]; exact up2_s) ?_
  refine j_aald 56 (v + 1) dX3_keep_55 rfl hH.past (Nat.le_of_ble_eq_true rfl) rfl rfl (by omega) (show (v + 1) < 8 by omega) rfl ?_
  refine j_aload_n 57 1 dX3_keep_56 rfl rfl ?_
  refine j_callV 60 (As := [.ref (f)]) (kc2 := 0) (ks2 := 0) dX3_keep_57 rfl mvX1_copyFrom lk_X3_25 (hH.at (v + 1) (show (v + 1) < 8 by omega)).ex rfl ⟨Nat.le_of_ble_eq_true rfl, rfl⟩ rfl rfl (Nat.le_of_ble_eq_true rfl) ⟨Nat.le_of_ble_eq_true rfl, Nat.le_of_ble_eq_true rfl⟩ ⟨Nat.le_of_ble_eq_true rfl, Nat.le_of_ble_eq_true rfl⟩ (c_copyX (hH.at (v + 1) (by omega)) hF (by omega)) x_v (k_v fun g_57 h_57 => ?_)
  refine j_aload_n 61 0 dX3_keep_60 rfl rfl ?_
  refine j_aload_n 62 0 dX3_keep_61 rfl rfl ?_
  refine j_geti 65 dX3_keep_62 rfl fl_X3_22 hH.hs rfl rfl (fun r_62 => ?_)
  refine j_top (y := (c : Int)) (by rw [(h_57.cells (by omega)).1 h (by omega), hg_25, up2_k (by decide)]; exact hc) ?_
  refine j_iconst 66 dX3_keep_65 rfl ?_
  refine j_iadd 67 dX3_keep_66 rfl ?_
  refine j_aload_n 68 0 dX3_keep_67 rfl rfl ?_
  refine j_getr 71 dX3_keep_68 rfl fl_X3_11 hH.hs rfl (fun _ _ => rfl) rfl ?_
  refine j_alen 72 dX3_keep_71 rfl hH.past (Nat.le_of_ble_eq_true rfl) rfl ?_
  refine j_top (y := 8) rfl ?_
  refine j_min 75 dX3_keep_72 rfl (by decide +kernel) (Nat.le_of_ble_eq_true rfl) ⟨Nat.le_of_ble_eq_true rfl, Nat.le_of_ble_eq_true rfl⟩ (r32 (by omega) (by omega)) (r32 (by decide) (by decide)) ?_
  refine j_puti 78 dX3_keep_75 rfl fl_X3_22 hH.hs rfl rfl rfl (by split <;> exact ⟨by omega, by omega⟩) ?_
  refine j_mn (fun g_75 hg_75 => ?_)
  exact j_vret dX3_keep_78 rfl (⟨rfl, rfl, g_57, by rw [hg_25] at h_57; exact h_57, by rw [hg_75]; congr 1; omega⟩)

set_option maxRecDepth 20000 in
theorem c_keep1 {w : Wd} {sh : Shp} {g : Mem} {h f v c : Nat} (hH : HsS sh.1 h) (hF : ExS sh.1 f) (hv : g h 1 = (v : Int)) (hc : g h 2 = (c : Int)) (hc8 : c ≤ 8) (hv8 : v < 8) (hd : f + 75 ≤ h ∨ h + 602 ≤ f) (hn : ¬ v + 1 < 8) : CT w mX3_keep [.ref (h), .ref (f)] sh g (vQ sh (fun g2 => ∃ ga, CpX (up2 g h 1 0) ga (h + 2 + 75 * (0)) f ∧ g2 = up2 ga h 2 (if c < 8 then (c : Int) + 1 else 8))) := by
  refine j_entry (by decide) rfl (Nat.le_of_ble_eq_true rfl) (fun h => by cases h) rfl ?_
  show J w mX3_keep 0 [(0, .ref (h)), (1, .ref (f))] [] sh g 0 0 _
  refine j_aload_n 1 0 dX3_keep_0 rfl rfl ?_
  refine j_aload_n 2 0 dX3_keep_1 rfl rfl ?_
  refine j_geti 5 dX3_keep_2 rfl fl_X3_18 hH.hs rfl rfl (fun r_2 => ?_)
  refine j_top (y := (v : Int)) (hv) ?_
  refine j_iconst 6 dX3_keep_5 rfl ?_
  refine j_iadd 7 dX3_keep_6 rfl ?_
  refine j_aload_n 8 0 dX3_keep_7 rfl rfl ?_
  refine j_getr 11 dX3_keep_8 rfl fl_X3_11 hH.hs rfl (fun _ _ => rfl) rfl ?_
  refine j_alen 12 dX3_keep_11 rfl hH.past (Nat.le_of_ble_eq_true rfl) rfl ?_
  refine j_top (y := 8) rfl ?_
  refine j_icmp_ge 15 24 dX3_keep_12 rfl rfl (r32 (by omega) (by omega)) (r32 (by decide) (by decide)) (fun c_12 => ?_) (fun c_12 => absurd c_12 (by omega))
  refine j_iconst 25 dX3_keep_24 rfl ?_
  refine j_puti 28 dX3_keep_25 rfl fl_X3_18 hH.hs rfl rfl rfl (r32 (by decide) (by decide)) ?_
  refine j_mn (fun g_25 hg_25 => ?_)
  refine j_aload_n 29 0 dX3_keep_28 rfl rfl ?_
  refine j_geti 32 dX3_keep_29 rfl fl_X3_18 hH.hs rfl rfl (fun r_29 => ?_)
  refine j_top (y := 0) (by rw [hg_25]; exact up2_s) ?_
  refine j_if_lt 35 78 dX3_keep_32 rfl rfl (r32 (by omega) (by omega)) (fun c_32 => absurd c_32 (by decide)) (fun c_32 => ?_)
  refine j_aload_n 36 0 dX3_keep_35 rfl rfl ?_
  refine j_geti 39 dX3_keep_36 rfl fl_X3_18 hH.hs rfl rfl (fun r_36 => ?_)
  refine j_top (y := 0) (by rw [hg_25]; exact up2_s) ?_
  refine j_aload_n 40 0 dX3_keep_39 rfl rfl ?_
  refine j_getr 43 dX3_keep_40 rfl fl_X3_11 hH.hs rfl (fun _ _ => rfl) rfl ?_
  refine j_alen 44 dX3_keep_43 rfl hH.past (Nat.le_of_ble_eq_true rfl) rfl ?_
  refine j_top (y := 8) rfl ?_
  refine j_icmp_ge 47 78 dX3_keep_44 rfl rfl (r32 (by omega) (by omega)) (r32 (by decide) (by decide)) (fun c_44 => absurd c_44 (by omega)) (fun c_44 => ?_)
  refine j_aload_n 48 0 dX3_keep_47 rfl rfl ?_
  refine j_getr 51 dX3_keep_48 rfl fl_X3_11 hH.hs rfl (fun _ _ => rfl) rfl ?_
  refine j_aload_n 52 0 dX3_keep_51 rfl rfl ?_
  refine j_geti 55 dX3_keep_52 rfl fl_X3_18 hH.hs rfl rfl (fun r_52 => ?_)
  refine j_top (y := 0) (by rw [hg_25]; exact up2_s) ?_
  refine j_aald 56 0 dX3_keep_55 rfl hH.past (Nat.le_of_ble_eq_true rfl) rfl rfl rfl (show (0) < 8 by omega) rfl ?_
  refine j_aload_n 57 1 dX3_keep_56 rfl rfl ?_
  refine j_callV 60 (As := [.ref (f)]) (kc2 := 0) (ks2 := 0) dX3_keep_57 rfl mvX1_copyFrom lk_X3_25 (hH.at 0 (show (0) < 8 by omega)).ex rfl ⟨Nat.le_of_ble_eq_true rfl, rfl⟩ rfl rfl (Nat.le_of_ble_eq_true rfl) ⟨Nat.le_of_ble_eq_true rfl, Nat.le_of_ble_eq_true rfl⟩ ⟨Nat.le_of_ble_eq_true rfl, Nat.le_of_ble_eq_true rfl⟩ (c_copyX (hH.at (0) (by omega)) hF (by omega)) x_v (k_v fun g_57 h_57 => ?_)
  refine j_aload_n 61 0 dX3_keep_60 rfl rfl ?_
  refine j_aload_n 62 0 dX3_keep_61 rfl rfl ?_
  refine j_geti 65 dX3_keep_62 rfl fl_X3_22 hH.hs rfl rfl (fun r_62 => ?_)
  refine j_top (y := (c : Int)) (by rw [(h_57.cells (by omega)).1 h (by omega), hg_25, up2_k (by decide)]; exact hc) ?_
  refine j_iconst 66 dX3_keep_65 rfl ?_
  refine j_iadd 67 dX3_keep_66 rfl ?_
  refine j_aload_n 68 0 dX3_keep_67 rfl rfl ?_
  refine j_getr 71 dX3_keep_68 rfl fl_X3_11 hH.hs rfl (fun _ _ => rfl) rfl ?_
  refine j_alen 72 dX3_keep_71 rfl hH.past (Nat.le_of_ble_eq_true rfl) rfl ?_
  refine j_top (y := 8) rfl ?_
  refine j_min 75 dX3_keep_72 rfl (by decide +kernel) (Nat.le_of_ble_eq_true rfl) ⟨Nat.le_of_ble_eq_true rfl, Nat.le_of_ble_eq_true rfl⟩ (r32 (by omega) (by omega)) (r32 (by decide) (by decide)) ?_
  refine j_puti 78 dX3_keep_75 rfl fl_X3_22 hH.hs rfl rfl rfl (by split <;> exact ⟨by omega, by omega⟩) ?_
  refine j_mn (fun g_75 hg_75 => ?_)
  exact j_vret dX3_keep_78 rfl (⟨rfl, rfl, g_57, by rw [hg_25] at h_57; exact h_57, by rw [hg_75]; congr 1; omega⟩)

set_option maxRecDepth 20000 in
theorem c_takeBack0 {w : Wd} {sh : Shp} {g : Mem} {h f : Nat} (hH : HsS sh.1 h) (hF : ExS sh.1 f) (hc : g h 2 = 0) : CT w mX3_takeBack [.ref (h), .ref (f)] sh g (dQ (some (.int (i32 (-1)))) sh g) := by
  refine j_entry (by decide) rfl (Nat.le_of_ble_eq_true rfl) (fun h => by cases h) rfl ?_
  show J w mX3_takeBack 0 [(0, .ref (h)), (1, .ref (f))] [] sh g 0 0 _
  refine j_aload_n 1 0 dX3_takeBack_0 rfl rfl ?_
  refine j_geti 4 dX3_takeBack_1 rfl fl_X3_22 hH.hs rfl rfl (fun r_1 => ?_)
  refine j_top (y := 0) (hc) ?_
  refine j_if_le 7 26 dX3_takeBack_4 rfl rfl (r32 (by omega) (by omega)) (fun c_4 => ?_) (fun c_4 => absurd c_4 (by decide))
  refine j_iconst 27 dX3_takeBack_26 rfl ?_
  exact j_iret dX3_takeBack_27 rfl (q_i rfl)

set_option maxRecDepth 20000 in
theorem c_takeBack1 {w : Wd} {sh : Shp} {g : Mem} {h f v c : Nat} (hH : HsS sh.1 h) (hF : ExS sh.1 f) (hv : g h 1 = (v : Int)) (hc : g h 2 = (c : Int)) (hc8 : c ≤ 8) (hc1 : 1 ≤ c) (hv8 : v < 8) (hd : f + 75 ≤ h ∨ h + 602 ≤ f) (hn : v = 0) : CT w mX3_takeBack [.ref (h), .ref (f)] sh g (iQ sh (fun z g2 => z = (c : Int) - 1 ∧ ∃ ga, CpX g ga f (h + 2 + 75 * v) ∧ g2 = up2 (up2 ga h 1 7) h 2 ((c : Int) - 1))) := by
  refine j_entry (by decide) rfl (Nat.le_of_ble_eq_true rfl) (fun h => by cases h) rfl ?_
  show J w mX3_takeBack 0 [(0, .ref (h)), (1, .ref (f))] [] sh g 0 0 _
  refine j_aload_n 1 0 dX3_takeBack_0 rfl rfl ?_
  refine j_geti 4 dX3_takeBack_1 rfl fl_X3_22 hH.hs rfl rfl (fun r_1 => ?_)
  refine j_top (y := (c : Int)) (hc) ?_
  refine j_if_le 7 26 dX3_takeBack_4 rfl rfl (r32 (by omega) (by omega)) (fun c_4 => absurd c_4 (by omega)) (fun c_4 => ?_)
  refine j_aload_n 8 0 dX3_takeBack_7 rfl rfl ?_
  refine j_geti 11 dX3_takeBack_8 rfl fl_X3_18 hH.hs rfl rfl (fun r_8 => ?_)
  refine j_top (y := (v : Int)) (hv) ?_
  refine j_if_lt 14 26 dX3_takeBack_11 rfl rfl (r32 (by omega) (by omega)) (fun c_11 => absurd c_11 (by omega)) (fun c_11 => ?_)
  refine j_aload_n 15 0 dX3_takeBack_14 rfl rfl ?_
  refine j_geti 18 dX3_takeBack_15 rfl fl_X3_18 hH.hs rfl rfl (fun r_15 => ?_)
  refine j_top (y := (v : Int)) (hv) ?_
  refine j_aload_n 19 0 dX3_takeBack_18 rfl rfl ?_
  refine j_getr 22 dX3_takeBack_19 rfl fl_X3_11 hH.hs rfl (fun _ _ => rfl) rfl ?_
  refine j_alen 23 dX3_takeBack_22 rfl hH.past (Nat.le_of_ble_eq_true rfl) rfl ?_
  refine j_top (y := 8) rfl ?_
  refine j_icmp_lt 26 28 dX3_takeBack_23 rfl rfl (r32 (by omega) (by omega)) (r32 (by decide) (by decide)) (fun c_23 => ?_) (fun c_23 => absurd c_23 (by omega))
  refine j_aload_n 29 1 dX3_takeBack_28 rfl rfl ?_
  refine j_aload_n 30 0 dX3_takeBack_29 rfl rfl ?_
  refine j_getr 33 dX3_takeBack_30 rfl fl_X3_11 hH.hs rfl (fun _ _ => rfl) rfl ?_
  refine j_aload_n 34 0 dX3_takeBack_33 rfl rfl ?_
  refine j_geti 37 dX3_takeBack_34 rfl fl_X3_18 hH.hs rfl rfl (fun r_34 => ?_)
  refine j_top (y := (v : Int)) (hv) ?_
  refine j_aald 38 v dX3_takeBack_37 rfl hH.past (Nat.le_of_ble_eq_true rfl) rfl rfl rfl hv8 rfl ?_
  refine j_callV 41 (As := [.ref ((h + 2 + 75 * v))]) (kc2 := 0) (ks2 := 0) dX3_takeBack_38 rfl mvX1_copyFrom lk_X3_25 hF.ex rfl ⟨Nat.le_of_ble_eq_true rfl, rfl⟩ rfl rfl (Nat.le_of_ble_eq_true rfl) ⟨Nat.le_of_ble_eq_true rfl, Nat.le_of_ble_eq_true rfl⟩ ⟨Nat.le_of_ble_eq_true rfl, Nat.le_of_ble_eq_true rfl⟩ (c_copyX hF (hH.at v hv8) (by omega)) x_v (k_v fun g_38 h_38 => ?_)
  have hh := (h_38.cells (by omega)).1 h (by omega)
  refine j_aload_n 42 0 dX3_takeBack_41 rfl rfl ?_
  refine j_aload_n 43 0 dX3_takeBack_42 rfl rfl ?_
  refine j_geti 46 dX3_takeBack_43 rfl fl_X3_18 hH.hs rfl rfl (fun r_43 => ?_)
  refine j_top (y := (v : Int)) (by rw [hh]; exact hv) ?_
  refine j_if_le 49 58 dX3_takeBack_46 rfl rfl (r32 (by omega) (by omega)) (fun c_46 => ?_) (fun c_46 => absurd c_46 (by omega))
  refine j_aload_n 59 0 dX3_takeBack_58 rfl rfl ?_
  refine j_getr 62 dX3_takeBack_59 rfl fl_X3_11 hH.hs rfl (fun _ _ => rfl) rfl ?_
  refine j_alen 63 dX3_takeBack_62 rfl hH.past (Nat.le_of_ble_eq_true rfl) rfl ?_
  refine j_top (y := 8) rfl ?_
  refine j_iconst 64 dX3_takeBack_63 rfl ?_
  refine j_isub 65 dX3_takeBack_64 rfl ?_
  refine j_puti 68 dX3_takeBack_65 rfl fl_X3_18 hH.hs rfl rfl rfl (r32 (by omega) (by omega)) ?_
  refine j_mn (fun g_65 hg_65 => ?_)
  refine j_aload_n 69 0 dX3_takeBack_68 rfl rfl ?_
  refine j_dup 70 dX3_takeBack_69 rfl rfl ?_
  refine j_geti 73 dX3_takeBack_70 rfl fl_X3_22 hH.hs rfl rfl (fun r_70 => ?_)
  refine j_top (y := (c : Int)) (by rw [hg_65, up2_k (by decide), hh]; exact hc) ?_
  refine j_iconst 74 dX3_takeBack_73 rfl ?_
  refine j_isub 75 dX3_takeBack_74 rfl ?_
  refine j_puti 78 dX3_takeBack_75 rfl fl_X3_22 hH.hs rfl rfl rfl (r32 (by omega) (by omega)) ?_
  refine j_mn (fun g_75 hg_75 => ?_)
  refine j_aload_n 79 0 dX3_takeBack_78 rfl rfl ?_
  refine j_geti 82 dX3_takeBack_79 rfl fl_X3_22 hH.hs rfl rfl (fun r_79 => ?_)
  refine j_top (y := (c : Int) - 1) (by rw [hg_75]; exact up2_s) ?_
  exact j_iret dX3_takeBack_82 rfl (⟨_, rfl, rfl, rfl, g_38, h_38, by rw [hg_75, hg_65]; rfl⟩)

set_option maxRecDepth 20000 in
theorem c_takeBack2 {w : Wd} {sh : Shp} {g : Mem} {h f v c : Nat} (hH : HsS sh.1 h) (hF : ExS sh.1 f) (hv : g h 1 = (v : Int)) (hc : g h 2 = (c : Int)) (hc8 : c ≤ 8) (hc1 : 1 ≤ c) (hv8 : v < 8) (hd : f + 75 ≤ h ∨ h + 602 ≤ f) (hn : 0 < v) : CT w mX3_takeBack [.ref (h), .ref (f)] sh g (iQ sh (fun z g2 => z = (c : Int) - 1 ∧ ∃ ga, CpX g ga f (h + 2 + 75 * v) ∧ g2 = up2 (up2 ga h 1 ((v : Int) - 1)) h 2 ((c : Int) - 1))) := by
  refine j_entry (by decide) rfl (Nat.le_of_ble_eq_true rfl) (fun h => by cases h) rfl ?_
  show J w mX3_takeBack 0 [(0, .ref (h)), (1, .ref (f))] [] sh g 0 0 _
  refine j_aload_n 1 0 dX3_takeBack_0 rfl rfl ?_
  refine j_geti 4 dX3_takeBack_1 rfl fl_X3_22 hH.hs rfl rfl (fun r_1 => ?_)
  refine j_top (y := (c : Int)) (hc) ?_
  refine j_if_le 7 26 dX3_takeBack_4 rfl rfl (r32 (by omega) (by omega)) (fun c_4 => absurd c_4 (by omega)) (fun c_4 => ?_)
  refine j_aload_n 8 0 dX3_takeBack_7 rfl rfl ?_
  refine j_geti 11 dX3_takeBack_8 rfl fl_X3_18 hH.hs rfl rfl (fun r_8 => ?_)
  refine j_top (y := (v : Int)) (hv) ?_
  refine j_if_lt 14 26 dX3_takeBack_11 rfl rfl (r32 (by omega) (by omega)) (fun c_11 => absurd c_11 (by omega)) (fun c_11 => ?_)
  refine j_aload_n 15 0 dX3_takeBack_14 rfl rfl ?_
  refine j_geti 18 dX3_takeBack_15 rfl fl_X3_18 hH.hs rfl rfl (fun r_15 => ?_)
  refine j_top (y := (v : Int)) (hv) ?_
  refine j_aload_n 19 0 dX3_takeBack_18 rfl rfl ?_
  refine j_getr 22 dX3_takeBack_19 rfl fl_X3_11 hH.hs rfl (fun _ _ => rfl) rfl ?_
  refine j_alen 23 dX3_takeBack_22 rfl hH.past (Nat.le_of_ble_eq_true rfl) rfl ?_
  refine j_top (y := 8) rfl ?_
  refine j_icmp_lt 26 28 dX3_takeBack_23 rfl rfl (r32 (by omega) (by omega)) (r32 (by decide) (by decide)) (fun c_23 => ?_) (fun c_23 => absurd c_23 (by omega))
  refine j_aload_n 29 1 dX3_takeBack_28 rfl rfl ?_
  refine j_aload_n 30 0 dX3_takeBack_29 rfl rfl ?_
  refine j_getr 33 dX3_takeBack_30 rfl fl_X3_11 hH.hs rfl (fun _ _ => rfl) rfl ?_
  refine j_aload_n 34 0 dX3_takeBack_33 rfl rfl ?_
  refine j_geti 37 dX3_takeBack_34 rfl fl_X3_18 hH.hs rfl rfl (fun r_34 => ?_)
  refine j_top (y := (v : Int)) (hv) ?_
  refine j_aald 38 v dX3_takeBack_37 rfl hH.past (Nat.le_of_ble_eq_true rfl) rfl rfl rfl hv8 rfl ?_
  refine j_callV 41 (As := [.ref ((h + 2 + 75 * v))]) (kc2 := 0) (ks2 := 0) dX3_takeBack_38 rfl mvX1_copyFrom lk_X3_25 hF.ex rfl ⟨Nat.le_of_ble_eq_true rfl, rfl⟩ rfl rfl (Nat.le_of_ble_eq_true rfl) ⟨Nat.le_of_ble_eq_true rfl, Nat.le_of_ble_eq_true rfl⟩ ⟨Nat.le_of_ble_eq_true rfl, Nat.le_of_ble_eq_true rfl⟩ (c_copyX hF (hH.at v hv8) (by omega)) x_v (k_v fun g_38 h_38 => ?_)
  have hh := (h_38.cells (by omega)).1 h (by omega)
  refine j_aload_n 42 0 dX3_takeBack_41 rfl rfl ?_
  refine j_aload_n 43 0 dX3_takeBack_42 rfl rfl ?_
  refine j_geti 46 dX3_takeBack_43 rfl fl_X3_18 hH.hs rfl rfl (fun r_43 => ?_)
  refine j_top (y := (v : Int)) (by rw [hh]; exact hv) ?_
  refine j_if_le 49 58 dX3_takeBack_46 rfl rfl (r32 (by omega) (by omega)) (fun c_46 => absurd c_46 (by omega)) (fun c_46 => ?_)
  refine j_aload_n 50 0 dX3_takeBack_49 rfl rfl ?_
  refine j_geti 53 dX3_takeBack_50 rfl fl_X3_18 hH.hs rfl rfl (fun r_50 => ?_)
  refine j_top (y := (v : Int)) (by rw [hh]; exact hv) ?_
  refine j_iconst 54 dX3_takeBack_53 rfl ?_
  refine j_isub 55 dX3_takeBack_54 rfl ?_
  refine j_goto 65 dX3_takeBack_55 rfl ?_
  refine j_puti 68 dX3_takeBack_65 rfl fl_X3_18 hH.hs rfl rfl rfl (r32 (by omega) (by omega)) ?_
  refine j_mn (fun g_65 hg_65 => ?_)
  refine j_aload_n 69 0 dX3_takeBack_68 rfl rfl ?_
  refine j_dup 70 dX3_takeBack_69 rfl rfl ?_
  refine j_geti 73 dX3_takeBack_70 rfl fl_X3_22 hH.hs rfl rfl (fun r_70 => ?_)
  refine j_top (y := (c : Int)) (by rw [hg_65, up2_k (by decide), hh]; exact hc) ?_
  refine j_iconst 74 dX3_takeBack_73 rfl ?_
  refine j_isub 75 dX3_takeBack_74 rfl ?_
  refine j_puti 78 dX3_takeBack_75 rfl fl_X3_22 hH.hs rfl rfl rfl (r32 (by omega) (by omega)) ?_
  refine j_mn (fun g_75 hg_75 => ?_)
  refine j_aload_n 79 0 dX3_takeBack_78 rfl rfl ?_
  refine j_geti 82 dX3_takeBack_79 rfl fl_X3_22 hH.hs rfl rfl (fun r_79 => ?_)
  refine j_top (y := (c : Int) - 1) (by rw [hg_75]; exact up2_s) ?_
  exact j_iret dX3_takeBack_82 rfl (⟨_, rfl, rfl, rfl, g_38, h_38, by rw [hg_75, hg_65]⟩)
