theorem c_groupAt0 {w : Wd} {sh : Shp} {g : Mem} {e : Nat} (hE : ExS sh.1 e) (hb : g e 3 ≤ 5) {x : Int} (hx : R32 x) (hq : ¬ (0 ≤ x ∧ x < g e 3)) : CT w mX1_groupAt [.ref (e), .int (i32 (x))] sh g (dQ (some .null) sh g) := by
  have h := c_groupAt (w := w) hE hb hx
  rw [if_neg hq] at h
  exact h
theorem c_groupAt1 {w : Wd} {sh : Shp} {g : Mem} {e : Nat} (hE : ExS sh.1 e) (hb : g e 3 ≤ 5) {x : Int} (hx : R32 x) (hq : 0 ≤ x ∧ x < g e 3) : CT w mX1_groupAt [.ref (e), .int (i32 (x))] sh g (dQ (some (.ref (e + 3 + x.toNat))) sh g) := by
  have h := c_groupAt (w := w) hE hb hx
  rw [if_pos hq] at h
  exact h
theorem c_registerAt0 {w : Wd} {sh : Shp} {g : Mem} {e : Nat} (hE : ExS sh.1 e) (hb : g e 0 ≤ 4) {x : Int} (hx : R32 x) (hq : ¬ (0 ≤ x ∧ x < g e 0)) : CT w mX1_registerAt [.ref (e), .int (i32 (x))] sh g (dQ (some .null) sh g) := by
  have h := c_registerAt (w := w) hE hb hx
  rw [if_neg hq] at h
  exact h
theorem c_registerAt1 {w : Wd} {sh : Shp} {g : Mem} {e : Nat} (hE : ExS sh.1 e) (hb : g e 0 ≤ 4) {x : Int} (hx : R32 x) (hq : 0 ≤ x ∧ x < g e 0) : CT w mX1_registerAt [.ref (e), .int (i32 (x))] sh g (dQ (some (.ref (e + 26 + x.toNat))) sh g) := by
  have h := c_registerAt (w := w) hE hb hx
  rw [if_pos hq] at h
  exact h
theorem c_markerAt0 {w : Wd} {sh : Shp} {g : Mem} {e : Nat} (hE : ExS sh.1 e) (hb : g e 1 ≤ 3) {x : Int} (hx : R32 x) (hq : ¬ (0 ≤ x ∧ x < g e 1)) : CT w mX1_markerAt [.ref (e), .int (i32 (x))] sh g (dQ (some .null) sh g) := by
  have h := c_markerAt (w := w) hE hb hx
  rw [if_neg hq] at h
  exact h
theorem c_markerAt1 {w : Wd} {sh : Shp} {g : Mem} {e : Nat} (hE : ExS sh.1 e) (hb : g e 1 ≤ 3) {x : Int} (hx : R32 x) (hq : 0 ≤ x ∧ x < g e 1) : CT w mX1_markerAt [.ref (e), .int (i32 (x))] sh g (dQ (some (.ref (e + 31 + x.toNat))) sh g) := by
  have h := c_markerAt (w := w) hE hb hx
  rw [if_pos hq] at h
  exact h
theorem c_callAt0 {w : Wd} {sh : Shp} {g : Mem} {e : Nat} (hE : ExS sh.1 e) (hb : g e 5 ≤ 40) {x : Int} (hx : R32 x) (hq : ¬ (0 ≤ x ∧ x < g e 5)) : CT w mX1_callAt [.ref (e), .int (i32 (x))] sh g (dQ (some .null) sh g) := by
  have h := c_callAt (w := w) hE hb hx
  rw [if_neg hq] at h
  exact h
theorem c_callAt1 {w : Wd} {sh : Shp} {g : Mem} {e : Nat} (hE : ExS sh.1 e) (hb : g e 5 ≤ 40) {x : Int} (hx : R32 x) (hq : 0 ≤ x ∧ x < g e 5) : CT w mX1_callAt [.ref (e), .int (i32 (x))] sh g (dQ (some (.ref (e + 35 + x.toNat))) sh g) := by
  have h := c_callAt (w := w) hE hb hx
  rw [if_pos hq] at h
  exact h
theorem j_max {w : Wd} {Y : MD} {pc : Nat} {L : List (Nat × Value)} {S : List Value} {sh : Shp} {g : Mem} {kc ks : Nat} {Q : Post} (n : Nat) {idx : Nat} {x y : Int} (hd : decode (md_c Y) pc = .ok (.invokestatic idx, 3)) (hn : pc + 3 = n) (hl : Cond.methodLink (md_o Y) idx Lib.Math.max.name ∈ lw_good) (hrest : (S.map fun v => v.category).sum ≤ 8) (hroom : 1 ≤ md_f Y ∧ 21 ≤ md_l Y) (hx : R32 x) (hy : R32 y)
    (kk : J w Y n L (.int (i32 (if x < y then y else x)) :: S) sh g kc ks Q) : J w Y pc L (.int (i32 y) :: .int (i32 x) :: S) sh g kc ks Q := by
  subst hn
  intro p l e s m args below meth c H locs cells slots Z ls C hZ hR hlo hc hs hll
  have hts := C.2.2.2.2.1
  refine va_mmax (index := idx) C.1 C.2.1 (C.2.2.1.trans hll.1.symm) C.2.2.2.1 (hts _ hl) (hts _ (by decide +kernel)) (hts _ (by decide +kernel)) (hts _ (by decide +kernel)) hroom.1 (by show _ ≤ md_l Y; omega) (by show cells ≤ md_mc Y; omega) (by show slots ≤ md_ms Y; omega) hd ?_
  have e1 : (if i32 x < i32 y then i32 y else i32 x) = i32 (if x < y then y else x) := by
    have e2 : i32 x < i32 y ↔ x < y := by rw [Int32.lt_iff_toInt_lt, i32_toInt hx, i32_toInt hy]
    by_cases q : x < y
    · rw [if_pos q, if_pos (e2.mpr q)]
    · rw [if_neg q, if_neg (fun h => q (e2.mp h))]
  rw [e1]
  exact kk p l e s m args below meth c H locs cells slots Z ls C hZ hR hlo hc hs hll
theorem r_len_lt {n : Nat} {v : Int} (h : v < 10) : r_len n v = 0 := by
  cases n with
  | zero => rfl
  | succ n => unfold r_len; rw [if_pos h]
theorem r_len_le {v : Int} : ∀ n, r_len n v ≤ n
  | 0 => Nat.le_refl 0
  | n + 1 => by
    unfold r_len
    split
    · omega
    · have := r_len_le (v := v / 10) n; omega
theorem r_len_ge {n : Nat} {v : Int} (h : ¬ v < 10) : r_len (n + 1) v = r_len n (v / 10) + 1 := by
  conv => lhs; unfold r_len
  rw [if_neg h]

set_option maxRecDepth 20000 in
theorem c_end {w : Wd} {sh : Shp} {g : Mem} {a : Nat} (ha : sh.1 a = some (0, 0, kN)) {s t : Int} (hs : R32 s) (ht : R32 t) : CT w mX0_end [.ref (a), .int (i32 (s)), .int (i32 (t))] sh g (dQ none sh (up2 (up2 (up2 g a 1 s) a 11 t) a 12 0)) := by
  refine j_entry (by decide) rfl (Nat.le_of_ble_eq_true rfl) (fun h => by cases h) rfl ?_
  show J w mX0_end 0 [(0, .ref (a)), (1, .int (i32 (s))), (2, .int (i32 (t)))] [] sh g 0 0 _
  refine j_aload_n 1 0 dX0_end_0 rfl rfl ?_
  refine j_iload_n 2 1 dX0_end_1 rfl rfl ?_
  refine j_puti 5 dX0_end_2 rfl fl_X0_15 ha rfl rfl rfl hs ?_
  refine j_mn (fun g_2 hg_2 => ?_)
  refine j_aload_n 6 0 dX0_end_5 rfl rfl ?_
  refine j_iload_n 7 2 dX0_end_6 rfl rfl ?_
  refine j_puti 10 dX0_end_7 rfl fl_X0_46 ha rfl rfl rfl ht ?_
  refine j_mn (fun g_7 hg_7 => ?_)
  refine j_aload_n 11 0 dX0_end_10 rfl rfl ?_
  refine j_iconst 12 dX0_end_11 rfl ?_
  refine j_puti 15 dX0_end_12 rfl fl_X0_49 ha rfl rfl rfl (r32 (by decide) (by decide)) ?_
  refine j_mn (fun g_12 hg_12 => ?_)
  exact j_vret dX0_end_15 rfl (q_m (by rw [hg_12, hg_7, hg_2]))

set_option maxRecDepth 20000 in
theorem c_talk {w : Wd} {sh : Shp} {g : Mem} {a : Nat} (ha : sh.1 a = some (0, 0, kN)) {t : Int} (ht : R32 t) : CT w mX0_beginToTalk [.ref (a), .int (i32 (t))] sh g (dQ none sh (up2 (up2 (up2 g a 1 5) a 10 t) a 12 (g a 4))) := by
  refine j_entry (by decide) rfl (Nat.le_of_ble_eq_true rfl) (fun h => by cases h) rfl ?_
  show J w mX0_beginToTalk 0 [(0, .ref (a)), (1, .int (i32 (t)))] [] sh g 0 0 _
  refine j_aload_n 1 0 dX0_beginToTalk_0 rfl rfl ?_
  refine j_iconst 2 dX0_beginToTalk_1 rfl ?_
  refine j_puti 5 dX0_beginToTalk_2 rfl fl_X0_15 ha rfl rfl rfl (r32 (by decide) (by decide)) ?_
  refine j_mn (fun g_2 hg_2 => ?_)
  refine j_aload_n 6 0 dX0_beginToTalk_5 rfl rfl ?_
  refine j_iload_n 7 1 dX0_beginToTalk_6 rfl rfl ?_
  refine j_puti 10 dX0_beginToTalk_7 rfl fl_X0_43 ha rfl rfl rfl ht ?_
  refine j_mn (fun g_7 hg_7 => ?_)
  refine j_aload_n 11 0 dX0_beginToTalk_10 rfl rfl ?_
  refine j_aload_n 12 0 dX0_beginToTalk_11 rfl rfl ?_
  refine j_geti 15 dX0_beginToTalk_12 rfl fl_X0_24 ha rfl rfl (fun r_12 => ?_)
  refine j_top (y := g a 4) (by rw [hg_7, hg_2, up2_k (by decide), up2_k (by decide)]) ?_
  refine j_puti 18 dX0_beginToTalk_15 rfl fl_X0_49 ha rfl rfl rfl (by have h := r_12; rw [hg_7, hg_2, up2_k (by decide), up2_k (by decide)] at h; exact h) ?_
  refine j_mn (fun g_15 hg_15 => ?_)
  exact j_vret dX0_beginToTalk_18 rfl (q_m (by rw [hg_15, hg_7, hg_2]))

set_option maxRecDepth 20000 in
theorem c_serveR {w : Wd} {sh : Shp} {g : Mem} {a : Nat} (ha : sh.1 a = some (5, 0, kN)) {x : Int} (hx : R32 x) : CT w mX5_serve [.ref (a), .int (i32 (x))] sh g (dQ none sh (up2 (up2 (up2 g a 1 x) a 2 1) a 3 0)) := by
  refine j_entry (by decide) rfl (Nat.le_of_ble_eq_true rfl) (fun h => by cases h) rfl ?_
  show J w mX5_serve 0 [(0, .ref (a)), (1, .int (i32 (x)))] [] sh g 0 0 _
  refine j_aload_n 1 0 dX5_serve_0 rfl rfl ?_
  refine j_iload_n 2 1 dX5_serve_1 rfl rfl ?_
  refine j_puti 5 dX5_serve_2 rfl fl_X5_13 ha rfl rfl rfl hx ?_
  refine j_mn (fun g_2 hg_2 => ?_)
  refine j_aload_n 6 0 dX5_serve_5 rfl rfl ?_
  refine j_iconst 7 dX5_serve_6 rfl ?_
  refine j_puti 10 dX5_serve_7 rfl fl_X5_18 ha rfl rfl rfl (r32 (by decide) (by decide)) ?_
  refine j_mn (fun g_7 hg_7 => ?_)
  refine j_aload_n 11 0 dX5_serve_10 rfl rfl ?_
  refine j_iconst 12 dX5_serve_11 rfl ?_
  refine j_puti 15 dX5_serve_12 rfl fl_X5_21 ha rfl rfl rfl (r32 (by decide) (by decide)) ?_
  refine j_mn (fun g_12 hg_12 => ?_)
  exact j_vret dX5_serve_15 rfl (q_m (by rw [hg_12, hg_7, hg_2]))

set_option maxRecDepth 20000 in
theorem c_serveM {w : Wd} {sh : Shp} {g : Mem} {a : Nat} (ha : sh.1 a = some (4, 0, kN)) {x y : Int} (hx : R32 x) (hy : R32 y) : CT w mX4_serve [.ref (a), .int (i32 (x)), .int (i32 (y))] sh g (dQ none sh (up2 (up2 g a 1 x) a 2 y)) := by
  refine j_entry (by decide) rfl (Nat.le_of_ble_eq_true rfl) (fun h => by cases h) rfl ?_
  show J w mX4_serve 0 [(0, .ref (a)), (1, .int (i32 (x))), (2, .int (i32 (y)))] [] sh g 0 0 _
  refine j_aload_n 1 0 dX4_serve_0 rfl rfl ?_
  refine j_iload_n 2 1 dX4_serve_1 rfl rfl ?_
  refine j_puti 5 dX4_serve_2 rfl fl_X4_13 ha rfl rfl rfl hx ?_
  refine j_mn (fun g_2 hg_2 => ?_)
  refine j_aload_n 6 0 dX4_serve_5 rfl rfl ?_
  refine j_iload_n 7 2 dX4_serve_6 rfl rfl ?_
  refine j_puti 10 dX4_serve_7 rfl fl_X4_16 ha rfl rfl rfl hy ?_
  refine j_mn (fun g_7 hg_7 => ?_)
  exact j_vret dX4_serve_10 rfl (q_m (by rw [hg_7, hg_2]))

set_option maxRecDepth 20000 in
theorem c_queueUp {w : Wd} {sh : Shp} {g : Mem} {e a : Nat} (hE : ExS sh.1 e) (ha : sh.1 a = some (0, 0, kN)) {s : Int} (hs : R32 s) : CT w mX1_queueUp [.ref (e), .ref (a), .int (i32 (s))] sh g (dQ none sh (up2 (up2 (up2 g e 11 (bm (g e 11 + 1))) a 7 (bm (g e 11 + 1))) a 1 s)) := by
  refine j_entry (by decide) rfl (Nat.le_of_ble_eq_true rfl) (fun h => by cases h) rfl ?_
  show J w mX1_queueUp 0 [(0, .ref (e)), (1, .ref (a)), (2, .int (i32 (s)))] [] sh g 0 0 _
  refine j_aload_n 1 0 dX1_queueUp_0 rfl rfl ?_
  refine j_dup 2 dX1_queueUp_1 rfl rfl ?_
  refine j_geti 5 dX1_queueUp_2 rfl fl_X1_89 hE.ex rfl rfl (fun r_2 => ?_)
  refine j_iconst 6 dX1_queueUp_5 rfl ?_
  refine j_iadd 7 dX1_queueUp_6 rfl ?_
  refine j_nb ?_
  refine j_puti 10 dX1_queueUp_7 rfl fl_X1_89 hE.ex rfl rfl rfl (bm_r _) ?_
  refine j_mn (fun g_7 hg_7 => ?_)
  refine j_aload_n 11 1 dX1_queueUp_10 rfl rfl ?_
  refine j_aload_n 12 0 dX1_queueUp_11 rfl rfl ?_
  refine j_geti 15 dX1_queueUp_12 rfl fl_X1_89 hE.ex rfl rfl (fun r_12 => ?_)
  refine j_top (y := bm (g e 11 + 1)) (by rw [hg_7]; exact up2_s) ?_
  refine j_puti 18 dX1_queueUp_15 rfl fl_X1_197 ha rfl rfl rfl (bm_r _) ?_
  refine j_mn (fun g_15 hg_15 => ?_)
  refine j_aload_n 19 1 dX1_queueUp_18 rfl rfl ?_
  refine j_iload_n 20 2 dX1_queueUp_19 rfl rfl ?_
  refine j_puti 23 dX1_queueUp_20 rfl fl_X1_102 ha rfl rfl rfl hs ?_
  refine j_mn (fun g_20 hg_20 => ?_)
  exact j_vret dX1_queueUp_23 rfl (q_m (by rw [hg_20, hg_15, hg_7]))

set_option maxRecDepth 20000 in
theorem c_dialledBy0 {w : Wd} {sh : Shp} {g : Mem} {e a : Nat} (hE : ExS sh.1 e) (hI : ExI g e) (ha : sh.1 a = some (0, 0, kN)) (hb : g e 0 ≤ 4) (hr : (x_registerOf g e (g a 0)) = -1)  : CT w mX1_dialledBy [.ref (e), .ref (a)] sh g (dQ (some (.int (i32 (1)))) sh g) := by
  refine j_entry (by decide) rfl (Nat.le_of_ble_eq_true rfl) (fun h => by cases h) rfl ?_
  show J w mX1_dialledBy 0 [(0, .ref (e)), (1, .ref (a))] [] sh g 0 0 _
  refine j_aload_n 1 0 dX1_dialledBy_0 rfl rfl ?_
  refine j_aload_n 2 0 dX1_dialledBy_1 rfl rfl ?_
  refine j_aload_n 3 1 dX1_dialledBy_2 rfl rfl ?_
  refine j_geti 6 dX1_dialledBy_3 rfl fl_X1_130 ha rfl rfl (fun r_3 => ?_)
  refine j_callV 9 (As := [.int (i32 (g (a) 0))]) (kc2 := 0) (ks2 := 0) dX1_dialledBy_6 rfl mvX1_registerOf lk_X1_267 hE.ex rfl ⟨Nat.le_of_ble_eq_true rfl, rfl⟩ rfl rfl (Nat.le_of_ble_eq_true rfl) ⟨Nat.le_of_ble_eq_true rfl, Nat.le_of_ble_eq_true rfl⟩ ⟨Nat.le_of_ble_eq_true rfl, Nat.le_of_ble_eq_true rfl⟩ (c_registerOf hE hI r_3) x_d (k_d1 ?_)
  refine j_callV 12 (As := [.int (i32 (x_registerOf g e (g a 0)))]) (kc2 := 0) (ks2 := 0) dX1_dialledBy_9 rfl mvX1_registerAt lk_X1_270 hE.ex rfl ⟨Nat.le_of_ble_eq_true rfl, rfl⟩ rfl rfl (Nat.le_of_ble_eq_true rfl) ⟨Nat.le_of_ble_eq_true rfl, Nat.le_of_ble_eq_true rfl⟩ ⟨Nat.le_of_ble_eq_true rfl, Nat.le_of_ble_eq_true rfl⟩ (c_registerAt0 hE hb (fst_r32 _ (by decide)) (by omega)) x_d (k_d1 ?_)
  refine j_astore_nN 13 (L2 := [(2, .null), (0, .ref (e)), (1, .ref (a))]) dX1_dialledBy_12 rfl rfl (Nat.le_of_ble_eq_true rfl) rfl ?_
  refine j_aload_nN 14 0 dX1_dialledBy_13 rfl rfl ?_
  refine j_ifnonnullN 17 dX1_dialledBy_14 rfl ?_
  refine j_iconst 18 dX1_dialledBy_17 rfl ?_
  refine j_goto 25 dX1_dialledBy_18 rfl ?_
  exact j_iret dX1_dialledBy_25 rfl (⟨rfl, rfl, rfl⟩)

set_option maxRecDepth 20000 in
theorem c_dialledBy1 {w : Wd} {sh : Shp} {g : Mem} {e a : Nat} (hE : ExS sh.1 e) (hI : ExI g e) (ha : sh.1 a = some (0, 0, kN)) (hb : g e 0 ≤ 4) (hr : 0 ≤ (x_registerOf g e (g a 0)) ∧ (x_registerOf g e (g a 0)) < g e 0)  : CT w mX1_dialledBy [.ref (e), .ref (a)] sh g (dQ (some (.int (i32 (g (e + 26 + (x_registerOf g e (g a 0)).toNat) 2)))) sh g) := by
  refine j_entry (by decide) rfl (Nat.le_of_ble_eq_true rfl) (fun h => by cases h) rfl ?_
  show J w mX1_dialledBy 0 [(0, .ref (e)), (1, .ref (a))] [] sh g 0 0 _
  refine j_aload_n 1 0 dX1_dialledBy_0 rfl rfl ?_
  refine j_aload_n 2 0 dX1_dialledBy_1 rfl rfl ?_
  refine j_aload_n 3 1 dX1_dialledBy_2 rfl rfl ?_
  refine j_geti 6 dX1_dialledBy_3 rfl fl_X1_130 ha rfl rfl (fun r_3 => ?_)
  refine j_callV 9 (As := [.int (i32 (g (a) 0))]) (kc2 := 0) (ks2 := 0) dX1_dialledBy_6 rfl mvX1_registerOf lk_X1_267 hE.ex rfl ⟨Nat.le_of_ble_eq_true rfl, rfl⟩ rfl rfl (Nat.le_of_ble_eq_true rfl) ⟨Nat.le_of_ble_eq_true rfl, Nat.le_of_ble_eq_true rfl⟩ ⟨Nat.le_of_ble_eq_true rfl, Nat.le_of_ble_eq_true rfl⟩ (c_registerOf hE hI r_3) x_d (k_d1 ?_)
  refine j_callV 12 (As := [.int (i32 (x_registerOf g e (g a 0)))]) (kc2 := 0) (ks2 := 0) dX1_dialledBy_9 rfl mvX1_registerAt lk_X1_270 hE.ex rfl ⟨Nat.le_of_ble_eq_true rfl, rfl⟩ rfl rfl (Nat.le_of_ble_eq_true rfl) ⟨Nat.le_of_ble_eq_true rfl, Nat.le_of_ble_eq_true rfl⟩ ⟨Nat.le_of_ble_eq_true rfl, Nat.le_of_ble_eq_true rfl⟩ (c_registerAt1 hE hb (fst_r32 _ (by decide)) hr) x_d (k_d1 ?_)
  refine j_astore_n 13 (L2 := [(2, .ref (e + 26 + (x_registerOf g e (g a 0)).toNat)), (0, .ref (e)), (1, .ref (a))]) dX1_dialledBy_12 rfl rfl (Nat.le_of_ble_eq_true rfl) rfl ?_
  refine j_aload_n 14 0 dX1_dialledBy_13 rfl rfl ?_
  refine j_ifnonnull 21 dX1_dialledBy_14 rfl ?_
  refine j_aload_n 22 0 dX1_dialledBy_21 rfl rfl ?_
  refine j_geti 25 dX1_dialledBy_22 rfl fl_X1_274 (hE.rg (x_registerOf g e (g a 0)).toNat (by omega)) rfl rfl (fun r_22 => ?_)
  exact j_iret dX1_dialledBy_25 rfl (⟨rfl, rfl, rfl⟩)

set_option maxRecDepth 20000 in
theorem c_freeRegisterOf0 {w : Wd} {sh : Shp} {g : Mem} {e a : Nat} (hE : ExS sh.1 e) (hI : ExI g e) (ha : sh.1 a = some (0, 0, kN)) (hb : g e 0 ≤ 4) (hr : (x_registerOf g e (g a 0)) = -1)  : CT w mX1_freeRegisterOf [.ref (e), .ref (a)] sh g (dQ none sh (g)) := by
  refine j_entry (by decide) rfl (Nat.le_of_ble_eq_true rfl) (fun h => by cases h) rfl ?_
  show J w mX1_freeRegisterOf 0 [(0, .ref (e)), (1, .ref (a))] [] sh g 0 0 _
  refine j_aload_n 1 0 dX1_freeRegisterOf_0 rfl rfl ?_
  refine j_aload_n 2 0 dX1_freeRegisterOf_1 rfl rfl ?_
  refine j_aload_n 3 1 dX1_freeRegisterOf_2 rfl rfl ?_
  refine j_geti 6 dX1_freeRegisterOf_3 rfl fl_X1_130 ha rfl rfl (fun r_3 => ?_)
  refine j_callV 9 (As := [.int (i32 (g (a) 0))]) (kc2 := 0) (ks2 := 0) dX1_freeRegisterOf_6 rfl mvX1_registerOf lk_X1_267 hE.ex rfl ⟨Nat.le_of_ble_eq_true rfl, rfl⟩ rfl rfl (Nat.le_of_ble_eq_true rfl) ⟨Nat.le_of_ble_eq_true rfl, Nat.le_of_ble_eq_true rfl⟩ ⟨Nat.le_of_ble_eq_true rfl, Nat.le_of_ble_eq_true rfl⟩ (c_registerOf hE hI r_3) x_d (k_d1 ?_)
  refine j_callV 12 (As := [.int (i32 (x_registerOf g e (g a 0)))]) (kc2 := 0) (ks2 := 0) dX1_freeRegisterOf_9 rfl mvX1_registerAt lk_X1_270 hE.ex rfl ⟨Nat.le_of_ble_eq_true rfl, rfl⟩ rfl rfl (Nat.le_of_ble_eq_true rfl) ⟨Nat.le_of_ble_eq_true rfl, Nat.le_of_ble_eq_true rfl⟩ ⟨Nat.le_of_ble_eq_true rfl, Nat.le_of_ble_eq_true rfl⟩ (c_registerAt0 hE hb (fst_r32 _ (by decide)) (by omega)) x_d (k_d1 ?_)
  refine j_astore_nN 13 (L2 := [(2, .null), (0, .ref (e)), (1, .ref (a))]) dX1_freeRegisterOf_12 rfl rfl (Nat.le_of_ble_eq_true rfl) rfl ?_
  refine j_aload_nN 14 0 dX1_freeRegisterOf_13 rfl rfl ?_
  refine j_ifnullN 22 dX1_freeRegisterOf_14 rfl ?_
  exact j_vret dX1_freeRegisterOf_22 rfl (⟨rfl, rfl, rfl⟩)

set_option maxRecDepth 20000 in
theorem c_freeRegisterOf1 {w : Wd} {sh : Shp} {g : Mem} {e a : Nat} (hE : ExS sh.1 e) (hI : ExI g e) (ha : sh.1 a = some (0, 0, kN)) (hb : g e 0 ≤ 4) (hr : 0 ≤ (x_registerOf g e (g a 0)) ∧ (x_registerOf g e (g a 0)) < g e 0)  : CT w mX1_freeRegisterOf [.ref (e), .ref (a)] sh g (dQ none sh (up2 (up2 (up2 g (e + 26 + (x_registerOf g e (g a 0)).toNat) 1 (-1)) (e + 26 + (x_registerOf g e (g a 0)).toNat) 2 1) (e + 26 + (x_registerOf g e (g a 0)).toNat) 3 0)) := by
  refine j_entry (by decide) rfl (Nat.le_of_ble_eq_true rfl) (fun h => by cases h) rfl ?_
  show J w mX1_freeRegisterOf 0 [(0, .ref (e)), (1, .ref (a))] [] sh g 0 0 _
  refine j_aload_n 1 0 dX1_freeRegisterOf_0 rfl rfl ?_
  refine j_aload_n 2 0 dX1_freeRegisterOf_1 rfl rfl ?_
  refine j_aload_n 3 1 dX1_freeRegisterOf_2 rfl rfl ?_
  refine j_geti 6 dX1_freeRegisterOf_3 rfl fl_X1_130 ha rfl rfl (fun r_3 => ?_)
  refine j_callV 9 (As := [.int (i32 (g (a) 0))]) (kc2 := 0) (ks2 := 0) dX1_freeRegisterOf_6 rfl mvX1_registerOf lk_X1_267 hE.ex rfl ⟨Nat.le_of_ble_eq_true rfl, rfl⟩ rfl rfl (Nat.le_of_ble_eq_true rfl) ⟨Nat.le_of_ble_eq_true rfl, Nat.le_of_ble_eq_true rfl⟩ ⟨Nat.le_of_ble_eq_true rfl, Nat.le_of_ble_eq_true rfl⟩ (c_registerOf hE hI r_3) x_d (k_d1 ?_)
  refine j_callV 12 (As := [.int (i32 (x_registerOf g e (g a 0)))]) (kc2 := 0) (ks2 := 0) dX1_freeRegisterOf_9 rfl mvX1_registerAt lk_X1_270 hE.ex rfl ⟨Nat.le_of_ble_eq_true rfl, rfl⟩ rfl rfl (Nat.le_of_ble_eq_true rfl) ⟨Nat.le_of_ble_eq_true rfl, Nat.le_of_ble_eq_true rfl⟩ ⟨Nat.le_of_ble_eq_true rfl, Nat.le_of_ble_eq_true rfl⟩ (c_registerAt1 hE hb (fst_r32 _ (by decide)) hr) x_d (k_d1 ?_)
  refine j_astore_n 13 (L2 := [(2, .ref (e + 26 + (x_registerOf g e (g a 0)).toNat)), (0, .ref (e)), (1, .ref (a))]) dX1_freeRegisterOf_12 rfl rfl (Nat.le_of_ble_eq_true rfl) rfl ?_
  refine j_aload_n 14 0 dX1_freeRegisterOf_13 rfl rfl ?_
  refine j_ifnull 17 dX1_freeRegisterOf_14 rfl ?_
  refine j_aload_n 18 0 dX1_freeRegisterOf_17 rfl rfl ?_
  refine j_iconst 19 dX1_freeRegisterOf_18 rfl ?_
  refine j_callV 22 (As := [.int (i32 (-1))]) (kc2 := 0) (ks2 := 0) dX1_freeRegisterOf_19 rfl mvX5_serve lk_X1_96 (hE.rg (x_registerOf g e (g a 0)).toNat (by omega)) rfl ⟨Nat.le_of_ble_eq_true rfl, rfl⟩ rfl rfl (Nat.le_of_ble_eq_true rfl) ⟨Nat.le_of_ble_eq_true rfl, Nat.le_of_ble_eq_true rfl⟩ ⟨Nat.le_of_ble_eq_true rfl, Nat.le_of_ble_eq_true rfl⟩ (c_serveR (hE.rg (x_registerOf g e (g a 0)).toNat (by omega)) (r32 (by decide) (by decide))) x_d (k_d0 ?_)
  exact j_vret dX1_freeRegisterOf_22 rfl (⟨rfl, rfl, rfl⟩)

set_option maxRecDepth 20000 in
theorem c_choiceAt {w : Wd} {sh : Shp} {g : Mem} {a b : Nat} (ha : sh.1 a = some (kRt b)) (hb : sh.1 b = some (10, 3, kN)) (h3 : g a 3 ≤ 3) {x : Int} (hx : R32 x) : CT w mX6_choiceAt [.ref (a), .int (i32 (x))] sh g (dQ (some (.int (i32 (if 0 ≤ x ∧ x < g a 3 then g b x.toNat else -1)))) sh g) := by
  refine j_entry (by decide) rfl (Nat.le_of_ble_eq_true rfl) (fun h => by cases h) rfl ?_
  show J w mX6_choiceAt 0 [(0, .ref (a)), (1, .int (i32 (x)))] [] sh g 0 0 _
  refine j_iload_n 1 1 dX6_choiceAt_0 rfl rfl ?_
  refine j_if_lt 4 30 dX6_choiceAt_1 rfl rfl hx (fun c_1 => ?_) (fun c_1 => ?_)
  · have hv : (if 0 ≤ x ∧ x < g a 3 then g b x.toNat else -1) = -1 := if_neg (by omega)
    refine j_iconst 31 dX6_choiceAt_30 rfl ?_
    exact j_iret dX6_choiceAt_31 rfl (q_i hv.symm)
  · refine j_iload_n 5 1 dX6_choiceAt_4 rfl rfl ?_
    refine j_aload_n 6 0 dX6_choiceAt_5 rfl rfl ?_
    refine j_geti 9 dX6_choiceAt_6 rfl fl_X6_25 ha rfl rfl (fun r_6 => ?_)
    refine j_icmp_ge 12 30 dX6_choiceAt_9 rfl rfl hx r_6 (fun c_9 => ?_) (fun c_9 => ?_)
    · have hv : (if 0 ≤ x ∧ x < g a 3 then g b x.toNat else -1) = -1 := if_neg (by omega)
      refine j_iconst 31 dX6_choiceAt_30 rfl ?_
      exact j_iret dX6_choiceAt_31 rfl (q_i hv.symm)
    · have hv : (if 0 ≤ x ∧ x < g a 3 then g b x.toNat else -1) = g b x.toNat := if_pos (by omega)
      refine j_iload_n 13 1 dX6_choiceAt_12 rfl rfl ?_
      refine j_aload_n 14 0 dX6_choiceAt_13 rfl rfl ?_
      refine j_getr 17 dX6_choiceAt_14 rfl fl_X6_15 ha rfl (fun _ _ => rfl) rfl ?_
      refine j_alen 18 dX6_choiceAt_17 rfl hb (Nat.le_of_ble_eq_true rfl) rfl ?_
      refine j_top (y := 3) rfl ?_
      refine j_icmp_ge 21 30 dX6_choiceAt_18 rfl rfl hx (r32 (by decide) (by decide)) (fun c_18 => absurd c_18 (by omega)) (fun c_18 => ?_)
      refine j_aload_n 22 0 dX6_choiceAt_21 rfl rfl ?_
      refine j_getr 25 dX6_choiceAt_22 rfl fl_X6_15 ha rfl (fun _ _ => rfl) rfl ?_
      refine j_iload_n 26 1 dX6_choiceAt_25 rfl rfl ?_
      refine j_iald 27 x.toNat dX6_choiceAt_26 rfl hb rfl (by omega) (show x.toNat < 3 by omega) (fun r_26 => ?_)
      refine j_goto 31 dX6_choiceAt_27 rfl ?_
      exact j_iret dX6_choiceAt_31 rfl (q_i hv.symm)

set_option maxRecDepth 20000 in
theorem c_lengthOf {w : Wd} {sh : Shp} {g : Mem} {x : Int} (hx : R32 x) : CT w mX7_lengthOf [.int (i32 (x))] sh g (dQ (some (.int (i32 (((r_len 10 x : Nat) : Int))))) sh g) := by
  refine j_entry (by decide) rfl (Nat.le_of_ble_eq_true rfl) (fun h => by cases h) rfl ?_
  show J w mX7_lengthOf 0 [(0, .int (i32 (x)))] [] sh g 0 0 _
  refine j_iconst 1 dX7_lengthOf_0 rfl ?_
  refine j_istore_n 2 (L2 := [(1, .int (i32 (0))), (0, .int (i32 (x)))]) dX7_lengthOf_1 rfl rfl (Nat.le_of_ble_eq_true rfl) rfl ?_
  refine j_iload_n 3 1 dX7_lengthOf_2 rfl rfl ?_
  refine j_istore_n 4 (L2 := [(2, .int (i32 (x))), (1, .int (i32 (0))), (0, .int (i32 (x)))]) dX7_lengthOf_3 rfl rfl (Nat.le_of_ble_eq_true rfl) rfl ?_
  suffices lp_4 : ∀ (n_4 : Nat) (k : Nat) (v : Int), 10 - k < n_4 → k ≤ 10 → R32 v → v < pw (10 - k) * 10 → r_len 10 x = k + r_len (10 - k) v → J w mX7_lengthOf 4 [(2, .int (i32 (v))), (1, .int (i32 ((k : Int)))), (0, .int (i32 (x)))] [] sh g 0 0 (dQ (some (.int (i32 (((r_len 10 x : Nat) : Int))))) sh g) by
    exact lp_4 _ 0 x (Nat.lt_succ_self _) (by omega) hx (by have e1 : pw (10 - 0) * 10 = 100000000000 := rfl; have := hx.2; omega) (by rw [Nat.zero_add])
  intro n_4
  induction n_4 with
  | zero => intro k v h_; exact absurd h_ (Nat.not_lt_zero _)
  | succ n_4 ih_4 =>
    intro k v hn_4 hk hv hv10 hq
    obtain ⟨hv1, hv2⟩ := hv
    refine j_iload_n 5 0 dX7_lengthOf_4 rfl rfl ?_
    refine j_bipush 7 dX7_lengthOf_5 rfl (by decide) ?_
    refine j_icmp_lt 10 21 dX7_lengthOf_7 rfl rfl (r32 (by omega) (by omega)) (r32 (by decide) (by decide)) (fun c_7 => ?_) (fun c_7 => ?_)
    · have hz : r_len (10 - k) v = 0 := r_len_lt c_7
      refine j_iload_n 22 1 dX7_lengthOf_21 rfl rfl ?_
      exact j_iret dX7_lengthOf_22 rfl (q_i (by omega))
    · have hk9 : k < 10 := by
        rcases Nat.lt_or_ge k 10 with q | q
        · exact q
        · rw [show k = 10 by omega] at hv10; have e1 : pw (10 - 10) * 10 = 10 := rfl; omega
      have hz : r_len (10 - k) v = r_len (10 - (k + 1)) (v / 10) + 1 := by rw [show 10 - k = (10 - (k + 1)) + 1 by omega, r_len_ge c_7]
      have hb : v / 10 < pw (10 - (k + 1)) * 10 := by rw [show 10 - k = (10 - (k + 1)) + 1 by omega, pw_s] at hv10; omega
      refine j_iinc 13 1 (y := ((k + 1 : Nat) : Int)) (L2 := [(1, .int (i32 (((k + 1 : Nat) : Int)))), (2, .int (i32 (v))), (0, .int (i32 (x)))]) dX7_lengthOf_10 rfl rfl (by omega) (Nat.le_of_ble_eq_true rfl) rfl ?_
      refine j_iload_n 14 1 dX7_lengthOf_13 rfl rfl ?_
      refine j_bipush 16 dX7_lengthOf_14 rfl (by decide) ?_
      refine j_idiv 17 dX7_lengthOf_16 rfl (by omega) (by omega) (by omega) (by omega) ?_
      refine j_istore_n 18 (L2 := [(2, .int (i32 ((v) / (10)))), (1, .int (i32 (((k + 1 : Nat) : Int)))), (0, .int (i32 (x)))]) dX7_lengthOf_17 rfl rfl (Nat.le_of_ble_eq_true rfl) rfl ?_
      refine j_goto 4 dX7_lengthOf_18 rfl ?_
      exact ih_4 (k + 1) (v / 10) (by omega) (by omega) ⟨by omega, by omega⟩ hb (by omega)

set_option maxRecDepth 20000 in
theorem c_digitAt {w : Wd} {sh : Shp} {g : Mem} {x : Int} {j : Nat} (hx0 : 0 ≤ x) (hx : R32 x) (hj : j < r_len 10 x) : CT w mX7_digitAt [.int (i32 (x)), .int (i32 ((j : Int)))] sh g (dQ (some (.int (i32 (x / pw (r_len 10 x - 1 - j) % 10)))) sh g) := by
  have hl10 := r_len_le (v := x) 10
  obtain ⟨hx1, hx2⟩ := hx
  refine j_entry (by decide) rfl (Nat.le_of_ble_eq_true rfl) (fun h => by cases h) rfl ?_
  show J w mX7_digitAt 0 [(0, .int (i32 (x))), (1, .int (i32 ((j : Int))))] [] sh g 0 0 _
  refine j_iload_n 1 0 dX7_digitAt_0 rfl rfl ?_
  refine j_istore_n 2 (L2 := [(2, .int (i32 (x))), (0, .int (i32 (x))), (1, .int (i32 ((j : Int))))]) dX7_digitAt_1 rfl rfl (Nat.le_of_ble_eq_true rfl) rfl ?_
  refine j_iload_n 3 1 dX7_digitAt_2 rfl rfl ?_
  refine j_callS 6 (As := [.int (i32 (x))]) (kc2 := 0) (ks2 := 0) dX7_digitAt_3 rfl msX7_lengthOf lk_X7_7 rfl rfl (Nat.le_of_ble_eq_true rfl) ⟨Nat.le_of_ble_eq_true rfl, Nat.le_of_ble_eq_true rfl⟩ ⟨Nat.le_of_ble_eq_true rfl, Nat.le_of_ble_eq_true rfl⟩ (c_lengthOf ⟨hx1, hx2⟩) x_d (k_d1 ?_)
  refine j_iconst 7 dX7_digitAt_6 rfl ?_
  refine j_isub 8 dX7_digitAt_7 rfl ?_
  refine j_top (y := ((r_len 10 x : Int) - 1 - ((0 : Nat) : Int))) (by omega) ?_
  refine j_istore_n 9 (L2 := [(3, .int (i32 (((r_len 10 x : Int) - 1 - ((0 : Nat) : Int))))), (2, .int (i32 (x))), (0, .int (i32 (x))), (1, .int (i32 ((j : Int))))]) dX7_digitAt_8 rfl rfl (Nat.le_of_ble_eq_true rfl) rfl ?_
  suffices lp_9 : ∀ (n_9 : Nat) (k : Nat) (v : Int), r_len 10 x - 1 - j - k < n_9 → k ≤ r_len 10 x - 1 - j → v = x / pw k → J w mX7_digitAt 9 [(3, .int (i32 (((r_len 10 x : Int) - 1 - (k : Int))))), (2, .int (i32 (v))), (0, .int (i32 (x))), (1, .int (i32 ((j : Int))))] [] sh g 0 0 (dQ (some (.int (i32 (x / pw (r_len 10 x - 1 - j) % 10)))) sh g) by
    exact lp_9 _ 0 x (Nat.lt_succ_self _) (by omega) (by rw [show pw 0 = 1 from rfl, Int.ediv_one])
  intro n_9
  induction n_9 with
  | zero => intro k v h_; exact absurd h_ (Nat.not_lt_zero _)
  | succ n_9 ih_9 =>
    intro k v hn_9 hk hv
    have hv0 : 0 ≤ v := by rw [hv]; exact Int.ediv_nonneg hx0 (Int.le_of_lt (pw_pos k))
    have hv1 : v ≤ x := by rw [hv]; exact Int.ediv_le_self _ hx0
    refine j_iload_n 10 0 dX7_digitAt_9 rfl rfl ?_
    refine j_iload_n 11 3 dX7_digitAt_10 rfl rfl ?_
    refine j_icmp_le 14 25 dX7_digitAt_11 rfl rfl (r32 (by omega) (by omega)) (r32 (by omega) (by omega)) (fun c_11 => ?_) (fun c_11 => ?_)
    · refine j_iload_n 26 1 dX7_digitAt_25 rfl rfl ?_
      refine j_bipush 28 dX7_digitAt_26 rfl (by decide) ?_
      refine j_irem 29 dX7_digitAt_28 rfl (by omega) (by omega) (by omega) (by omega) ?_
      exact j_iret dX7_digitAt_29 rfl (q_i (by rw [hv, show k = r_len 10 x - 1 - j by omega]))
    · refine j_iload_n 15 1 dX7_digitAt_14 rfl rfl ?_
      refine j_bipush 17 dX7_digitAt_15 rfl (by decide) ?_
      refine j_idiv 18 dX7_digitAt_17 rfl (by omega) (by omega) (by omega) (by omega) ?_
      refine j_istore_n 19 (L2 := [(2, .int (i32 ((v) / (10)))), (3, .int (i32 (((r_len 10 x : Int) - 1 - (k : Int))))), (0, .int (i32 (x))), (1, .int (i32 ((j : Int))))]) dX7_digitAt_18 rfl rfl (Nat.le_of_ble_eq_true rfl) rfl ?_
      refine j_iinc 22 1 (y := ((r_len 10 x : Int) - 1 - ((k + 1 : Nat) : Int))) (L2 := [(3, .int (i32 (((r_len 10 x : Int) - 1 - ((k + 1 : Nat) : Int))))), (2, .int (i32 ((v) / (10)))), (0, .int (i32 (x))), (1, .int (i32 ((j : Int))))]) dX7_digitAt_19 rfl rfl (by omega) (Nat.le_of_ble_eq_true rfl) rfl ?_
      refine j_goto 9 dX7_digitAt_22 rfl ?_
      exact ih_9 (k + 1) (v / 10) (by omega) (by omega) (by rw [hv, pw_s, Int.ediv_ediv_of_nonneg (Int.le_of_lt (pw_pos k))])

set_option maxRecDepth 20000 in
theorem c_with {w : Wd} {sh : Shp} {g : Mem} {x y : Int} (hx : R32 x) (hy : R32 y) : CT w mX7_with [.int (i32 (x)), .int (i32 (y))] sh g (dQ (some (.int (i32 (x * 10 + y)))) sh g) := by
  refine j_entry (by decide) rfl (Nat.le_of_ble_eq_true rfl) (fun h => by cases h) rfl ?_
  show J w mX7_with 0 [(0, .int (i32 (x))), (1, .int (i32 (y)))] [] sh g 0 0 _
  refine j_iload_n 1 0 dX7_with_0 rfl rfl ?_
  refine j_bipush 3 dX7_with_1 rfl (by decide) ?_
  refine j_imul 4 dX7_with_3 rfl ?_
  refine j_iload_n 5 1 dX7_with_4 rfl rfl ?_
  refine j_iadd 6 dX7_with_5 rfl ?_
  exact j_iret dX7_with_6 rfl (q_i rfl)
