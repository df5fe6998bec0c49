set_option maxRecDepth 20000 in
theorem c_loadI {w : Wd} {sh : Shp} {g : Mem} {B : Nat} (hB : CxS sh.1 B) {n : Int} (hn : R32 n) (hb : n < 0 ∨ g B 1 < n) : CT w mX9_load [.ref (B), .int (i32 (n))] sh g (tQ xI sh g) := by
  refine j_entry (by decide) rfl (Nat.le_of_ble_eq_true rfl) (fun h => by cases h) rfl ?_
  show J w mX9_load 0 [(0, .ref (B)), (1, .int (i32 (n)))] [] sh g 1 6 _
  refine j_iload_n 1 1 dX9_load_0 rfl rfl ?_
  refine j_if_lt 4 12 dX9_load_1 rfl rfl hn (fun c_1 => ?_) (fun c_1 => ?_)
  · exact j_throw xI th_X9_load_12 ⟨Nat.le_of_ble_eq_true rfl, Nat.le_of_ble_eq_true rfl⟩ ⟨rfl, rfl, rfl⟩
  · refine j_iload_n 5 1 dX9_load_4 rfl rfl ?_
    refine j_aload_n 6 0 dX9_load_5 rfl rfl ?_
    refine j_geti 9 dX9_load_6 rfl fl_X9_13 hB.cx rfl rfl (fun r_6 => ?_)
    refine j_icmp_le 12 20 dX9_load_9 rfl rfl hn r_6 (fun c_9 => absurd c_9 (by omega)) (fun c_9 => ?_)
    exact j_throw xI th_X9_load_12 ⟨Nat.le_of_ble_eq_true rfl, Nat.le_of_ble_eq_true rfl⟩ ⟨rfl, rfl, rfl⟩

set_option maxRecDepth 20000 in
theorem r_loadI {w : Wd} {sh : Shp} {g : Mem} {m : Nat} (hM : MdS sh.1 m) {n : Int} (hn : R32 n) (hb : n < 0 ∨ g m 2 < n) : CT w mX10_load [.ref (m), .int (i32 (n))] sh g (dQ (some (.int (i32 0))) sh (up2 (up2 g m 0 0) m 0 1)) := by
  refine j_entry (by decide) rfl (Nat.le_of_ble_eq_true rfl) (fun h => by cases h) rfl ?_
  show J w mX10_load 0 [(0, .ref (m)), (1, .int (i32 (n)))] [] sh g 0 0 _
  refine j_aload_n 1 0 dX10_load_0 rfl rfl ?_
  refine j_iconst 2 dX10_load_1 rfl ?_
  refine j_puti 5 dX10_load_2 rfl fl_X10_35 hM.md rfl rfl rfl (r32 (by decide) (by decide)) ?_
  refine j_mn (fun g_2 hg_2 => ?_)
  refine j_aload_n 6 0 dX10_load_5 rfl rfl ?_
  refine j_iload_n 7 1 dX10_load_6 rfl rfl ?_
  refine j_iconst 8 dX10_load_7 rfl ?_
  refine j_aload_n 9 0 dX10_load_8 rfl rfl ?_
  refine j_geti 12 dX10_load_9 rfl fl_X10_38 hM.md rfl rfl (fun r_9 => ?_)
  refine j_top (y := g m 2) ((by rw [hg_2, up2_k (by decide)])) ?_
  refine j_callS 15 (As := [.int (i32 (n)), .int (i32 (0)), .int (i32 (g m 2))]) (kc2 := 0) (ks2 := 0) dX10_load_12 rfl msX10_in lk_X10_57 rfl rfl (Nat.le_of_ble_eq_true rfl) ⟨Nat.le_of_ble_eq_true rfl, Nat.le_of_ble_eq_true rfl⟩ ⟨Nat.le_of_ble_eq_true rfl, Nat.le_of_ble_eq_true rfl⟩ (r_in hn (r32 (by decide) (by decide)) (by have h := r_9; rw [hg_2, up2_k (by decide)] at h; exact h)) x_d (k_d1 ?_)
  refine j_top (y := 0) (by rw [decide_eq_false (show ¬ (0 ≤ n ∧ n ≤ g m 2) by omega)]; rfl) ?_
  refine j_if_ne 18 22 dX10_load_15 rfl rfl (r32 (by decide) (by decide)) (fun c_15 => absurd c_15 (by decide)) (fun c_15 => ?_)
  refine j_iconst 19 dX10_load_18 rfl ?_
  refine j_goto 23 dX10_load_19 rfl ?_
  refine j_iconst 24 dX10_load_23 rfl ?_
  refine j_mem (upR_id (a := m + 2)).symm ?_
  refine j_callV 27 (As := [.int (i32 (1)), .int (i32 (1))]) (kc2 := 0) (ks2 := 0) dX10_load_24 rfl mvX10_fails lk_X10_176 hM.md rfl ⟨Nat.le_of_ble_eq_true rfl, rfl⟩ rfl rfl (Nat.le_of_ble_eq_true rfl) ⟨Nat.le_of_ble_eq_true rfl, Nat.le_of_ble_eq_true rfl⟩ ⟨Nat.le_of_ble_eq_true rfl, Nat.le_of_ble_eq_true rfl⟩ (r_fails1 hM 1 (by decide) (by decide) (by decide) (by rw [hg_2]; exact up2_s)) x_d (k_d1 ?_)
  refine j_if_eq 30 32 dX10_load_27 rfl rfl (r32 (by decide) (by decide)) (fun c_27 => absurd c_27 (by decide)) (fun c_27 => ?_)
  refine j_iconst 31 dX10_load_30 rfl ?_
  exact j_iret dX10_load_31 rfl (q_gi rfl (by rw [hg_2, show (up2 g m 0 0) (m + 2) = (up2 (up2 g m 0 0) m 0 1) (m + 2) from (up2_row (by omega)).symm, upR_id]))

/-! the law's helpers: what is thrown is caught -/
def CatchAt (Y : MD) (pc : Nat) (E : String) (h : Nat) : Prop := ∃ (pre : List ExceptionTableEntry) (x : ExceptionTableEntry) (suf : List ExceptionTableEntry), tableOf (md_h Y) = pre ++ x :: suf ∧
  (∀ z ∈ pre, covers z pc = false ∨ (z.catchType ≠ 0 ∧ ∃ nm : String, Cond.classLink (md_o Y) z.catchType nm ∈ lw_good ∧ (E, nm) ∈ nc_all)) ∧ covers x pc = true ∧ x.catchType ≠ 0 ∧ Cond.classLink (md_o Y) x.catchType E ∈ lw_good ∧ (Cond.castable E E ∈ lw_good ∨ Cond.castable E E ∈ lw_face) ∧ x.handlerPc = h
theorem j_callVX {w : Wd} {Y : MD} {pc : Nat} {L : List (Nat × Value)} {S : List Value} {sh : Shp} {g : Mem} {kc ks : Nat} {Q : Post} (n : Nat) {idx np b ci : Nat} {Yc : MD} {kd : Kd} {As St : List Value} {Qc : Post} {kc2 ks2 : Nat} (hd : decode (md_c Y) pc = .ok (.invokevirtual idx, 3)) (hn : pc + 3 = n) (hm : MV Yc np) (hl : LK (md_o Y) idx Yc) (hs : sh.1 b = some kd) (hc : kd.1 = ci) (hci : ci < 10 ∧ f_C ci = (md_y Yc).cls) (hA : As.length = np) (hSt : St = As.reverse ++ .ref b :: S)
    (hrest : (S.map fun v => v.category).sum ≤ 8) (hroom : md_f Yc + 1 ≤ md_f Y ∧ 8 + (md_n Yc + 11) + md_l Yc ≤ md_l Y) (hk : md_mc Yc + kc2 ≤ kc ∧ md_ms Yc + ks2 ≤ ks) (hC : CT w Yc (.ref b :: As) sh g Qc) (kx : ∀ E sh' g', Qc (.inr E) sh' g' → ∃ h, CatchAt Y pc E h ∧ ∀ q, J w Y h L [.ref q] sh' g' kc2 ks2 Q)
    (kk : ∀ v sh' g', Qc (.inl v) sh' g' → J w Y n L (v.toList ++ S) sh' g' kc2 ks2 Q) : J w Y pc L St sh g kc ks Q := by
  subst hn
  subst hc
  intro p l e s m args below meth c H locs cells slots Z ls C hZ hR hlo hcl hsl hll
  obtain ⟨⟨m1, m2, m3, m4⟩, m5, m6, m7⟩ := hm
  obtain ⟨b1, b2, b3, b4⟩ := hR.1 b kd hs
  rw [c_E_o hci.1] at b2
  have hrec := va_recv C.2.2.2.2.2.1.1 (va_P1 b2) (q0 := 0) (cl_at kd.1 hci.1) rfl
  rw [mdW_nil m5] at m1
  have hM := hC l C.2.2.2.2.2.2.2.2.2.1
  rw [mdW_nil m5] at hM
  have hG : GoodIn lw_good (wsV (md_o Y) idx (md_y Yc).cls (md_y Yc) (Cond.code (md_y Yc) (md_c Yc) (md_n Yc) (md_r Yc) :: lw_good)) := lg_good (fun x hx => by
    simp only [wsV, List.cons_append, List.nil_append, List.mem_cons] at hx
    rcases hx with rfl | rfl | rfl | rfl | rfl | hx
    · exact hl
    · exact m6
    · exact m7
    · exact m4
    · exact m1
    · exact hx)
  have hr := vx_runV (p := p) (l := l) (e := e) (R := JR Y) (s := s) (m := m) (args := args) (below := below) (meth := meth) (c := c) (H := H) (locs := locs) (cells := cells) (slots := slots) (g := F0 m pc ls St) (As := As) (rest := S) (C := (md_y Yc).cls) ⟨C.1, C.2.1, C.2.2.1, C.2.2.2.1, C.2.2.2.2.1⟩ hM (cwV np C.2.2.2.2.1 hG rfl rfl rfl ⟨rfl, m2⟩ hroom) ⟨pc_blind, by rw [← hci.2]; exact hrec, fun U hU hW => ⟨rfl, WK.warm hW C.2.2.2.2.2.1, by rw [hU]; exact hR⟩⟩ rfl hA hll.1 hSt (lv_room hrest) hd ⟨(show cells + md_mc Yc ≤ md_mc Y by omega), (show slots + md_ms Yc ≤ md_ms Y by omega)⟩
  intro T hT X
  have hts := C.2.2.2.2.1
  rcases hr T hT X with ⟨v, st₀, t, T', L9, h0, X', hL, e1, e2, ⟨v', sh', g', hv, hQ, hR'⟩, st⟩ | ⟨q, st₀, t, T', L9, E, ce, h0, X', hL, e1, e2, ⟨sh', g', hQ, hR'⟩, hce, hcv, hcl9, st⟩
  · cases hv
    obtain ⟨t2, a1, b1⟩ := kk v sh' g' hQ p l e s m args below meth c T'.heap (locs ++ L9) (cells + md_mc Yc) (slots + md_ms Yc) Z ls C hZ (by rw [e1]; exact hR') (fun z hz => by
      rcases List.mem_append.mp hz with h | h
      · exact hlo z h
      · exact hL z h) (by omega) (by omega) hll T' rfl X'
    exact ⟨t2, st t2 a1, b1⟩
  · obtain ⟨h, ⟨pre, x, suf, t1, t2, t3, t4, t5, t6, t7⟩, kJ⟩ := kx E sh' g' hQ
    have kW := kJ q p l e s m args below meth c T'.heap (locs ++ L9) (cells + md_mc Yc) (slots + md_ms Yc) Z ls C hZ (by rw [e1]; exact hR') (fun z hz => by
      rcases List.mem_append.mp hz with h | h
      · exact hlo z h
      · exact hL z h) (by omega) (by omega) hll
    have hcs : (Cond.castable E E).before args s = true := by
      rcases t6 with h | h
      · exact hts _ h
      · have hb9 := (List.mem_filter.mp h).2
        simp only [Bool.and_eq_true] at hb9
        exact va_any hb9.1 (C.2.2.2.2.2.1.2.2.2.2.1 _ h)
    have kC := vx_catch (p := p) (l := l) (e := e) (R := JR Y) (s := s) (m := m) (args := args) (below := below) (meth := meth) (c := c) (H := T'.heap) (pc := pc) (ls := ls) (rest := S) (Q := Z) C.2.2.2.1 pre x suf (C.2.2.2.2.2.2.2.2.2.2.1.trans t1) (fun z hz => by
      rcases t2 z hz with h | ⟨h1, nm, h2, h3⟩
      · exact Or.inl h
      · exact Or.inr ⟨h1, nm, hts _ h2, C.2.2.2.2.2.1.2.2.2.2.2.1 _ h3⟩) t3 t4 (hts _ t5) hcs (by rw [e1]; exact hce) hcv hcl9 (by rw [t7]; exact kW)
    obtain ⟨t2', a1, b1⟩ := kC T' rfl X'
    exact ⟨t2', st.trans a1, b1⟩
theorem j_entryH {w : Wd} {Y : MD} {args : List Value} {sh : Shp} {g : Mem} {Q : Post} (hY : plainName (md_y Y).cls = true) (hW : mdW Y = Cond.codeWith (md_y Y) (md_c Y) (md_n Y) (md_r Y) (md_h Y)) (hn : (lg_sl args).length ≤ md_n Y) (hi : md_i Y = false) (hown : (md_y Y).cls = md_o Y)
    (k : J w Y 0 (lv_args 0 args) [] sh g (md_mc Y) (md_ms Y) Q) : CT w Y args sh g Q := by
  intro l hl
  refine vx_ofWH (cc := md_c Y) (maxL := md_n Y) (ret := md_r Y) (hh := md_h Y) (ws' := lw_good) hY (by rw [hW]) ?_
  intro p e s m a below meth c s₁ B hml hP
  obtain ⟨rfl, hWK, hR⟩ := hP
  have hts := atoms_spec (ws := mdW Y :: lw_good) B.pre
  have htab := vx_table (x := md_y Y) B (by have h := hts _ List.mem_cons_self; rw [hW] at h; exact h)
  have C : JC w Y p l s m args.toArray meth c := by
    refine ⟨B.exec, B.bytes, hml, ?_, fun x hx => hts x (List.mem_cons_of_mem _ hx), hWK, hR.2.2.1, hR.2.1, fun h => ?_, hl, htab, B.returns, B.notSynchronized⟩
    · rw [← hown]; exact findClass_of_methodNamed B.named
    · rw [hi] at h; cases h
  have hls := lv_entry args (n := md_n Y) hn
  rw [lg_entry_eq]
  exact k p l e s m args.toArray below meth c s.heap [] 0 0 _ _ C (jz_met C) hR (fun z hz => by cases hz) (by omega) (by omega) hls
/-- a static call of a method with a table, that throws nothing -/
theorem j_callSH {w : Wd} {Y : MD} {pc : Nat} {L : List (Nat × Value)} {S : List Value} {sh : Shp} {g : Mem} {kc ks : Nat} {Q : Post} (n : Nat) {idx np : Nat} {Yc : MD} {As St : List Value} {Qc : Post} {kc2 ks2 : Nat} (hd : decode (md_c Y) pc = .ok (.invokestatic idx, 3)) (hn : pc + 3 = n) (hm : MK Yc np) (hst : Cond.static (md_y Yc) ∈ lw_good) (hW : mdW Yc = Cond.codeWith (md_y Yc) (md_c Yc) (md_n Yc) (md_r Yc) (md_h Yc)) (hl : LK (md_o Y) idx Yc) (hA : As.length = np) (hSt : St = As.reverse ++ S)
    (hrest : (S.map fun v => v.category).sum ≤ 8) (hroom : md_f Yc + 1 ≤ md_f Y ∧ 8 + (md_n Yc + 11) + md_l Yc ≤ md_l Y) (hk : md_mc Yc + kc2 ≤ kc ∧ md_ms Yc + ks2 ≤ ks) (hC : CT w Yc As sh g Qc) (kx : ∀ E sh' g', ¬ Qc (.inr E) sh' g')
    (kk : ∀ v sh' g', Qc (.inl v) sh' g' → J w Y n L (v.toList ++ S) sh' g' kc2 ks2 Q) : J w Y pc L St sh g kc ks Q := by
  subst hn
  intro p l e s m args below meth c H locs cells slots Z ls C hZ hR hlo hcl hsl hll
  obtain ⟨m1, m2, m3, m4⟩ := hm
  rw [hW] at m1
  have hM := hC l C.2.2.2.2.2.2.2.2.2.1
  rw [hW] at hM
  have hts := C.2.2.2.2.1
  have hG : GoodIn lw_good (va_wsS (md_o Y) idx (md_y Yc) (Cond.codeWith (md_y Yc) (md_c Yc) (md_n Yc) (md_r Yc) (md_h Yc) :: lw_good)) := lg_good (fun x hx => by
    simp only [va_wsS, List.cons_append, List.nil_append, List.mem_cons, List.mem_append] at hx
    first
      | (rcases hx with rfl | rfl | rfl | rfl | hx
         · first | exact hl | exact hst | exact m4 | exact m1
         · first | exact hl | exact hst | exact m4 | exact m1
         · first | exact hl | exact hst | exact m4 | exact m1
         · first | exact hl | exact hst | exact m4 | exact m1
         · exact hx))
  refine j_back (a9 := As.toArray) (vx_runSX (As := As) (rest := S) ⟨C.1, C.2.1, C.2.2.1, C.2.2.2.1, hts⟩ hM (vx_cwSW np hts hG rfl rfl rfl m2 hroom) ⟨pc_blind, fun U hU hW => ⟨rfl, WK.warm hW C.2.2.2.2.2.1, by rw [hU]; exact hR⟩⟩ rfl hA hll.1 hSt (lv_room hrest) hd ⟨?_, ?_⟩) kx kk C hZ hlo ?_ ?_ hll
  · show cells + md_mc Yc ≤ md_mc Y; omega
  · show slots + md_ms Yc ≤ md_ms Y; omega
  · omega
  · omega
theorem cc_I : Cond.castable xI xI ∈ lw_good ∨ Cond.castable xI xI ∈ lw_face := by decide +kernel
theorem cc_B : Cond.castable xB xB ∈ lw_good ∨ Cond.castable xB xB ∈ lw_face := by decide +kernel
theorem cc_N : Cond.castable xN xN ∈ lw_good ∨ Cond.castable xN xN ∈ lw_face := by decide +kernel
theorem cc_S : Cond.castable xS xS ∈ lw_good ∨ Cond.castable xS xS ∈ lw_face := by decide +kernel
theorem cl_I : Cond.classLink RL 13 xI ∈ lw_good := by decide +kernel
theorem cl_B : Cond.classLink RL 22 xB ∈ lw_good := by decide +kernel
theorem cl_N : Cond.classLink RL 39 xN ∈ lw_good := by decide +kernel
theorem cl_S : Cond.classLink RL 58 xS ∈ lw_good := by decide +kernel
/-- a helper's answer: 0 and the callee's answer in o, or the number of what was thrown -/
def LQ (Qc : Post) (o : Nat) (ks : List (String × Int)) : Post := fun r sh2 g2 => (∃ (x : Int32) (g' : Mem), Qc (.inl (some (.int x))) sh2 g' ∧ r = .inl (some (.int (i32 0))) ∧ g2 = up2 g' o 0 x.toInt) ∨ (∃ E k, (E, k) ∈ ks ∧ Qc (.inr E) sh2 g2 ∧ r = .inl (some (.int (i32 k))))
theorem x_lq {Qc : Post} {o : Nat} {ks : List (String × Int)} : ∀ E sh' g', ¬ LQ Qc o ks (.inr E) sh' g' := fun E sh' g' h => by
  rcases h with ⟨x, g', -, h, -⟩ | ⟨E2, k, -, -, h⟩ <;> cases h

theorem h_load {w : Wd} {sh : Shp} {g : Mem} {B o : Nat} {kd : Kd} {a1 : Int} {Qc : Post} (hB : sh.1 B = some kd) (hkd : kd.1 = 8) (hC : CT w mX9_load [.ref B, .int (i32 a1)] sh g Qc) (hv : ∀ v sh' g', Qc (.inl v) sh' g' → ∃ x : Int32, v = some (.int x)) (ho : ∀ v sh' g', Qc (.inl v) sh' g' → sh'.1 o = some (12, 1, kN)) (hE : ∀ E sh' g', Qc (.inr E) sh' g' → E ∈ [xI]) :
    CT w mL_load [.ref B, .int (i32 a1), .ref o] sh g (LQ Qc o [(xI, 1)]) := by
  refine j_entryH (by decide) rfl (Nat.le_of_ble_eq_true rfl) rfl rfl ?_
  show J w mL_load 0 [(0, .ref B), (1, .int (i32 a1)), (2, .ref o)] [] sh g 1 6 _
  refine j_aload_n 1 2 dL_load_0 rfl rfl ?_
  refine j_iconst 2 dL_load_1 rfl ?_
  refine j_aload_n 3 0 dL_load_2 rfl rfl ?_
  refine j_iload_n 4 1 dL_load_3 rfl rfl ?_
  refine j_callVX 7 (As := [.int (i32 a1)]) (kc2 := 0) (ks2 := 0) dL_load_4 rfl mvX9_load lk_L_7 hB hkd ⟨by decide, rfl⟩ rfl rfl (Nat.le_of_ble_eq_true rfl) ⟨Nat.le_of_ble_eq_true rfl, Nat.le_of_ble_eq_true rfl⟩ ⟨Nat.le_of_ble_eq_true rfl, Nat.le_of_ble_eq_true rfl⟩ hC (fun E sh2 g2 hq => ?_) (fun v sh2 g2 hq => ?_)
  · have hEm := hE E sh2 g2 hq
    have hEm : E = xI := by simpa using hEm
    subst hEm
    · refine ⟨12, ⟨[], _, _, rfl, (fun z hz => (by cases hz)), by decide, by decide, cl_I, cc_I, rfl⟩, fun q => ?_⟩
      refine j_astore_n 13 (L2 := [(3, .ref q), (0, .ref B), (1, .int (i32 a1)), (2, .ref o)]) dL_load_12 rfl rfl (Nat.le_of_ble_eq_true rfl) rfl ?_
      refine j_iconst 14 dL_load_13 rfl ?_
      exact j_iret dL_load_14 rfl (Or.inr ⟨xI, 1, by simp, hq, rfl⟩)
  · obtain ⟨x, rfl⟩ := hv v sh2 g2 hq
    have hos := ho _ sh2 g2 hq
    refine j_topI (y := x.toInt) (i32_asI x).symm ?_
    refine j_i2l 8 dL_load_7 rfl (i32_rng x) ?_
    refine j_last 9 0 dL_load_8 rfl hos rfl rfl (by decide) ?_
    refine j_goto 15 dL_load_9 rfl ?_
    refine j_iconst 16 dL_load_15 rfl ?_
    exact j_iret dL_load_16 rfl (Or.inl ⟨x, g2, hq, rfl, rfl⟩)

theorem h_state {w : Wd} {sh : Shp} {g : Mem} {B o : Nat} {kd : Kd} {a1 : Int} {Qc : Post} (hB : sh.1 B = some kd) (hkd : kd.1 = 8) (hC : CT w mX9_state [.ref B, .int (i32 a1)] sh g Qc) (hv : ∀ v sh' g', Qc (.inl v) sh' g' → ∃ x : Int32, v = some (.int x)) (ho : ∀ v sh' g', Qc (.inl v) sh' g' → sh'.1 o = some (12, 1, kN)) (hE : ∀ E sh' g', Qc (.inr E) sh' g' → E ∈ [xI]) :
    CT w mL_state [.ref B, .int (i32 a1), .ref o] sh g (LQ Qc o [(xI, 1)]) := by
  refine j_entryH (by decide) rfl (Nat.le_of_ble_eq_true rfl) rfl rfl ?_
  show J w mL_state 0 [(0, .ref B), (1, .int (i32 a1)), (2, .ref o)] [] sh g 1 6 _
  refine j_aload_n 1 2 dL_state_0 rfl rfl ?_
  refine j_iconst 2 dL_state_1 rfl ?_
  refine j_aload_n 3 0 dL_state_2 rfl rfl ?_
  refine j_iload_n 4 1 dL_state_3 rfl rfl ?_
  refine j_callVX 7 (As := [.int (i32 a1)]) (kc2 := 0) (ks2 := 0) dL_state_4 rfl mvX9_state lk_L_15 hB hkd ⟨by decide, rfl⟩ rfl rfl (Nat.le_of_ble_eq_true rfl) ⟨Nat.le_of_ble_eq_true rfl, Nat.le_of_ble_eq_true rfl⟩ ⟨Nat.le_of_ble_eq_true rfl, Nat.le_of_ble_eq_true rfl⟩ hC (fun E sh2 g2 hq => ?_) (fun v sh2 g2 hq => ?_)
  · have hEm := hE E sh2 g2 hq
    have hEm : E = xI := by simpa using hEm
    subst hEm
    · refine ⟨12, ⟨[], _, _, rfl, (fun z hz => (by cases hz)), by decide, by decide, cl_I, cc_I, rfl⟩, fun q => ?_⟩
      refine j_astore_n 13 (L2 := [(3, .ref q), (0, .ref B), (1, .int (i32 a1)), (2, .ref o)]) dL_state_12 rfl rfl (Nat.le_of_ble_eq_true rfl) rfl ?_
      refine j_iconst 14 dL_state_13 rfl ?_
      exact j_iret dL_state_14 rfl (Or.inr ⟨xI, 1, by simp, hq, rfl⟩)
  · obtain ⟨x, rfl⟩ := hv v sh2 g2 hq
    have hos := ho _ sh2 g2 hq
    refine j_topI (y := x.toInt) (i32_asI x).symm ?_
    refine j_i2l 8 dL_state_7 rfl (i32_rng x) ?_
    refine j_last 9 0 dL_state_8 rfl hos rfl rfl (by decide) ?_
    refine j_goto 15 dL_state_9 rfl ?_
    refine j_iconst 16 dL_state_15 rfl ?_
    exact j_iret dL_state_16 rfl (Or.inl ⟨x, g2, hq, rfl, rfl⟩)

theorem h_line {w : Wd} {sh : Shp} {g : Mem} {B o : Nat} {kd : Kd} {a1 a2 : Int} {Qc : Post} (hB : sh.1 B = some kd) (hkd : kd.1 = 8) (hC : CT w mX9_line [.ref B, .int (i32 a1), .int (i32 a2)] sh g Qc) (hv : ∀ v sh' g', Qc (.inl v) sh' g' → ∃ x : Int32, v = some (.int x)) (ho : ∀ v sh' g', Qc (.inl v) sh' g' → sh'.1 o = some (12, 1, kN)) (hE : ∀ E sh' g', Qc (.inr E) sh' g' → E ∈ [xB, xI]) :
    CT w mL_line [.ref B, .int (i32 a1), .int (i32 a2), .ref o] sh g (LQ Qc o [(xB, 1), (xI, 2)]) := by
  refine j_entryH (by decide) rfl (Nat.le_of_ble_eq_true rfl) rfl rfl ?_
  show J w mL_line 0 [(0, .ref B), (1, .int (i32 a1)), (2, .int (i32 a2)), (3, .ref o)] [] sh g 1 6 _
  refine j_aload_n 1 3 dL_line_0 rfl rfl ?_
  refine j_iconst 2 dL_line_1 rfl ?_
  refine j_aload_n 3 0 dL_line_2 rfl rfl ?_
  refine j_iload_n 4 1 dL_line_3 rfl rfl ?_
  refine j_iload_n 5 2 dL_line_4 rfl rfl ?_
  refine j_callVX 8 (As := [.int (i32 a1), .int (i32 a2)]) (kc2 := 0) (ks2 := 0) dL_line_5 rfl mvX9_line lk_L_18 hB hkd ⟨by decide, rfl⟩ rfl rfl (Nat.le_of_ble_eq_true rfl) ⟨Nat.le_of_ble_eq_true rfl, Nat.le_of_ble_eq_true rfl⟩ ⟨Nat.le_of_ble_eq_true rfl, Nat.le_of_ble_eq_true rfl⟩ hC (fun E sh2 g2 hq => ?_) (fun v sh2 g2 hq => ?_)
  · have hEm := hE E sh2 g2 hq
    have hEm : E = xB ∨ E = xI := by simpa using hEm
    rcases hEm with rfl | rfl
    · refine ⟨13, ⟨[], _, _, rfl, (fun z hz => (by cases hz)), by decide, by decide, cl_B, cc_B, rfl⟩, fun q => ?_⟩
      refine j_astore 15 (L2 := [(4, .ref q), (0, .ref B), (1, .int (i32 a1)), (2, .int (i32 a2)), (3, .ref o)]) dL_line_13 rfl (Nat.le_of_ble_eq_true rfl) rfl ?_
      refine j_iconst 16 dL_line_15 rfl ?_
      exact j_iret dL_line_16 rfl (Or.inr ⟨xB, 1, by simp, hq, rfl⟩)
    · refine ⟨17, ⟨[(⟨0, 10, 13, 22⟩ : ExceptionTableEntry)], _, _, rfl, (fun z hz => by
        simp only [List.mem_cons, List.not_mem_nil, or_false] at hz
        subst hz
        exact Or.inr ⟨by decide, xB, cl_B, by decide⟩), by decide, by decide, cl_I, cc_I, rfl⟩, fun q => ?_⟩
      refine j_astore 19 (L2 := [(4, .ref q), (0, .ref B), (1, .int (i32 a1)), (2, .int (i32 a2)), (3, .ref o)]) dL_line_17 rfl (Nat.le_of_ble_eq_true rfl) rfl ?_
      refine j_iconst 20 dL_line_19 rfl ?_
      exact j_iret dL_line_20 rfl (Or.inr ⟨xI, 2, by simp, hq, rfl⟩)
  · obtain ⟨x, rfl⟩ := hv v sh2 g2 hq
    have hos := ho _ sh2 g2 hq
    refine j_topI (y := x.toInt) (i32_asI x).symm ?_
    refine j_i2l 9 dL_line_8 rfl (i32_rng x) ?_
    refine j_last 10 0 dL_line_9 rfl hos rfl rfl (by decide) ?_
    refine j_goto 21 dL_line_10 rfl ?_
    refine j_iconst 22 dL_line_21 rfl ?_
    exact j_iret dL_line_22 rfl (Or.inl ⟨x, g2, hq, rfl, rfl⟩)

theorem h_group {w : Wd} {sh : Shp} {g : Mem} {B o : Nat} {kd : Kd} {a1 a2 : Int} {Qc : Post} (hB : sh.1 B = some kd) (hkd : kd.1 = 8) (hC : CT w mX9_group [.ref B, .int (i32 a1), .int (i32 a2)] sh g Qc) (hv : ∀ v sh' g', Qc (.inl v) sh' g' → ∃ x : Int32, v = some (.int x)) (ho : ∀ v sh' g', Qc (.inl v) sh' g' → sh'.1 o = some (12, 1, kN)) (hE : ∀ E sh' g', Qc (.inr E) sh' g' → E ∈ [xB, xI]) :
    CT w mL_group [.ref B, .int (i32 a1), .int (i32 a2), .ref o] sh g (LQ Qc o [(xB, 1), (xI, 2)]) := by
  refine j_entryH (by decide) rfl (Nat.le_of_ble_eq_true rfl) rfl rfl ?_
  show J w mL_group 0 [(0, .ref B), (1, .int (i32 a1)), (2, .int (i32 a2)), (3, .ref o)] [] sh g 1 6 _
  refine j_aload_n 1 3 dL_group_0 rfl rfl ?_
  refine j_iconst 2 dL_group_1 rfl ?_
  refine j_aload_n 3 0 dL_group_2 rfl rfl ?_
  refine j_iload_n 4 1 dL_group_3 rfl rfl ?_
  refine j_iload_n 5 2 dL_group_4 rfl rfl ?_
  refine j_callVX 8 (As := [.int (i32 a1), .int (i32 a2)]) (kc2 := 0) (ks2 := 0) dL_group_5 rfl mvX9_group lk_L_24 hB hkd ⟨by decide, rfl⟩ rfl rfl (Nat.le_of_ble_eq_true rfl) ⟨Nat.le_of_ble_eq_true rfl, Nat.le_of_ble_eq_true rfl⟩ ⟨Nat.le_of_ble_eq_true rfl, Nat.le_of_ble_eq_true rfl⟩ hC (fun E sh2 g2 hq => ?_) (fun v sh2 g2 hq => ?_)
  · have hEm := hE E sh2 g2 hq
    have hEm : E = xB ∨ E = xI := by simpa using hEm
    rcases hEm with rfl | rfl
    · refine ⟨13, ⟨[], _, _, rfl, (fun z hz => (by cases hz)), by decide, by decide, cl_B, cc_B, rfl⟩, fun q => ?_⟩
      refine j_astore 15 (L2 := [(4, .ref q), (0, .ref B), (1, .int (i32 a1)), (2, .int (i32 a2)), (3, .ref o)]) dL_group_13 rfl (Nat.le_of_ble_eq_true rfl) rfl ?_
      refine j_iconst 16 dL_group_15 rfl ?_
      exact j_iret dL_group_16 rfl (Or.inr ⟨xB, 1, by simp, hq, rfl⟩)
    · refine ⟨17, ⟨[(⟨0, 10, 13, 22⟩ : ExceptionTableEntry)], _, _, rfl, (fun z hz => by
        simp only [List.mem_cons, List.not_mem_nil, or_false] at hz
        subst hz
        exact Or.inr ⟨by decide, xB, cl_B, by decide⟩), by decide, by decide, cl_I, cc_I, rfl⟩, fun q => ?_⟩
      refine j_astore 19 (L2 := [(4, .ref q), (0, .ref B), (1, .int (i32 a1)), (2, .int (i32 a2)), (3, .ref o)]) dL_group_17 rfl (Nat.le_of_ble_eq_true rfl) rfl ?_
      refine j_iconst 20 dL_group_19 rfl ?_
      exact j_iret dL_group_20 rfl (Or.inr ⟨xI, 2, by simp, hq, rfl⟩)
  · obtain ⟨x, rfl⟩ := hv v sh2 g2 hq
    have hos := ho _ sh2 g2 hq
    refine j_topI (y := x.toInt) (i32_asI x).symm ?_
    refine j_i2l 9 dL_group_8 rfl (i32_rng x) ?_
    refine j_last 10 0 dL_group_9 rfl hos rfl rfl (by decide) ?_
    refine j_goto 21 dL_group_10 rfl ?_
    refine j_iconst 22 dL_group_21 rfl ?_
    exact j_iret dL_group_22 rfl (Or.inl ⟨x, g2, hq, rfl, rfl⟩)

theorem h_register {w : Wd} {sh : Shp} {g : Mem} {B o : Nat} {kd : Kd} {a1 a2 : Int} {Qc : Post} (hB : sh.1 B = some kd) (hkd : kd.1 = 8) (hC : CT w mX9_register [.ref B, .int (i32 a1), .int (i32 a2)] sh g Qc) (hv : ∀ v sh' g', Qc (.inl v) sh' g' → ∃ x : Int32, v = some (.int x)) (ho : ∀ v sh' g', Qc (.inl v) sh' g' → sh'.1 o = some (12, 1, kN)) (hE : ∀ E sh' g', Qc (.inr E) sh' g' → E ∈ [xB, xI]) :
    CT w mL_register [.ref B, .int (i32 a1), .int (i32 a2), .ref o] sh g (LQ Qc o [(xB, 1), (xI, 2)]) := by
  refine j_entryH (by decide) rfl (Nat.le_of_ble_eq_true rfl) rfl rfl ?_
  show J w mL_register 0 [(0, .ref B), (1, .int (i32 a1)), (2, .int (i32 a2)), (3, .ref o)] [] sh g 1 6 _
  refine j_aload_n 1 3 dL_register_0 rfl rfl ?_
  refine j_iconst 2 dL_register_1 rfl ?_
  refine j_aload_n 3 0 dL_register_2 rfl rfl ?_
  refine j_iload_n 4 1 dL_register_3 rfl rfl ?_
  refine j_iload_n 5 2 dL_register_4 rfl rfl ?_
  refine j_callVX 8 (As := [.int (i32 a1), .int (i32 a2)]) (kc2 := 0) (ks2 := 0) dL_register_5 rfl mvX9_register lk_L_27 hB hkd ⟨by decide, rfl⟩ rfl rfl (Nat.le_of_ble_eq_true rfl) ⟨Nat.le_of_ble_eq_true rfl, Nat.le_of_ble_eq_true rfl⟩ ⟨Nat.le_of_ble_eq_true rfl, Nat.le_of_ble_eq_true rfl⟩ hC (fun E sh2 g2 hq => ?_) (fun v sh2 g2 hq => ?_)
  · have hEm := hE E sh2 g2 hq
    have hEm : E = xB ∨ E = xI := by simpa using hEm
    rcases hEm with rfl | rfl
    · refine ⟨13, ⟨[], _, _, rfl, (fun z hz => (by cases hz)), by decide, by decide, cl_B, cc_B, rfl⟩, fun q => ?_⟩
      refine j_astore 15 (L2 := [(4, .ref q), (0, .ref B), (1, .int (i32 a1)), (2, .int (i32 a2)), (3, .ref o)]) dL_register_13 rfl (Nat.le_of_ble_eq_true rfl) rfl ?_
      refine j_iconst 16 dL_register_15 rfl ?_
      exact j_iret dL_register_16 rfl (Or.inr ⟨xB, 1, by simp, hq, rfl⟩)
    · refine ⟨17, ⟨[(⟨0, 10, 13, 22⟩ : ExceptionTableEntry)], _, _, rfl, (fun z hz => by
        simp only [List.mem_cons, List.not_mem_nil, or_false] at hz
        subst hz
        exact Or.inr ⟨by decide, xB, cl_B, by decide⟩), by decide, by decide, cl_I, cc_I, rfl⟩, fun q => ?_⟩
      refine j_astore 19 (L2 := [(4, .ref q), (0, .ref B), (1, .int (i32 a1)), (2, .int (i32 a2)), (3, .ref o)]) dL_register_17 rfl (Nat.le_of_ble_eq_true rfl) rfl ?_
      refine j_iconst 20 dL_register_19 rfl ?_
      exact j_iret dL_register_20 rfl (Or.inr ⟨xI, 2, by simp, hq, rfl⟩)
  · obtain ⟨x, rfl⟩ := hv v sh2 g2 hq
    have hos := ho _ sh2 g2 hq
    refine j_topI (y := x.toInt) (i32_asI x).symm ?_
    refine j_i2l 9 dL_register_8 rfl (i32_rng x) ?_
    refine j_last 10 0 dL_register_9 rfl hos rfl rfl (by decide) ?_
    refine j_goto 21 dL_register_10 rfl ?_
    refine j_iconst 22 dL_register_21 rfl ?_
    exact j_iret dL_register_22 rfl (Or.inl ⟨x, g2, hq, rfl, rfl⟩)

theorem h_marker {w : Wd} {sh : Shp} {g : Mem} {B o : Nat} {kd : Kd} {a1 a2 : Int} {Qc : Post} (hB : sh.1 B = some kd) (hkd : kd.1 = 8) (hC : CT w mX9_marker [.ref B, .int (i32 a1), .int (i32 a2)] sh g Qc) (hv : ∀ v sh' g', Qc (.inl v) sh' g' → ∃ x : Int32, v = some (.int x)) (ho : ∀ v sh' g', Qc (.inl v) sh' g' → sh'.1 o = some (12, 1, kN)) (hE : ∀ E sh' g', Qc (.inr E) sh' g' → E ∈ [xB, xI]) :
    CT w mL_marker [.ref B, .int (i32 a1), .int (i32 a2), .ref o] sh g (LQ Qc o [(xB, 1), (xI, 2)]) := by
  refine j_entryH (by decide) rfl (Nat.le_of_ble_eq_true rfl) rfl rfl ?_
  show J w mL_marker 0 [(0, .ref B), (1, .int (i32 a1)), (2, .int (i32 a2)), (3, .ref o)] [] sh g 1 6 _
  refine j_aload_n 1 3 dL_marker_0 rfl rfl ?_
  refine j_iconst 2 dL_marker_1 rfl ?_
  refine j_aload_n 3 0 dL_marker_2 rfl rfl ?_
  refine j_iload_n 4 1 dL_marker_3 rfl rfl ?_
  refine j_iload_n 5 2 dL_marker_4 rfl rfl ?_
  refine j_callVX 8 (As := [.int (i32 a1), .int (i32 a2)]) (kc2 := 0) (ks2 := 0) dL_marker_5 rfl mvX9_marker lk_L_30 hB hkd ⟨by decide, rfl⟩ rfl rfl (Nat.le_of_ble_eq_true rfl) ⟨Nat.le_of_ble_eq_true rfl, Nat.le_of_ble_eq_true rfl⟩ ⟨Nat.le_of_ble_eq_true rfl, Nat.le_of_ble_eq_true rfl⟩ hC (fun E sh2 g2 hq => ?_) (fun v sh2 g2 hq => ?_)
  · have hEm := hE E sh2 g2 hq
    have hEm : E = xB ∨ E = xI := by simpa using hEm
    rcases hEm with rfl | rfl
    · refine ⟨13, ⟨[], _, _, rfl, (fun z hz => (by cases hz)), by decide, by decide, cl_B, cc_B, rfl⟩, fun q => ?_⟩
      refine j_astore 15 (L2 := [(4, .ref q), (0, .ref B), (1, .int (i32 a1)), (2, .int (i32 a2)), (3, .ref o)]) dL_marker_13 rfl (Nat.le_of_ble_eq_true rfl) rfl ?_
      refine j_iconst 16 dL_marker_15 rfl ?_
      exact j_iret dL_marker_16 rfl (Or.inr ⟨xB, 1, by simp, hq, rfl⟩)
    · refine ⟨17, ⟨[(⟨0, 10, 13, 22⟩ : ExceptionTableEntry)], _, _, rfl, (fun z hz => by
        simp only [List.mem_cons, List.not_mem_nil, or_false] at hz
        subst hz
        exact Or.inr ⟨by decide, xB, cl_B, by decide⟩), by decide, by decide, cl_I, cc_I, rfl⟩, fun q => ?_⟩
      refine j_astore 19 (L2 := [(4, .ref q), (0, .ref B), (1, .int (i32 a1)), (2, .int (i32 a2)), (3, .ref o)]) dL_marker_17 rfl (Nat.le_of_ble_eq_true rfl) rfl ?_
      refine j_iconst 20 dL_marker_19 rfl ?_
      exact j_iret dL_marker_20 rfl (Or.inr ⟨xI, 2, by simp, hq, rfl⟩)
  · obtain ⟨x, rfl⟩ := hv v sh2 g2 hq
    have hos := ho _ sh2 g2 hq
    refine j_topI (y := x.toInt) (i32_asI x).symm ?_
    refine j_i2l 9 dL_marker_8 rfl (i32_rng x) ?_
    refine j_last 10 0 dL_marker_9 rfl hos rfl rfl (by decide) ?_
    refine j_goto 21 dL_marker_10 rfl ?_
    refine j_iconst 22 dL_marker_21 rfl ?_
    exact j_iret dL_marker_22 rfl (Or.inl ⟨x, g2, hq, rfl, rfl⟩)

theorem h_call {w : Wd} {sh : Shp} {g : Mem} {B o : Nat} {kd : Kd} {a1 a2 : Int} {Qc : Post} (hB : sh.1 B = some kd) (hkd : kd.1 = 8) (hC : CT w mX9_call [.ref B, .int (i32 a1), .int (i32 a2)] sh g Qc) (hv : ∀ v sh' g', Qc (.inl v) sh' g' → ∃ x : Int32, v = some (.int x)) (ho : ∀ v sh' g', Qc (.inl v) sh' g' → sh'.1 o = some (12, 1, kN)) (hE : ∀ E sh' g', Qc (.inr E) sh' g' → E ∈ [xB, xI]) :
    CT w mL_call [.ref B, .int (i32 a1), .int (i32 a2), .ref o] sh g (LQ Qc o [(xB, 1), (xI, 2)]) := by
  refine j_entryH (by decide) rfl (Nat.le_of_ble_eq_true rfl) rfl rfl ?_
  show J w mL_call 0 [(0, .ref B), (1, .int (i32 a1)), (2, .int (i32 a2)), (3, .ref o)] [] sh g 1 6 _
  refine j_aload_n 1 3 dL_call_0 rfl rfl ?_
  refine j_iconst 2 dL_call_1 rfl ?_
  refine j_aload_n 3 0 dL_call_2 rfl rfl ?_
  refine j_iload_n 4 1 dL_call_3 rfl rfl ?_
  refine j_iload_n 5 2 dL_call_4 rfl rfl ?_
  refine j_callVX 8 (As := [.int (i32 a1), .int (i32 a2)]) (kc2 := 0) (ks2 := 0) dL_call_5 rfl mvX9_call lk_L_33 hB hkd ⟨by decide, rfl⟩ rfl rfl (Nat.le_of_ble_eq_true rfl) ⟨Nat.le_of_ble_eq_true rfl, Nat.le_of_ble_eq_true rfl⟩ ⟨Nat.le_of_ble_eq_true rfl, Nat.le_of_ble_eq_true rfl⟩ hC (fun E sh2 g2 hq => ?_) (fun v sh2 g2 hq => ?_)
  · have hEm := hE E sh2 g2 hq
    have hEm : E = xB ∨ E = xI := by simpa using hEm
    rcases hEm with rfl | rfl
    · refine ⟨13, ⟨[], _, _, rfl, (fun z hz => (by cases hz)), by decide, by decide, cl_B, cc_B, rfl⟩, fun q => ?_⟩
      refine j_astore 15 (L2 := [(4, .ref q), (0, .ref B), (1, .int (i32 a1)), (2, .int (i32 a2)), (3, .ref o)]) dL_call_13 rfl (Nat.le_of_ble_eq_true rfl) rfl ?_
      refine j_iconst 16 dL_call_15 rfl ?_
      exact j_iret dL_call_16 rfl (Or.inr ⟨xB, 1, by simp, hq, rfl⟩)
    · refine ⟨17, ⟨[(⟨0, 10, 13, 22⟩ : ExceptionTableEntry)], _, _, rfl, (fun z hz => by
        simp only [List.mem_cons, List.not_mem_nil, or_false] at hz
        subst hz
        exact Or.inr ⟨by decide, xB, cl_B, by decide⟩), by decide, by decide, cl_I, cc_I, rfl⟩, fun q => ?_⟩
      refine j_astore 19 (L2 := [(4, .ref q), (0, .ref B), (1, .int (i32 a1)), (2, .int (i32 a2)), (3, .ref o)]) dL_call_17 rfl (Nat.le_of_ble_eq_true rfl) rfl ?_
      refine j_iconst 20 dL_call_19 rfl ?_
      exact j_iret dL_call_20 rfl (Or.inr ⟨xI, 2, by simp, hq, rfl⟩)
  · obtain ⟨x, rfl⟩ := hv v sh2 g2 hq
    have hos := ho _ sh2 g2 hq
    refine j_topI (y := x.toInt) (i32_asI x).symm ?_
    refine j_i2l 9 dL_call_8 rfl (i32_rng x) ?_
    refine j_last 10 0 dL_call_9 rfl hos rfl rfl (by decide) ?_
    refine j_goto 21 dL_call_10 rfl ?_
    refine j_iconst 22 dL_call_21 rfl ?_
    exact j_iret dL_call_22 rfl (Or.inl ⟨x, g2, hq, rfl, rfl⟩)

theorem h_digit {w : Wd} {sh : Shp} {g : Mem} {B o : Nat} {kd : Kd} {a1 a2 : Int} {Qc : Post} (hB : sh.1 B = some kd) (hkd : kd.1 = 8) (hC : CT w mX9_digit [.ref B, .int (i32 a1), .int (i32 a2)] sh g Qc) (hv : ∀ v sh' g', Qc (.inl v) sh' g' → ∃ x : Int32, v = some (.int x)) (ho : ∀ v sh' g', Qc (.inl v) sh' g' → sh'.1 o = some (12, 1, kN)) (hE : ∀ E sh' g', Qc (.inr E) sh' g' → E ∈ [xB, xN]) :
    CT w mL_digit [.ref B, .int (i32 a1), .int (i32 a2), .ref o] sh g (LQ Qc o [(xB, 1), (xN, 2)]) := by
  refine j_entryH (by decide) rfl (Nat.le_of_ble_eq_true rfl) rfl rfl ?_
  show J w mL_digit 0 [(0, .ref B), (1, .int (i32 a1)), (2, .int (i32 a2)), (3, .ref o)] [] sh g 1 6 _
  refine j_aload_n 1 3 dL_digit_0 rfl rfl ?_
  refine j_iconst 2 dL_digit_1 rfl ?_
  refine j_aload_n 3 0 dL_digit_2 rfl rfl ?_
  refine j_iload_n 4 1 dL_digit_3 rfl rfl ?_
  refine j_iload_n 5 2 dL_digit_4 rfl rfl ?_
  refine j_callVX 8 (As := [.int (i32 a1), .int (i32 a2)]) (kc2 := 0) (ks2 := 0) dL_digit_5 rfl mvX9_digit lk_L_36 hB hkd ⟨by decide, rfl⟩ rfl rfl (Nat.le_of_ble_eq_true rfl) ⟨Nat.le_of_ble_eq_true rfl, Nat.le_of_ble_eq_true rfl⟩ ⟨Nat.le_of_ble_eq_true rfl, Nat.le_of_ble_eq_true rfl⟩ hC (fun E sh2 g2 hq => ?_) (fun v sh2 g2 hq => ?_)
  · have hEm := hE E sh2 g2 hq
    have hEm : E = xB ∨ E = xN := by simpa using hEm
    rcases hEm with rfl | rfl
    · refine ⟨13, ⟨[], _, _, rfl, (fun z hz => (by cases hz)), by decide, by decide, cl_B, cc_B, rfl⟩, fun q => ?_⟩
      refine j_astore 15 (L2 := [(4, .ref q), (0, .ref B), (1, .int (i32 a1)), (2, .int (i32 a2)), (3, .ref o)]) dL_digit_13 rfl (Nat.le_of_ble_eq_true rfl) rfl ?_
      refine j_iconst 16 dL_digit_15 rfl ?_
      exact j_iret dL_digit_16 rfl (Or.inr ⟨xB, 1, by simp, hq, rfl⟩)
    · refine ⟨17, ⟨[(⟨0, 10, 13, 22⟩ : ExceptionTableEntry)], _, _, rfl, (fun z hz => by
        simp only [List.mem_cons, List.not_mem_nil, or_false] at hz
        subst hz
        exact Or.inr ⟨by decide, xB, cl_B, by decide⟩), by decide, by decide, cl_N, cc_N, rfl⟩, fun q => ?_⟩
      refine j_astore 19 (L2 := [(4, .ref q), (0, .ref B), (1, .int (i32 a1)), (2, .int (i32 a2)), (3, .ref o)]) dL_digit_17 rfl (Nat.le_of_ble_eq_true rfl) rfl ?_
      refine j_iconst 20 dL_digit_19 rfl ?_
      exact j_iret dL_digit_20 rfl (Or.inr ⟨xN, 2, by simp, hq, rfl⟩)
  · obtain ⟨x, rfl⟩ := hv v sh2 g2 hq
    have hos := ho _ sh2 g2 hq
    refine j_topI (y := x.toInt) (i32_asI x).symm ?_
    refine j_i2l 9 dL_digit_8 rfl (i32_rng x) ?_
    refine j_last 10 0 dL_digit_9 rfl hos rfl rfl (by decide) ?_
    refine j_goto 21 dL_digit_10 rfl ?_
    refine j_iconst 22 dL_digit_21 rfl ?_
    exact j_iret dL_digit_22 rfl (Or.inl ⟨x, g2, hq, rfl, rfl⟩)

theorem h_look {w : Wd} {sh : Shp} {g : Mem} {B o : Nat} {kd : Kd} {a1 a2 : Int} {Qc : Post} (hB : sh.1 B = some kd) (hkd : kd.1 = 8) (hC : CT w mX9_look [.ref B, .int (i32 a1), .int (i32 a2)] sh g Qc) (hv : ∀ v sh' g', Qc (.inl v) sh' g' → ∃ x : Int32, v = some (.int x)) (ho : ∀ v sh' g', Qc (.inl v) sh' g' → sh'.1 o = some (12, 1, kN)) (hE : ∀ E sh' g', Qc (.inr E) sh' g' → E ∈ [xI]) :
    CT w mL_look [.ref B, .int (i32 a1), .int (i32 a2), .ref o] sh g (LQ Qc o [(xI, 1)]) := by
  refine j_entryH (by decide) rfl (Nat.le_of_ble_eq_true rfl) rfl rfl ?_
  show J w mL_look 0 [(0, .ref B), (1, .int (i32 a1)), (2, .int (i32 a2)), (3, .ref o)] [] sh g 1 6 _
  refine j_aload_n 1 3 dL_look_0 rfl rfl ?_
  refine j_iconst 2 dL_look_1 rfl ?_
  refine j_aload_n 3 0 dL_look_2 rfl rfl ?_
  refine j_iload_n 4 1 dL_look_3 rfl rfl ?_
  refine j_iload_n 5 2 dL_look_4 rfl rfl ?_
  refine j_callVX 8 (As := [.int (i32 a1), .int (i32 a2)]) (kc2 := 0) (ks2 := 0) dL_look_5 rfl mvX9_look lk_L_41 hB hkd ⟨by decide, rfl⟩ rfl rfl (Nat.le_of_ble_eq_true rfl) ⟨Nat.le_of_ble_eq_true rfl, Nat.le_of_ble_eq_true rfl⟩ ⟨Nat.le_of_ble_eq_true rfl, Nat.le_of_ble_eq_true rfl⟩ hC (fun E sh2 g2 hq => ?_) (fun v sh2 g2 hq => ?_)
  · have hEm := hE E sh2 g2 hq
    have hEm : E = xI := by simpa using hEm
    subst hEm
    · refine ⟨13, ⟨[], _, _, rfl, (fun z hz => (by cases hz)), by decide, by decide, cl_I, cc_I, rfl⟩, fun q => ?_⟩
      refine j_astore 15 (L2 := [(4, .ref q), (0, .ref B), (1, .int (i32 a1)), (2, .int (i32 a2)), (3, .ref o)]) dL_look_13 rfl (Nat.le_of_ble_eq_true rfl) rfl ?_
      refine j_iconst 16 dL_look_15 rfl ?_
      exact j_iret dL_look_16 rfl (Or.inr ⟨xI, 1, by simp, hq, rfl⟩)
  · obtain ⟨x, rfl⟩ := hv v sh2 g2 hq
    have hos := ho _ sh2 g2 hq
    refine j_topI (y := x.toInt) (i32_asI x).symm ?_
    refine j_i2l 9 dL_look_8 rfl (i32_rng x) ?_
    refine j_last 10 0 dL_look_9 rfl hos rfl rfl (by decide) ?_
    refine j_goto 17 dL_look_10 rfl ?_
    refine j_iconst 18 dL_look_17 rfl ?_
    exact j_iret dL_look_18 rfl (Or.inl ⟨x, g2, hq, rfl, rfl⟩)

theorem h_overIn {w : Wd} {sh : Shp} {g : Mem} {B o : Nat} {kd : Kd} {a1 : Int} {Qc : Post} (hB : sh.1 B = some kd) (hkd : kd.1 = 8) (hC : CT w mX9_overIn [.ref B, .int (i32 a1)] sh g Qc) (hv : ∀ v sh' g', Qc (.inl v) sh' g' → ∃ x : Int32, v = some (.int x)) (ho : ∀ v sh' g', Qc (.inl v) sh' g' → sh'.1 o = some (12, 1, kN)) (hE : ∀ E sh' g', Qc (.inr E) sh' g' → E ∈ [xB]) :
    CT w mL_overIn [.ref B, .int (i32 a1), .ref o] sh g (LQ Qc o [(xB, 1)]) := by
  refine j_entryH (by decide) rfl (Nat.le_of_ble_eq_true rfl) rfl rfl ?_
  show J w mL_overIn 0 [(0, .ref B), (1, .int (i32 a1)), (2, .ref o)] [] sh g 1 6 _
  refine j_aload_n 1 2 dL_overIn_0 rfl rfl ?_
  refine j_iconst 2 dL_overIn_1 rfl ?_
  refine j_aload_n 3 0 dL_overIn_2 rfl rfl ?_
  refine j_iload_n 4 1 dL_overIn_3 rfl rfl ?_
  refine j_callVX 7 (As := [.int (i32 a1)]) (kc2 := 0) (ks2 := 0) dL_overIn_4 rfl mvX9_overIn lk_L_44 hB hkd ⟨by decide, rfl⟩ rfl rfl (Nat.le_of_ble_eq_true rfl) ⟨Nat.le_of_ble_eq_true rfl, Nat.le_of_ble_eq_true rfl⟩ ⟨Nat.le_of_ble_eq_true rfl, Nat.le_of_ble_eq_true rfl⟩ hC (fun E sh2 g2 hq => ?_) (fun v sh2 g2 hq => ?_)
  · have hEm := hE E sh2 g2 hq
    have hEm : E = xB := by simpa using hEm
    subst hEm
    · refine ⟨12, ⟨[], _, _, rfl, (fun z hz => (by cases hz)), by decide, by decide, cl_B, cc_B, rfl⟩, fun q => ?_⟩
      refine j_astore_n 13 (L2 := [(3, .ref q), (0, .ref B), (1, .int (i32 a1)), (2, .ref o)]) dL_overIn_12 rfl rfl (Nat.le_of_ble_eq_true rfl) rfl ?_
      refine j_iconst 14 dL_overIn_13 rfl ?_
      exact j_iret dL_overIn_14 rfl (Or.inr ⟨xB, 1, by simp, hq, rfl⟩)
  · obtain ⟨x, rfl⟩ := hv v sh2 g2 hq
    have hos := ho _ sh2 g2 hq
    refine j_topI (y := x.toInt) (i32_asI x).symm ?_
    refine j_i2l 8 dL_overIn_7 rfl (i32_rng x) ?_
    refine j_last 9 0 dL_overIn_8 rfl hos rfl rfl (by decide) ?_
    refine j_goto 15 dL_overIn_9 rfl ?_
    refine j_iconst 16 dL_overIn_15 rfl ?_
    exact j_iret dL_overIn_16 rfl (Or.inl ⟨x, g2, hq, rfl, rfl⟩)

theorem h_foretold {w : Wd} {sh : Shp} {g : Mem} {B o : Nat} {kd : Kd} {a1 a2 : Int} {Qc : Post} (hB : sh.1 B = some kd) (hkd : kd.1 = 8) (hC : CT w mX9_foretold [.ref B, .int (i32 a1), .int (i32 a2)] sh g Qc) (hv : ∀ v sh' g', Qc (.inl v) sh' g' → ∃ x : Int32, v = some (.int x)) (ho : ∀ v sh' g', Qc (.inl v) sh' g' → sh'.1 o = some (12, 1, kN)) (hE : ∀ E sh' g', Qc (.inr E) sh' g' → E ∈ [xI]) :
    CT w mL_foretold [.ref B, .int (i32 a1), .int (i32 a2), .ref o] sh g (LQ Qc o [(xI, 1)]) := by
  refine j_entryH (by decide) rfl (Nat.le_of_ble_eq_true rfl) rfl rfl ?_
  show J w mL_foretold 0 [(0, .ref B), (1, .int (i32 a1)), (2, .int (i32 a2)), (3, .ref o)] [] sh g 1 6 _
  refine j_aload_n 1 3 dL_foretold_0 rfl rfl ?_
  refine j_iconst 2 dL_foretold_1 rfl ?_
  refine j_aload_n 3 0 dL_foretold_2 rfl rfl ?_
  refine j_iload_n 4 1 dL_foretold_3 rfl rfl ?_
  refine j_iload_n 5 2 dL_foretold_4 rfl rfl ?_
  refine j_callVX 8 (As := [.int (i32 a1), .int (i32 a2)]) (kc2 := 0) (ks2 := 0) dL_foretold_5 rfl mvX9_foretold lk_L_47 hB hkd ⟨by decide, rfl⟩ rfl rfl (Nat.le_of_ble_eq_true rfl) ⟨Nat.le_of_ble_eq_true rfl, Nat.le_of_ble_eq_true rfl⟩ ⟨Nat.le_of_ble_eq_true rfl, Nat.le_of_ble_eq_true rfl⟩ hC (fun E sh2 g2 hq => ?_) (fun v sh2 g2 hq => ?_)
  · have hEm := hE E sh2 g2 hq
    have hEm : E = xI := by simpa using hEm
    subst hEm
    · refine ⟨13, ⟨[], _, _, rfl, (fun z hz => (by cases hz)), by decide, by decide, cl_I, cc_I, rfl⟩, fun q => ?_⟩
      refine j_astore 15 (L2 := [(4, .ref q), (0, .ref B), (1, .int (i32 a1)), (2, .int (i32 a2)), (3, .ref o)]) dL_foretold_13 rfl (Nat.le_of_ble_eq_true rfl) rfl ?_
      refine j_iconst 16 dL_foretold_15 rfl ?_
      exact j_iret dL_foretold_16 rfl (Or.inr ⟨xI, 1, by simp, hq, rfl⟩)
  · obtain ⟨x, rfl⟩ := hv v sh2 g2 hq
    have hos := ho _ sh2 g2 hq
    refine j_topI (y := x.toInt) (i32_asI x).symm ?_
    refine j_i2l 9 dL_foretold_8 rfl (i32_rng x) ?_
    refine j_last 10 0 dL_foretold_9 rfl hos rfl rfl (by decide) ?_
    refine j_goto 17 dL_foretold_10 rfl ?_
    refine j_iconst 18 dL_foretold_17 rfl ?_
    exact j_iret dL_foretold_18 rfl (Or.inl ⟨x, g2, hq, rfl, rfl⟩)

theorem h_dial {w : Wd} {sh : Shp} {g : Mem} {B o : Nat} {kd : Kd} {a1 a2 a3 : Int} {Qc : Post} (hB : sh.1 B = some kd) (hkd : kd.1 = 8) (hC : CT w mX9_dial [.ref B, .int (i32 a1), .int (i32 a2), .int (i32 a3)] sh g Qc) (hv : ∀ v sh' g', Qc (.inl v) sh' g' → ∃ x : Int32, v = some (.int x)) (ho : ∀ v sh' g', Qc (.inl v) sh' g' → sh'.1 o = some (12, 1, kN)) (hE : ∀ E sh' g', Qc (.inr E) sh' g' → E ∈ [xB, xI, xS]) :
    CT w mL_dial [.ref B, .int (i32 a1), .int (i32 a2), .int (i32 a3), .ref o] sh g (LQ Qc o [(xB, 1), (xI, 2), (xS, 3)]) := by
  refine j_entryH (by decide) rfl (Nat.le_of_ble_eq_true rfl) rfl rfl ?_
  show J w mL_dial 0 [(0, .ref B), (1, .int (i32 a1)), (2, .int (i32 a2)), (3, .int (i32 a3)), (4, .ref o)] [] sh g 1 6 _
  refine j_aload 2 4 dL_dial_0 rfl rfl ?_
  refine j_iconst 3 dL_dial_2 rfl ?_
  refine j_aload_n 4 0 dL_dial_3 rfl rfl ?_
  refine j_iload_n 5 1 dL_dial_4 rfl rfl ?_
  refine j_iload_n 6 2 dL_dial_5 rfl rfl ?_
  refine j_iload_n 7 3 dL_dial_6 rfl rfl ?_
  refine j_callVX 10 (As := [.int (i32 a1), .int (i32 a2), .int (i32 a3)]) (kc2 := 0) (ks2 := 0) dL_dial_7 rfl mvX9_dial lk_L_54 hB hkd ⟨by decide, rfl⟩ rfl rfl (Nat.le_of_ble_eq_true rfl) ⟨Nat.le_of_ble_eq_true rfl, Nat.le_of_ble_eq_true rfl⟩ ⟨Nat.le_of_ble_eq_true rfl, Nat.le_of_ble_eq_true rfl⟩ hC (fun E sh2 g2 hq => ?_) (fun v sh2 g2 hq => ?_)
  · have hEm := hE E sh2 g2 hq
    have hEm : E = xB ∨ E = xI ∨ E = xS := by simpa using hEm
    rcases hEm with rfl | rfl | rfl
    · refine ⟨15, ⟨[], _, _, rfl, (fun z hz => (by cases hz)), by decide, by decide, cl_B, cc_B, rfl⟩, fun q => ?_⟩
      refine j_astore 17 (L2 := [(5, .ref q), (0, .ref B), (1, .int (i32 a1)), (2, .int (i32 a2)), (3, .int (i32 a3)), (4, .ref o)]) dL_dial_15 rfl (Nat.le_of_ble_eq_true rfl) rfl ?_
      refine j_iconst 18 dL_dial_17 rfl ?_
      exact j_iret dL_dial_18 rfl (Or.inr ⟨xB, 1, by simp, hq, rfl⟩)
    · refine ⟨19, ⟨[(⟨0, 12, 15, 22⟩ : ExceptionTableEntry)], _, _, rfl, (fun z hz => by
        simp only [List.mem_cons, List.not_mem_nil, or_false] at hz
        subst hz
        exact Or.inr ⟨by decide, xB, cl_B, by decide⟩), by decide, by decide, cl_I, cc_I, rfl⟩, fun q => ?_⟩
      refine j_astore 21 (L2 := [(5, .ref q), (0, .ref B), (1, .int (i32 a1)), (2, .int (i32 a2)), (3, .int (i32 a3)), (4, .ref o)]) dL_dial_19 rfl (Nat.le_of_ble_eq_true rfl) rfl ?_
      refine j_iconst 22 dL_dial_21 rfl ?_
      exact j_iret dL_dial_22 rfl (Or.inr ⟨xI, 2, by simp, hq, rfl⟩)
    · refine ⟨23, ⟨[(⟨0, 12, 15, 22⟩ : ExceptionTableEntry), (⟨0, 12, 19, 13⟩ : ExceptionTableEntry)], _, _, rfl, (fun z hz => by
        simp only [List.mem_cons, List.not_mem_nil, or_false] at hz
        rcases hz with rfl | rfl
        · exact Or.inr ⟨by decide, xB, cl_B, by decide⟩
        · exact Or.inr ⟨by decide, xI, cl_I, by decide⟩), by decide, by decide, cl_S, cc_S, rfl⟩, fun q => ?_⟩
      refine j_astore 25 (L2 := [(5, .ref q), (0, .ref B), (1, .int (i32 a1)), (2, .int (i32 a2)), (3, .int (i32 a3)), (4, .ref o)]) dL_dial_23 rfl (Nat.le_of_ble_eq_true rfl) rfl ?_
      refine j_iconst 26 dL_dial_25 rfl ?_
      exact j_iret dL_dial_26 rfl (Or.inr ⟨xS, 3, by simp, hq, rfl⟩)
  · obtain ⟨x, rfl⟩ := hv v sh2 g2 hq
    have hos := ho _ sh2 g2 hq
    refine j_topI (y := x.toInt) (i32_asI x).symm ?_
    refine j_i2l 11 dL_dial_10 rfl (i32_rng x) ?_
    refine j_last 12 0 dL_dial_11 rfl hos rfl rfl (by decide) ?_
    refine j_goto 27 dL_dial_12 rfl ?_
    refine j_iconst 28 dL_dial_27 rfl ?_
    exact j_iret dL_dial_28 rfl (Or.inl ⟨x, g2, hq, rfl, rfl⟩)

theorem h_hang {w : Wd} {sh : Shp} {g : Mem} {B o : Nat} {kd : Kd} {a1 : Int} {Qc : Post} (hB : sh.1 B = some kd) (hkd : kd.1 = 8) (hC : CT w mX9_hang [.ref B, .int (i32 a1)] sh g Qc) (hv : ∀ v sh' g', Qc (.inl v) sh' g' → ∃ x : Int32, v = some (.int x)) (ho : ∀ v sh' g', Qc (.inl v) sh' g' → sh'.1 o = some (12, 1, kN)) (hE : ∀ E sh' g', Qc (.inr E) sh' g' → E ∈ [xB, xS]) :
    CT w mL_hang [.ref B, .int (i32 a1), .ref o] sh g (LQ Qc o [(xB, 1), (xS, 2)]) := by
  refine j_entryH (by decide) rfl (Nat.le_of_ble_eq_true rfl) rfl rfl ?_
  show J w mL_hang 0 [(0, .ref B), (1, .int (i32 a1)), (2, .ref o)] [] sh g 1 6 _
  refine j_aload_n 1 2 dL_hang_0 rfl rfl ?_
  refine j_iconst 2 dL_hang_1 rfl ?_
  refine j_aload_n 3 0 dL_hang_2 rfl rfl ?_
  refine j_iload_n 4 1 dL_hang_3 rfl rfl ?_
  refine j_callVX 7 (As := [.int (i32 a1)]) (kc2 := 0) (ks2 := 0) dL_hang_4 rfl mvX9_hang lk_L_60 hB hkd ⟨by decide, rfl⟩ rfl rfl (Nat.le_of_ble_eq_true rfl) ⟨Nat.le_of_ble_eq_true rfl, Nat.le_of_ble_eq_true rfl⟩ ⟨Nat.le_of_ble_eq_true rfl, Nat.le_of_ble_eq_true rfl⟩ hC (fun E sh2 g2 hq => ?_) (fun v sh2 g2 hq => ?_)
  · have hEm := hE E sh2 g2 hq
    have hEm : E = xB ∨ E = xS := by simpa using hEm
    rcases hEm with rfl | rfl
    · refine ⟨12, ⟨[], _, _, rfl, (fun z hz => (by cases hz)), by decide, by decide, cl_B, cc_B, rfl⟩, fun q => ?_⟩
      refine j_astore_n 13 (L2 := [(3, .ref q), (0, .ref B), (1, .int (i32 a1)), (2, .ref o)]) dL_hang_12 rfl rfl (Nat.le_of_ble_eq_true rfl) rfl ?_
      refine j_iconst 14 dL_hang_13 rfl ?_
      exact j_iret dL_hang_14 rfl (Or.inr ⟨xB, 1, by simp, hq, rfl⟩)
    · refine ⟨15, ⟨[(⟨0, 9, 12, 22⟩ : ExceptionTableEntry)], _, _, rfl, (fun z hz => by
        simp only [List.mem_cons, List.not_mem_nil, or_false] at hz
        subst hz
        exact Or.inr ⟨by decide, xB, cl_B, by decide⟩), by decide, by decide, cl_S, cc_S, rfl⟩, fun q => ?_⟩
      refine j_astore_n 16 (L2 := [(3, .ref q), (0, .ref B), (1, .int (i32 a1)), (2, .ref o)]) dL_hang_15 rfl rfl (Nat.le_of_ble_eq_true rfl) rfl ?_
      refine j_iconst 17 dL_hang_16 rfl ?_
      exact j_iret dL_hang_17 rfl (Or.inr ⟨xS, 2, by simp, hq, rfl⟩)
  · obtain ⟨x, rfl⟩ := hv v sh2 g2 hq
    have hos := ho _ sh2 g2 hq
    refine j_topI (y := x.toInt) (i32_asI x).symm ?_
    refine j_i2l 8 dL_hang_7 rfl (i32_rng x) ?_
    refine j_last 9 0 dL_hang_8 rfl hos rfl rfl (by decide) ?_
    refine j_goto 18 dL_hang_9 rfl ?_
    refine j_iconst 19 dL_hang_18 rfl ?_
    exact j_iret dL_hang_19 rfl (Or.inl ⟨x, g2, hq, rfl, rfl⟩)

theorem h_rule {w : Wd} {sh : Shp} {g : Mem} {B o : Nat} {kd : Kd} {a1 a2 : Int} {Qc : Post} (hB : sh.1 B = some kd) (hkd : kd.1 = 8) (hC : CT w mX9_rule [.ref B, .int (i32 a1), .int (i32 a2)] sh g Qc) (hv : ∀ v sh' g', Qc (.inl v) sh' g' → ∃ x : Int32, v = some (.int x)) (ho : ∀ v sh' g', Qc (.inl v) sh' g' → sh'.1 o = some (12, 1, kN)) (hE : ∀ E sh' g', Qc (.inr E) sh' g' → E ∈ [xI]) :
    CT w mL_rule [.ref B, .int (i32 a1), .int (i32 a2), .ref o] sh g (LQ Qc o [(xI, 1)]) := by
  refine j_entryH (by decide) rfl (Nat.le_of_ble_eq_true rfl) rfl rfl ?_
  show J w mL_rule 0 [(0, .ref B), (1, .int (i32 a1)), (2, .int (i32 a2)), (3, .ref o)] [] sh g 1 6 _
  refine j_aload_n 1 3 dL_rule_0 rfl rfl ?_
  refine j_iconst 2 dL_rule_1 rfl ?_
  refine j_aload_n 3 0 dL_rule_2 rfl rfl ?_
  refine j_iload_n 4 1 dL_rule_3 rfl rfl ?_
  refine j_iload_n 5 2 dL_rule_4 rfl rfl ?_
  refine j_callVX 8 (As := [.int (i32 a1), .int (i32 a2)]) (kc2 := 0) (ks2 := 0) dL_rule_5 rfl mvX9_rule lk_L_63 hB hkd ⟨by decide, rfl⟩ rfl rfl (Nat.le_of_ble_eq_true rfl) ⟨Nat.le_of_ble_eq_true rfl, Nat.le_of_ble_eq_true rfl⟩ ⟨Nat.le_of_ble_eq_true rfl, Nat.le_of_ble_eq_true rfl⟩ hC (fun E sh2 g2 hq => ?_) (fun v sh2 g2 hq => ?_)
  · have hEm := hE E sh2 g2 hq
    have hEm : E = xI := by simpa using hEm
    subst hEm
    · refine ⟨13, ⟨[], _, _, rfl, (fun z hz => (by cases hz)), by decide, by decide, cl_I, cc_I, rfl⟩, fun q => ?_⟩
      refine j_astore 15 (L2 := [(4, .ref q), (0, .ref B), (1, .int (i32 a1)), (2, .int (i32 a2)), (3, .ref o)]) dL_rule_13 rfl (Nat.le_of_ble_eq_true rfl) rfl ?_
      refine j_iconst 16 dL_rule_15 rfl ?_
      exact j_iret dL_rule_16 rfl (Or.inr ⟨xI, 1, by simp, hq, rfl⟩)
  · obtain ⟨x, rfl⟩ := hv v sh2 g2 hq
    have hos := ho _ sh2 g2 hq
    refine j_topI (y := x.toInt) (i32_asI x).symm ?_
    refine j_i2l 9 dL_rule_8 rfl (i32_rng x) ?_
    refine j_last 10 0 dL_rule_9 rfl hos rfl rfl (by decide) ?_
    refine j_goto 17 dL_rule_10 rfl ?_
    refine j_iconst 18 dL_rule_17 rfl ?_
    exact j_iret dL_rule_18 rfl (Or.inl ⟨x, g2, hq, rfl, rfl⟩)

theorem h_pass {w : Wd} {sh : Shp} {g : Mem} {B o : Nat} {kd : Kd} {a1 : Int} {Qc : Post} (hB : sh.1 B = some kd) (hkd : kd.1 = 8) (hC : CT w mX9_pass [.ref B, .int (i32 a1)] sh g Qc) (hv : ∀ v sh' g', Qc (.inl v) sh' g' → ∃ x : Int32, v = some (.int x)) (ho : ∀ v sh' g', Qc (.inl v) sh' g' → sh'.1 o = some (12, 1, kN)) (hE : ∀ E sh' g', Qc (.inr E) sh' g' → E ∈ [xI]) :
    CT w mL_pass [.ref B, .int (i32 a1), .ref o] sh g (LQ Qc o [(xI, 1)]) := by
  refine j_entryH (by decide) rfl (Nat.le_of_ble_eq_true rfl) rfl rfl ?_
  show J w mL_pass 0 [(0, .ref B), (1, .int (i32 a1)), (2, .ref o)] [] sh g 1 6 _
  refine j_aload_n 1 2 dL_pass_0 rfl rfl ?_
  refine j_iconst 2 dL_pass_1 rfl ?_
  refine j_aload_n 3 0 dL_pass_2 rfl rfl ?_
  refine j_iload_n 4 1 dL_pass_3 rfl rfl ?_
  refine j_callVX 7 (As := [.int (i32 a1)]) (kc2 := 0) (ks2 := 0) dL_pass_4 rfl mvX9_pass lk_L_66 hB hkd ⟨by decide, rfl⟩ rfl rfl (Nat.le_of_ble_eq_true rfl) ⟨Nat.le_of_ble_eq_true rfl, Nat.le_of_ble_eq_true rfl⟩ ⟨Nat.le_of_ble_eq_true rfl, Nat.le_of_ble_eq_true rfl⟩ hC (fun E sh2 g2 hq => ?_) (fun v sh2 g2 hq => ?_)
  · have hEm := hE E sh2 g2 hq
    have hEm : E = xI := by simpa using hEm
    subst hEm
    · refine ⟨12, ⟨[], _, _, rfl, (fun z hz => (by cases hz)), by decide, by decide, cl_I, cc_I, rfl⟩, fun q => ?_⟩
      refine j_astore_n 13 (L2 := [(3, .ref q), (0, .ref B), (1, .int (i32 a1)), (2, .ref o)]) dL_pass_12 rfl rfl (Nat.le_of_ble_eq_true rfl) rfl ?_
      refine j_iconst 14 dL_pass_13 rfl ?_
      exact j_iret dL_pass_14 rfl (Or.inr ⟨xI, 1, by simp, hq, rfl⟩)
  · obtain ⟨x, rfl⟩ := hv v sh2 g2 hq
    have hos := ho _ sh2 g2 hq
    refine j_topI (y := x.toInt) (i32_asI x).symm ?_
    refine j_i2l 8 dL_pass_7 rfl (i32_rng x) ?_
    refine j_last 9 0 dL_pass_8 rfl hos rfl rfl (by decide) ?_
    refine j_goto 15 dL_pass_9 rfl ?_
    refine j_iconst 16 dL_pass_15 rfl ?_
    exact j_iret dL_pass_16 rfl (Or.inl ⟨x, g2, hq, rfl, rfl⟩)
