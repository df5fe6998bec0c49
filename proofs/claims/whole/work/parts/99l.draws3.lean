/-! the law's draws: those without a helper, and traffic -/
section JD
variable {w : Wd} {Y : MD} {pc : Nat} {L : List (Nat × Value)} {S : List Value} {sh : Shp} {g : Mem} {kc ks : Nat} {Q : Post}
theorem j_dald (n i : Nat) {a : Nat} {kd : Kd} {x : Int} (hd : decode (md_c Y) pc = .ok (.daload, 1)) (hn : pc + 1 = n) (hs : sh.1 a = some kd) (hc : kd.1 = 13) (hx : x = (i : Int)) (hi : i < kd.2.1)
    (kk : J w Y n L (.double (UInt64.ofNat (g a i).toNat) :: S) sh g kc ks Q) : J w Y pc L (.int (i32 x) :: .ref a :: S) sh g kc ks Q := by
  subst hn
  intro p l e s m args below meth c H locs cells slots Z ls C hZ hR hlo hcl hsl hl
  obtain ⟨b1, b2, b3, b4⟩ := hR.1 a kd hs
  rw [c_E_d hc] at b2
  refine va_dald C.1 C.2.1 C.2.2.2.2.2.1.1 (va_P1 b2) 0 3 rfl rfl (i32_in hx hi b3) hd ?_
  rw [i32_clamp hx (by omega)]
  exact kk p l e s m args below meth c H locs cells slots Z ls C hZ hR hlo hcl hsl hl
theorem j_dast (n i : Nat) {a : Nat} {kd : Kd} {x : Int} {v : UInt64} (hd : decode (md_c Y) pc = .ok (.dastore, 1)) (hn : pc + 1 = n) (hs : sh.1 a = some kd) (hc : kd.1 = 13) (hx : x = (i : Int)) (hi : i < kd.2.1)
    (kk : J w Y n L S sh (up2 g a i (v.toNat : Int)) kc ks Q) : J w Y pc L (.double v :: .int (i32 x) :: .ref a :: S) sh g kc ks Q := by
  subst hn
  intro p l e s m args below meth c H locs cells slots Z ls C hZ hR hlo hcl hsl hl
  obtain ⟨b1, b2, b3, b4⟩ := hR.1 a kd hs
  rw [c_E_d hc] at b2
  have hin := i32_in hx hi b3
  refine W.dast C.1 C.2.1 (b2 : H[a]? = some (vp_cell _ _)) ((C.2.2.2.2.2.1.1.2 3 _ rfl).1 kd.2.1 (fun j => .double (UInt64.ofNat (g a j).toNat))) (fun q => by cases q) (by show ¬ (_ ∨ (arrV _ _ _).slots.size ≤ _); rw [arrV_size]; exact hin) rfl rfl hd fun H1 e1 z oq => ?_
  refine kk p l e s m args below meth c H1 _ cells slots Z ls C hZ (hR.put hs z oq ?_ ?_) ?_ hcl hsl hl
  · rw [c_E_d hc]
    show H1[a]? = some (vp_cell _ _)
    rw [e1, vp_cell_d, vp_cell_d, arrV_store, i32_clamp hx (by omega)]
    refine congrArg some (congrArg (arrV _ _) (funext fun j => ?_))
    by_cases ej : j = i
    · subst ej; rw [up2_s]; exact (if_pos rfl).trans (by simp)
    · rw [up2_k ej]; exact if_neg ej
  · unfold k_rng
    rw [if_neg (by omega), if_neg (by omega), if_neg (by omega)]
    trivial
  · intro y hy
    rcases List.mem_append.mp hy with h | h
    · exact hlo y h
    · rw [List.mem_singleton.mp h]
      exact b1
theorem j_fcmp (n : Nat) {x y : UInt32} {op : CmpOp} (hd : decode (md_c Y) pc = .ok (.fcmp op, 1)) (hn : pc + 1 = n) (kk : J w Y n L (.int (Op.cmpValue (FP.fcmp x y) op) :: S) sh g kc ks Q) : J w Y pc L (.float y :: .float x :: S) sh g kc ks Q := by
  subst hn
  intro p l e s m args below meth c H locs cells slots Z ls C hZ hR hlo hc hs hl
  exact lv_fcmp C.1 C.2.1 hd (kk p l e s m args below meth c H locs cells slots Z ls C hZ hR hlo hc hs hl)
end JD
/-- a float that is a number -/
def FNm (x : UInt32) : Prop := Jvm.FP.Core.val32 x ≠ .nan
theorem vn_d {x : UInt32} (h : FNm x) : Jvm.FP.Core.val64 (FP.f2d x) ≠ .nan :=
  (Jvm.FP.Core.notNaN_iff _).mp ((Jvm.FP.f2d_nan x).trans ((Jvm.FP.Core.notNaN_iff32 x).mpr h))
theorem n64_of {r : UInt64} (h : Jvm.FP.Core.val64 r ≠ .nan) : vf_n64 r := by
  have h1 := (Jvm.FP.Core.ne_nan r).mp h
  unfold vf_n64
  rw [UInt64.le_iff_toNat_le, UInt64.toNat_and]
  show r.toNat &&& 9223372036854775807 ≤ 9218868437227405312
  rw [show (9223372036854775807 : Nat) = 2 ^ 63 - 1 from rfl, Nat.and_two_pow_sub_one_eq_mod]
  exact h1
theorem vn_f {x : UInt32} (h : FNm x) : vf_n64 (FP.f2d x) := n64_of (vn_d h)
theorem vn_c {x : UInt32} {op : CmpOp} (h : FNm x) : Op.cmpValue (FP.dcmp (FP.f2d x) (FP.f2d x)) op = i32 0 := by
  show Op.cmpValue (Jvm.FP.Core.dcmp (FP.f2d x) (FP.f2d x)) op = i32 0
  rw [Jvm.FP.Core.dcmp_self (vn_d h)]
  rfl
theorem vn_srv {d : Nat → Int} : FNm (s_srv d) := by
  have h6 : s_cnt d 6 ≤ 40 := cnt_le _ 40
  have h7 : s_cnt d 7 ≤ 40 := cnt_le _ 40
  have h8 : s_cnt d 8 ≤ 40 := cnt_le _ 40
  have h9 : s_cnt d 9 ≤ 40 := cnt_le _ 40
  have h10 : s_cnt d 10 ≤ 40 := cnt_le _ 40
  unfold s_srv
  split
  · exact (Jvm.FP.Core.ne_nan32 _).mpr (by decide)
  · exact fd_nan (by omega)
theorem vn_trf {d : Nat → Int} {i : Nat} (hI : Inv d) (hi : (i : Int) < d 3) (h6 : 0 ≤ d 6 ∧ d 6 ≤ 2000000) : FNm (s_trf d i) := by
  unfold s_trf
  split
  · exact (Jvm.FP.Core.ne_nan32 _).mpr (by decide)
  · have hg := hI.2.1.2.2.2.2.2 i hi
    have hp1 : 1 * d 6 ≤ d (50 + 9 * i) * d 6 := Int.mul_le_mul_of_nonneg_right (by omega) h6.1
    have hp2 : d (50 + 9 * i) * d 6 ≤ 8 * d 6 := Int.mul_le_mul_of_nonneg_right (by omega) h6.1
    exact fd_nan (by omega)
theorem h_traffic {w : Wd} {sh : Shp} {g : Mem} {B o : Nat} {kd : Kd} {a1 : Int} {Qc : Post} (hB : sh.1 B = some kd) (hkd : kd.1 = 8) (hC : CT w mX9_traffic [.ref B, .int (i32 a1)] sh g Qc) (hv : ∀ v sh' g', Qc (.inl v) sh' g' → ∃ x : UInt32, v = some (.float x) ∧ FNm x) (ho : ∀ v sh' g', Qc (.inl v) sh' g' → sh'.1 o = some (13, 1, kN)) (hE : ∀ E sh' g', Qc (.inr E) sh' g' → E ∈ [xB]) :
    CT w mL_traffic [.ref B, .int (i32 a1), .ref o] sh g (fun r sh2 g2 => (∃ (x : UInt32) (g' : Mem), Qc (.inl (some (.float x))) sh2 g' ∧ r = .inl (some (.int (i32 0))) ∧ g2 = up2 g' o 0 ((FP.f2d x).toNat : Int)) ∨ (Qc (.inr xB) sh2 g2 ∧ r = .inl (some (.int (i32 1))))) := by
  refine j_entryH (by decide) rfl (Nat.le_of_ble_eq_true rfl) rfl rfl ?_
  show J w mL_traffic 0 [(0, .ref B), (1, .int (i32 a1)), (2, .ref o)] [] sh g 1 6 _
  refine j_aload_n 1 2 dL_traffic_0 rfl rfl ?_
  refine j_iconst 2 dL_traffic_1 rfl ?_
  refine j_aload_n 3 0 dL_traffic_2 rfl rfl ?_
  refine j_iload_n 4 1 dL_traffic_3 rfl rfl ?_
  refine j_callVX 7 (As := [.int (i32 a1)]) (kc2 := 0) (ks2 := 0) dL_traffic_4 rfl mvX9_traffic lk_L_50 hB hkd ⟨by decide, rfl⟩ rfl rfl (Nat.le_of_ble_eq_true rfl) ⟨Nat.le_of_ble_eq_true rfl, Nat.le_of_ble_eq_true rfl⟩ ⟨Nat.le_of_ble_eq_true rfl, Nat.le_of_ble_eq_true rfl⟩ hC (fun E sh2 g2 hq => ?_) (fun v sh2 g2 hq => ?_)
  · have hEm := hE E sh2 g2 hq
    have hEm : E = xB := by simpa using hEm
    subst hEm
    refine ⟨12, ⟨[], _, _, rfl, (fun z hz => (by cases hz)), by decide, by decide, cl_B, cc_B, rfl⟩, fun q => ?_⟩
    refine j_astore_n 13 (L2 := [(3, .ref q), (0, .ref B), (1, .int (i32 a1)), (2, .ref o)]) dL_traffic_12 rfl rfl (Nat.le_of_ble_eq_true rfl) rfl ?_
    refine j_iconst 14 dL_traffic_13 rfl ?_
    exact j_iret dL_traffic_14 rfl (Or.inr ⟨hq, rfl⟩)
  · obtain ⟨x, rfl, hx⟩ := hv v sh2 g2 hq
    have hos := ho _ sh2 g2 hq
    refine j_f2d 8 dL_traffic_7 rfl (vn_f hx) ?_
    refine j_dast 9 0 dL_traffic_8 rfl hos rfl rfl (by decide) ?_
    refine j_goto 15 dL_traffic_9 rfl ?_
    refine j_iconst 16 dL_traffic_15 rfl ?_
    exact j_iret dL_traffic_16 rfl (Or.inl ⟨x, g2, hq, rfl, rfl⟩)
/-- traffic: both sides end alike -/
def OPT (w : Wd) (x : Int) (B n' : Nat) (sh : Shp) (g : Mem) : Prop :=
  ∃ Q1 : Post, CT w mL_traffic [.ref B, .int (i32 x), .ref (B + 846)] sh g Q1 ∧ (∀ E sh1 g1, ¬ Q1 (.inr E) sh1 g1) ∧
   ∀ v sh1 g1, Q1 (.inl v) sh1 g1 → ∃ k : Int, (0 ≤ k ∧ k ≤ 3) ∧ v = some (.int (i32 k)) ∧ LSh B sh1 ∧
     ∃ Q2 : Post, CT w mX10_traffic [.ref (B + 831), .int (i32 x)] sh1 g1 Q2 ∧ (∀ E sh2 g2, ¬ Q2 (.inr E) sh2 g2) ∧
      ∀ v2 sh2 g2, Q2 (.inl v2) sh2 g2 → ∃ z : UInt32, v2 = some (.float z) ∧ g2 (B + 831) 0 = k ∧ (k = 0 → FNm z ∧ g2 (B + 846) 0 = ((FP.f2d z).toNat : Int)) ∧ LI B n' sh2 g2
/-- a draw without a helper: both sides answer alike -/
def OPN (w : Wd) (mc mr : MD) (As : List Value) (V : Value → Prop) (B n' : Nat) (sh : Shp) (g : Mem) : Prop :=
  ∃ Q1 : Post, CT w mc (.ref B :: As) sh g Q1 ∧ (∀ E sh1 g1, ¬ Q1 (.inr E) sh1 g1) ∧
   ∀ v sh1 g1, Q1 (.inl v) sh1 g1 → ∃ x : Value, V x ∧ v = some x ∧ LSh B sh1 ∧
     ∃ Q2 : Post, CT w mr (.ref (B + 831) :: As) sh1 g1 Q2 ∧ (∀ E sh2 g2, ¬ Q2 (.inr E) sh2 g2) ∧
      ∀ v2 sh2 g2, Q2 (.inl v2) sh2 g2 → v2 = some x ∧ LI B n' sh2 g2
def VI (x : Value) : Prop := ∃ z : Int32, x = .int z
def VL (x : Value) : Prop := ∃ z : Int64, x = .long z
def VF (x : Value) : Prop := ∃ z : UInt32, x = .float z ∧ FNm z
section OPS3
variable {w : Wd} {B n : Nat} {sh : Shp} {g : Mem} {d : Nat → Int} {hist : Nat → (Nat → Int)} {c : Nat}
theorem op_ask {mc mr : MD} {As : List Value} {V : Value → Prop} {Qc : Post} {x : Value} (hV : V x) (hS : LSh B sh) (hL : LM B n g d hist c) (hC : CT w mc (.ref B :: As) sh g Qc)
    (hQ : ∀ r sh1 g1, Qc r sh1 g1 → r = .inl (some x) ∧ sh1.1 = sh.1 ∧ Ask B g g1)
    (hr : ∀ sh1 g1, LSh B sh1 → LM B n g1 d hist c → (∀ j, j ≠ 0 → g1 (B + 831) j = g (B + 831) j) → ∃ g2, CT w mr (.ref (B + 831) :: As) sh1 g1 (dQ (some x) sh1 g2) ∧ AR g1 g2 (B + 831) 0) : OPN w mc mr As V B (n + 1) sh g := by
  refine ⟨_, hC, fun E sh1 g1 h => ?_, fun v sh1 g1 h => ?_⟩
  · obtain ⟨e, -⟩ := hQ _ _ _ h
    cases e
  · obtain ⟨e1, e2, e3⟩ := hQ _ _ _ h
    cases e1
    have hS1 := hS.same e2
    obtain ⟨g2, c1, c3⟩ := hr sh1 g1 hS1 (hL.ask (Nat.le_refl _) e3) e3.2.1
    refine ⟨x, hV, rfl, hS1, _, c1, x_d, fun v2 sh3 g3 h3 => ?_⟩
    obtain ⟨d1, rfl, rfl⟩ := h3
    cases d1
    exact ⟨rfl, hS1, d, hist, c, hL.ask (Nat.le_succ _) (e3.tr c3.ask)⟩
theorem q_dV {x : Value} : ∀ r sh1 g1, dQ (some x) sh g r sh1 g1 → r = .inl (some x) ∧ sh1.1 = sh.1 ∧ Ask B g g1 := fun r sh1 g1 h => by
  obtain ⟨h1, rfl, rfl⟩ := h
  exact ⟨h1, rfl, Ask.rf⟩
theorem o_errorOffset (hS : LSh B sh) (hL : LM B n g d hist c) : OPN w mX9_errorOffset mX10_errorOffset [] VI B (n + 1) sh g :=
  op_ask (x := .int (i32 (g B 2))) ⟨_, rfl⟩ hS hL (c_errorOffset hS.1) q_dV (fun sh1 g1 hS1 hL1 hj => ⟨_, by
    have key := r_errorOffset (w := w) (g := g1) (lsMd hS1)
    rw [hj 7 (by decide), ← lm_7 hL] at key
    exact key, ar_u0⟩)
theorem o_foremost (hS : LSh B sh) (hL : LM B n g d hist c) {b : Int} (hb : R32 b) : OPN w mX9_foremost mX10_foremost [.int (i32 b)] VI B (n + 1) sh g := by
  have hI := hL.1.2.1
  by_cases hz : b = 0
  · exact op_ask (x := .int (i32 (s_foremost d 1))) ⟨_, rfl⟩ hS hL (c_foremost0 hS.1 hL.1 hb hz) q_dV (fun sh1 g1 hS1 hL1 _ => ⟨_, ct_up (lm_d hL1) (r_foremost0 (lsMd hS1) hI hb hz), ar_0 (lm_d hL1)⟩)
  · exact op_ask (x := .int (i32 (s_foremost d 3))) ⟨_, rfl⟩ hS hL (c_foremost1 hS.1 hL.1 hb hz) q_dV (fun sh1 g1 hS1 hL1 _ => ⟨_, ct_up (lm_d hL1) (r_foremost1 (lsMd hS1) hI hb hz), ar_0 (lm_d hL1)⟩)
theorem o_bestGuard (hS : LSh B sh) (hL : LM B n g d hist c) (hP : PI d) : OPN w mX9_bestGuard mX10_bestGuard [] VI B (n + 1) sh g :=
  op_ask (x := .int (i32 (bgF d 40).1)) ⟨_, rfl⟩ hS hL (c_bestGuard hS.1 hL.1 (lm_t hL)) q_triQ (fun sh1 g1 hS1 hL1 _ => ⟨_, ct_up (lm_d hL1) (r_bestGuard (lsMd hS1) hP), ar_a (lm_d hL1)⟩)
theorem o_service (hS : LSh B sh) (hL : LM B n g d hist c) : OPN w mX9_service mX10_service [] VF B (n + 1) sh g :=
  op_ask (x := .float (s_srv d)) ⟨_, rfl, vn_srv⟩ hS hL (c_service hS.1 hL.1) q_dV (fun sh1 g1 hS1 hL1 _ => ⟨_, ct_up (lm_d hL1) (r_service (lsMd hS1) hL.1.2.1), ar_0 (lm_d hL1)⟩)
theorem o_checksum (hS : LSh B sh) (hL : LM B n g d hist c) : OPN w mX9_checksum mX10_checksum [] VL B (n + 1) sh g :=
  op_ask (x := .long (i64 (s_sum d))) ⟨_, rfl⟩ hS hL (c_checksum hS.1 hL.1) q_dV (fun sh1 g1 hS1 hL1 _ => ⟨_, ct_up (lm_d hL1) (r_checksum (lsMd hS1) hL.1.2.1), ar_0 (lm_d hL1)⟩)
theorem o_undo (hS : LSh B sh) (hL : LM B n g d hist c) : OPN w mX9_undo mX10_undo [] VI B (n + 1) sh g := by
  by_cases hc : c = 0
  · subst hc
    exact op_ask (x := .int (i32 (-1))) ⟨_, rfl⟩ hS hL (c_undo0 hS.1 hL.2.1) q_dV (fun sh1 g1 hS1 hL1 _ => ⟨_, r_undo0 (lsMd hS1) hL1.2.2.1, ar_u0⟩)
  · refine ⟨_, c_undo1 hS.1 hL.1.1.1 hL.2.1 (by omega), x_i, fun v sh1 g1 h => ?_⟩
    obtain ⟨z, h1, rfl, rfl, k1, k2, f1⟩ := h
    cases h1
    refine ⟨_, ⟨_, rfl⟩, rfl, hS, _, r_undo1 (lsMd hS) (HR.fr hL.2.2.1 fun a a1 a2 => f1 a (by omega) (by omega)) (by omega), x_i, fun v2 sh2 g2 h2 => ?_⟩
    obtain ⟨z, h1, rfl, rfl, a1, a2, a3, a4, a5⟩ := h2
    cases h1
    have h6 := lm_h hL
    refine ⟨rfl, hS, hist 0, _, c - 1, hL.chg (g1 := g1) k1 k2 (fun a b1 b2 => f1 a (by omega) (by omega)) ((lm_e hL).fr fun a b1 b2 => f1 a (by omega) (by omega)) a1 a2 (fun a x1 x2 x3 x4 => a3 a x1 x2 x4) ?_ ?_ ?_ ?_⟩
    · rw [a4 2 (by decide) (by decide), f1 B (by omega) (by omega), f1 (B + 831) (by omega) (by omega)]
      exact ⟨(lm_b hL).1, (lm_b hL).2.1, Int.le_refl _⟩
    · rw [a4 7 (by decide) (by decide), f1 B (by omega) (by omega), f1 (B + 831) (by omega) (by omega)]
      exact lm_7 hL
    · have := h6 0 (by omega); omega
    · intro j hj
      have := h6 (j + 1) (by omega)
      omega
theorem o_append (hS : LSh B sh) (hL : LM B n g d hist c) {w0 w1 w2 w3 w4 : Int} (hw0 : R32 w0) (hw1 : R32 w1) (hw2 : R32 w2) (hw3 : R32 w3) (hw4 : R32 w4) : OPN w mX9_append mX10_append [.int (i32 w0), .int (i32 w1), .int (i32 w2), .int (i32 w3), .int (i32 w4)] VI B (n + 1) sh g := by
  have hbu := lm_b hL
  have h6 := lm_6 hL
  obtain ⟨nb, hnb⟩ : ∃ nb : Nat, g B 1 = (nb : Int) := ⟨(g B 1).toNat, by omega⟩
  by_cases hn : nb + 20 ≤ 700
  · refine ⟨_, c_append1 hS.1 hw0 hw1 hw2 hw3 hw4 hnb (by omega) hn, x_i, fun v sh1 g1 h => ?_⟩
    obtain ⟨z, h1, rfl, rfl, b1, b2, b3, b4⟩ := h
    cases h1
    have hm : ∀ a, a ≠ B → a ≠ B + 1 → g1 a = g a := b3
    refine ⟨_, ⟨_, rfl⟩, rfl, hS, _, r_append1 (g := g1) (lsMd hS) hw0 hw1 hw2 hw3 hw4 (nb := nb) (by rw [hm _ (by omega) (by omega), ← hbu.1]; exact hnb) (by omega) hn, x_i, fun v2 sh2 g2 h2 => ?_⟩
    obtain ⟨z, h1, rfl, rfl, e2⟩ := h2
    cases h1
    have r1 : ∀ a, a ≠ B + 831 → a ≠ B + 831 + 1 → g2 a = g1 a := fun a a1 a2 => by
      rw [e2]
      funext j
      unfold apN
      rw [if_neg (by omega), if_neg (by omega), up2_row a1]
    have r2 : ∀ j, j ≠ 0 → j ≠ 2 → g2 (B + 831) j = g1 (B + 831) j := fun j j1 j2 => by
      rw [e2]
      unfold apN
      rw [if_neg (by omega), if_neg (by omega), up2_k j1]
    have r3 : g2 (B + 831) 2 = ((nb + 20 : Nat) : Int) := by
      rw [e2]
      unfold apN
      exact if_pos ⟨rfl, rfl⟩
    have r4 : ∀ j, g2 (B + 831 + 1) j = if nb ≤ j ∧ j < nb + 20 then apb w0 w1 w2 w3 w4 (j - nb) else g (B + 831 + 1) j := fun j => by
      rw [e2]
      unfold apN
      rw [if_neg (by omega), up2_row (by omega), hm _ (by omega) (by omega)]
      by_cases q : nb ≤ j ∧ j < nb + 20
      · rw [if_pos q, if_pos ⟨rfl, q.1, q.2⟩]
      · rw [if_neg q, if_neg (fun z => q z.2)]
    have rr : ∀ a, a ≠ B → a ≠ B + 1 → a ≠ B + 831 → a ≠ B + 831 + 1 → g2 a = g a := fun a a1 a2 a3 a4 => (r1 a a3 a4).trans (hm a a1 a2)
    have rB : g2 B = g1 B := r1 B (by omega) (by omega)
    refine ⟨rfl, hS, d, hist, c, hL.1.rows (fun a a1 a2 => rr a (by omega) (by omega) (by omega) (by omega)), hL.2.1.rows (fun a a1 a2 => rr a (by omega) (by omega) (by omega) (by omega)), HR.same hL.2.2.1 ?_ (fun a a1 a2 => rr a (by omega) (by omega) (by omega) (by omega)), ?_, (lm_t hL).fr (fun a a1 a2 => rr a (by omega) (by omega) (by omega) (by omega)), (lm_e hL).fr (fun a a1 a2 => rr a (by omega) (by omega) (by omega) (by omega)), by omega, (fun j hj => by have := lm_h hL j hj; omega), ?_, ?_, ?_⟩
    · rw [r2 12 (by decide) (by decide), hm _ (by omega) (by omega)]
    · rw [rr _ (by omega) (by omega) (by omega) (by omega)]; exact lm_d hL
    · rw [rB, b1, r3]; exact ⟨rfl, by omega, by omega⟩
    · rw [rB, b1, r1 (B + 1) (by omega) (by omega)]
      intro k hk
      rw [b2 k, r4 k]
      by_cases q : nb ≤ k ∧ k < nb + 20
      · rw [if_pos q, if_pos q]
        exact ⟨rfl, apb_r _⟩
      · rw [if_neg q, if_neg q]
        exact lm_y hL k (by omega)
    · rw [rB, b4 2 (by decide), r2 7 (by decide) (by decide), hm _ (by omega) (by omega)]
      exact lm_7 hL
  · refine op_ask (x := .int (i32 (-1))) ⟨_, rfl⟩ hS hL (c_append0 hS.1 hw0 hw1 hw2 hw3 hw4 hnb (by omega) hn) q_dV (fun sh1 g1 hS1 hL1 hj => ⟨_, r_append0 (lsMd hS1) hw0 hw1 hw2 hw3 hw4 (nb := nb) (by rw [hj 2 (by decide), ← hbu.1]; exact hnb) (by omega) hn, ar_u0⟩)
theorem o_traffic (hS : LSh B sh) (hL : LM B n g d hist c) (hn : n ≤ 600) {x : Int} (hx : R32 x) : OPT w x B (n + 1) sh g := by
  have hI := hL.1.2.1
  have h6 := lm_6 hL
  by_cases h0 : 0 ≤ x ∧ x < d 3
  · obtain ⟨i, rfl⟩ : ∃ i : Nat, x = (i : Int) := ⟨x.toNat, by omega⟩
    have hv := vn_trf (i := i) hI (by omega) (by omega)
    refine ⟨_, h_traffic hS.1.1 rfl (c_traffic hS.1 hL.1 (i := i) (by omega) (by omega)) (fun v sh' g' h => ⟨_, Sum.inl.inj h.1, hv⟩) (fun v sh' g' h => by rw [h.2.1]; exact hS.2.2.2.2.2) (fun E sh' g' h => by cases h.1), fun E sh1 g1 h => ?_, fun v sh1 g1 h => ?_⟩
    · rcases h with ⟨x, g', -, h, -⟩ | ⟨-, h⟩ <;> cases h
    · rcases h with ⟨x, g', ⟨q1, rfl, rfl⟩, q2, q3⟩ | ⟨⟨q1, -⟩, -⟩
      · cases q1
        cases q2
        have hA : Ask B g' g1 := by rw [q3]; exact Ask.outD
        have hL1 := hL.ask (Nat.le_refl _) hA
        refine ⟨0, by decide, rfl, hS, _, ct_up (lm_d hL1) (r_traffic (lsMd hS) hI (i := i) (by omega) (by omega)), x_d, fun v2 sh2 g2 h2 => ?_⟩
        obtain ⟨d1, rfl, rfl⟩ := h2
        cases d1
        have c3 := ar_0 (g := g1) (lm_d hL1)
        refine ⟨_, rfl, c3.1, fun _ => ⟨hv, ?_⟩, hS, d, hist, c, hL1.ask (Nat.le_succ _) c3.ask⟩
        rw [c3.2.1 _ (by omega) (by omega), q3]
        exact up2_s
      · cases q1
  · refine ⟨_, h_traffic hS.1.1 rfl (c_trafficB hS.1 hL.1 hx h0) (fun v sh' g' h => by cases h.1) (fun v sh' g' h => by cases h.1) (fun E sh' g' h => by have := h.1; cases this; simp), fun E sh1 g1 h => ?_, fun v sh1 g1 h => ?_⟩
    · rcases h with ⟨x, g', -, h, -⟩ | ⟨-, h⟩ <;> cases h
    · rcases h with ⟨x, g', ⟨q1, -⟩, -⟩ | ⟨⟨q1, rfl, rfl⟩, q2⟩
      · cases q1
      · cases q2
        have hS1 : LSh B (sh.1, none) := hS.same rfl
        refine ⟨1, by decide, rfl, hS1, _, ct_up (lm_d hL) (r_trafficB (lsMd hS1) hI hx h0), x_d, fun v2 sh2 g2 h2 => ?_⟩
        obtain ⟨d1, rfl, rfl⟩ := h2
        cases d1
        have c3 := ar_k (g := g1) (k := 1) (lm_d hL)
        exact ⟨_, rfl, c3.1, fun h => absurd h (by decide), hS1, d, hist, c, hL.ask (Nat.le_succ _) c3.ask⟩
end OPS3
