/-! state, register and digit of the class -/
def s_busyL (d : Nat → Int) : Nat := cnt (fun (i : Nat) => decide ((i : Int) < d 2) && s_isBusy d (i : Int)) 12
def s_told (d : Nat → Int) (q : Nat) : Int := if 7 ≤ q ∧ q ≤ 18 then (s_cnt d ((q : Int) - 7) : Int) else if q = 22 then (s_busyL d : Int) else d q
theorem bm_cong {a b : Int} (h : (a - b) % 4294967296 = 0) : bm a = bm b := by unfold bm; omega
theorem i32_cong {a b : Int} (h : (a - b) % 4294967296 = 0) : i32 a = i32 b := by rw [← i32_bm a, ← i32_bm b, bm_cong h]
theorem rel_busyLines {g : Mem} {e : Nat} {d : Nat → Int} (h : RelX g e d) : x_busyLines g e = s_busyL d := cnt_cong (fun i hi => by rw [rel_isBusy h, h.2.1.2.2.1])
theorem rel_allOv {g : Mem} {e : Nat} {d : Nat → Int} (h : RelX g e d) (hb : RB d) : x_allOv g e = sO d := sm_cong (fun i hi => by
  rw [show g e 3 = d 3 from h.2.1.2.2.2.1]
  by_cases h3 : (i : Int) < d 3
  · rw [if_pos h3, if_pos h3, (h.2.2.2.1 i h3).2.2.1]
  · rw [if_neg h3, if_neg h3])
theorem q_i2 {sh : Shp} {g : Mem} {z z0 : Int} (h : i32 z = i32 z0) : dQ (some (.int (i32 z0))) sh g (.inl (some (.int (i32 z)))) sh g := by rw [h]; exact ⟨rfl, rfl, rfl⟩

set_option maxRecDepth 20000 in
theorem c_state0 {w : Wd} {sh : Shp} {g : Mem} {B : Nat} {d : Nat → Int} (hB : CxS sh.1 B) (hK : KX g (B + 2) d)  : CT w mX9_state [.ref (B), .int (i32 (0))] sh g (dQ (some (.int (i32 (s_told d 0)))) sh g) := by
  have hS := hK.1.2.1
  refine j_entry (by decide) rfl (Nat.le_of_ble_eq_true rfl) (fun h => by cases h) rfl ?_
  show J w mX9_state 0 [(0, .ref (B)), (1, .int (i32 (0)))] [] sh g 1 6 _
  refine j_iload_n 1 1 dX9_state_0 rfl rfl ?_
  refine j_if_lt 4 10 dX9_state_1 rfl rfl (r32 (by decide) (by decide)) (fun c_1 => absurd c_1 (by decide)) (fun c_1 => ?_)
  refine j_iload_n 5 1 dX9_state_4 rfl rfl ?_
  refine j_bipush 7 dX9_state_5 rfl (by decide) ?_
  refine j_icmp_le 10 18 dX9_state_7 rfl rfl (r32 (by decide) (by decide)) (r32 (by decide) (by decide)) (fun c_7 => ?_) (fun c_7 => absurd c_7 (by decide))
  refine j_iload_n 19 1 dX9_state_18 rfl rfl ?_
  refine j_bipush 21 dX9_state_19 rfl (by decide) ?_
  refine j_icmp_lt 24 42 dX9_state_21 rfl rfl (r32 (by decide) (by decide)) (r32 (by decide) (by decide)) (fun c_21 => ?_) (fun c_21 => absurd c_21 (by decide))
  refine j_iload_n 43 1 dX9_state_42 rfl rfl ?_
  refine j_tabIn 152 dX9_state_43 (r32 (by decide) (by decide)) (by decide) (by decide) rfl rfl ?_
  refine j_aload_n 153 0 dX9_state_152 rfl rfl ?_
  refine j_getr 156 dX9_state_153 rfl fl_X9_23 hB.cx rfl (fun _ _ => rfl) rfl ?_
  refine j_geti 159 dX9_state_156 rfl fl_X9_73 hB.now.ex rfl rfl (fun r_156 => ?_)
  exact j_iret dX9_state_159 rfl (q_i hS.1)

set_option maxRecDepth 20000 in
theorem c_state1 {w : Wd} {sh : Shp} {g : Mem} {B : Nat} {d : Nat → Int} (hB : CxS sh.1 B) (hK : KX g (B + 2) d)  : CT w mX9_state [.ref (B), .int (i32 (1))] sh g (dQ (some (.int (i32 (s_told d 1)))) sh g) := by
  have hS := hK.1.2.1
  refine j_entry (by decide) rfl (Nat.le_of_ble_eq_true rfl) (fun h => by cases h) rfl ?_
  show J w mX9_state 0 [(0, .ref (B)), (1, .int (i32 (1)))] [] sh g 1 6 _
  refine j_iload_n 1 1 dX9_state_0 rfl rfl ?_
  refine j_if_lt 4 10 dX9_state_1 rfl rfl (r32 (by decide) (by decide)) (fun c_1 => absurd c_1 (by decide)) (fun c_1 => ?_)
  refine j_iload_n 5 1 dX9_state_4 rfl rfl ?_
  refine j_bipush 7 dX9_state_5 rfl (by decide) ?_
  refine j_icmp_le 10 18 dX9_state_7 rfl rfl (r32 (by decide) (by decide)) (r32 (by decide) (by decide)) (fun c_7 => ?_) (fun c_7 => absurd c_7 (by decide))
  refine j_iload_n 19 1 dX9_state_18 rfl rfl ?_
  refine j_bipush 21 dX9_state_19 rfl (by decide) ?_
  refine j_icmp_lt 24 42 dX9_state_21 rfl rfl (r32 (by decide) (by decide)) (r32 (by decide) (by decide)) (fun c_21 => ?_) (fun c_21 => absurd c_21 (by decide))
  refine j_iload_n 43 1 dX9_state_42 rfl rfl ?_
  refine j_tabIn 160 dX9_state_43 (r32 (by decide) (by decide)) (by decide) (by decide) rfl rfl ?_
  refine j_aload_n 161 0 dX9_state_160 rfl rfl ?_
  refine j_getr 164 dX9_state_161 rfl fl_X9_23 hB.cx rfl (fun _ _ => rfl) rfl ?_
  refine j_geti 167 dX9_state_164 rfl fl_X9_76 hB.now.ex rfl rfl (fun r_164 => ?_)
  exact j_iret dX9_state_167 rfl (q_i hS.2.1)

set_option maxRecDepth 20000 in
theorem c_state2 {w : Wd} {sh : Shp} {g : Mem} {B : Nat} {d : Nat → Int} (hB : CxS sh.1 B) (hK : KX g (B + 2) d)  : CT w mX9_state [.ref (B), .int (i32 (2))] sh g (dQ (some (.int (i32 (s_told d 2)))) sh g) := by
  have hS := hK.1.2.1
  refine j_entry (by decide) rfl (Nat.le_of_ble_eq_true rfl) (fun h => by cases h) rfl ?_
  show J w mX9_state 0 [(0, .ref (B)), (1, .int (i32 (2)))] [] sh g 1 6 _
  refine j_iload_n 1 1 dX9_state_0 rfl rfl ?_
  refine j_if_lt 4 10 dX9_state_1 rfl rfl (r32 (by decide) (by decide)) (fun c_1 => absurd c_1 (by decide)) (fun c_1 => ?_)
  refine j_iload_n 5 1 dX9_state_4 rfl rfl ?_
  refine j_bipush 7 dX9_state_5 rfl (by decide) ?_
  refine j_icmp_le 10 18 dX9_state_7 rfl rfl (r32 (by decide) (by decide)) (r32 (by decide) (by decide)) (fun c_7 => ?_) (fun c_7 => absurd c_7 (by decide))
  refine j_iload_n 19 1 dX9_state_18 rfl rfl ?_
  refine j_bipush 21 dX9_state_19 rfl (by decide) ?_
  refine j_icmp_lt 24 42 dX9_state_21 rfl rfl (r32 (by decide) (by decide)) (r32 (by decide) (by decide)) (fun c_21 => ?_) (fun c_21 => absurd c_21 (by decide))
  refine j_iload_n 43 1 dX9_state_42 rfl rfl ?_
  refine j_tabIn 168 dX9_state_43 (r32 (by decide) (by decide)) (by decide) (by decide) rfl rfl ?_
  refine j_aload_n 169 0 dX9_state_168 rfl rfl ?_
  refine j_getr 172 dX9_state_169 rfl fl_X9_23 hB.cx rfl (fun _ _ => rfl) rfl ?_
  refine j_geti 175 dX9_state_172 rfl fl_X9_79 hB.now.ex rfl rfl (fun r_172 => ?_)
  exact j_iret dX9_state_175 rfl (q_i hS.2.2.1)

set_option maxRecDepth 20000 in
theorem c_state3 {w : Wd} {sh : Shp} {g : Mem} {B : Nat} {d : Nat → Int} (hB : CxS sh.1 B) (hK : KX g (B + 2) d)  : CT w mX9_state [.ref (B), .int (i32 (3))] sh g (dQ (some (.int (i32 (s_told d 3)))) sh g) := by
  have hS := hK.1.2.1
  refine j_entry (by decide) rfl (Nat.le_of_ble_eq_true rfl) (fun h => by cases h) rfl ?_
  show J w mX9_state 0 [(0, .ref (B)), (1, .int (i32 (3)))] [] sh g 1 6 _
  refine j_iload_n 1 1 dX9_state_0 rfl rfl ?_
  refine j_if_lt 4 10 dX9_state_1 rfl rfl (r32 (by decide) (by decide)) (fun c_1 => absurd c_1 (by decide)) (fun c_1 => ?_)
  refine j_iload_n 5 1 dX9_state_4 rfl rfl ?_
  refine j_bipush 7 dX9_state_5 rfl (by decide) ?_
  refine j_icmp_le 10 18 dX9_state_7 rfl rfl (r32 (by decide) (by decide)) (r32 (by decide) (by decide)) (fun c_7 => ?_) (fun c_7 => absurd c_7 (by decide))
  refine j_iload_n 19 1 dX9_state_18 rfl rfl ?_
  refine j_bipush 21 dX9_state_19 rfl (by decide) ?_
  refine j_icmp_lt 24 42 dX9_state_21 rfl rfl (r32 (by decide) (by decide)) (r32 (by decide) (by decide)) (fun c_21 => ?_) (fun c_21 => absurd c_21 (by decide))
  refine j_iload_n 43 1 dX9_state_42 rfl rfl ?_
  refine j_tabIn 176 dX9_state_43 (r32 (by decide) (by decide)) (by decide) (by decide) rfl rfl ?_
  refine j_aload_n 177 0 dX9_state_176 rfl rfl ?_
  refine j_getr 180 dX9_state_177 rfl fl_X9_23 hB.cx rfl (fun _ _ => rfl) rfl ?_
  refine j_geti 183 dX9_state_180 rfl fl_X9_82 hB.now.ex rfl rfl (fun r_180 => ?_)
  exact j_iret dX9_state_183 rfl (q_i hS.2.2.2.1)

set_option maxRecDepth 20000 in
theorem c_state4 {w : Wd} {sh : Shp} {g : Mem} {B : Nat} {d : Nat → Int} (hB : CxS sh.1 B) (hK : KX g (B + 2) d)  : CT w mX9_state [.ref (B), .int (i32 (4))] sh g (dQ (some (.int (i32 (s_told d 4)))) sh g) := by
  have hS := hK.1.2.1
  refine j_entry (by decide) rfl (Nat.le_of_ble_eq_true rfl) (fun h => by cases h) rfl ?_
  show J w mX9_state 0 [(0, .ref (B)), (1, .int (i32 (4)))] [] sh g 1 6 _
  refine j_iload_n 1 1 dX9_state_0 rfl rfl ?_
  refine j_if_lt 4 10 dX9_state_1 rfl rfl (r32 (by decide) (by decide)) (fun c_1 => absurd c_1 (by decide)) (fun c_1 => ?_)
  refine j_iload_n 5 1 dX9_state_4 rfl rfl ?_
  refine j_bipush 7 dX9_state_5 rfl (by decide) ?_
  refine j_icmp_le 10 18 dX9_state_7 rfl rfl (r32 (by decide) (by decide)) (r32 (by decide) (by decide)) (fun c_7 => ?_) (fun c_7 => absurd c_7 (by decide))
  refine j_iload_n 19 1 dX9_state_18 rfl rfl ?_
  refine j_bipush 21 dX9_state_19 rfl (by decide) ?_
  refine j_icmp_lt 24 42 dX9_state_21 rfl rfl (r32 (by decide) (by decide)) (r32 (by decide) (by decide)) (fun c_21 => ?_) (fun c_21 => absurd c_21 (by decide))
  refine j_iload_n 43 1 dX9_state_42 rfl rfl ?_
  refine j_tabIn 184 dX9_state_43 (r32 (by decide) (by decide)) (by decide) (by decide) rfl rfl ?_
  refine j_aload_n 185 0 dX9_state_184 rfl rfl ?_
  refine j_getr 188 dX9_state_185 rfl fl_X9_23 hB.cx rfl (fun _ _ => rfl) rfl ?_
  refine j_geti 191 dX9_state_188 rfl fl_X9_85 hB.now.ex rfl rfl (fun r_188 => ?_)
  exact j_iret dX9_state_191 rfl (q_i hS.2.2.2.2.1)

set_option maxRecDepth 20000 in
theorem c_state5 {w : Wd} {sh : Shp} {g : Mem} {B : Nat} {d : Nat → Int} (hB : CxS sh.1 B) (hK : KX g (B + 2) d)  : CT w mX9_state [.ref (B), .int (i32 (5))] sh g (dQ (some (.int (i32 (s_told d 5)))) sh g) := by
  have hS := hK.1.2.1
  refine j_entry (by decide) rfl (Nat.le_of_ble_eq_true rfl) (fun h => by cases h) rfl ?_
  show J w mX9_state 0 [(0, .ref (B)), (1, .int (i32 (5)))] [] sh g 1 6 _
  refine j_iload_n 1 1 dX9_state_0 rfl rfl ?_
  refine j_if_lt 4 10 dX9_state_1 rfl rfl (r32 (by decide) (by decide)) (fun c_1 => absurd c_1 (by decide)) (fun c_1 => ?_)
  refine j_iload_n 5 1 dX9_state_4 rfl rfl ?_
  refine j_bipush 7 dX9_state_5 rfl (by decide) ?_
  refine j_icmp_le 10 18 dX9_state_7 rfl rfl (r32 (by decide) (by decide)) (r32 (by decide) (by decide)) (fun c_7 => ?_) (fun c_7 => absurd c_7 (by decide))
  refine j_iload_n 19 1 dX9_state_18 rfl rfl ?_
  refine j_bipush 21 dX9_state_19 rfl (by decide) ?_
  refine j_icmp_lt 24 42 dX9_state_21 rfl rfl (r32 (by decide) (by decide)) (r32 (by decide) (by decide)) (fun c_21 => ?_) (fun c_21 => absurd c_21 (by decide))
  refine j_iload_n 43 1 dX9_state_42 rfl rfl ?_
  refine j_tabIn 192 dX9_state_43 (r32 (by decide) (by decide)) (by decide) (by decide) rfl rfl ?_
  refine j_aload_n 193 0 dX9_state_192 rfl rfl ?_
  refine j_getr 196 dX9_state_193 rfl fl_X9_23 hB.cx rfl (fun _ _ => rfl) rfl ?_
  refine j_geti 199 dX9_state_196 rfl fl_X9_66 hB.now.ex rfl rfl (fun r_196 => ?_)
  exact j_iret dX9_state_199 rfl (q_i hS.2.2.2.2.2.1)

set_option maxRecDepth 20000 in
theorem c_state6 {w : Wd} {sh : Shp} {g : Mem} {B : Nat} {d : Nat → Int} (hB : CxS sh.1 B) (hK : KX g (B + 2) d)  : CT w mX9_state [.ref (B), .int (i32 (6))] sh g (dQ (some (.int (i32 (s_told d 6)))) sh g) := by
  have hS := hK.1.2.1
  refine j_entry (by decide) rfl (Nat.le_of_ble_eq_true rfl) (fun h => by cases h) rfl ?_
  show J w mX9_state 0 [(0, .ref (B)), (1, .int (i32 (6)))] [] sh g 1 6 _
  refine j_iload_n 1 1 dX9_state_0 rfl rfl ?_
  refine j_if_lt 4 10 dX9_state_1 rfl rfl (r32 (by decide) (by decide)) (fun c_1 => absurd c_1 (by decide)) (fun c_1 => ?_)
  refine j_iload_n 5 1 dX9_state_4 rfl rfl ?_
  refine j_bipush 7 dX9_state_5 rfl (by decide) ?_
  refine j_icmp_le 10 18 dX9_state_7 rfl rfl (r32 (by decide) (by decide)) (r32 (by decide) (by decide)) (fun c_7 => ?_) (fun c_7 => absurd c_7 (by decide))
  refine j_iload_n 19 1 dX9_state_18 rfl rfl ?_
  refine j_bipush 21 dX9_state_19 rfl (by decide) ?_
  refine j_icmp_lt 24 42 dX9_state_21 rfl rfl (r32 (by decide) (by decide)) (r32 (by decide) (by decide)) (fun c_21 => ?_) (fun c_21 => absurd c_21 (by decide))
  refine j_iload_n 43 1 dX9_state_42 rfl rfl ?_
  refine j_tabIn 200 dX9_state_43 (r32 (by decide) (by decide)) (by decide) (by decide) rfl rfl ?_
  refine j_aload_n 201 0 dX9_state_200 rfl rfl ?_
  refine j_getr 204 dX9_state_201 rfl fl_X9_23 hB.cx rfl (fun _ _ => rfl) rfl ?_
  refine j_geti 207 dX9_state_204 rfl fl_X9_88 hB.now.ex rfl rfl (fun r_204 => ?_)
  exact j_iret dX9_state_207 rfl (q_i hS.2.2.2.2.2.2.1)

set_option maxRecDepth 20000 in
theorem c_state19 {w : Wd} {sh : Shp} {g : Mem} {B : Nat} {d : Nat → Int} (hB : CxS sh.1 B) (hK : KX g (B + 2) d)  : CT w mX9_state [.ref (B), .int (i32 (19))] sh g (dQ (some (.int (i32 (s_told d 19)))) sh g) := by
  have hS := hK.1.2.1
  refine j_entry (by decide) rfl (Nat.le_of_ble_eq_true rfl) (fun h => by cases h) rfl ?_
  show J w mX9_state 0 [(0, .ref (B)), (1, .int (i32 (19)))] [] sh g 1 6 _
  refine j_iload_n 1 1 dX9_state_0 rfl rfl ?_
  refine j_if_lt 4 10 dX9_state_1 rfl rfl (r32 (by decide) (by decide)) (fun c_1 => absurd c_1 (by decide)) (fun c_1 => ?_)
  refine j_iload_n 5 1 dX9_state_4 rfl rfl ?_
  refine j_bipush 7 dX9_state_5 rfl (by decide) ?_
  refine j_icmp_le 10 18 dX9_state_7 rfl rfl (r32 (by decide) (by decide)) (r32 (by decide) (by decide)) (fun c_7 => ?_) (fun c_7 => absurd c_7 (by decide))
  refine j_iload_n 19 1 dX9_state_18 rfl rfl ?_
  refine j_bipush 21 dX9_state_19 rfl (by decide) ?_
  refine j_icmp_lt 24 42 dX9_state_21 rfl rfl (r32 (by decide) (by decide)) (r32 (by decide) (by decide)) (fun c_21 => absurd c_21 (by decide)) (fun c_21 => ?_)
  refine j_iload_n 25 1 dX9_state_24 rfl rfl ?_
  refine j_bipush 27 dX9_state_25 rfl (by decide) ?_
  refine j_icmp_gt 30 42 dX9_state_27 rfl rfl (r32 (by decide) (by decide)) (r32 (by decide) (by decide)) (fun c_27 => ?_) (fun c_27 => absurd c_27 (by decide))
  refine j_iload_n 43 1 dX9_state_42 rfl rfl ?_
  refine j_tabIn 208 dX9_state_43 (r32 (by decide) (by decide)) (by decide) (by decide) rfl rfl ?_
  refine j_aload_n 209 0 dX9_state_208 rfl rfl ?_
  refine j_getr 212 dX9_state_209 rfl fl_X9_23 hB.cx rfl (fun _ _ => rfl) rfl ?_
  refine j_geti 215 dX9_state_212 rfl fl_X9_91 hB.now.ex rfl rfl (fun r_212 => ?_)
  exact j_iret dX9_state_215 rfl (q_i hS.2.2.2.2.2.2.2.1)

set_option maxRecDepth 20000 in
theorem c_state20 {w : Wd} {sh : Shp} {g : Mem} {B : Nat} {d : Nat → Int} (hB : CxS sh.1 B) (hK : KX g (B + 2) d)  : CT w mX9_state [.ref (B), .int (i32 (20))] sh g (dQ (some (.int (i32 (s_told d 20)))) sh g) := by
  have hS := hK.1.2.1
  refine j_entry (by decide) rfl (Nat.le_of_ble_eq_true rfl) (fun h => by cases h) rfl ?_
  show J w mX9_state 0 [(0, .ref (B)), (1, .int (i32 (20)))] [] sh g 1 6 _
  refine j_iload_n 1 1 dX9_state_0 rfl rfl ?_
  refine j_if_lt 4 10 dX9_state_1 rfl rfl (r32 (by decide) (by decide)) (fun c_1 => absurd c_1 (by decide)) (fun c_1 => ?_)
  refine j_iload_n 5 1 dX9_state_4 rfl rfl ?_
  refine j_bipush 7 dX9_state_5 rfl (by decide) ?_
  refine j_icmp_le 10 18 dX9_state_7 rfl rfl (r32 (by decide) (by decide)) (r32 (by decide) (by decide)) (fun c_7 => ?_) (fun c_7 => absurd c_7 (by decide))
  refine j_iload_n 19 1 dX9_state_18 rfl rfl ?_
  refine j_bipush 21 dX9_state_19 rfl (by decide) ?_
  refine j_icmp_lt 24 42 dX9_state_21 rfl rfl (r32 (by decide) (by decide)) (r32 (by decide) (by decide)) (fun c_21 => absurd c_21 (by decide)) (fun c_21 => ?_)
  refine j_iload_n 25 1 dX9_state_24 rfl rfl ?_
  refine j_bipush 27 dX9_state_25 rfl (by decide) ?_
  refine j_icmp_gt 30 42 dX9_state_27 rfl rfl (r32 (by decide) (by decide)) (r32 (by decide) (by decide)) (fun c_27 => ?_) (fun c_27 => absurd c_27 (by decide))
  refine j_iload_n 43 1 dX9_state_42 rfl rfl ?_
  refine j_tabIn 216 dX9_state_43 (r32 (by decide) (by decide)) (by decide) (by decide) rfl rfl ?_
  refine j_aload_n 217 0 dX9_state_216 rfl rfl ?_
  refine j_getr 220 dX9_state_217 rfl fl_X9_23 hB.cx rfl (fun _ _ => rfl) rfl ?_
  refine j_geti 223 dX9_state_220 rfl fl_X9_94 hB.now.ex rfl rfl (fun r_220 => ?_)
  exact j_iret dX9_state_223 rfl (q_i hS.2.2.2.2.2.2.2.2.1)

set_option maxRecDepth 20000 in
theorem c_state21 {w : Wd} {sh : Shp} {g : Mem} {B : Nat} {d : Nat → Int} (hB : CxS sh.1 B) (hK : KX g (B + 2) d)  : CT w mX9_state [.ref (B), .int (i32 (21))] sh g (dQ (some (.int (i32 (s_told d 21)))) sh g) := by
  have hS := hK.1.2.1
  refine j_entry (by decide) rfl (Nat.le_of_ble_eq_true rfl) (fun h => by cases h) rfl ?_
  show J w mX9_state 0 [(0, .ref (B)), (1, .int (i32 (21)))] [] sh g 1 6 _
  refine j_iload_n 1 1 dX9_state_0 rfl rfl ?_
  refine j_if_lt 4 10 dX9_state_1 rfl rfl (r32 (by decide) (by decide)) (fun c_1 => absurd c_1 (by decide)) (fun c_1 => ?_)
  refine j_iload_n 5 1 dX9_state_4 rfl rfl ?_
  refine j_bipush 7 dX9_state_5 rfl (by decide) ?_
  refine j_icmp_le 10 18 dX9_state_7 rfl rfl (r32 (by decide) (by decide)) (r32 (by decide) (by decide)) (fun c_7 => ?_) (fun c_7 => absurd c_7 (by decide))
  refine j_iload_n 19 1 dX9_state_18 rfl rfl ?_
  refine j_bipush 21 dX9_state_19 rfl (by decide) ?_
  refine j_icmp_lt 24 42 dX9_state_21 rfl rfl (r32 (by decide) (by decide)) (r32 (by decide) (by decide)) (fun c_21 => absurd c_21 (by decide)) (fun c_21 => ?_)
  refine j_iload_n 25 1 dX9_state_24 rfl rfl ?_
  refine j_bipush 27 dX9_state_25 rfl (by decide) ?_
  refine j_icmp_gt 30 42 dX9_state_27 rfl rfl (r32 (by decide) (by decide)) (r32 (by decide) (by decide)) (fun c_27 => ?_) (fun c_27 => absurd c_27 (by decide))
  refine j_iload_n 43 1 dX9_state_42 rfl rfl ?_
  refine j_tabIn 224 dX9_state_43 (r32 (by decide) (by decide)) (by decide) (by decide) rfl rfl ?_
  refine j_aload_n 225 0 dX9_state_224 rfl rfl ?_
  refine j_getr 228 dX9_state_225 rfl fl_X9_23 hB.cx rfl (fun _ _ => rfl) rfl ?_
  refine j_geti 231 dX9_state_228 rfl fl_X9_97 hB.now.ex rfl rfl (fun r_228 => ?_)
  exact j_iret dX9_state_231 rfl (q_i hS.2.2.2.2.2.2.2.2.2.1)

set_option maxRecDepth 20000 in
theorem c_state22 {w : Wd} {sh : Shp} {g : Mem} {B : Nat} {d : Nat → Int} (hB : CxS sh.1 B) (hK : KX g (B + 2) d)  : CT w mX9_state [.ref (B), .int (i32 (22))] sh g (dQ (some (.int (i32 (s_told d 22)))) sh g) := by
  have hS := hK.1.2.1
  refine j_entry (by decide) rfl (Nat.le_of_ble_eq_true rfl) (fun h => by cases h) rfl ?_
  show J w mX9_state 0 [(0, .ref (B)), (1, .int (i32 (22)))] [] sh g 1 6 _
  refine j_iload_n 1 1 dX9_state_0 rfl rfl ?_
  refine j_if_lt 4 10 dX9_state_1 rfl rfl (r32 (by decide) (by decide)) (fun c_1 => absurd c_1 (by decide)) (fun c_1 => ?_)
  refine j_iload_n 5 1 dX9_state_4 rfl rfl ?_
  refine j_bipush 7 dX9_state_5 rfl (by decide) ?_
  refine j_icmp_le 10 18 dX9_state_7 rfl rfl (r32 (by decide) (by decide)) (r32 (by decide) (by decide)) (fun c_7 => ?_) (fun c_7 => absurd c_7 (by decide))
  refine j_iload_n 19 1 dX9_state_18 rfl rfl ?_
  refine j_bipush 21 dX9_state_19 rfl (by decide) ?_
  refine j_icmp_lt 24 42 dX9_state_21 rfl rfl (r32 (by decide) (by decide)) (r32 (by decide) (by decide)) (fun c_21 => absurd c_21 (by decide)) (fun c_21 => ?_)
  refine j_iload_n 25 1 dX9_state_24 rfl rfl ?_
  refine j_bipush 27 dX9_state_25 rfl (by decide) ?_
  refine j_icmp_gt 30 42 dX9_state_27 rfl rfl (r32 (by decide) (by decide)) (r32 (by decide) (by decide)) (fun c_27 => ?_) (fun c_27 => absurd c_27 (by decide))
  refine j_iload_n 43 1 dX9_state_42 rfl rfl ?_
  refine j_tabIn 232 dX9_state_43 (r32 (by decide) (by decide)) (by decide) (by decide) rfl rfl ?_
  refine j_aload_n 233 0 dX9_state_232 rfl rfl ?_
  refine j_getr 236 dX9_state_233 rfl fl_X9_23 hB.cx rfl (fun _ _ => rfl) rfl ?_
  refine j_callV 239 (As := []) (kc2 := 1) (ks2 := 6) dX9_state_236 rfl mvX1_busyLines lk_X9_100 hB.now.ex rfl ⟨Nat.le_of_ble_eq_true rfl, rfl⟩ rfl rfl (Nat.le_of_ble_eq_true rfl) ⟨Nat.le_of_ble_eq_true rfl, Nat.le_of_ble_eq_true rfl⟩ ⟨Nat.le_of_ble_eq_true rfl, Nat.le_of_ble_eq_true rfl⟩ (c_busyLines hB.now hK.1.1 (by rw [hS.2.2.1]; exact hK.2.1.1.2.2.1.2)) x_d (k_d1 ?_)
  exact j_iret dX9_state_239 rfl (q_i (by rw [rel_busyLines hK.1]; rfl))

set_option maxRecDepth 20000 in
theorem c_state23 {w : Wd} {sh : Shp} {g : Mem} {B : Nat} {d : Nat → Int} (hB : CxS sh.1 B) (hK : KX g (B + 2) d)  : CT w mX9_state [.ref (B), .int (i32 (23))] sh g (dQ (some (.int (i32 (s_told d 23)))) sh g) := by
  have hS := hK.1.2.1
  refine j_entry (by decide) rfl (Nat.le_of_ble_eq_true rfl) (fun h => by cases h) rfl ?_
  show J w mX9_state 0 [(0, .ref (B)), (1, .int (i32 (23)))] [] sh g 1 6 _
  refine j_iload_n 1 1 dX9_state_0 rfl rfl ?_
  refine j_if_lt 4 10 dX9_state_1 rfl rfl (r32 (by decide) (by decide)) (fun c_1 => absurd c_1 (by decide)) (fun c_1 => ?_)
  refine j_iload_n 5 1 dX9_state_4 rfl rfl ?_
  refine j_bipush 7 dX9_state_5 rfl (by decide) ?_
  refine j_icmp_le 10 18 dX9_state_7 rfl rfl (r32 (by decide) (by decide)) (r32 (by decide) (by decide)) (fun c_7 => ?_) (fun c_7 => absurd c_7 (by decide))
  refine j_iload_n 19 1 dX9_state_18 rfl rfl ?_
  refine j_bipush 21 dX9_state_19 rfl (by decide) ?_
  refine j_icmp_lt 24 42 dX9_state_21 rfl rfl (r32 (by decide) (by decide)) (r32 (by decide) (by decide)) (fun c_21 => absurd c_21 (by decide)) (fun c_21 => ?_)
  refine j_iload_n 25 1 dX9_state_24 rfl rfl ?_
  refine j_bipush 27 dX9_state_25 rfl (by decide) ?_
  refine j_icmp_gt 30 42 dX9_state_27 rfl rfl (r32 (by decide) (by decide)) (r32 (by decide) (by decide)) (fun c_27 => ?_) (fun c_27 => absurd c_27 (by decide))
  refine j_iload_n 43 1 dX9_state_42 rfl rfl ?_
  refine j_tabIn 240 dX9_state_43 (r32 (by decide) (by decide)) (by decide) (by decide) rfl rfl ?_
  refine j_aload_n 241 0 dX9_state_240 rfl rfl ?_
  refine j_getr 244 dX9_state_241 rfl fl_X9_23 hB.cx rfl (fun _ _ => rfl) rfl ?_
  refine j_callV 247 (As := []) (kc2 := 1) (ks2 := 6) dX9_state_244 rfl mvX1_allOverflows lk_X9_104 hB.now.ex rfl ⟨Nat.le_of_ble_eq_true rfl, rfl⟩ rfl rfl (Nat.le_of_ble_eq_true rfl) ⟨Nat.le_of_ble_eq_true rfl, Nat.le_of_ble_eq_true rfl⟩ ⟨Nat.le_of_ble_eq_true rfl, Nat.le_of_ble_eq_true rfl⟩ (c_allOverflows hB.now hK.1.1) x_d (k_d1 ?_)
  exact j_iret dX9_state_247 rfl (q_i2 (by rw [rel_allOv hK.1 hK.2.1.1]; exact i32_cong hK.2.2.2))

set_option maxRecDepth 20000 in
theorem c_state24 {w : Wd} {sh : Shp} {g : Mem} {B : Nat} {d : Nat → Int} (hB : CxS sh.1 B) (hK : KX g (B + 2) d)  : CT w mX9_state [.ref (B), .int (i32 (24))] sh g (dQ (some (.int (i32 (s_told d 24)))) sh g) := by
  have hS := hK.1.2.1
  refine j_entry (by decide) rfl (Nat.le_of_ble_eq_true rfl) (fun h => by cases h) rfl ?_
  show J w mX9_state 0 [(0, .ref (B)), (1, .int (i32 (24)))] [] sh g 1 6 _
  refine j_iload_n 1 1 dX9_state_0 rfl rfl ?_
  refine j_if_lt 4 10 dX9_state_1 rfl rfl (r32 (by decide) (by decide)) (fun c_1 => absurd c_1 (by decide)) (fun c_1 => ?_)
  refine j_iload_n 5 1 dX9_state_4 rfl rfl ?_
  refine j_bipush 7 dX9_state_5 rfl (by decide) ?_
  refine j_icmp_le 10 18 dX9_state_7 rfl rfl (r32 (by decide) (by decide)) (r32 (by decide) (by decide)) (fun c_7 => ?_) (fun c_7 => absurd c_7 (by decide))
  refine j_iload_n 19 1 dX9_state_18 rfl rfl ?_
  refine j_bipush 21 dX9_state_19 rfl (by decide) ?_
  refine j_icmp_lt 24 42 dX9_state_21 rfl rfl (r32 (by decide) (by decide)) (r32 (by decide) (by decide)) (fun c_21 => absurd c_21 (by decide)) (fun c_21 => ?_)
  refine j_iload_n 25 1 dX9_state_24 rfl rfl ?_
  refine j_bipush 27 dX9_state_25 rfl (by decide) ?_
  refine j_icmp_gt 30 42 dX9_state_27 rfl rfl (r32 (by decide) (by decide)) (r32 (by decide) (by decide)) (fun c_27 => ?_) (fun c_27 => absurd c_27 (by decide))
  refine j_iload_n 43 1 dX9_state_42 rfl rfl ?_
  refine j_tabOut 248 dX9_state_43 (r32 (by decide) (by decide)) (Or.inr (by decide)) rfl ?_
  refine j_aload_n 249 0 dX9_state_248 rfl rfl ?_
  refine j_getr 252 dX9_state_249 rfl fl_X9_23 hB.cx rfl (fun _ _ => rfl) rfl ?_
  refine j_geti 255 dX9_state_252 rfl fl_X9_107 hB.now.ex rfl rfl (fun r_252 => ?_)
  exact j_iret dX9_state_255 rfl (q_i hS.2.2.2.2.2.2.2.2.2.2.1)

set_option maxRecDepth 20000 in
theorem c_stateC {w : Wd} {sh : Shp} {g : Mem} {B : Nat} {d : Nat → Int} (hB : CxS sh.1 B) (hK : KX g (B + 2) d) {q : Int} (hq : 7 ≤ q ∧ q ≤ 18) : CT w mX9_state [.ref (B), .int (i32 (q))] sh g (dQ (some (.int (i32 (s_told d q.toNat)))) sh g) := by
  have hS := hK.1.2.1
  refine j_entry (by decide) rfl (Nat.le_of_ble_eq_true rfl) (fun h => by cases h) rfl ?_
  show J w mX9_state 0 [(0, .ref (B)), (1, .int (i32 (q)))] [] sh g 1 6 _
  refine j_iload_n 1 1 dX9_state_0 rfl rfl ?_
  refine j_if_lt 4 10 dX9_state_1 rfl rfl (r32 (by omega) (by omega)) (fun c_1 => absurd c_1 (by omega)) (fun c_1 => ?_)
  refine j_iload_n 5 1 dX9_state_4 rfl rfl ?_
  refine j_bipush 7 dX9_state_5 rfl (by decide) ?_
  refine j_icmp_le 10 18 dX9_state_7 rfl rfl (r32 (by omega) (by omega)) (r32 (by decide) (by decide)) (fun c_7 => ?_) (fun c_7 => absurd c_7 (by omega))
  refine j_iload_n 19 1 dX9_state_18 rfl rfl ?_
  refine j_bipush 21 dX9_state_19 rfl (by decide) ?_
  refine j_icmp_lt 24 42 dX9_state_21 rfl rfl (r32 (by omega) (by omega)) (r32 (by decide) (by decide)) (fun c_21 => absurd c_21 (by omega)) (fun c_21 => ?_)
  refine j_iload_n 25 1 dX9_state_24 rfl rfl ?_
  refine j_bipush 27 dX9_state_25 rfl (by decide) ?_
  refine j_icmp_gt 30 42 dX9_state_27 rfl rfl (r32 (by omega) (by omega)) (r32 (by decide) (by decide)) (fun c_27 => absurd c_27 (by omega)) (fun c_27 => ?_)
  refine j_aload_n 31 0 dX9_state_30 rfl rfl ?_
  refine j_getr 34 dX9_state_31 rfl fl_X9_23 hB.cx rfl (fun _ _ => rfl) rfl ?_
  refine j_iload_n 35 1 dX9_state_34 rfl rfl ?_
  refine j_bipush 37 dX9_state_35 rfl (by decide) ?_
  refine j_isub 38 dX9_state_37 rfl ?_
  refine j_callV 41 (As := [.int (i32 ((q) - (7)))]) (kc2 := 1) (ks2 := 6) dX9_state_38 rfl mvX1_countIn lk_X9_69 hB.now.ex rfl ⟨Nat.le_of_ble_eq_true rfl, rfl⟩ rfl rfl (Nat.le_of_ble_eq_true rfl) ⟨Nat.le_of_ble_eq_true rfl, Nat.le_of_ble_eq_true rfl⟩ ⟨Nat.le_of_ble_eq_true rfl, Nat.le_of_ble_eq_true rfl⟩ (c_countIn hB.now (r32 (by omega) (by omega))) x_d (k_d1 ?_)
  exact j_iret dX9_state_41 rfl (q_i (by rw [rel_countIn hK.1 (by omega)]; unfold s_told; rw [if_pos (by omega), show ((q.toNat : Nat) : Int) = q by omega]))

set_option maxRecDepth 20000 in
theorem c_stateI {w : Wd} {sh : Shp} {g : Mem} {B : Nat} (hB : CxS sh.1 B) {q : Int} (hq : R32 q) (hb : q < 0 ∨ 24 < q) : CT w mX9_state [.ref (B), .int (i32 (q))] sh g (tQ xI sh g) := by
  refine j_entry (by decide) rfl (Nat.le_of_ble_eq_true rfl) (fun h => by cases h) rfl ?_
  show J w mX9_state 0 [(0, .ref (B)), (1, .int (i32 (q)))] [] sh g 1 6 _
  refine j_iload_n 1 1 dX9_state_0 rfl rfl ?_
  refine j_if_lt 4 10 dX9_state_1 rfl rfl hq (fun c_1 => ?_) (fun c_1 => ?_)
  · exact j_throw xI th_X9_state_10 ⟨Nat.le_of_ble_eq_true rfl, Nat.le_of_ble_eq_true rfl⟩ ⟨rfl, rfl, rfl⟩
  · refine j_iload_n 5 1 dX9_state_4 rfl rfl ?_
    refine j_bipush 7 dX9_state_5 rfl (by decide) ?_
    refine j_icmp_le 10 18 dX9_state_7 rfl rfl hq (r32 (by decide) (by decide)) (fun c_7 => absurd c_7 (by omega)) (fun c_7 => ?_)
    exact j_throw xI th_X9_state_10 ⟨Nat.le_of_ble_eq_true rfl, Nat.le_of_ble_eq_true rfl⟩ ⟨rfl, rfl, rfl⟩

theorem c_state {w : Wd} {sh : Shp} {g : Mem} {B : Nat} {d : Nat → Int} (hB : CxS sh.1 B) (hK : KX g (B + 2) d) {q : Int} (hq : 0 ≤ q ∧ q ≤ 24) : CT w mX9_state [.ref B, .int (i32 q)] sh g (dQ (some (.int (i32 (s_told d q.toNat)))) sh g) := by
  by_cases h : 7 ≤ q ∧ q ≤ 18
  · exact c_stateC hB hK h
  by_cases h0 : q = 0
  · rw [h0]; exact c_state0 hB hK
  by_cases h1 : q = 1
  · rw [h1]; exact c_state1 hB hK
  by_cases h2 : q = 2
  · rw [h2]; exact c_state2 hB hK
  by_cases h3 : q = 3
  · rw [h3]; exact c_state3 hB hK
  by_cases h4 : q = 4
  · rw [h4]; exact c_state4 hB hK
  by_cases h5 : q = 5
  · rw [h5]; exact c_state5 hB hK
  by_cases h6 : q = 6
  · rw [h6]; exact c_state6 hB hK
  by_cases h19 : q = 19
  · rw [h19]; exact c_state19 hB hK
  by_cases h20 : q = 20
  · rw [h20]; exact c_state20 hB hK
  by_cases h21 : q = 21
  · rw [h21]; exact c_state21 hB hK
  by_cases h22 : q = 22
  · rw [h22]; exact c_state22 hB hK
  by_cases h23 : q = 23
  · rw [h23]; exact c_state23 hB hK
  by_cases h24 : q = 24
  · rw [h24]; exact c_state24 hB hK
  omega

theorem inv_reg_len {d : Nat → Int} (hI : Inv d) {i : Nat} (hi : i < 4) : ((r_len 10 (if d (151 + 3 * i) = -1 then 1 else enc (d (152 + 3 * i)) (s_dv d (d (151 + 3 * i)).toNat (d (152 + 3 * i)).toNat)) : Nat) : Int) = d (152 + 3 * i) := by
  rcases hI.2.2.1 i hi with h | ⟨c, h1, h2⟩
  · rw [if_pos h.1, h.2.1]; rfl
  · obtain ⟨a1, a2, a3, a4, a5, a6, a7, a8⟩ := h2
    have hb := hI.2.1.2.2.2.2.1 c a1
    have hb0 := hI.1.2.2.2.2.2.2.2.2.2 c (by have := hI.1.2.2.2.2.2.1; omega)
    rw [if_neg (by omega), h1, Int.toNat_natCast]
    unfold enc
    have hv := dv_lt (d := d) (c := c) (many := (d (152 + 3 * i)).toNat) hb0.2.2 hb.2.2.2.2.2 (by omega)
    rw [r_len_enc 10 _ _ (by omega) hv.1 hv.2]
    omega

set_option maxRecDepth 20000 in
theorem c_register0 {w : Wd} {sh : Shp} {g : Mem} {B : Nat} {d : Nat → Int} (hB : CxS sh.1 B) (hK : KX g (B + 2) d) {i : Nat} (hi : (i : Int) < d 0) : CT w mX9_register [.ref (B), .int (i32 ((i : Int))), .int (i32 (0))] sh g (dQ (some (.int (i32 (d (151 + 3 * i))))) sh g) := by
  have hi4 := hK.2.1.1.1
  have h0 : g (B + 2) 0 = d 0 := hK.1.2.1.1
  have G := hK.1.2.2.2.2.2.1 i (by omega)
  refine j_entry (by decide) rfl (Nat.le_of_ble_eq_true rfl) (fun h => by cases h) rfl ?_
  show J w mX9_register 0 [(0, .ref (B)), (1, .int (i32 ((i : Int)))), (2, .int (i32 (0)))] [] sh g 1 6 _
  refine j_aload_n 1 0 dX9_register_0 rfl rfl ?_
  refine j_getr 4 dX9_register_1 rfl fl_X9_23 hB.cx rfl (fun _ _ => rfl) rfl ?_
  refine j_iload_n 5 1 dX9_register_4 rfl rfl ?_
  refine j_callV 8 (As := [.int (i32 ((i : Int)))]) (kc2 := 1) (ks2 := 6) dX9_register_5 rfl mvX1_registerAt lk_X9_159 hB.now.ex rfl ⟨Nat.le_of_ble_eq_true rfl, rfl⟩ rfl rfl (Nat.le_of_ble_eq_true rfl) ⟨Nat.le_of_ble_eq_true rfl, Nat.le_of_ble_eq_true rfl⟩ ⟨Nat.le_of_ble_eq_true rfl, Nat.le_of_ble_eq_true rfl⟩ ((by have h := c_registerAt1 (w := w) hB.now (g := g) (by omega) (x := (i : Int)) (r32 (by omega) (by omega)) (by omega); rw [Int.toNat_natCast] at h; exact h)) x_d (k_d1 ?_)
  refine j_astore_n 9 (L2 := [(3, .ref ((B + 2) + 26 + i)), (0, .ref (B)), (1, .int (i32 ((i : Int)))), (2, .int (i32 (0)))]) dX9_register_8 rfl rfl (Nat.le_of_ble_eq_true rfl) rfl ?_
  refine j_aload_n 10 0 dX9_register_9 rfl rfl ?_
  refine j_ifnonnull 21 dX9_register_10 rfl ?_
  refine j_iload_n 22 3 dX9_register_21 rfl rfl ?_
  refine j_if_lt 25 30 dX9_register_22 rfl rfl (r32 (by decide) (by decide)) (fun c_22 => absurd c_22 (by decide)) (fun c_22 => ?_)
  refine j_iload_n 26 3 dX9_register_25 rfl rfl ?_
  refine j_iconst 27 dX9_register_26 rfl ?_
  refine j_icmp_le 30 38 dX9_register_27 rfl rfl (r32 (by decide) (by decide)) (r32 (by decide) (by decide)) (fun c_27 => ?_) (fun c_27 => absurd c_27 (by decide))
  refine j_iload_n 39 3 dX9_register_38 rfl rfl ?_
  refine j_lookup 64 dX9_register_39 (r32 (by decide) (by decide)) (by decide) (off := 25) rfl rfl ?_
  refine j_aload_n 65 0 dX9_register_64 rfl rfl ?_
  refine j_geti 68 dX9_register_65 rfl fl_X9_163 (hB.now.rg i (show i < 4 by omega)) rfl rfl (fun r_65 => ?_)
  exact j_iret dX9_register_68 rfl (q_i G.1)

set_option maxRecDepth 20000 in
theorem c_register1 {w : Wd} {sh : Shp} {g : Mem} {B : Nat} {d : Nat → Int} (hB : CxS sh.1 B) (hK : KX g (B + 2) d) {i : Nat} (hi : (i : Int) < d 0) : CT w mX9_register [.ref (B), .int (i32 ((i : Int))), .int (i32 (1))] sh g (dQ (some (.int (i32 (d (152 + 3 * i))))) sh g) := by
  have hi4 := hK.2.1.1.1
  have h0 : g (B + 2) 0 = d 0 := hK.1.2.1.1
  have G := hK.1.2.2.2.2.2.1 i (by omega)
  refine j_entry (by decide) rfl (Nat.le_of_ble_eq_true rfl) (fun h => by cases h) rfl ?_
  show J w mX9_register 0 [(0, .ref (B)), (1, .int (i32 ((i : Int)))), (2, .int (i32 (1)))] [] sh g 1 6 _
  refine j_aload_n 1 0 dX9_register_0 rfl rfl ?_
  refine j_getr 4 dX9_register_1 rfl fl_X9_23 hB.cx rfl (fun _ _ => rfl) rfl ?_
  refine j_iload_n 5 1 dX9_register_4 rfl rfl ?_
  refine j_callV 8 (As := [.int (i32 ((i : Int)))]) (kc2 := 1) (ks2 := 6) dX9_register_5 rfl mvX1_registerAt lk_X9_159 hB.now.ex rfl ⟨Nat.le_of_ble_eq_true rfl, rfl⟩ rfl rfl (Nat.le_of_ble_eq_true rfl) ⟨Nat.le_of_ble_eq_true rfl, Nat.le_of_ble_eq_true rfl⟩ ⟨Nat.le_of_ble_eq_true rfl, Nat.le_of_ble_eq_true rfl⟩ ((by have h := c_registerAt1 (w := w) hB.now (g := g) (by omega) (x := (i : Int)) (r32 (by omega) (by omega)) (by omega); rw [Int.toNat_natCast] at h; exact h)) x_d (k_d1 ?_)
  refine j_astore_n 9 (L2 := [(3, .ref ((B + 2) + 26 + i)), (0, .ref (B)), (1, .int (i32 ((i : Int)))), (2, .int (i32 (1)))]) dX9_register_8 rfl rfl (Nat.le_of_ble_eq_true rfl) rfl ?_
  refine j_aload_n 10 0 dX9_register_9 rfl rfl ?_
  refine j_ifnonnull 21 dX9_register_10 rfl ?_
  refine j_iload_n 22 3 dX9_register_21 rfl rfl ?_
  refine j_if_lt 25 30 dX9_register_22 rfl rfl (r32 (by decide) (by decide)) (fun c_22 => absurd c_22 (by decide)) (fun c_22 => ?_)
  refine j_iload_n 26 3 dX9_register_25 rfl rfl ?_
  refine j_iconst 27 dX9_register_26 rfl ?_
  refine j_icmp_le 30 38 dX9_register_27 rfl rfl (r32 (by decide) (by decide)) (r32 (by decide) (by decide)) (fun c_27 => ?_) (fun c_27 => absurd c_27 (by decide))
  refine j_iload_n 39 3 dX9_register_38 rfl rfl ?_
  refine j_lookup 69 dX9_register_39 (r32 (by decide) (by decide)) (by decide) (off := 30) rfl rfl ?_
  refine j_aload_n 70 0 dX9_register_69 rfl rfl ?_
  refine j_geti 73 dX9_register_70 rfl fl_X9_168 (hB.now.rg i (show i < 4 by omega)) rfl rfl (fun r_70 => ?_)
  refine j_top (y := (if d (151 + 3 * i) = -1 then 1 else enc (d (152 + 3 * i)) (s_dv d (d (151 + 3 * i)).toNat (d (152 + 3 * i)).toNat))) G.2.2 ?_
  refine j_callS 76 (As := [.int (i32 ((if d (151 + 3 * i) = -1 then 1 else enc (d (152 + 3 * i)) (s_dv d (d (151 + 3 * i)).toNat (d (152 + 3 * i)).toNat))))]) (kc2 := 1) (ks2 := 6) dX9_register_73 rfl msX7_lengthOf lk_X9_171 rfl rfl (Nat.le_of_ble_eq_true rfl) ⟨Nat.le_of_ble_eq_true rfl, Nat.le_of_ble_eq_true rfl⟩ ⟨Nat.le_of_ble_eq_true rfl, Nat.le_of_ble_eq_true rfl⟩ (c_lengthOf (by rw [← G.2.2]; exact r_70)) x_d (k_d1 ?_)
  exact j_iret dX9_register_76 rfl (q_i (inv_reg_len hK.2.1 (by omega)))

set_option maxRecDepth 20000 in
theorem c_register2 {w : Wd} {sh : Shp} {g : Mem} {B : Nat} {d : Nat → Int} (hB : CxS sh.1 B) (hK : KX g (B + 2) d) {i : Nat} (hi : (i : Int) < d 0) : CT w mX9_register [.ref (B), .int (i32 ((i : Int))), .int (i32 (2))] sh g (dQ (some (.int (i32 (d (153 + 3 * i))))) sh g) := by
  have hi4 := hK.2.1.1.1
  have h0 : g (B + 2) 0 = d 0 := hK.1.2.1.1
  have G := hK.1.2.2.2.2.2.1 i (by omega)
  refine j_entry (by decide) rfl (Nat.le_of_ble_eq_true rfl) (fun h => by cases h) rfl ?_
  show J w mX9_register 0 [(0, .ref (B)), (1, .int (i32 ((i : Int)))), (2, .int (i32 (2)))] [] sh g 1 6 _
  refine j_aload_n 1 0 dX9_register_0 rfl rfl ?_
  refine j_getr 4 dX9_register_1 rfl fl_X9_23 hB.cx rfl (fun _ _ => rfl) rfl ?_
  refine j_iload_n 5 1 dX9_register_4 rfl rfl ?_
  refine j_callV 8 (As := [.int (i32 ((i : Int)))]) (kc2 := 1) (ks2 := 6) dX9_register_5 rfl mvX1_registerAt lk_X9_159 hB.now.ex rfl ⟨Nat.le_of_ble_eq_true rfl, rfl⟩ rfl rfl (Nat.le_of_ble_eq_true rfl) ⟨Nat.le_of_ble_eq_true rfl, Nat.le_of_ble_eq_true rfl⟩ ⟨Nat.le_of_ble_eq_true rfl, Nat.le_of_ble_eq_true rfl⟩ ((by have h := c_registerAt1 (w := w) hB.now (g := g) (by omega) (x := (i : Int)) (r32 (by omega) (by omega)) (by omega); rw [Int.toNat_natCast] at h; exact h)) x_d (k_d1 ?_)
  refine j_astore_n 9 (L2 := [(3, .ref ((B + 2) + 26 + i)), (0, .ref (B)), (1, .int (i32 ((i : Int)))), (2, .int (i32 (2)))]) dX9_register_8 rfl rfl (Nat.le_of_ble_eq_true rfl) rfl ?_
  refine j_aload_n 10 0 dX9_register_9 rfl rfl ?_
  refine j_ifnonnull 21 dX9_register_10 rfl ?_
  refine j_iload_n 22 3 dX9_register_21 rfl rfl ?_
  refine j_if_lt 25 30 dX9_register_22 rfl rfl (r32 (by decide) (by decide)) (fun c_22 => absurd c_22 (by decide)) (fun c_22 => ?_)
  refine j_iload_n 26 3 dX9_register_25 rfl rfl ?_
  refine j_iconst 27 dX9_register_26 rfl ?_
  refine j_icmp_le 30 38 dX9_register_27 rfl rfl (r32 (by decide) (by decide)) (r32 (by decide) (by decide)) (fun c_27 => ?_) (fun c_27 => absurd c_27 (by decide))
  refine j_iload_n 39 3 dX9_register_38 rfl rfl ?_
  refine j_lookup 77 dX9_register_39 (r32 (by decide) (by decide)) (by decide) (off := 38) rfl rfl ?_
  refine j_aload_n 78 0 dX9_register_77 rfl rfl ?_
  refine j_geti 81 dX9_register_78 rfl fl_X9_176 (hB.now.rg i (show i < 4 by omega)) rfl rfl (fun r_78 => ?_)
  exact j_iret dX9_register_81 rfl (q_i G.2.1)

set_option maxRecDepth 20000 in
theorem c_registerB {w : Wd} {sh : Shp} {g : Mem} {B : Nat} {d : Nat → Int} (hB : CxS sh.1 B) (hK : KX g (B + 2) d) {x q : Int} (hx : R32 x) (hq : R32 q) (h0 : ¬ (0 ≤ x ∧ x < d 0)) : CT w mX9_register [.ref (B), .int (i32 (x)), .int (i32 (q))] sh g (tQ xB sh g) := by
  have hi4 := hK.2.1.1.1
  have h0q : g (B + 2) 0 = d 0 := hK.1.2.1.1
  refine j_entry (by decide) rfl (Nat.le_of_ble_eq_true rfl) (fun h => by cases h) rfl ?_
  show J w mX9_register 0 [(0, .ref (B)), (1, .int (i32 (x))), (2, .int (i32 (q)))] [] sh g 1 6 _
  refine j_aload_n 1 0 dX9_register_0 rfl rfl ?_
  refine j_getr 4 dX9_register_1 rfl fl_X9_23 hB.cx rfl (fun _ _ => rfl) rfl ?_
  refine j_iload_n 5 1 dX9_register_4 rfl rfl ?_
  refine j_callV 8 (As := [.int (i32 (x))]) (kc2 := 1) (ks2 := 6) dX9_register_5 rfl mvX1_registerAt lk_X9_159 hB.now.ex rfl ⟨Nat.le_of_ble_eq_true rfl, rfl⟩ rfl rfl (Nat.le_of_ble_eq_true rfl) ⟨Nat.le_of_ble_eq_true rfl, Nat.le_of_ble_eq_true rfl⟩ ⟨Nat.le_of_ble_eq_true rfl, Nat.le_of_ble_eq_true rfl⟩ (c_registerAt0 hB.now (by omega) hx (by omega)) x_d (k_d1 ?_)
  refine j_astore_nN 9 (L2 := [(3, .null), (0, .ref (B)), (1, .int (i32 (x))), (2, .int (i32 (q)))]) dX9_register_8 rfl rfl (Nat.le_of_ble_eq_true rfl) rfl ?_
  refine j_aload_nN 10 0 dX9_register_9 rfl rfl ?_
  refine j_ifnonnullN 13 dX9_register_10 rfl ?_
  exact j_throw xB th_X9_register_13 ⟨Nat.le_of_ble_eq_true rfl, Nat.le_of_ble_eq_true rfl⟩ ⟨rfl, rfl, rfl⟩

set_option maxRecDepth 20000 in
theorem c_registerI {w : Wd} {sh : Shp} {g : Mem} {B : Nat} {d : Nat → Int} (hB : CxS sh.1 B) (hK : KX g (B + 2) d) {i : Nat} {q : Int} (hi : (i : Int) < d 0) (hq : R32 q) (hb : q < 0 ∨ 2 < q) : CT w mX9_register [.ref (B), .int (i32 ((i : Int))), .int (i32 (q))] sh g (tQ xI sh g) := by
  have hi4 := hK.2.1.1.1
  have h0 : g (B + 2) 0 = d 0 := hK.1.2.1.1
  refine j_entry (by decide) rfl (Nat.le_of_ble_eq_true rfl) (fun h => by cases h) rfl ?_
  show J w mX9_register 0 [(0, .ref (B)), (1, .int (i32 ((i : Int)))), (2, .int (i32 (q)))] [] sh g 1 6 _
  refine j_aload_n 1 0 dX9_register_0 rfl rfl ?_
  refine j_getr 4 dX9_register_1 rfl fl_X9_23 hB.cx rfl (fun _ _ => rfl) rfl ?_
  refine j_iload_n 5 1 dX9_register_4 rfl rfl ?_
  refine j_callV 8 (As := [.int (i32 ((i : Int)))]) (kc2 := 1) (ks2 := 6) dX9_register_5 rfl mvX1_registerAt lk_X9_159 hB.now.ex rfl ⟨Nat.le_of_ble_eq_true rfl, rfl⟩ rfl rfl (Nat.le_of_ble_eq_true rfl) ⟨Nat.le_of_ble_eq_true rfl, Nat.le_of_ble_eq_true rfl⟩ ⟨Nat.le_of_ble_eq_true rfl, Nat.le_of_ble_eq_true rfl⟩ ((by have h := c_registerAt1 (w := w) hB.now (g := g) (by omega) (x := (i : Int)) (r32 (by omega) (by omega)) (by omega); rw [Int.toNat_natCast] at h; exact h)) x_d (k_d1 ?_)
  refine j_astore_n 9 (L2 := [(3, .ref ((B + 2) + 26 + i)), (0, .ref (B)), (1, .int (i32 ((i : Int)))), (2, .int (i32 (q)))]) dX9_register_8 rfl rfl (Nat.le_of_ble_eq_true rfl) rfl ?_
  refine j_aload_n 10 0 dX9_register_9 rfl rfl ?_
  refine j_ifnonnull 21 dX9_register_10 rfl ?_
  refine j_iload_n 22 3 dX9_register_21 rfl rfl ?_
  refine j_if_lt 25 30 dX9_register_22 rfl rfl hq (fun c_22 => ?_) (fun c_22 => ?_)
  · exact j_throw xI th_X9_register_30 ⟨Nat.le_of_ble_eq_true rfl, Nat.le_of_ble_eq_true rfl⟩ ⟨rfl, rfl, rfl⟩
  · refine j_iload_n 26 3 dX9_register_25 rfl rfl ?_
    refine j_iconst 27 dX9_register_26 rfl ?_
    refine j_icmp_le 30 38 dX9_register_27 rfl rfl hq (r32 (by decide) (by decide)) (fun c_27 => absurd c_27 (by omega)) (fun c_27 => ?_)
    exact j_throw xI th_X9_register_30 ⟨Nat.le_of_ble_eq_true rfl, Nat.le_of_ble_eq_true rfl⟩ ⟨rfl, rfl, rfl⟩

theorem pw_ne (n : Nat) : pw n ≠ 0 := by have := pw_pos n; omega
theorem dig_at {n v : Int} {j : Nat} (hv : 0 ≤ v) (hj : (j : Int) < n) : (pw n.toNat + v) / pw (n.toNat - 1 - j) % 10 = v / pw (n.toNat - (j + 1)) % 10 := by
  have e1 : n.toNat - 1 - j = n.toNat - (j + 1) := by omega
  have e2 : pw n.toNat = pw (n.toNat - (j + 1)) * pw (j + 1) := by rw [← pw_add]; congr 1; omega
  rw [e1, e2, Int.add_comm, Int.add_mul_ediv_left _ _ (pw_ne _), show pw (j + 1) = pw j * 10 from rfl]
  omega

set_option maxRecDepth 20000 in
theorem c_digit1 {w : Wd} {sh : Shp} {g : Mem} {B : Nat} {d : Nat → Int} (hB : CxS sh.1 B) (hK : KX g (B + 2) d) {i j : Nat} (hi : (i : Int) < d 5) (hj : (j : Int) < d (170 + 14 * i)) : CT w mX9_digit [.ref (B), .int (i32 ((i : Int))), .int (i32 ((j : Int)))] sh g (dQ (some (.int (i32 (d (180 + 14 * i) / pw ((d (170 + 14 * i)).toNat - (j + 1)) % 10)))) sh g) := by
  have hi5 := hK.2.1.1.2.2.2.2.2.1
  have h5 : g (B + 2) 5 = d 5 := hK.1.2.1.2.2.2.2.2.1
  have T := hK.1.tl (c := i) (by omega) hi
  have hcb := hK.2.1.1.2.2.2.2.2.2.2.2.2 i (by omega)
  have hcb2 := hK.2.1.2.1.2.2.2.2.1 i hi
  have hcr : pw (d (170 + 14 * i)).toNat + d (180 + 14 * i) < 2000000 := enc_lt hcb2.2.2.2.2.2 (by omega)
  have hcp := pw_pos (d (170 + 14 * i)).toNat
  have hln : r_len 10 (pw (d (170 + 14 * i)).toNat + d (180 + 14 * i)) = (d (170 + 14 * i)).toNat := r_len_enc 10 _ _ (by omega) hcb.2.2 hcb2.2.2.2.2.2
  refine j_entry (by decide) rfl (Nat.le_of_ble_eq_true rfl) (fun h => by cases h) rfl ?_
  show J w mX9_digit 0 [(0, .ref (B)), (1, .int (i32 ((i : Int)))), (2, .int (i32 ((j : Int))))] [] sh g 1 6 _
  refine j_aload_n 1 0 dX9_digit_0 rfl rfl ?_
  refine j_getr 4 dX9_digit_1 rfl fl_X9_23 hB.cx rfl (fun _ _ => rfl) rfl ?_
  refine j_iload_n 5 1 dX9_digit_4 rfl rfl ?_
  refine j_callV 8 (As := [.int (i32 ((i : Int)))]) (kc2 := 1) (ks2 := 6) dX9_digit_5 rfl mvX1_callAt lk_X9_189 hB.now.ex rfl ⟨Nat.le_of_ble_eq_true rfl, rfl⟩ rfl rfl (Nat.le_of_ble_eq_true rfl) ⟨Nat.le_of_ble_eq_true rfl, Nat.le_of_ble_eq_true rfl⟩ ⟨Nat.le_of_ble_eq_true rfl, Nat.le_of_ble_eq_true rfl⟩ ((by have h := c_callAt1 (w := w) hB.now (g := g) (by omega) (x := (i : Int)) (r32 (by omega) (by omega)) (by omega); rw [Int.toNat_natCast] at h; exact h)) x_d (k_d1 ?_)
  refine j_astore_n 9 (L2 := [(3, .ref ((B + 2) + 35 + i)), (0, .ref (B)), (1, .int (i32 ((i : Int)))), (2, .int (i32 ((j : Int))))]) dX9_digit_8 rfl rfl (Nat.le_of_ble_eq_true rfl) rfl ?_
  refine j_aload_n 10 0 dX9_digit_9 rfl rfl ?_
  refine j_ifnonnull 21 dX9_digit_10 rfl ?_
  refine j_iload_n 22 3 dX9_digit_21 rfl rfl ?_
  refine j_if_lt 25 36 dX9_digit_22 rfl rfl (r32 (by omega) (by omega)) (fun c_22 => absurd c_22 (by omega)) (fun c_22 => ?_)
  refine j_iload_n 26 3 dX9_digit_25 rfl rfl ?_
  refine j_aload_n 27 0 dX9_digit_26 rfl rfl ?_
  refine j_geti 30 dX9_digit_27 rfl fl_X9_198 (hB.now.cl i (show i < 40 by omega)) rfl rfl (fun r_27 => ?_)
  refine j_top (y := pw (d (170 + 14 * i)).toNat + d (180 + 14 * i)) (T.2.2.1) ?_
  refine j_callS 33 (As := [.int (i32 (pw (d (170 + 14 * i)).toNat + d (180 + 14 * i)))]) (kc2 := 1) (ks2 := 6) dX9_digit_30 rfl msX7_lengthOf lk_X9_171 rfl rfl (Nat.le_of_ble_eq_true rfl) ⟨Nat.le_of_ble_eq_true rfl, Nat.le_of_ble_eq_true rfl⟩ ⟨Nat.le_of_ble_eq_true rfl, Nat.le_of_ble_eq_true rfl⟩ (c_lengthOf ⟨by omega, by omega⟩) x_d (k_d1 ?_)
  refine j_top (y := d (170 + 14 * i)) (by rw [hln]; omega) ?_
  refine j_icmp_lt 36 44 dX9_digit_33 rfl rfl (r32 (by omega) (by omega)) (r32 (by omega) (by omega)) (fun c_33 => ?_) (fun c_33 => absurd c_33 (by omega))
  refine j_aload_n 45 0 dX9_digit_44 rfl rfl ?_
  refine j_geti 48 dX9_digit_45 rfl fl_X9_198 (hB.now.cl i (show i < 40 by omega)) rfl rfl (fun r_45 => ?_)
  refine j_top (y := pw (d (170 + 14 * i)).toNat + d (180 + 14 * i)) (T.2.2.1) ?_
  refine j_iload_n 49 3 dX9_digit_48 rfl rfl ?_
  refine j_callS 52 (As := [.int (i32 (pw (d (170 + 14 * i)).toNat + d (180 + 14 * i))), .int (i32 ((j : Int)))]) (kc2 := 1) (ks2 := 6) dX9_digit_49 rfl msX7_digitAt lk_X9_227 rfl rfl (Nat.le_of_ble_eq_true rfl) ⟨Nat.le_of_ble_eq_true rfl, Nat.le_of_ble_eq_true rfl⟩ ⟨Nat.le_of_ble_eq_true rfl, Nat.le_of_ble_eq_true rfl⟩ (c_digitAt (by omega) ⟨by omega, by omega⟩ (by rw [hln]; omega)) x_d (k_d1 ?_)
  exact j_iret dX9_digit_52 rfl (q_i (by rw [hln]; exact dig_at hcb.2.2 hj))

set_option maxRecDepth 20000 in
theorem c_digitN {w : Wd} {sh : Shp} {g : Mem} {B : Nat} {d : Nat → Int} (hB : CxS sh.1 B) (hK : KX g (B + 2) d) {i : Nat} {k : Int} (hi : (i : Int) < d 5) (hk : R32 k) (hb : k < 0 ∨ d (170 + 14 * i) ≤ k) : CT w mX9_digit [.ref (B), .int (i32 ((i : Int))), .int (i32 (k))] sh g (tQ xN sh g) := by
  have hi5 := hK.2.1.1.2.2.2.2.2.1
  have h5 : g (B + 2) 5 = d 5 := hK.1.2.1.2.2.2.2.2.1
  have T := hK.1.tl (c := i) (by omega) hi
  have hcb := hK.2.1.1.2.2.2.2.2.2.2.2.2 i (by omega)
  have hcb2 := hK.2.1.2.1.2.2.2.2.1 i hi
  have hcr : pw (d (170 + 14 * i)).toNat + d (180 + 14 * i) < 2000000 := enc_lt hcb2.2.2.2.2.2 (by omega)
  have hcp := pw_pos (d (170 + 14 * i)).toNat
  have hln : r_len 10 (pw (d (170 + 14 * i)).toNat + d (180 + 14 * i)) = (d (170 + 14 * i)).toNat := r_len_enc 10 _ _ (by omega) hcb.2.2 hcb2.2.2.2.2.2
  refine j_entry (by decide) rfl (Nat.le_of_ble_eq_true rfl) (fun h => by cases h) rfl ?_
  show J w mX9_digit 0 [(0, .ref (B)), (1, .int (i32 ((i : Int)))), (2, .int (i32 (k)))] [] sh g 1 6 _
  refine j_aload_n 1 0 dX9_digit_0 rfl rfl ?_
  refine j_getr 4 dX9_digit_1 rfl fl_X9_23 hB.cx rfl (fun _ _ => rfl) rfl ?_
  refine j_iload_n 5 1 dX9_digit_4 rfl rfl ?_
  refine j_callV 8 (As := [.int (i32 ((i : Int)))]) (kc2 := 1) (ks2 := 6) dX9_digit_5 rfl mvX1_callAt lk_X9_189 hB.now.ex rfl ⟨Nat.le_of_ble_eq_true rfl, rfl⟩ rfl rfl (Nat.le_of_ble_eq_true rfl) ⟨Nat.le_of_ble_eq_true rfl, Nat.le_of_ble_eq_true rfl⟩ ⟨Nat.le_of_ble_eq_true rfl, Nat.le_of_ble_eq_true rfl⟩ ((by have h := c_callAt1 (w := w) hB.now (g := g) (by omega) (x := (i : Int)) (r32 (by omega) (by omega)) (by omega); rw [Int.toNat_natCast] at h; exact h)) x_d (k_d1 ?_)
  refine j_astore_n 9 (L2 := [(3, .ref ((B + 2) + 35 + i)), (0, .ref (B)), (1, .int (i32 ((i : Int)))), (2, .int (i32 (k)))]) dX9_digit_8 rfl rfl (Nat.le_of_ble_eq_true rfl) rfl ?_
  refine j_aload_n 10 0 dX9_digit_9 rfl rfl ?_
  refine j_ifnonnull 21 dX9_digit_10 rfl ?_
  refine j_iload_n 22 3 dX9_digit_21 rfl rfl ?_
  refine j_if_lt 25 36 dX9_digit_22 rfl rfl hk (fun c_22 => ?_) (fun c_22 => ?_)
  · exact j_throw xN th_X9_digit_36 ⟨Nat.le_of_ble_eq_true rfl, Nat.le_of_ble_eq_true rfl⟩ ⟨rfl, rfl, rfl⟩
  · refine j_iload_n 26 3 dX9_digit_25 rfl rfl ?_
    refine j_aload_n 27 0 dX9_digit_26 rfl rfl ?_
    refine j_geti 30 dX9_digit_27 rfl fl_X9_198 (hB.now.cl i (show i < 40 by omega)) rfl rfl (fun r_27 => ?_)
    refine j_top (y := pw (d (170 + 14 * i)).toNat + d (180 + 14 * i)) (T.2.2.1) ?_
    refine j_callS 33 (As := [.int (i32 (pw (d (170 + 14 * i)).toNat + d (180 + 14 * i)))]) (kc2 := 1) (ks2 := 6) dX9_digit_30 rfl msX7_lengthOf lk_X9_171 rfl rfl (Nat.le_of_ble_eq_true rfl) ⟨Nat.le_of_ble_eq_true rfl, Nat.le_of_ble_eq_true rfl⟩ ⟨Nat.le_of_ble_eq_true rfl, Nat.le_of_ble_eq_true rfl⟩ (c_lengthOf ⟨by omega, by omega⟩) x_d (k_d1 ?_)
    refine j_top (y := d (170 + 14 * i)) (by rw [hln]; omega) ?_
    refine j_icmp_lt 36 44 dX9_digit_33 rfl rfl hk (r32 (by omega) (by omega)) (fun c_33 => absurd c_33 (by omega)) (fun c_33 => ?_)
    exact j_throw xN th_X9_digit_36 ⟨Nat.le_of_ble_eq_true rfl, Nat.le_of_ble_eq_true rfl⟩ ⟨rfl, rfl, rfl⟩

set_option maxRecDepth 20000 in
theorem c_digitB {w : Wd} {sh : Shp} {g : Mem} {B : Nat} {d : Nat → Int} (hB : CxS sh.1 B) (hK : KX g (B + 2) d) {x k : Int} (hx : R32 x) (hk : R32 k) (h0 : ¬ (0 ≤ x ∧ x < d 5)) : CT w mX9_digit [.ref (B), .int (i32 (x)), .int (i32 (k))] sh g (tQ xB sh g) := by
  have hi5 := hK.2.1.1.2.2.2.2.2.1
  have h5 : g (B + 2) 5 = d 5 := hK.1.2.1.2.2.2.2.2.1
  refine j_entry (by decide) rfl (Nat.le_of_ble_eq_true rfl) (fun h => by cases h) rfl ?_
  show J w mX9_digit 0 [(0, .ref (B)), (1, .int (i32 (x))), (2, .int (i32 (k)))] [] sh g 1 6 _
  refine j_aload_n 1 0 dX9_digit_0 rfl rfl ?_
  refine j_getr 4 dX9_digit_1 rfl fl_X9_23 hB.cx rfl (fun _ _ => rfl) rfl ?_
  refine j_iload_n 5 1 dX9_digit_4 rfl rfl ?_
  refine j_callV 8 (As := [.int (i32 (x))]) (kc2 := 1) (ks2 := 6) dX9_digit_5 rfl mvX1_callAt lk_X9_189 hB.now.ex rfl ⟨Nat.le_of_ble_eq_true rfl, rfl⟩ rfl rfl (Nat.le_of_ble_eq_true rfl) ⟨Nat.le_of_ble_eq_true rfl, Nat.le_of_ble_eq_true rfl⟩ ⟨Nat.le_of_ble_eq_true rfl, Nat.le_of_ble_eq_true rfl⟩ (c_callAt0 hB.now (by omega) hx (by omega)) x_d (k_d1 ?_)
  refine j_astore_nN 9 (L2 := [(3, .null), (0, .ref (B)), (1, .int (i32 (x))), (2, .int (i32 (k)))]) dX9_digit_8 rfl rfl (Nat.le_of_ble_eq_true rfl) rfl ?_
  refine j_aload_nN 10 0 dX9_digit_9 rfl rfl ?_
  refine j_ifnonnullN 13 dX9_digit_10 rfl ?_
  exact j_throw xB th_X9_digit_13 ⟨Nat.le_of_ble_eq_true rfl, Nat.le_of_ble_eq_true rfl⟩ ⟨rfl, rfl, rfl⟩
