/-! the end by a throw -/
theorem j_throw {w : Wd} {Y : MD} {pc : Nat} {L : List (Nat × Value)} {sh : Shp} {g : Mem} {kc ks : Nat} {Q : Post} (cls : String) (hT : ThrowAt Y pc cls) (hk : 1 ≤ kc ∧ 6 ≤ ks) (hq : Q (.inr cls) (sh.1, none) g) : J w Y pc L [] sh g kc ks Q := by
  intro p l e s m args below meth c H locs cells slots Z ls C hZ hR hlo hc hs hl
  exact hZ.2 cls sh g H locs cells slots pc ls hq hR hlo (by omega) (by omega) hT hl.1
theorem at0_mem {own own0 X : String} {ic ic0 : Nat} {names : List String} {w : Cond} (hw : w ∈ vx_at0 own ic X names) : w = Cond.methodLink own ic (Bundle.init0 X) ∨ w ∈ vx_at0 own0 ic0 X names := by
  unfold vx_at0 at hw ⊢
  rw [List.mem_filter] at hw
  obtain ⟨h1, h2⟩ := hw
  unfold Bundle.ownAtoms0 at h1
  rcases List.mem_append.mp h1 with h | h
  · exact Or.inr (List.mem_filter.mpr ⟨List.mem_append.mpr (Or.inl h), h2⟩)
  · rcases List.mem_cons.mp h with h | h
    · exact Or.inl h
    · exact Or.inr (List.mem_filter.mpr ⟨List.mem_append.mpr (Or.inr (List.mem_cons.mpr (Or.inr h))), h2⟩)
def xI : String := "java/lang/IllegalArgumentException"
def xB : String := "java/lang/IndexOutOfBoundsException"
def xN : String := "java/util/NoSuchElementException"
def xS : String := "java/lang/IllegalStateException"
def nRE : List String := ["java/lang/RuntimeException", "java/lang/Exception"]
theorem xI_good : (∀ w ∈ vx_at0 "ExchangeControl" 50 xI nRE, (w ∈ lw_good ∨ w ∈ lw_face) ∧ vx_ot w = true) := by decide +kernel
theorem xB_good : (∀ w ∈ vx_at0 "ExchangeControl" 116 xB nRE, (w ∈ lw_good ∨ w ∈ lw_face) ∧ vx_ot w = true) := by decide +kernel
theorem xN_good : (∀ w ∈ vx_at0 "ExchangeControl" 226 xN nRE, (w ∈ lw_good ∨ w ∈ lw_face) ∧ vx_ot w = true) := by decide +kernel
theorem xS_good : (∀ w ∈ vx_at0 "ExchangeControl" 271 xS nRE, (w ∈ lw_good ∨ w ∈ lw_face) ∧ vx_ot w = true) := by decide +kernel
theorem th_mk {Y : MD} {pc ik ic : Nat} {cls : String} (ho : md_o Y = "ExchangeControl") (hg : ∀ w ∈ vx_at0 "ExchangeControl" ic cls nRE, (w ∈ lw_good ∨ w ∈ lw_face) ∧ vx_ot w = true) (hf : Bundle.fit cls = true) (h1 : Cond.classLink "ExchangeControl" ik cls ∈ lw_good) (h2 : Cond.initialized cls ∈ lw_good)
    (d0 : decode (md_c Y) pc = .ok (.new ik, 3)) (d1 : decode (md_c Y) (pc + 3) = .ok (.dup, 1)) (d2 : decode (md_c Y) (pc + 4) = .ok (.invokespecial ic, 3)) (d3 : decode (md_c Y) (pc + 7) = .ok (.athrow, 1)) (hh : md_h Y = []) (hr : 5 < md_f Y ∧ 81 ≤ md_l Y) : ThrowAt Y pc cls := by
  refine ⟨ik, ic, nRE, hf, by decide +kernel, by rw [ho]; exact h1, h2, fun w hw => ?_, fun w hw => ?_, d0, d1, d2, d3, hh, hr.1, hr.2⟩
  · rw [ho] at hw; exact (hg w hw).1
  · rw [ho] at hw
    rcases List.mem_cons.mp hw with h | h
    · rw [h]; rfl
    · rcases List.mem_cons.mp h with h | h
      · rw [h]; rfl
      · exact (hg w h).2
theorem cI_link : Cond.classLink "ExchangeControl" 48 xI ∈ lw_good ∧ Cond.initialized xI ∈ lw_good := by decide +kernel
theorem cB_link : Cond.classLink "ExchangeControl" 114 xB ∈ lw_good ∧ Cond.initialized xB ∈ lw_good := by decide +kernel
theorem cN_link : Cond.classLink "ExchangeControl" 224 xN ∈ lw_good ∧ Cond.initialized xN ∈ lw_good := by decide +kernel
theorem cS_link : Cond.classLink "ExchangeControl" 269 xS ∈ lw_good ∧ Cond.initialized xS ∈ lw_good := by decide +kernel
theorem th_X9_state_10 : ThrowAt mX9_state 10 xI := th_mk rfl xI_good (by decide +kernel) cI_link.1 cI_link.2 dX9_state_10 dX9_state_13 dX9_state_14 dX9_state_17 rfl ⟨Nat.le_of_ble_eq_true rfl, Nat.le_of_ble_eq_true rfl⟩
theorem th_X9_line_11 : ThrowAt mX9_line 11 xB := th_mk rfl xB_good (by decide +kernel) cB_link.1 cB_link.2 dX9_line_11 dX9_line_14 dX9_line_15 dX9_line_18 rfl ⟨Nat.le_of_ble_eq_true rfl, Nat.le_of_ble_eq_true rfl⟩
theorem th_X9_line_28 : ThrowAt mX9_line 28 xI := th_mk rfl xI_good (by decide +kernel) cI_link.1 cI_link.2 dX9_line_28 dX9_line_31 dX9_line_32 dX9_line_35 rfl ⟨Nat.le_of_ble_eq_true rfl, Nat.le_of_ble_eq_true rfl⟩
theorem th_X9_group_13 : ThrowAt mX9_group 13 xB := th_mk rfl xB_good (by decide +kernel) cB_link.1 cB_link.2 dX9_group_13 dX9_group_16 dX9_group_17 dX9_group_20 rfl ⟨Nat.le_of_ble_eq_true rfl, Nat.le_of_ble_eq_true rfl⟩
theorem th_X9_group_31 : ThrowAt mX9_group 31 xI := th_mk rfl xI_good (by decide +kernel) cI_link.1 cI_link.2 dX9_group_31 dX9_group_34 dX9_group_35 dX9_group_38 rfl ⟨Nat.le_of_ble_eq_true rfl, Nat.le_of_ble_eq_true rfl⟩
theorem th_X9_register_13 : ThrowAt mX9_register 13 xB := th_mk rfl xB_good (by decide +kernel) cB_link.1 cB_link.2 dX9_register_13 dX9_register_16 dX9_register_17 dX9_register_20 rfl ⟨Nat.le_of_ble_eq_true rfl, Nat.le_of_ble_eq_true rfl⟩
theorem th_X9_register_30 : ThrowAt mX9_register 30 xI := th_mk rfl xI_good (by decide +kernel) cI_link.1 cI_link.2 dX9_register_30 dX9_register_33 dX9_register_34 dX9_register_37 rfl ⟨Nat.le_of_ble_eq_true rfl, Nat.le_of_ble_eq_true rfl⟩
theorem th_X9_marker_13 : ThrowAt mX9_marker 13 xB := th_mk rfl xB_good (by decide +kernel) cB_link.1 cB_link.2 dX9_marker_13 dX9_marker_16 dX9_marker_17 dX9_marker_20 rfl ⟨Nat.le_of_ble_eq_true rfl, Nat.le_of_ble_eq_true rfl⟩
theorem th_X9_marker_30 : ThrowAt mX9_marker 30 xI := th_mk rfl xI_good (by decide +kernel) cI_link.1 cI_link.2 dX9_marker_30 dX9_marker_33 dX9_marker_34 dX9_marker_37 rfl ⟨Nat.le_of_ble_eq_true rfl, Nat.le_of_ble_eq_true rfl⟩
theorem th_X9_call_13 : ThrowAt mX9_call 13 xB := th_mk rfl xB_good (by decide +kernel) cB_link.1 cB_link.2 dX9_call_13 dX9_call_16 dX9_call_17 dX9_call_20 rfl ⟨Nat.le_of_ble_eq_true rfl, Nat.le_of_ble_eq_true rfl⟩
theorem th_X9_call_31 : ThrowAt mX9_call 31 xI := th_mk rfl xI_good (by decide +kernel) cI_link.1 cI_link.2 dX9_call_31 dX9_call_34 dX9_call_35 dX9_call_38 rfl ⟨Nat.le_of_ble_eq_true rfl, Nat.le_of_ble_eq_true rfl⟩
theorem th_X9_load_12 : ThrowAt mX9_load 12 xI := th_mk rfl xI_good (by decide +kernel) cI_link.1 cI_link.2 dX9_load_12 dX9_load_15 dX9_load_16 dX9_load_19 rfl ⟨Nat.le_of_ble_eq_true rfl, Nat.le_of_ble_eq_true rfl⟩
theorem th_X9_digit_13 : ThrowAt mX9_digit 13 xB := th_mk rfl xB_good (by decide +kernel) cB_link.1 cB_link.2 dX9_digit_13 dX9_digit_16 dX9_digit_17 dX9_digit_20 rfl ⟨Nat.le_of_ble_eq_true rfl, Nat.le_of_ble_eq_true rfl⟩
theorem th_X9_digit_36 : ThrowAt mX9_digit 36 xN := th_mk rfl xN_good (by decide +kernel) cN_link.1 cN_link.2 dX9_digit_36 dX9_digit_39 dX9_digit_40 dX9_digit_43 rfl ⟨Nat.le_of_ble_eq_true rfl, Nat.le_of_ble_eq_true rfl⟩
theorem th_X9_look_17 : ThrowAt mX9_look 17 xI := th_mk rfl xI_good (by decide +kernel) cI_link.1 cI_link.2 dX9_look_17 dX9_look_20 dX9_look_21 dX9_look_24 rfl ⟨Nat.le_of_ble_eq_true rfl, Nat.le_of_ble_eq_true rfl⟩
theorem th_X9_look_35 : ThrowAt mX9_look 35 xI := th_mk rfl xI_good (by decide +kernel) cI_link.1 cI_link.2 dX9_look_35 dX9_look_38 dX9_look_39 dX9_look_42 rfl ⟨Nat.le_of_ble_eq_true rfl, Nat.le_of_ble_eq_true rfl⟩
theorem th_X9_overIn_24 : ThrowAt mX9_overIn 24 xB := th_mk rfl xB_good (by decide +kernel) cB_link.1 cB_link.2 dX9_overIn_24 dX9_overIn_27 dX9_overIn_28 dX9_overIn_31 rfl ⟨Nat.le_of_ble_eq_true rfl, Nat.le_of_ble_eq_true rfl⟩
theorem th_X9_foretold_22 : ThrowAt mX9_foretold 22 xI := th_mk rfl xI_good (by decide +kernel) cI_link.1 cI_link.2 dX9_foretold_22 dX9_foretold_25 dX9_foretold_26 dX9_foretold_29 rfl ⟨Nat.le_of_ble_eq_true rfl, Nat.le_of_ble_eq_true rfl⟩
theorem th_X9_traffic_13 : ThrowAt mX9_traffic 13 xB := th_mk rfl xB_good (by decide +kernel) cB_link.1 cB_link.2 dX9_traffic_13 dX9_traffic_16 dX9_traffic_17 dX9_traffic_20 rfl ⟨Nat.le_of_ble_eq_true rfl, Nat.le_of_ble_eq_true rfl⟩
theorem th_X9_dial_11 : ThrowAt mX9_dial 11 xB := th_mk rfl xB_good (by decide +kernel) cB_link.1 cB_link.2 dX9_dial_11 dX9_dial_14 dX9_dial_15 dX9_dial_18 rfl ⟨Nat.le_of_ble_eq_true rfl, Nat.le_of_ble_eq_true rfl⟩
theorem th_X9_dial_38 : ThrowAt mX9_dial 38 xI := th_mk rfl xI_good (by decide +kernel) cI_link.1 cI_link.2 dX9_dial_38 dX9_dial_41 dX9_dial_42 dX9_dial_45 rfl ⟨Nat.le_of_ble_eq_true rfl, Nat.le_of_ble_eq_true rfl⟩
theorem th_X9_dial_58 : ThrowAt mX9_dial 58 xS := th_mk rfl xS_good (by decide +kernel) cS_link.1 cS_link.2 dX9_dial_58 dX9_dial_61 dX9_dial_62 dX9_dial_65 rfl ⟨Nat.le_of_ble_eq_true rfl, Nat.le_of_ble_eq_true rfl⟩
theorem th_X9_hang_13 : ThrowAt mX9_hang 13 xB := th_mk rfl xB_good (by decide +kernel) cB_link.1 cB_link.2 dX9_hang_13 dX9_hang_16 dX9_hang_17 dX9_hang_20 rfl ⟨Nat.le_of_ble_eq_true rfl, Nat.le_of_ble_eq_true rfl⟩
theorem th_X9_hang_28 : ThrowAt mX9_hang 28 xS := th_mk rfl xS_good (by decide +kernel) cS_link.1 cS_link.2 dX9_hang_28 dX9_hang_31 dX9_hang_32 dX9_hang_35 rfl ⟨Nat.le_of_ble_eq_true rfl, Nat.le_of_ble_eq_true rfl⟩
theorem th_X9_rule_13 : ThrowAt mX9_rule 13 xI := th_mk rfl xI_good (by decide +kernel) cI_link.1 cI_link.2 dX9_rule_13 dX9_rule_16 dX9_rule_17 dX9_rule_20 rfl ⟨Nat.le_of_ble_eq_true rfl, Nat.le_of_ble_eq_true rfl⟩
theorem th_X9_pass_12 : ThrowAt mX9_pass 12 xI := th_mk rfl xI_good (by decide +kernel) cI_link.1 cI_link.2 dX9_pass_12 dX9_pass_15 dX9_pass_16 dX9_pass_19 rfl ⟨Nat.le_of_ble_eq_true rfl, Nat.le_of_ble_eq_true rfl⟩
